set_option maxHeartbeats 4000000 in
set_option maxRecDepth 100000 in
theorem jn_box (l : Launch) (G : gW) (g : Nat → Nat) (hg : gOK g) (f : Nat → va_E) (se : Nat) (hf : Nat → Option Nat) (imf : Nat → Option Nat) (kf : Nat → Int32) (mc : Nat) (op : Int32) (cm : Int32) (wu : Int32) (mk : Nat → Int32) (ab : Int64) (be : Int64) (mn : Nat) (le : Int32) (wt : Nat → Int32) (ww : Nat → Int32) (wb : Nat → Int32) (wf : Nat → Int32) (vv : Nat → Int64) (pay : Int32) (fine : Int32) (np : Nat) (dp : Nat → Int32) (nf : Nat) (df : Nat → Int32) (nr : Nat) (dr : Nat → Int32) (na : Nat) (da : Nat → Int32) (nt : Nat) (ct : Nat → Int32) (lf : Nat → Option Nat) (tf : Nat → Option Nat) (TL : Nat → Nat) (TG : Nat → Nat → Int32) (LL : Nat → Nat) (LG : Nat → Nat → Int32) (N1 : Nat → Nat) (E1 : Nat → Nat → Int32) (P1 : Nat → Int32) (L1 : Nat → Nat) (S1 : Nat → Nat → Int32) (W1 : Nat → Nat) (X1 : Nat → Nat → Int32) (N2 : Nat → Nat) (E2 : Nat → Nat → Int32) (P2 : Nat → Int32) (L2 : Nat → Nat) (S2 : Nat → Nat → Int32) (W2 : Nat → Nat) (X2 : Nat → Nat → Int32) (a1 : Int32) (hx0 : f 0 = eO 9 [.ref (g 1), .ref (g 36), .ref (g 2), .ref (g 3), .ref (g 4), .ref (g 6), .ref (g 7)]) (hctc : f 1 = eO 1 [.ref (g 36), .ref (g 12), .ref (g 13), .ref (g 15), .int (nI se)]) (hhs : f 12 = eA G 4 10 hf) (him : f 2 = eA G 3 2 imf) (hkp : f 3 = eZ G 2 kf) (hrd : f 4 = eO 4 [.ref (g 5), .int (nI mc), .int op, .int cm, .int wu]) (hmk : f 5 = eI G 50 mk) (hfc6 : f 6 = eO 2 [.long ab, .long be]) (hwt : f 7 = eO 8 [.ref (g 8), .ref (g 9), .ref (g 10), .ref (g 11), .int (nI mn), .int le]) (hw8 : f 8 = eI G 6 wt) (hw9 : f 9 = eI G 6 ww) (hw10 : f 10 = eI G 6 wb) (hw11 : f 11 = eI G 6 wf) (hvl : f 15 = eJ G 50 vv) (hbk : f 36 = eO 0 [.ref (g 37), .ref (g 39), .ref (g 41), .ref (g 43), .ref (g 45), .ref (g 47), .ref (g 112), .int pay, .int fine]) (hpr : f 37 = eO 5 [.int (nI 30), .int (nI 4), .ref (g 38), .int (nI np)]) (hpd : f 38 = eI G (30 * 4) dp) (hfr : f 39 = eO 5 [.int (nI 40), .int (nI 3), .ref (g 40), .int (nI nf)]) (hfd : f 40 = eI G (40 * 3) df) (hor : f 41 = eO 5 [.int (nI 4), .int (nI 3), .ref (g 42), .int (nI nr)]) (hod : f 42 = eI G (4 * 3) dr) (har : f 43 = eO 5 [.int (nI 20), .int (nI 3), .ref (g 44), .int (nI na)]) (had : f 44 = eI G (20 * 3) da) (htr : f 45 = eO 5 [.int (nI 10), .int (nI 70), .ref (g 46), .int (nI nt)]) (hct : f 46 = eI G (10 * 70) ct) (hla : f 47 = eO 6 [.ref (g 48), .ref (g 49)]) (hlaa : f 48 = eA G 5 20 lf) (hts0 : f 112 = eO 6 [.ref (g 113), .ref (g 114)]) (htsa : f 113 = eA G 5 4 tf) (hse : se ≤ 10) (hhf : ∀ i, i < 10 → hf i = some (g (2 * i + 16))) (him0 : imf 0 = some (g 129)) (him1 : imf 1 = some (g 222)) (hmc : mc ≤ 50) (hmn : mn ≤ 6) (hnp : np ≤ 30) (hnf : nf ≤ 40) (hnr : nr ≤ 4) (hna : na ≤ 20) (hnt : nt ≤ 10) (hlf : ∀ z, z < 20 → lf z = some (g (47 + 3 * z + 5))) (htf : ∀ z, z < 4 → tf z = some (g (112 + 3 * z + 5))) (hsn : se ≤ nt) (hTr : trC ct nt) (hH : ∀ i, i < 10 → okH G g f (2 * i + 16)) (hSp : okH G g f 13) (hL : ∀ i, i < 20 → ltx G g f (3 * i + 52) (LL i) (LG i) (i < na)) (hT : ∀ i, i < 4 → txt G g f (3 * i + 117) (TL i) (TG i)) (hB1 : bkD G g f 129 N1 E1 P1 L1 S1 W1 X1) (hB2 : bkD G g f 222 N2 E2 P2 L2 S2 W2 X2) (hQ : ∀ z, z < se → cHz G g f np nf nr na dp df dr da ct LL LG z) : Met l yX10_box (wsT yX10_box cX10_box 2 (some .int)) ({ frames := 7, cells := 0, slots := 0, locals := 176 }) (bP G g f [.ref (g 0), .int a1]) (bQi G g (fun (z9 : Int32) (f' : Nat → va_E) => (cJ G g f' np dp nf df nr dr nt ct pay fine kf na da TL TG LL LG N1 E1 P1 L1 S1 W1 X1 N2 E2 P2 L2 S2 W2 X2) ∧ ((¬ inN a1 nt = true ∧ z9 = -2) ∨ (∃ x, x < nt ∧ a1 = nI x ∧ z9 = (cBx np nf nr na dp df dr da ct LL LG x))) ∧ ∀ j, 315 ≤ j → f' j = f j)) 0 0 (gA g) := by
  refine Met.ofW (cc := cX10_box) (maxL := 2) (ret := (some .int)) (by decide) rfl ?_
  intro p e s m args below meth c s₁ B hml hv
  obtain ⟨rfl, hP, hG⟩ := hv
  have hx := B.exec
  have hb := B.bytes
  have hr := B.returns
  have hts := my_hts (atoms_spec (ws := wsT yX10_box cX10_box 2 (some .int)) B.pre)
  have hown : s.vm.findClass RX10 = some m.cls := findClass_of_methodNamed B.named
  have hlocks := B.notSynchronized
  have hS : va_S (gA g) s.heap s.heap [] := va_S.rf
  have hl := lv_entry ([.ref (g 0), .int a1]) (n := 2) (Nat.le_of_ble_eq_true rfl)
  rw [lg_entry_eq]
  generalize (lg_sl ([.ref (g 0), .int a1]) ++ List.replicate (2 - (lg_sl ([.ref (g 0), .int a1])).length) Slot.unset).toArray = ls at hl ⊢
  have hl : lv_has ls 2 [(0, .ref (g 0)), (1, .int a1)] := hl
  refine W_q8 (fun Q9 hQ9 => ?_)
  refine lv_aload_n hx hb dX10_box_0 rfl (lv_at hl 0 rfl) ?_
  refine va_get (D := G.1) (ci := 9) (v := .ref (g 36)) (C := RX10) (T := TX10) (N := 7) hx hb hts inlX10 hown hG.1 hP 0 (wl_at (by decide) hx0) rfl 1 (by decide) (hts (.fieldLink RX10 20 "SwornLists" "book" "LSwornLists$Book;") w_16) (fun _ h9 => h9) rfl dX10_box_1 ?_
  refine va_getN (D := G.1) (ci := 0) (v := .ref (g 45)) (C := RX0) (T := TX0) (N := 9) (host := RX10) hx hb hts inlX0 hown hG.1 hP 36 (wl_at (by decide) hbk) rfl 4 (by decide) (va_Nw.use rfl (hG.2.1 (.fieldLinkNest RX10 162 RX0 "trials" "LSwornLists$Rows;" RX10) (List.mem_of_getElem? (i := 7) rfl))) (fun _ h9 => h9) rfl dX10_box_4 ?_
  refine lv_iload_n hx hb dX10_box_7 rfl (lv_at hl 1 rfl) ?_
  refine rd_calli (va_runV (As := [.int a1]) (rest := []) ⟨hx, hb, hml, hown, hts⟩ (r_has l G g hg f 45 10 70 nt a1 htr (by first | assumption | omega | decide) (by first | assumption | omega | decide) (by first | assumption | omega | decide) (by first | assumption | omega | decide)) (my_cwV hts ok_X5_has w_174 rfl rfl ⟨Nat.le_of_ble_eq_true rfl, Nat.le_of_ble_eq_true rfl⟩) ⟨bP.blind, va_recv hG.1 hP (ci := 5) (q0 := 45) rfl (wl_at (by decide) htr), fun U hU hW => ⟨rfl, by rw [hU]; exact hP, kG.warm hW hG⟩⟩ rfl rfl hl.1 rfl (lv_room (Nat.le_of_ble_eq_true rfl)) dX10_box_8 ⟨Nat.le_of_ble_eq_true rfl, Nat.le_of_ble_eq_true rfl⟩) (fun r hr9 => ?_)
  subst hr9
  refine my_ifne (tgt := 17) hx hb dX10_box_11 (by decide) (fun c_11 => ?_) (fun c_11 => ?_)
  · obtain ⟨tn, htn, rfl⟩ := inN_nat (by omega) c_11
    refine lv_aload_n hx hb dX10_box_17 rfl (lv_at hl 0 rfl) ?_
    refine va_get (D := G.1) (ci := 9) (v := .ref (g 1)) (C := RX10) (T := TX10) (N := 7) hx hb hts inlX10 hown hG.1 hP 0 (wl_at (by decide) hx0) rfl 0 (by decide) (hts (.fieldLink RX10 12 "SwornLists" "court" "LSwornLists$Court;") w_15) (fun _ h9 => h9) rfl dX10_box_18 ?_
    refine b_callv (va_runV (As := []) (rest := []) ⟨hx, hb, hml, hown, hts⟩ (u_settleE l G g hg f se hf pay fine nt ct np dp nf df nr dr na da lf vv LL LG hctc hhs hbk htr hct hpr hpd hfr hfd hor hod har had hla hlaa hvl (by first | assumption | omega | decide) (by first | assumption | omega | decide) (by first | assumption | omega | decide) (by first | assumption | omega | decide) (by first | assumption | omega | decide) (by first | assumption | omega | decide) (by first | assumption | omega | decide) (by first | assumption | omega | decide) (hTr.1) (hTr.2.1) (hTr.2.2.1) (by first | assumption | omega | decide) (hQ) (by first | assumption | omega | decide) (hL)) (my_cwV hts ok_X1_settle w_384 rfl rfl ⟨Nat.le_of_ble_eq_true rfl, Nat.le_of_ble_eq_true rfl⟩) ⟨bP.blind, va_recv hG.1 hP (ci := 1) (q0 := 1) rfl (wl_at (by decide) hctc), fun U hU hW => ⟨rfl, by rw [hU]; exact hP, kG.warm hW hG⟩⟩ rfl rfl hl.1 rfl (lv_room (Nat.le_of_ble_eq_true rfl)) dX10_box_21 ⟨Nat.le_of_ble_eq_true rfl, Nat.le_of_ble_eq_true rfl⟩) hS (fun f_1 H locs hq9 hP hS => ?_)
    obtain ⟨vv91, hq_1_0, hq_1_1, hx_1_0, hx_1_1, o_1⟩ := hq9
    have hctc : f_1 1 = eO 1 [.ref (g 36), .ref (g 12), .ref (g 13), .ref (g 15), .int (nI nt)] := hq_1_0
    have hvl : f_1 15 = eJ G 50 vv91 := hq_1_1
    have hH : ∀ i, i < 10 → okH G g f_1 (2 * i + 16) := hx_1_0
    have hQn : ∀ z, z < nt → cHz G g f_1 np nf nr na dp df dr da ct LL LG z := hx_1_1
    obtain ⟨od7, hh7, ho7, hd7⟩ := id (hQn tn (by omega))
    have hm7 : hM (cBx np nf nr na dp df dr da ct LL LG tn) (fun c => ct (70 * tn + c)) ≤ 24 := by
      have h9 := hTr.2.2.1 tn (by omega)
      exact Nat.le_trans (Nat.min_le_left _ _) h9
    refine lv_aload_n hx hb dX10_box_24 rfl (lv_at hl 0 rfl) ?_
    replace hx0 := ((o_1 0 (by first | decide | omega))).trans hx0
    refine va_get (D := G.1) (ci := 9) (v := .ref (g 1)) (C := RX10) (T := TX10) (N := 7) hx hb hts inlX10 hown hG.1 hP 0 (wl_at (by decide) hx0) rfl 0 (by decide) (hts (.fieldLink RX10 12 "SwornLists" "court" "LSwornLists$Court;") w_15) (fun _ h9 => h9) rfl dX10_box_25 ?_
    refine lv_iload_n hx hb dX10_box_28 rfl (lv_at hl 1 rfl) ?_
    replace hhs := ((o_1 12 (by first | decide | omega))).trans hhs
    refine rd_calla (va_runV (As := [.int (nI tn)]) (rest := []) ⟨hx, hb, hml, hown, hts⟩ (u_hearing l G g hg f_1 nt hf tn hctc hhs (by first | assumption | omega | decide) (by first | assumption | omega | decide) (by first | assumption | omega | decide)) (my_cwV hts ok_X1_hearing w_675 rfl rfl ⟨Nat.le_of_ble_eq_true rfl, Nat.le_of_ble_eq_true rfl⟩) ⟨bP.blind, va_recv hG.1 hP (ci := 1) (q0 := 1) rfl (wl_at (by decide) hctc), fun U hU hW => ⟨rfl, by rw [hU]; exact hP, kG.warm hW hG⟩⟩ rfl rfl hl.1 rfl (lv_room (Nat.le_of_ble_eq_true rfl)) dX10_box_29 ⟨Nat.le_of_ble_eq_true rfl, Nat.le_of_ble_eq_true rfl⟩) (fun r hr9 => ?_)
    subst hr9
    refine va_getN (D := G.1) (ci := 3) (v := .int (cBx np nf nr na dp df dr da ct LL LG tn)) (C := RX3) (T := TX3) (N := 9) (host := RX10) hx hb hts inlX3 hown hG.1 hP (2 * tn + 16) (wl_at (by omega) hh7) rfl 3 (by decide) (va_Nw.use rfl (hG.2.1 (.fieldLinkNest RX10 176 RX3 "inBox" "I" RX10) (List.mem_of_getElem? (i := 13) rfl))) (fun _ h9 => h9) rfl dX10_box_32 ?_
    refine W_q9 hQ9 ?_
    replace him := ((o_1 2 (by first | decide | omega))).trans him
    replace hkp := ((o_1 3 (by first | decide | omega))).trans hkp
    replace hrd := ((o_1 4 (by first | decide | omega))).trans hrd
    replace hmk := ((o_1 5 (by first | decide | omega))).trans hmk
    replace hfc6 := ((o_1 6 (by first | decide | omega))).trans hfc6
    replace hwt := ((o_1 7 (by first | decide | omega))).trans hwt
    replace hw8 := ((o_1 8 (by first | decide | omega))).trans hw8
    replace hw9 := ((o_1 9 (by first | decide | omega))).trans hw9
    replace hw10 := ((o_1 10 (by first | decide | omega))).trans hw10
    replace hw11 := ((o_1 11 (by first | decide | omega))).trans hw11
    replace hbk := ((o_1 36 (by first | decide | omega))).trans hbk
    replace hpr := ((o_1 37 (by first | decide | omega))).trans hpr
    replace hpd := ((o_1 38 (by first | decide | omega))).trans hpd
    replace hfr := ((o_1 39 (by first | decide | omega))).trans hfr
    replace hfd := ((o_1 40 (by first | decide | omega))).trans hfd
    replace hor := ((o_1 41 (by first | decide | omega))).trans hor
    replace hod := ((o_1 42 (by first | decide | omega))).trans hod
    replace har := ((o_1 43 (by first | decide | omega))).trans har
    replace had := ((o_1 44 (by first | decide | omega))).trans had
    replace htr := ((o_1 45 (by first | decide | omega))).trans htr
    replace hct := ((o_1 46 (by first | decide | omega))).trans hct
    replace hla := ((o_1 47 (by first | decide | omega))).trans hla
    replace hlaa := ((o_1 48 (by first | decide | omega))).trans hlaa
    replace hts0 := ((o_1 112 (by first | decide | omega))).trans hts0
    replace htsa := ((o_1 113 (by first | decide | omega))).trans htsa
    replace hSp : okH G g f_1 13 := okH_fr hSp (o_1 _ (by omega)) (o_1 _ (by omega))
    replace hL : ∀ i, i < 20 → ltx G g f_1 (3 * i + 52) (LL i) (LG i) (i < na) := fun z hz => ltx_fr (hL z hz) (o_1 _ (by omega)) (o_1 _ (by omega)) (o_1 _ (by omega))
    replace hT : ∀ i, i < 4 → txt G g f_1 (3 * i + 117) (TL i) (TG i) := fun z hz => txt_fr (hT z hz) (o_1 _ (by omega)) (o_1 _ (by omega)) (o_1 _ (by omega))
    replace hB1 : bkD G g f_1 129 N1 E1 P1 L1 S1 W1 X1 := bkD_fr hB1 (fun j _ _ => o_1 j (by omega))
    replace hB2 : bkD G g f_1 222 N2 E2 P2 L2 S2 W2 X2 := bkD_fr hB2 (fun j _ _ => o_1 j (by omega))
    exact W.iret (v := (cBx np nf nr na dp df dr da ct LL LG tn)) hx hb hr (fun _ hT9 _ => ⟨⟨_, f_1, rfl, (⟨cJ_mk (nt) (hf) (imf) (mc) (op) (cm) (wu) (mk) (ab) (be) (mn) (le) (wt) (ww) (wb) (wf) (vv91) (lf) (tf) (hx0) (hctc) (hhs) (him) (hkp) (hrd) (hmk) (hfc6) (hwt) (hw8) (hw9) (hw10) (hw11) (hvl) (hbk) (hpr) (hpd) (hfr) (hfd) (hor) (hod) (har) (had) (htr) (hct) (hla) (hlaa) (hts0) (htsa) (by omega) (hhf) (him0) (him1) (by omega) (by omega) (by omega) (by omega) (by omega) (by omega) (by omega) (hlf) (htf) (by omega) (hH) (hSp) (hL) (hT) (hB1) (hB2) (hQn), (Or.inr ⟨tn, htn, rfl, rfl⟩), fun j hj => (o_1 j (by omega))⟩), by rw [hT9]; exact hP⟩, hS.F hT9⟩) hS.2.2 dX10_box_35
  · refine lv_bipush (v := (-2)) hx hb dX10_box_14 (by decide) ?_
    refine W_q9 hQ9 ?_
    exact W.iret (v := (-2)) hx hb hr (fun _ hT9 _ => ⟨⟨_, f, rfl, (⟨cJ_mk (se) (hf) (imf) (mc) (op) (cm) (wu) (mk) (ab) (be) (mn) (le) (wt) (ww) (wb) (wf) (vv) (lf) (tf) (hx0) (hctc) (hhs) (him) (hkp) (hrd) (hmk) (hfc6) (hwt) (hw8) (hw9) (hw10) (hw11) (hvl) (hbk) (hpr) (hpd) (hfr) (hfd) (hor) (hod) (har) (had) (htr) (hct) (hla) (hlaa) (hts0) (htsa) (by omega) (hhf) (him0) (him1) (by omega) (by omega) (by omega) (by omega) (by omega) (by omega) (by omega) (hlf) (htf) (by omega) (hH) (hSp) (hL) (hT) (hB1) (hB2) (hQ), (Or.inl ⟨c_11, rfl⟩), fun j hj => rfl⟩), by rw [hT9]; exact hP⟩, hS.F hT9⟩) hS.2.2 dX10_box_16
theorem j_box (l : Launch) (G : gW) (g : Nat → Nat) (hg : gOK g) (f : Nat → va_E) (np : Nat) (dp : Nat → Int32) (nf : Nat) (df : Nat → Int32) (nr : Nat) (dr : Nat → Int32) (nt : Nat) (ct : Nat → Int32) (pay : Int32) (fine : Int32) (kf : Nat → Int32) (na : Nat) (da : Nat → Int32) (TL : Nat → Nat) (TG : Nat → Nat → Int32) (LL : Nat → Nat) (LG : Nat → Nat → Int32) (N1 : Nat → Nat) (E1 : Nat → Nat → Int32) (P1 : Nat → Int32) (L1 : Nat → Nat) (S1 : Nat → Nat → Int32) (W1 : Nat → Nat) (X1 : Nat → Nat → Int32) (N2 : Nat → Nat) (E2 : Nat → Nat → Int32) (P2 : Nat → Int32) (L2 : Nat → Nat) (S2 : Nat → Nat → Int32) (W2 : Nat → Nat) (X2 : Nat → Nat → Int32) (a1 : Int32) (hI : cJ G g f np dp nf df nr dr nt ct pay fine kf na da TL TG LL LG N1 E1 P1 L1 S1 W1 X1 N2 E2 P2 L2 S2 W2 X2) (hTr : trC ct nt) : Met l yX10_box (wsT yX10_box cX10_box 2 (some .int)) ({ frames := 7, cells := 0, slots := 0, locals := 176 }) (bP G g f [.ref (g 0), .int a1]) (bQi G g (fun (z9 : Int32) (f' : Nat → va_E) => (cJ G g f' np dp nf df nr dr nt ct pay fine kf na da TL TG LL LG N1 E1 P1 L1 S1 W1 X1 N2 E2 P2 L2 S2 W2 X2) ∧ ((¬ inN a1 nt = true ∧ z9 = -2) ∨ (∃ x, x < nt ∧ a1 = nI x ∧ z9 = (cBx np nf nr na dp df dr da ct LL LG x))) ∧ ∀ j, 315 ≤ j → f' j = f j)) 0 0 (gA g) := cJ_elim hI (fun se hf imf mc op cm wu mk ab be mn le wt ww wb wf vv lf tf hx0 hctc hhs him hkp hrd hmk hfc6 hwt hw8 hw9 hw10 hw11 hvl hbk hpr hpd hfr hfd hor hod har had htr hct hla hlaa hts0 htsa hse hhf him0 him1 hmc hmn hnp hnf hnr hna hnt hlf htf hsn hH hSp hL hT hB1 hB2 hQ => jn_box l G g hg f se hf imf kf mc op cm wu mk ab be mn le wt ww wb wf vv pay fine np dp nf df nr dr na da nt ct lf tf TL TG LL LG N1 E1 P1 L1 S1 W1 X1 N2 E2 P2 L2 S2 W2 X2 a1 hx0 hctc hhs him hkp hrd hmk hfc6 hwt hw8 hw9 hw10 hw11 hvl hbk hpr hpd hfr hfd hor hod har had htr hct hla hlaa hts0 htsa hse hhf him0 him1 hmc hmn hnp hnf hnr hna hnt hlf htf hsn hTr hH hSp hL hT hB1 hB2 hQ)
set_option maxHeartbeats 4000000 in
set_option maxRecDepth 100000 in
theorem jn_drawn (l : Launch) (G : gW) (g : Nat → Nat) (hg : gOK g) (f : Nat → va_E) (se : Nat) (hf : Nat → Option Nat) (imf : Nat → Option Nat) (kf : Nat → Int32) (mc : Nat) (op : Int32) (cm : Int32) (wu : Int32) (mk : Nat → Int32) (ab : Int64) (be : Int64) (mn : Nat) (le : Int32) (wt : Nat → Int32) (ww : Nat → Int32) (wb : Nat → Int32) (wf : Nat → Int32) (vv : Nat → Int64) (pay : Int32) (fine : Int32) (np : Nat) (dp : Nat → Int32) (nf : Nat) (df : Nat → Int32) (nr : Nat) (dr : Nat → Int32) (na : Nat) (da : Nat → Int32) (nt : Nat) (ct : Nat → Int32) (lf : Nat → Option Nat) (tf : Nat → Option Nat) (TL : Nat → Nat) (TG : Nat → Nat → Int32) (LL : Nat → Nat) (LG : Nat → Nat → Int32) (N1 : Nat → Nat) (E1 : Nat → Nat → Int32) (P1 : Nat → Int32) (L1 : Nat → Nat) (S1 : Nat → Nat → Int32) (W1 : Nat → Nat) (X1 : Nat → Nat → Int32) (N2 : Nat → Nat) (E2 : Nat → Nat → Int32) (P2 : Nat → Int32) (L2 : Nat → Nat) (S2 : Nat → Nat → Int32) (W2 : Nat → Nat) (X2 : Nat → Nat → Int32) (a1 : Int32) (a2 : Int32) (hx0 : f 0 = eO 9 [.ref (g 1), .ref (g 36), .ref (g 2), .ref (g 3), .ref (g 4), .ref (g 6), .ref (g 7)]) (hctc : f 1 = eO 1 [.ref (g 36), .ref (g 12), .ref (g 13), .ref (g 15), .int (nI se)]) (hhs : f 12 = eA G 4 10 hf) (him : f 2 = eA G 3 2 imf) (hkp : f 3 = eZ G 2 kf) (hrd : f 4 = eO 4 [.ref (g 5), .int (nI mc), .int op, .int cm, .int wu]) (hmk : f 5 = eI G 50 mk) (hfc6 : f 6 = eO 2 [.long ab, .long be]) (hwt : f 7 = eO 8 [.ref (g 8), .ref (g 9), .ref (g 10), .ref (g 11), .int (nI mn), .int le]) (hw8 : f 8 = eI G 6 wt) (hw9 : f 9 = eI G 6 ww) (hw10 : f 10 = eI G 6 wb) (hw11 : f 11 = eI G 6 wf) (hvl : f 15 = eJ G 50 vv) (hbk : f 36 = eO 0 [.ref (g 37), .ref (g 39), .ref (g 41), .ref (g 43), .ref (g 45), .ref (g 47), .ref (g 112), .int pay, .int fine]) (hpr : f 37 = eO 5 [.int (nI 30), .int (nI 4), .ref (g 38), .int (nI np)]) (hpd : f 38 = eI G (30 * 4) dp) (hfr : f 39 = eO 5 [.int (nI 40), .int (nI 3), .ref (g 40), .int (nI nf)]) (hfd : f 40 = eI G (40 * 3) df) (hor : f 41 = eO 5 [.int (nI 4), .int (nI 3), .ref (g 42), .int (nI nr)]) (hod : f 42 = eI G (4 * 3) dr) (har : f 43 = eO 5 [.int (nI 20), .int (nI 3), .ref (g 44), .int (nI na)]) (had : f 44 = eI G (20 * 3) da) (htr : f 45 = eO 5 [.int (nI 10), .int (nI 70), .ref (g 46), .int (nI nt)]) (hct : f 46 = eI G (10 * 70) ct) (hla : f 47 = eO 6 [.ref (g 48), .ref (g 49)]) (hlaa : f 48 = eA G 5 20 lf) (hts0 : f 112 = eO 6 [.ref (g 113), .ref (g 114)]) (htsa : f 113 = eA G 5 4 tf) (hse : se ≤ 10) (hhf : ∀ i, i < 10 → hf i = some (g (2 * i + 16))) (him0 : imf 0 = some (g 129)) (him1 : imf 1 = some (g 222)) (hmc : mc ≤ 50) (hmn : mn ≤ 6) (hnp : np ≤ 30) (hnf : nf ≤ 40) (hnr : nr ≤ 4) (hna : na ≤ 20) (hnt : nt ≤ 10) (hlf : ∀ z, z < 20 → lf z = some (g (47 + 3 * z + 5))) (htf : ∀ z, z < 4 → tf z = some (g (112 + 3 * z + 5))) (hsn : se ≤ nt) (hTr : trC ct nt) (hH : ∀ i, i < 10 → okH G g f (2 * i + 16)) (hSp : okH G g f 13) (hL : ∀ i, i < 20 → ltx G g f (3 * i + 52) (LL i) (LG i) (i < na)) (hT : ∀ i, i < 4 → txt G g f (3 * i + 117) (TL i) (TG i)) (hB1 : bkD G g f 129 N1 E1 P1 L1 S1 W1 X1) (hB2 : bkD G g f 222 N2 E2 P2 L2 S2 W2 X2) (hQ : ∀ z, z < se → cHz G g f np nf nr na dp df dr da ct LL LG z) : Met l yX10_drawn (wsT yX10_drawn cX10_drawn 3 (some .int)) ({ frames := 7, cells := 0, slots := 0, locals := 176 }) (bP G g f [.ref (g 0), .int a1, .int a2]) (bQi G g (fun (z9 : Int32) (f' : Nat → va_E) => (cJ G g f' np dp nf df nr dr nt ct pay fine kf na da TL TG LL LG N1 E1 P1 L1 S1 W1 X1 N2 E2 P2 L2 S2 W2 X2) ∧ ((¬ (inN a1 nt = true ∧ 0 ≤ a2) ∧ z9 = -2) ∨ (∃ x, x < nt ∧ a1 = nI x ∧ 0 ≤ a2 ∧ z9 = drV (cBx np nf nr na dp df dr da ct LL LG x) (fun c => ct (70 * x + c)) a2)) ∧ ∀ j, 315 ≤ j → f' j = f j)) 0 0 (gA g) := by
  refine Met.ofW (cc := cX10_drawn) (maxL := 3) (ret := (some .int)) (by decide) rfl ?_
  intro p e s m args below meth c s₁ B hml hv
  obtain ⟨rfl, hP, hG⟩ := hv
  have hx := B.exec
  have hb := B.bytes
  have hr := B.returns
  have hts := my_hts (atoms_spec (ws := wsT yX10_drawn cX10_drawn 3 (some .int)) B.pre)
  have hown : s.vm.findClass RX10 = some m.cls := findClass_of_methodNamed B.named
  have hlocks := B.notSynchronized
  have hS : va_S (gA g) s.heap s.heap [] := va_S.rf
  have hl := lv_entry ([.ref (g 0), .int a1, .int a2]) (n := 3) (Nat.le_of_ble_eq_true rfl)
  rw [lg_entry_eq]
  generalize (lg_sl ([.ref (g 0), .int a1, .int a2]) ++ List.replicate (3 - (lg_sl ([.ref (g 0), .int a1, .int a2])).length) Slot.unset).toArray = ls at hl ⊢
  have hl : lv_has ls 3 [(0, .ref (g 0)), (1, .int a1), (2, .int a2)] := hl
  refine W_q8 (fun Q9 hQ9 => ?_)
  refine lv_aload_n hx hb dX10_drawn_0 rfl (lv_at hl 0 rfl) ?_
  refine va_get (D := G.1) (ci := 9) (v := .ref (g 36)) (C := RX10) (T := TX10) (N := 7) hx hb hts inlX10 hown hG.1 hP 0 (wl_at (by decide) hx0) rfl 1 (by decide) (hts (.fieldLink RX10 20 "SwornLists" "book" "LSwornLists$Book;") w_16) (fun _ h9 => h9) rfl dX10_drawn_1 ?_
  refine va_getN (D := G.1) (ci := 0) (v := .ref (g 45)) (C := RX0) (T := TX0) (N := 9) (host := RX10) hx hb hts inlX0 hown hG.1 hP 36 (wl_at (by decide) hbk) rfl 4 (by decide) (va_Nw.use rfl (hG.2.1 (.fieldLinkNest RX10 162 RX0 "trials" "LSwornLists$Rows;" RX10) (List.mem_of_getElem? (i := 7) rfl))) (fun _ h9 => h9) rfl dX10_drawn_4 ?_
  refine lv_iload_n hx hb dX10_drawn_7 rfl (lv_at hl 1 rfl) ?_
  refine rd_calli (va_runV (As := [.int a1]) (rest := []) ⟨hx, hb, hml, hown, hts⟩ (r_has l G g hg f 45 10 70 nt a1 htr (by first | assumption | omega | decide) (by first | assumption | omega | decide) (by first | assumption | omega | decide) (by first | assumption | omega | decide)) (my_cwV hts ok_X5_has w_174 rfl rfl ⟨Nat.le_of_ble_eq_true rfl, Nat.le_of_ble_eq_true rfl⟩) ⟨bP.blind, va_recv hG.1 hP (ci := 5) (q0 := 45) rfl (wl_at (by decide) htr), fun U hU hW => ⟨rfl, by rw [hU]; exact hP, kG.warm hW hG⟩⟩ rfl rfl hl.1 rfl (lv_room (Nat.le_of_ble_eq_true rfl)) dX10_drawn_8 ⟨Nat.le_of_ble_eq_true rfl, Nat.le_of_ble_eq_true rfl⟩) (fun r hr9 => ?_)
  subst hr9
  refine my_ifeq (tgt := 18) hx hb dX10_drawn_11 (by decide) (fun c_11 => ?_) (fun c_11 => ?_)
  · refine lv_bipush (v := (-2)) hx hb dX10_drawn_18 (by decide) ?_
    refine W_q9 hQ9 ?_
    exact W.iret (v := (-2)) hx hb hr (fun _ hT9 _ => ⟨⟨_, f, rfl, (⟨cJ_mk (se) (hf) (imf) (mc) (op) (cm) (wu) (mk) (ab) (be) (mn) (le) (wt) (ww) (wb) (wf) (vv) (lf) (tf) (hx0) (hctc) (hhs) (him) (hkp) (hrd) (hmk) (hfc6) (hwt) (hw8) (hw9) (hw10) (hw11) (hvl) (hbk) (hpr) (hpd) (hfr) (hfd) (hor) (hod) (har) (had) (htr) (hct) (hla) (hlaa) (hts0) (htsa) (by omega) (hhf) (him0) (him1) (by omega) (by omega) (by omega) (by omega) (by omega) (by omega) (by omega) (hlf) (htf) (by omega) (hH) (hSp) (hL) (hT) (hB1) (hB2) (hQ), (Or.inl ⟨fun z => c_11 z.1, rfl⟩), fun j hj => rfl⟩), by rw [hT9]; exact hP⟩, hS.F hT9⟩) hS.2.2 dX10_drawn_20
  · refine lv_iload_n hx hb dX10_drawn_14 rfl (lv_at hl 2 rfl) ?_
    refine lv_if_ge (tgt := 21) hx hb dX10_drawn_15 (by decide) (fun c_15 => ?_) (fun c_15 => ?_)
    · obtain ⟨tn, htn, rfl⟩ := inN_nat (by omega) c_11
      refine lv_aload_n hx hb dX10_drawn_21 rfl (lv_at hl 0 rfl) ?_
      refine va_get (D := G.1) (ci := 9) (v := .ref (g 1)) (C := RX10) (T := TX10) (N := 7) hx hb hts inlX10 hown hG.1 hP 0 (wl_at (by decide) hx0) rfl 0 (by decide) (hts (.fieldLink RX10 12 "SwornLists" "court" "LSwornLists$Court;") w_15) (fun _ h9 => h9) rfl dX10_drawn_22 ?_
      refine b_callv (va_runV (As := []) (rest := []) ⟨hx, hb, hml, hown, hts⟩ (u_settleE l G g hg f se hf pay fine nt ct np dp nf df nr dr na da lf vv LL LG hctc hhs hbk htr hct hpr hpd hfr hfd hor hod har had hla hlaa hvl (by first | assumption | omega | decide) (by first | assumption | omega | decide) (by first | assumption | omega | decide) (by first | assumption | omega | decide) (by first | assumption | omega | decide) (by first | assumption | omega | decide) (by first | assumption | omega | decide) (by first | assumption | omega | decide) (hTr.1) (hTr.2.1) (hTr.2.2.1) (by first | assumption | omega | decide) (hQ) (by first | assumption | omega | decide) (hL)) (my_cwV hts ok_X1_settle w_384 rfl rfl ⟨Nat.le_of_ble_eq_true rfl, Nat.le_of_ble_eq_true rfl⟩) ⟨bP.blind, va_recv hG.1 hP (ci := 1) (q0 := 1) rfl (wl_at (by decide) hctc), fun U hU hW => ⟨rfl, by rw [hU]; exact hP, kG.warm hW hG⟩⟩ rfl rfl hl.1 rfl (lv_room (Nat.le_of_ble_eq_true rfl)) dX10_drawn_25 ⟨Nat.le_of_ble_eq_true rfl, Nat.le_of_ble_eq_true rfl⟩) hS (fun f_1 H locs hq9 hP hS => ?_)
      obtain ⟨vv91, hq_1_0, hq_1_1, hx_1_0, hx_1_1, o_1⟩ := hq9
      have hctc : f_1 1 = eO 1 [.ref (g 36), .ref (g 12), .ref (g 13), .ref (g 15), .int (nI nt)] := hq_1_0
      have hvl : f_1 15 = eJ G 50 vv91 := hq_1_1
      have hH : ∀ i, i < 10 → okH G g f_1 (2 * i + 16) := hx_1_0
      have hQn : ∀ z, z < nt → cHz G g f_1 np nf nr na dp df dr da ct LL LG z := hx_1_1
      obtain ⟨od7, hh7, ho7, hd7⟩ := id (hQn tn (by omega))
      have hm7 : hM (cBx np nf nr na dp df dr da ct LL LG tn) (fun c => ct (70 * tn + c)) ≤ 24 := by
        have h9 := hTr.2.2.1 tn (by omega)
        exact Nat.le_trans (Nat.min_le_left _ _) h9
      refine lv_aload_n hx hb dX10_drawn_28 rfl (lv_at hl 0 rfl) ?_
      replace hx0 := ((o_1 0 (by first | decide | omega))).trans hx0
      refine va_get (D := G.1) (ci := 9) (v := .ref (g 1)) (C := RX10) (T := TX10) (N := 7) hx hb hts inlX10 hown hG.1 hP 0 (wl_at (by decide) hx0) rfl 0 (by decide) (hts (.fieldLink RX10 12 "SwornLists" "court" "LSwornLists$Court;") w_15) (fun _ h9 => h9) rfl dX10_drawn_29 ?_
      refine lv_iload_n hx hb dX10_drawn_32 rfl (lv_at hl 1 rfl) ?_
      replace hhs := ((o_1 12 (by first | decide | omega))).trans hhs
      refine rd_calla (va_runV (As := [.int (nI tn)]) (rest := []) ⟨hx, hb, hml, hown, hts⟩ (u_hearing l G g hg f_1 nt hf tn hctc hhs (by first | assumption | omega | decide) (by first | assumption | omega | decide) (by first | assumption | omega | decide)) (my_cwV hts ok_X1_hearing w_675 rfl rfl ⟨Nat.le_of_ble_eq_true rfl, Nat.le_of_ble_eq_true rfl⟩) ⟨bP.blind, va_recv hG.1 hP (ci := 1) (q0 := 1) rfl (wl_at (by decide) hctc), fun U hU hW => ⟨rfl, by rw [hU]; exact hP, kG.warm hW hG⟩⟩ rfl rfl hl.1 rfl (lv_room (Nat.le_of_ble_eq_true rfl)) dX10_drawn_33 ⟨Nat.le_of_ble_eq_true rfl, Nat.le_of_ble_eq_true rfl⟩) (fun r hr9 => ?_)
      subst hr9
      refine lv_iload_n hx hb dX10_drawn_36 rfl (lv_at hl 2 rfl) ?_
      refine rd_calli (va_runV (As := [.int a2]) (rest := []) ⟨hx, hb, hml, hown, hts⟩ (h_slipAtE l G g hg f_1 (2 * tn + 16) (hM (cBx np nf nr na dp df dr da ct LL LG tn) (fun c => ct (70 * tn + c))) (lotF (ct (70 * tn + 7)) (hM (cBx np nf nr na dp df dr da ct LL LG tn) (fun c => ct (70 * tn + c)))) (cBx np nf nr na dp df dr da ct LL LG tn) (hCa (cBx np nf nr na dp df dr da ct LL LG tn) (fun c => ct (70 * tn + c))) (hMi (cBx np nf nr na dp df dr da ct LL LG tn) (fun c => ct (70 * tn + c))) ((hX (cBx np nf nr na dp df dr da ct LL LG tn) (fun c => ct (70 * tn + c))).1) ((hX (cBx np nf nr na dp df dr da ct LL LG tn) (fun c => ct (70 * tn + c))).2) (hSw (cBx np nf nr na dp df dr da ct LL LG tn) (pasV (cFt np nf nr na dp df dr da ct LL LG tn) (cBx np nf nr na dp df dr da ct LL LG tn)) (fun c => ct (70 * tn + c))) od7 a2 hh7 ho7 (by first | assumption | omega | decide) (hm7)) (my_cwV hts ok_X3_slipAt w_688 rfl rfl ⟨Nat.le_of_ble_eq_true rfl, Nat.le_of_ble_eq_true rfl⟩) ⟨bP.blind, va_recv hG.1 hP (ci := 3) (q0 := (2 * tn + 16)) rfl (wl_at (by omega) hh7), fun U hU hW => ⟨rfl, by rw [hU]; exact hP, kG.warm hW hG⟩⟩ rfl rfl hl.1 rfl (lv_room (Nat.le_of_ble_eq_true rfl)) dX10_drawn_37 ⟨Nat.le_of_ble_eq_true rfl, Nat.le_of_ble_eq_true rfl⟩) (fun r hr9 => ?_)
      subst hr9
      refine W_q9 hQ9 ?_
      replace him := ((o_1 2 (by first | decide | omega))).trans him
      replace hkp := ((o_1 3 (by first | decide | omega))).trans hkp
      replace hrd := ((o_1 4 (by first | decide | omega))).trans hrd
      replace hmk := ((o_1 5 (by first | decide | omega))).trans hmk
      replace hfc6 := ((o_1 6 (by first | decide | omega))).trans hfc6
      replace hwt := ((o_1 7 (by first | decide | omega))).trans hwt
      replace hw8 := ((o_1 8 (by first | decide | omega))).trans hw8
      replace hw9 := ((o_1 9 (by first | decide | omega))).trans hw9
      replace hw10 := ((o_1 10 (by first | decide | omega))).trans hw10
      replace hw11 := ((o_1 11 (by first | decide | omega))).trans hw11
      replace hbk := ((o_1 36 (by first | decide | omega))).trans hbk
      replace hpr := ((o_1 37 (by first | decide | omega))).trans hpr
      replace hpd := ((o_1 38 (by first | decide | omega))).trans hpd
      replace hfr := ((o_1 39 (by first | decide | omega))).trans hfr
      replace hfd := ((o_1 40 (by first | decide | omega))).trans hfd
      replace hor := ((o_1 41 (by first | decide | omega))).trans hor
      replace hod := ((o_1 42 (by first | decide | omega))).trans hod
      replace har := ((o_1 43 (by first | decide | omega))).trans har
      replace had := ((o_1 44 (by first | decide | omega))).trans had
      replace htr := ((o_1 45 (by first | decide | omega))).trans htr
      replace hct := ((o_1 46 (by first | decide | omega))).trans hct
      replace hla := ((o_1 47 (by first | decide | omega))).trans hla
      replace hlaa := ((o_1 48 (by first | decide | omega))).trans hlaa
      replace hts0 := ((o_1 112 (by first | decide | omega))).trans hts0
      replace htsa := ((o_1 113 (by first | decide | omega))).trans htsa
      replace hSp : okH G g f_1 13 := okH_fr hSp (o_1 _ (by omega)) (o_1 _ (by omega))
      replace hL : ∀ i, i < 20 → ltx G g f_1 (3 * i + 52) (LL i) (LG i) (i < na) := fun z hz => ltx_fr (hL z hz) (o_1 _ (by omega)) (o_1 _ (by omega)) (o_1 _ (by omega))
      replace hT : ∀ i, i < 4 → txt G g f_1 (3 * i + 117) (TL i) (TG i) := fun z hz => txt_fr (hT z hz) (o_1 _ (by omega)) (o_1 _ (by omega)) (o_1 _ (by omega))
      replace hB1 : bkD G g f_1 129 N1 E1 P1 L1 S1 W1 X1 := bkD_fr hB1 (fun j _ _ => o_1 j (by omega))
      replace hB2 : bkD G g f_1 222 N2 E2 P2 L2 S2 W2 X2 := bkD_fr hB2 (fun j _ _ => o_1 j (by omega))
      exact W.iret (v := saV od7 (hM (cBx np nf nr na dp df dr da ct LL LG tn) (fun c => ct (70 * tn + c))) a2) hx hb hr (fun _ hT9 _ => ⟨⟨_, f_1, rfl, (⟨cJ_mk (nt) (hf) (imf) (mc) (op) (cm) (wu) (mk) (ab) (be) (mn) (le) (wt) (ww) (wb) (wf) (vv91) (lf) (tf) (hx0) (hctc) (hhs) (him) (hkp) (hrd) (hmk) (hfc6) (hwt) (hw8) (hw9) (hw10) (hw11) (hvl) (hbk) (hpr) (hpd) (hfr) (hfd) (hor) (hod) (har) (had) (htr) (hct) (hla) (hlaa) (hts0) (htsa) (by omega) (hhf) (him0) (him1) (by omega) (by omega) (by omega) (by omega) (by omega) (by omega) (by omega) (hlf) (htf) (by omega) (hH) (hSp) (hL) (hT) (hB1) (hB2) (hQn), (Or.inr ⟨tn, htn, rfl, c_15, saV_dr hd7 hm7⟩), fun j hj => (o_1 j (by omega))⟩), by rw [hT9]; exact hP⟩, hS.F hT9⟩) hS.2.2 dX10_drawn_40
    · refine lv_bipush (v := (-2)) hx hb dX10_drawn_18 (by decide) ?_
      refine W_q9 hQ9 ?_
      exact W.iret (v := (-2)) hx hb hr (fun _ hT9 _ => ⟨⟨_, f, rfl, (⟨cJ_mk (se) (hf) (imf) (mc) (op) (cm) (wu) (mk) (ab) (be) (mn) (le) (wt) (ww) (wb) (wf) (vv) (lf) (tf) (hx0) (hctc) (hhs) (him) (hkp) (hrd) (hmk) (hfc6) (hwt) (hw8) (hw9) (hw10) (hw11) (hvl) (hbk) (hpr) (hpd) (hfr) (hfd) (hor) (hod) (har) (had) (htr) (hct) (hla) (hlaa) (hts0) (htsa) (by omega) (hhf) (him0) (him1) (by omega) (by omega) (by omega) (by omega) (by omega) (by omega) (by omega) (hlf) (htf) (by omega) (hH) (hSp) (hL) (hT) (hB1) (hB2) (hQ), (Or.inl ⟨fun z => c_15 z.2, rfl⟩), fun j hj => rfl⟩), by rw [hT9]; exact hP⟩, hS.F hT9⟩) hS.2.2 dX10_drawn_20
theorem j_drawn (l : Launch) (G : gW) (g : Nat → Nat) (hg : gOK g) (f : Nat → va_E) (np : Nat) (dp : Nat → Int32) (nf : Nat) (df : Nat → Int32) (nr : Nat) (dr : Nat → Int32) (nt : Nat) (ct : Nat → Int32) (pay : Int32) (fine : Int32) (kf : Nat → Int32) (na : Nat) (da : Nat → Int32) (TL : Nat → Nat) (TG : Nat → Nat → Int32) (LL : Nat → Nat) (LG : Nat → Nat → Int32) (N1 : Nat → Nat) (E1 : Nat → Nat → Int32) (P1 : Nat → Int32) (L1 : Nat → Nat) (S1 : Nat → Nat → Int32) (W1 : Nat → Nat) (X1 : Nat → Nat → Int32) (N2 : Nat → Nat) (E2 : Nat → Nat → Int32) (P2 : Nat → Int32) (L2 : Nat → Nat) (S2 : Nat → Nat → Int32) (W2 : Nat → Nat) (X2 : Nat → Nat → Int32) (a1 : Int32) (a2 : Int32) (hI : cJ G g f np dp nf df nr dr nt ct pay fine kf na da TL TG LL LG N1 E1 P1 L1 S1 W1 X1 N2 E2 P2 L2 S2 W2 X2) (hTr : trC ct nt) : Met l yX10_drawn (wsT yX10_drawn cX10_drawn 3 (some .int)) ({ frames := 7, cells := 0, slots := 0, locals := 176 }) (bP G g f [.ref (g 0), .int a1, .int a2]) (bQi G g (fun (z9 : Int32) (f' : Nat → va_E) => (cJ G g f' np dp nf df nr dr nt ct pay fine kf na da TL TG LL LG N1 E1 P1 L1 S1 W1 X1 N2 E2 P2 L2 S2 W2 X2) ∧ ((¬ (inN a1 nt = true ∧ 0 ≤ a2) ∧ z9 = -2) ∨ (∃ x, x < nt ∧ a1 = nI x ∧ 0 ≤ a2 ∧ z9 = drV (cBx np nf nr na dp df dr da ct LL LG x) (fun c => ct (70 * x + c)) a2)) ∧ ∀ j, 315 ≤ j → f' j = f j)) 0 0 (gA g) := cJ_elim hI (fun se hf imf mc op cm wu mk ab be mn le wt ww wb wf vv lf tf hx0 hctc hhs him hkp hrd hmk hfc6 hwt hw8 hw9 hw10 hw11 hvl hbk hpr hpd hfr hfd hor hod har had htr hct hla hlaa hts0 htsa hse hhf him0 him1 hmc hmn hnp hnf hnr hna hnt hlf htf hsn hH hSp hL hT hB1 hB2 hQ => jn_drawn l G g hg f se hf imf kf mc op cm wu mk ab be mn le wt ww wb wf vv pay fine np dp nf df nr dr na da nt ct lf tf TL TG LL LG N1 E1 P1 L1 S1 W1 X1 N2 E2 P2 L2 S2 W2 X2 a1 a2 hx0 hctc hhs him hkp hrd hmk hfc6 hwt hw8 hw9 hw10 hw11 hvl hbk hpr hpd hfr hfd hor hod har had htr hct hla hlaa hts0 htsa hse hhf him0 him1 hmc hmn hnp hnf hnr hna hnt hlf htf hsn hTr hH hSp hL hT hB1 hB2 hQ)
set_option maxHeartbeats 4000000 in
set_option maxRecDepth 100000 in
theorem jn_slip (l : Launch) (G : gW) (g : Nat → Nat) (hg : gOK g) (f : Nat → va_E) (se : Nat) (hf : Nat → Option Nat) (imf : Nat → Option Nat) (kf : Nat → Int32) (mc : Nat) (op : Int32) (cm : Int32) (wu : Int32) (mk : Nat → Int32) (ab : Int64) (be : Int64) (mn : Nat) (le : Int32) (wt : Nat → Int32) (ww : Nat → Int32) (wb : Nat → Int32) (wf : Nat → Int32) (vv : Nat → Int64) (pay : Int32) (fine : Int32) (np : Nat) (dp : Nat → Int32) (nf : Nat) (df : Nat → Int32) (nr : Nat) (dr : Nat → Int32) (na : Nat) (da : Nat → Int32) (nt : Nat) (ct : Nat → Int32) (lf : Nat → Option Nat) (tf : Nat → Option Nat) (TL : Nat → Nat) (TG : Nat → Nat → Int32) (LL : Nat → Nat) (LG : Nat → Nat → Int32) (N1 : Nat → Nat) (E1 : Nat → Nat → Int32) (P1 : Nat → Int32) (L1 : Nat → Nat) (S1 : Nat → Nat → Int32) (W1 : Nat → Nat) (X1 : Nat → Nat → Int32) (N2 : Nat → Nat) (E2 : Nat → Nat → Int32) (P2 : Nat → Int32) (L2 : Nat → Nat) (S2 : Nat → Nat → Int32) (W2 : Nat → Nat) (X2 : Nat → Nat → Int32) (a1 : Int32) (a2 : Int32) (hx0 : f 0 = eO 9 [.ref (g 1), .ref (g 36), .ref (g 2), .ref (g 3), .ref (g 4), .ref (g 6), .ref (g 7)]) (hctc : f 1 = eO 1 [.ref (g 36), .ref (g 12), .ref (g 13), .ref (g 15), .int (nI se)]) (hhs : f 12 = eA G 4 10 hf) (him : f 2 = eA G 3 2 imf) (hkp : f 3 = eZ G 2 kf) (hrd : f 4 = eO 4 [.ref (g 5), .int (nI mc), .int op, .int cm, .int wu]) (hmk : f 5 = eI G 50 mk) (hfc6 : f 6 = eO 2 [.long ab, .long be]) (hwt : f 7 = eO 8 [.ref (g 8), .ref (g 9), .ref (g 10), .ref (g 11), .int (nI mn), .int le]) (hw8 : f 8 = eI G 6 wt) (hw9 : f 9 = eI G 6 ww) (hw10 : f 10 = eI G 6 wb) (hw11 : f 11 = eI G 6 wf) (hvl : f 15 = eJ G 50 vv) (hbk : f 36 = eO 0 [.ref (g 37), .ref (g 39), .ref (g 41), .ref (g 43), .ref (g 45), .ref (g 47), .ref (g 112), .int pay, .int fine]) (hpr : f 37 = eO 5 [.int (nI 30), .int (nI 4), .ref (g 38), .int (nI np)]) (hpd : f 38 = eI G (30 * 4) dp) (hfr : f 39 = eO 5 [.int (nI 40), .int (nI 3), .ref (g 40), .int (nI nf)]) (hfd : f 40 = eI G (40 * 3) df) (hor : f 41 = eO 5 [.int (nI 4), .int (nI 3), .ref (g 42), .int (nI nr)]) (hod : f 42 = eI G (4 * 3) dr) (har : f 43 = eO 5 [.int (nI 20), .int (nI 3), .ref (g 44), .int (nI na)]) (had : f 44 = eI G (20 * 3) da) (htr : f 45 = eO 5 [.int (nI 10), .int (nI 70), .ref (g 46), .int (nI nt)]) (hct : f 46 = eI G (10 * 70) ct) (hla : f 47 = eO 6 [.ref (g 48), .ref (g 49)]) (hlaa : f 48 = eA G 5 20 lf) (hts0 : f 112 = eO 6 [.ref (g 113), .ref (g 114)]) (htsa : f 113 = eA G 5 4 tf) (hse : se ≤ 10) (hhf : ∀ i, i < 10 → hf i = some (g (2 * i + 16))) (him0 : imf 0 = some (g 129)) (him1 : imf 1 = some (g 222)) (hmc : mc ≤ 50) (hmn : mn ≤ 6) (hnp : np ≤ 30) (hnf : nf ≤ 40) (hnr : nr ≤ 4) (hna : na ≤ 20) (hnt : nt ≤ 10) (hlf : ∀ z, z < 20 → lf z = some (g (47 + 3 * z + 5))) (htf : ∀ z, z < 4 → tf z = some (g (112 + 3 * z + 5))) (hsn : se ≤ nt) (hTr : trC ct nt) (hH : ∀ i, i < 10 → okH G g f (2 * i + 16)) (hSp : okH G g f 13) (hL : ∀ i, i < 20 → ltx G g f (3 * i + 52) (LL i) (LG i) (i < na)) (hT : ∀ i, i < 4 → txt G g f (3 * i + 117) (TL i) (TG i)) (hB1 : bkD G g f 129 N1 E1 P1 L1 S1 W1 X1) (hB2 : bkD G g f 222 N2 E2 P2 L2 S2 W2 X2) (hQ : ∀ z, z < se → cHz G g f np nf nr na dp df dr da ct LL LG z) : Met l yX10_slip (wsT yX10_slip cX10_slip 3 (some .int)) ({ frames := 7, cells := 0, slots := 0, locals := 176 }) (bP G g f [.ref (g 0), .int a1, .int a2]) (bQi G g (fun (z9 : Int32) (f' : Nat → va_E) => (cJ G g f' np dp nf df nr dr nt ct pay fine kf na da TL TG LL LG N1 E1 P1 L1 S1 W1 X1 N2 E2 P2 L2 S2 W2 X2) ∧ ((¬ (inN a1 nt = true ∧ inN a2 np = true) ∧ z9 = -2) ∨ (∃ x p, x < nt ∧ a1 = nI x ∧ p < np ∧ a2 = nI p ∧ z9 = stZ (cBx np nf nr na dp df dr da ct LL LG x) (hCa (cBx np nf nr na dp df dr da ct LL LG x) (fun c => ct (70 * x + c))) (hMi (cBx np nf nr na dp df dr da ct LL LG x) (fun c => ct (70 * x + c))) (hX (cBx np nf nr na dp df dr da ct LL LG x) (fun c => ct (70 * x + c))) (hSw (cBx np nf nr na dp df dr da ct LL LG x) (pasV (cFt np nf nr na dp df dr da ct LL LG x) (cBx np nf nr na dp df dr da ct LL LG x)) (fun c => ct (70 * x + c))) p)) ∧ ∀ j, 315 ≤ j → f' j = f j)) 0 0 (gA g) := by
  refine Met.ofW (cc := cX10_slip) (maxL := 3) (ret := (some .int)) (by decide) rfl ?_
  intro p e s m args below meth c s₁ B hml hv
  obtain ⟨rfl, hP, hG⟩ := hv
  have hx := B.exec
  have hb := B.bytes
  have hr := B.returns
  have hts := my_hts (atoms_spec (ws := wsT yX10_slip cX10_slip 3 (some .int)) B.pre)
  have hown : s.vm.findClass RX10 = some m.cls := findClass_of_methodNamed B.named
  have hlocks := B.notSynchronized
  have hS : va_S (gA g) s.heap s.heap [] := va_S.rf
  have hl := lv_entry ([.ref (g 0), .int a1, .int a2]) (n := 3) (Nat.le_of_ble_eq_true rfl)
  rw [lg_entry_eq]
  generalize (lg_sl ([.ref (g 0), .int a1, .int a2]) ++ List.replicate (3 - (lg_sl ([.ref (g 0), .int a1, .int a2])).length) Slot.unset).toArray = ls at hl ⊢
  have hl : lv_has ls 3 [(0, .ref (g 0)), (1, .int a1), (2, .int a2)] := hl
  refine W_q8 (fun Q9 hQ9 => ?_)
  refine lv_aload_n hx hb dX10_slip_0 rfl (lv_at hl 0 rfl) ?_
  refine va_get (D := G.1) (ci := 9) (v := .ref (g 36)) (C := RX10) (T := TX10) (N := 7) hx hb hts inlX10 hown hG.1 hP 0 (wl_at (by decide) hx0) rfl 1 (by decide) (hts (.fieldLink RX10 20 "SwornLists" "book" "LSwornLists$Book;") w_16) (fun _ h9 => h9) rfl dX10_slip_1 ?_
  refine va_getN (D := G.1) (ci := 0) (v := .ref (g 45)) (C := RX0) (T := TX0) (N := 9) (host := RX10) hx hb hts inlX0 hown hG.1 hP 36 (wl_at (by decide) hbk) rfl 4 (by decide) (va_Nw.use rfl (hG.2.1 (.fieldLinkNest RX10 162 RX0 "trials" "LSwornLists$Rows;" RX10) (List.mem_of_getElem? (i := 7) rfl))) (fun _ h9 => h9) rfl dX10_slip_4 ?_
  refine lv_iload_n hx hb dX10_slip_7 rfl (lv_at hl 1 rfl) ?_
  refine rd_calli (va_runV (As := [.int a1]) (rest := []) ⟨hx, hb, hml, hown, hts⟩ (r_has l G g hg f 45 10 70 nt a1 htr (by first | assumption | omega | decide) (by first | assumption | omega | decide) (by first | assumption | omega | decide) (by first | assumption | omega | decide)) (my_cwV hts ok_X5_has w_174 rfl rfl ⟨Nat.le_of_ble_eq_true rfl, Nat.le_of_ble_eq_true rfl⟩) ⟨bP.blind, va_recv hG.1 hP (ci := 5) (q0 := 45) rfl (wl_at (by decide) htr), fun U hU hW => ⟨rfl, by rw [hU]; exact hP, kG.warm hW hG⟩⟩ rfl rfl hl.1 rfl (lv_room (Nat.le_of_ble_eq_true rfl)) dX10_slip_8 ⟨Nat.le_of_ble_eq_true rfl, Nat.le_of_ble_eq_true rfl⟩) (fun r hr9 => ?_)
  subst hr9
  refine my_ifeq (tgt := 28) hx hb dX10_slip_11 (by decide) (fun c_11 => ?_) (fun c_11 => ?_)
  · refine lv_bipush (v := (-2)) hx hb dX10_slip_28 (by decide) ?_
    refine W_q9 hQ9 ?_
    exact W.iret (v := (-2)) hx hb hr (fun _ hT9 _ => ⟨⟨_, f, rfl, (⟨cJ_mk (se) (hf) (imf) (mc) (op) (cm) (wu) (mk) (ab) (be) (mn) (le) (wt) (ww) (wb) (wf) (vv) (lf) (tf) (hx0) (hctc) (hhs) (him) (hkp) (hrd) (hmk) (hfc6) (hwt) (hw8) (hw9) (hw10) (hw11) (hvl) (hbk) (hpr) (hpd) (hfr) (hfd) (hor) (hod) (har) (had) (htr) (hct) (hla) (hlaa) (hts0) (htsa) (by omega) (hhf) (him0) (him1) (by omega) (by omega) (by omega) (by omega) (by omega) (by omega) (by omega) (hlf) (htf) (by omega) (hH) (hSp) (hL) (hT) (hB1) (hB2) (hQ), (Or.inl ⟨fun z => c_11 z.1, rfl⟩), fun j hj => rfl⟩), by rw [hT9]; exact hP⟩, hS.F hT9⟩) hS.2.2 dX10_slip_30
  · refine lv_aload_n hx hb dX10_slip_14 rfl (lv_at hl 0 rfl) ?_
    refine va_get (D := G.1) (ci := 9) (v := .ref (g 36)) (C := RX10) (T := TX10) (N := 7) hx hb hts inlX10 hown hG.1 hP 0 (wl_at (by decide) hx0) rfl 1 (by decide) (hts (.fieldLink RX10 20 "SwornLists" "book" "LSwornLists$Book;") w_16) (fun _ h9 => h9) rfl dX10_slip_15 ?_
    refine va_getN (D := G.1) (ci := 0) (v := .ref (g 37)) (C := RX0) (T := TX0) (N := 9) (host := RX10) hx hb hts inlX0 hown hG.1 hP 36 (wl_at (by decide) hbk) rfl 0 (by decide) (va_Nw.use rfl (hG.2.1 (.fieldLinkNest RX10 57 RX0 "people" "LSwornLists$Rows;" RX10) (List.mem_of_getElem? (i := 0) rfl))) (fun _ h9 => h9) rfl dX10_slip_18 ?_
    refine lv_iload_n hx hb dX10_slip_21 rfl (lv_at hl 2 rfl) ?_
    refine rd_calli (va_runV (As := [.int a2]) (rest := []) ⟨hx, hb, hml, hown, hts⟩ (r_has l G g hg f 37 30 4 np a2 hpr (by first | assumption | omega | decide) (by first | assumption | omega | decide) (by first | assumption | omega | decide) (by first | assumption | omega | decide)) (my_cwV hts ok_X5_has w_174 rfl rfl ⟨Nat.le_of_ble_eq_true rfl, Nat.le_of_ble_eq_true rfl⟩) ⟨bP.blind, va_recv hG.1 hP (ci := 5) (q0 := 37) rfl (wl_at (by decide) hpr), fun U hU hW => ⟨rfl, by rw [hU]; exact hP, kG.warm hW hG⟩⟩ rfl rfl hl.1 rfl (lv_room (Nat.le_of_ble_eq_true rfl)) dX10_slip_22 ⟨Nat.le_of_ble_eq_true rfl, Nat.le_of_ble_eq_true rfl⟩) (fun r hr9 => ?_)
    subst hr9
    refine my_ifne (tgt := 31) hx hb dX10_slip_25 (by decide) (fun c_25 => ?_) (fun c_25 => ?_)
    · obtain ⟨tn, htn, rfl⟩ := inN_nat (by omega) c_11
      obtain ⟨pn, hpn, rfl⟩ := inN_nat (by omega) c_25
      refine lv_aload_n hx hb dX10_slip_31 rfl (lv_at hl 0 rfl) ?_
      refine va_get (D := G.1) (ci := 9) (v := .ref (g 1)) (C := RX10) (T := TX10) (N := 7) hx hb hts inlX10 hown hG.1 hP 0 (wl_at (by decide) hx0) rfl 0 (by decide) (hts (.fieldLink RX10 12 "SwornLists" "court" "LSwornLists$Court;") w_15) (fun _ h9 => h9) rfl dX10_slip_32 ?_
      refine b_callv (va_runV (As := []) (rest := []) ⟨hx, hb, hml, hown, hts⟩ (u_settleE l G g hg f se hf pay fine nt ct np dp nf df nr dr na da lf vv LL LG hctc hhs hbk htr hct hpr hpd hfr hfd hor hod har had hla hlaa hvl (by first | assumption | omega | decide) (by first | assumption | omega | decide) (by first | assumption | omega | decide) (by first | assumption | omega | decide) (by first | assumption | omega | decide) (by first | assumption | omega | decide) (by first | assumption | omega | decide) (by first | assumption | omega | decide) (hTr.1) (hTr.2.1) (hTr.2.2.1) (by first | assumption | omega | decide) (hQ) (by first | assumption | omega | decide) (hL)) (my_cwV hts ok_X1_settle w_384 rfl rfl ⟨Nat.le_of_ble_eq_true rfl, Nat.le_of_ble_eq_true rfl⟩) ⟨bP.blind, va_recv hG.1 hP (ci := 1) (q0 := 1) rfl (wl_at (by decide) hctc), fun U hU hW => ⟨rfl, by rw [hU]; exact hP, kG.warm hW hG⟩⟩ rfl rfl hl.1 rfl (lv_room (Nat.le_of_ble_eq_true rfl)) dX10_slip_35 ⟨Nat.le_of_ble_eq_true rfl, Nat.le_of_ble_eq_true rfl⟩) hS (fun f_1 H locs hq9 hP hS => ?_)
      obtain ⟨vv91, hq_1_0, hq_1_1, hx_1_0, hx_1_1, o_1⟩ := hq9
      have hctc : f_1 1 = eO 1 [.ref (g 36), .ref (g 12), .ref (g 13), .ref (g 15), .int (nI nt)] := hq_1_0
      have hvl : f_1 15 = eJ G 50 vv91 := hq_1_1
      have hH : ∀ i, i < 10 → okH G g f_1 (2 * i + 16) := hx_1_0
      have hQn : ∀ z, z < nt → cHz G g f_1 np nf nr na dp df dr da ct LL LG z := hx_1_1
      obtain ⟨od7, hh7, ho7, hd7⟩ := id (hQn tn (by omega))
      have hm7 : hM (cBx np nf nr na dp df dr da ct LL LG tn) (fun c => ct (70 * tn + c)) ≤ 24 := by
        have h9 := hTr.2.2.1 tn (by omega)
        exact Nat.le_trans (Nat.min_le_left _ _) h9
      refine lv_aload_n hx hb dX10_slip_38 rfl (lv_at hl 0 rfl) ?_
      replace hx0 := ((o_1 0 (by first | decide | omega))).trans hx0
      refine va_get (D := G.1) (ci := 9) (v := .ref (g 1)) (C := RX10) (T := TX10) (N := 7) hx hb hts inlX10 hown hG.1 hP 0 (wl_at (by decide) hx0) rfl 0 (by decide) (hts (.fieldLink RX10 12 "SwornLists" "court" "LSwornLists$Court;") w_15) (fun _ h9 => h9) rfl dX10_slip_39 ?_
      refine lv_iload_n hx hb dX10_slip_42 rfl (lv_at hl 1 rfl) ?_
      replace hhs := ((o_1 12 (by first | decide | omega))).trans hhs
      refine rd_calla (va_runV (As := [.int (nI tn)]) (rest := []) ⟨hx, hb, hml, hown, hts⟩ (u_hearing l G g hg f_1 nt hf tn hctc hhs (by first | assumption | omega | decide) (by first | assumption | omega | decide) (by first | assumption | omega | decide)) (my_cwV hts ok_X1_hearing w_675 rfl rfl ⟨Nat.le_of_ble_eq_true rfl, Nat.le_of_ble_eq_true rfl⟩) ⟨bP.blind, va_recv hG.1 hP (ci := 1) (q0 := 1) rfl (wl_at (by decide) hctc), fun U hU hW => ⟨rfl, by rw [hU]; exact hP, kG.warm hW hG⟩⟩ rfl rfl hl.1 rfl (lv_room (Nat.le_of_ble_eq_true rfl)) dX10_slip_43 ⟨Nat.le_of_ble_eq_true rfl, Nat.le_of_ble_eq_true rfl⟩) (fun r hr9 => ?_)
      subst hr9
      refine lv_iload_n hx hb dX10_slip_46 rfl (lv_at hl 2 rfl) ?_
      refine rd_calli (va_runV (As := [.int (nI pn)]) (rest := []) ⟨hx, hb, hml, hown, hts⟩ (h_standingE l G g hg f_1 (2 * tn + 16) (hM (cBx np nf nr na dp df dr da ct LL LG tn) (fun c => ct (70 * tn + c))) (lotF (ct (70 * tn + 7)) (hM (cBx np nf nr na dp df dr da ct LL LG tn) (fun c => ct (70 * tn + c)))) (cBx np nf nr na dp df dr da ct LL LG tn) (hCa (cBx np nf nr na dp df dr da ct LL LG tn) (fun c => ct (70 * tn + c))) (hMi (cBx np nf nr na dp df dr da ct LL LG tn) (fun c => ct (70 * tn + c))) ((hX (cBx np nf nr na dp df dr da ct LL LG tn) (fun c => ct (70 * tn + c))).1) ((hX (cBx np nf nr na dp df dr da ct LL LG tn) (fun c => ct (70 * tn + c))).2) (hSw (cBx np nf nr na dp df dr da ct LL LG tn) (pasV (cFt np nf nr na dp df dr da ct LL LG tn) (cBx np nf nr na dp df dr da ct LL LG tn)) (fun c => ct (70 * tn + c))) pn hh7 (by first | assumption | omega | decide) (hm7) (by first | assumption | omega | decide)) (my_cwV hts ok_X3_standing w_700 rfl rfl ⟨Nat.le_of_ble_eq_true rfl, Nat.le_of_ble_eq_true rfl⟩) ⟨bP.blind, va_recv hG.1 hP (ci := 3) (q0 := (2 * tn + 16)) rfl (wl_at (by omega) hh7), fun U hU hW => ⟨rfl, by rw [hU]; exact hP, kG.warm hW hG⟩⟩ rfl rfl hl.1 rfl (lv_room (Nat.le_of_ble_eq_true rfl)) dX10_slip_47 ⟨Nat.le_of_ble_eq_true rfl, Nat.le_of_ble_eq_true rfl⟩) (fun r hr9 => ?_)
      subst hr9
      refine W_q9 hQ9 ?_
      replace him := ((o_1 2 (by first | decide | omega))).trans him
      replace hkp := ((o_1 3 (by first | decide | omega))).trans hkp
      replace hrd := ((o_1 4 (by first | decide | omega))).trans hrd
      replace hmk := ((o_1 5 (by first | decide | omega))).trans hmk
      replace hfc6 := ((o_1 6 (by first | decide | omega))).trans hfc6
      replace hwt := ((o_1 7 (by first | decide | omega))).trans hwt
      replace hw8 := ((o_1 8 (by first | decide | omega))).trans hw8
      replace hw9 := ((o_1 9 (by first | decide | omega))).trans hw9
      replace hw10 := ((o_1 10 (by first | decide | omega))).trans hw10
      replace hw11 := ((o_1 11 (by first | decide | omega))).trans hw11
      replace hbk := ((o_1 36 (by first | decide | omega))).trans hbk
      replace hpr := ((o_1 37 (by first | decide | omega))).trans hpr
      replace hpd := ((o_1 38 (by first | decide | omega))).trans hpd
      replace hfr := ((o_1 39 (by first | decide | omega))).trans hfr
      replace hfd := ((o_1 40 (by first | decide | omega))).trans hfd
      replace hor := ((o_1 41 (by first | decide | omega))).trans hor
      replace hod := ((o_1 42 (by first | decide | omega))).trans hod
      replace har := ((o_1 43 (by first | decide | omega))).trans har
      replace had := ((o_1 44 (by first | decide | omega))).trans had
      replace htr := ((o_1 45 (by first | decide | omega))).trans htr
      replace hct := ((o_1 46 (by first | decide | omega))).trans hct
      replace hla := ((o_1 47 (by first | decide | omega))).trans hla
      replace hlaa := ((o_1 48 (by first | decide | omega))).trans hlaa
      replace hts0 := ((o_1 112 (by first | decide | omega))).trans hts0
      replace htsa := ((o_1 113 (by first | decide | omega))).trans htsa
      replace hSp : okH G g f_1 13 := okH_fr hSp (o_1 _ (by omega)) (o_1 _ (by omega))
      replace hL : ∀ i, i < 20 → ltx G g f_1 (3 * i + 52) (LL i) (LG i) (i < na) := fun z hz => ltx_fr (hL z hz) (o_1 _ (by omega)) (o_1 _ (by omega)) (o_1 _ (by omega))
      replace hT : ∀ i, i < 4 → txt G g f_1 (3 * i + 117) (TL i) (TG i) := fun z hz => txt_fr (hT z hz) (o_1 _ (by omega)) (o_1 _ (by omega)) (o_1 _ (by omega))
      replace hB1 : bkD G g f_1 129 N1 E1 P1 L1 S1 W1 X1 := bkD_fr hB1 (fun j _ _ => o_1 j (by omega))
      replace hB2 : bkD G g f_1 222 N2 E2 P2 L2 S2 W2 X2 := bkD_fr hB2 (fun j _ _ => o_1 j (by omega))
      exact W.iret (v := stZ (cBx np nf nr na dp df dr da ct LL LG tn) (hCa (cBx np nf nr na dp df dr da ct LL LG tn) (fun c => ct (70 * tn + c))) (hMi (cBx np nf nr na dp df dr da ct LL LG tn) (fun c => ct (70 * tn + c))) (((hX (cBx np nf nr na dp df dr da ct LL LG tn) (fun c => ct (70 * tn + c))).1), ((hX (cBx np nf nr na dp df dr da ct LL LG tn) (fun c => ct (70 * tn + c))).2)) (hSw (cBx np nf nr na dp df dr da ct LL LG tn) (pasV (cFt np nf nr na dp df dr da ct LL LG tn) (cBx np nf nr na dp df dr da ct LL LG tn)) (fun c => ct (70 * tn + c))) pn) hx hb hr (fun _ hT9 _ => ⟨⟨_, f_1, rfl, (⟨cJ_mk (nt) (hf) (imf) (mc) (op) (cm) (wu) (mk) (ab) (be) (mn) (le) (wt) (ww) (wb) (wf) (vv91) (lf) (tf) (hx0) (hctc) (hhs) (him) (hkp) (hrd) (hmk) (hfc6) (hwt) (hw8) (hw9) (hw10) (hw11) (hvl) (hbk) (hpr) (hpd) (hfr) (hfd) (hor) (hod) (har) (had) (htr) (hct) (hla) (hlaa) (hts0) (htsa) (by omega) (hhf) (him0) (him1) (by omega) (by omega) (by omega) (by omega) (by omega) (by omega) (by omega) (hlf) (htf) (by omega) (hH) (hSp) (hL) (hT) (hB1) (hB2) (hQn), (Or.inr ⟨tn, pn, htn, rfl, hpn, rfl, rfl⟩), fun j hj => (o_1 j (by omega))⟩), by rw [hT9]; exact hP⟩, hS.F hT9⟩) hS.2.2 dX10_slip_50
    · refine lv_bipush (v := (-2)) hx hb dX10_slip_28 (by decide) ?_
      refine W_q9 hQ9 ?_
      exact W.iret (v := (-2)) hx hb hr (fun _ hT9 _ => ⟨⟨_, f, rfl, (⟨cJ_mk (se) (hf) (imf) (mc) (op) (cm) (wu) (mk) (ab) (be) (mn) (le) (wt) (ww) (wb) (wf) (vv) (lf) (tf) (hx0) (hctc) (hhs) (him) (hkp) (hrd) (hmk) (hfc6) (hwt) (hw8) (hw9) (hw10) (hw11) (hvl) (hbk) (hpr) (hpd) (hfr) (hfd) (hor) (hod) (har) (had) (htr) (hct) (hla) (hlaa) (hts0) (htsa) (by omega) (hhf) (him0) (him1) (by omega) (by omega) (by omega) (by omega) (by omega) (by omega) (by omega) (hlf) (htf) (by omega) (hH) (hSp) (hL) (hT) (hB1) (hB2) (hQ), (Or.inl ⟨fun z => c_25 z.2, rfl⟩), fun j hj => rfl⟩), by rw [hT9]; exact hP⟩, hS.F hT9⟩) hS.2.2 dX10_slip_30
theorem j_slip (l : Launch) (G : gW) (g : Nat → Nat) (hg : gOK g) (f : Nat → va_E) (np : Nat) (dp : Nat → Int32) (nf : Nat) (df : Nat → Int32) (nr : Nat) (dr : Nat → Int32) (nt : Nat) (ct : Nat → Int32) (pay : Int32) (fine : Int32) (kf : Nat → Int32) (na : Nat) (da : Nat → Int32) (TL : Nat → Nat) (TG : Nat → Nat → Int32) (LL : Nat → Nat) (LG : Nat → Nat → Int32) (N1 : Nat → Nat) (E1 : Nat → Nat → Int32) (P1 : Nat → Int32) (L1 : Nat → Nat) (S1 : Nat → Nat → Int32) (W1 : Nat → Nat) (X1 : Nat → Nat → Int32) (N2 : Nat → Nat) (E2 : Nat → Nat → Int32) (P2 : Nat → Int32) (L2 : Nat → Nat) (S2 : Nat → Nat → Int32) (W2 : Nat → Nat) (X2 : Nat → Nat → Int32) (a1 : Int32) (a2 : Int32) (hI : cJ G g f np dp nf df nr dr nt ct pay fine kf na da TL TG LL LG N1 E1 P1 L1 S1 W1 X1 N2 E2 P2 L2 S2 W2 X2) (hTr : trC ct nt) : Met l yX10_slip (wsT yX10_slip cX10_slip 3 (some .int)) ({ frames := 7, cells := 0, slots := 0, locals := 176 }) (bP G g f [.ref (g 0), .int a1, .int a2]) (bQi G g (fun (z9 : Int32) (f' : Nat → va_E) => (cJ G g f' np dp nf df nr dr nt ct pay fine kf na da TL TG LL LG N1 E1 P1 L1 S1 W1 X1 N2 E2 P2 L2 S2 W2 X2) ∧ ((¬ (inN a1 nt = true ∧ inN a2 np = true) ∧ z9 = -2) ∨ (∃ x p, x < nt ∧ a1 = nI x ∧ p < np ∧ a2 = nI p ∧ z9 = stZ (cBx np nf nr na dp df dr da ct LL LG x) (hCa (cBx np nf nr na dp df dr da ct LL LG x) (fun c => ct (70 * x + c))) (hMi (cBx np nf nr na dp df dr da ct LL LG x) (fun c => ct (70 * x + c))) (hX (cBx np nf nr na dp df dr da ct LL LG x) (fun c => ct (70 * x + c))) (hSw (cBx np nf nr na dp df dr da ct LL LG x) (pasV (cFt np nf nr na dp df dr da ct LL LG x) (cBx np nf nr na dp df dr da ct LL LG x)) (fun c => ct (70 * x + c))) p)) ∧ ∀ j, 315 ≤ j → f' j = f j)) 0 0 (gA g) := cJ_elim hI (fun se hf imf mc op cm wu mk ab be mn le wt ww wb wf vv lf tf hx0 hctc hhs him hkp hrd hmk hfc6 hwt hw8 hw9 hw10 hw11 hvl hbk hpr hpd hfr hfd hor hod har had htr hct hla hlaa hts0 htsa hse hhf him0 him1 hmc hmn hnp hnf hnr hna hnt hlf htf hsn hH hSp hL hT hB1 hB2 hQ => jn_slip l G g hg f se hf imf kf mc op cm wu mk ab be mn le wt ww wb wf vv pay fine np dp nf df nr dr na da nt ct lf tf TL TG LL LG N1 E1 P1 L1 S1 W1 X1 N2 E2 P2 L2 S2 W2 X2 a1 a2 hx0 hctc hhs him hkp hrd hmk hfc6 hwt hw8 hw9 hw10 hw11 hvl hbk hpr hpd hfr hfd hor hod har had htr hct hla hlaa hts0 htsa hse hhf him0 him1 hmc hmn hnp hnf hnr hna hnt hlf htf hsn hTr hH hSp hL hT hB1 hB2 hQ)
set_option maxHeartbeats 4000000 in
set_option maxRecDepth 100000 in
theorem jn_jury (l : Launch) (G : gW) (g : Nat → Nat) (hg : gOK g) (f : Nat → va_E) (se : Nat) (hf : Nat → Option Nat) (imf : Nat → Option Nat) (kf : Nat → Int32) (mc : Nat) (op : Int32) (cm : Int32) (wu : Int32) (mk : Nat → Int32) (ab : Int64) (be : Int64) (mn : Nat) (le : Int32) (wt : Nat → Int32) (ww : Nat → Int32) (wb : Nat → Int32) (wf : Nat → Int32) (vv : Nat → Int64) (pay : Int32) (fine : Int32) (np : Nat) (dp : Nat → Int32) (nf : Nat) (df : Nat → Int32) (nr : Nat) (dr : Nat → Int32) (na : Nat) (da : Nat → Int32) (nt : Nat) (ct : Nat → Int32) (lf : Nat → Option Nat) (tf : Nat → Option Nat) (TL : Nat → Nat) (TG : Nat → Nat → Int32) (LL : Nat → Nat) (LG : Nat → Nat → Int32) (N1 : Nat → Nat) (E1 : Nat → Nat → Int32) (P1 : Nat → Int32) (L1 : Nat → Nat) (S1 : Nat → Nat → Int32) (W1 : Nat → Nat) (X1 : Nat → Nat → Int32) (N2 : Nat → Nat) (E2 : Nat → Nat → Int32) (P2 : Nat → Int32) (L2 : Nat → Nat) (S2 : Nat → Nat → Int32) (W2 : Nat → Nat) (X2 : Nat → Nat → Int32) (a1 : Int32) (hx0 : f 0 = eO 9 [.ref (g 1), .ref (g 36), .ref (g 2), .ref (g 3), .ref (g 4), .ref (g 6), .ref (g 7)]) (hctc : f 1 = eO 1 [.ref (g 36), .ref (g 12), .ref (g 13), .ref (g 15), .int (nI se)]) (hhs : f 12 = eA G 4 10 hf) (him : f 2 = eA G 3 2 imf) (hkp : f 3 = eZ G 2 kf) (hrd : f 4 = eO 4 [.ref (g 5), .int (nI mc), .int op, .int cm, .int wu]) (hmk : f 5 = eI G 50 mk) (hfc6 : f 6 = eO 2 [.long ab, .long be]) (hwt : f 7 = eO 8 [.ref (g 8), .ref (g 9), .ref (g 10), .ref (g 11), .int (nI mn), .int le]) (hw8 : f 8 = eI G 6 wt) (hw9 : f 9 = eI G 6 ww) (hw10 : f 10 = eI G 6 wb) (hw11 : f 11 = eI G 6 wf) (hvl : f 15 = eJ G 50 vv) (hbk : f 36 = eO 0 [.ref (g 37), .ref (g 39), .ref (g 41), .ref (g 43), .ref (g 45), .ref (g 47), .ref (g 112), .int pay, .int fine]) (hpr : f 37 = eO 5 [.int (nI 30), .int (nI 4), .ref (g 38), .int (nI np)]) (hpd : f 38 = eI G (30 * 4) dp) (hfr : f 39 = eO 5 [.int (nI 40), .int (nI 3), .ref (g 40), .int (nI nf)]) (hfd : f 40 = eI G (40 * 3) df) (hor : f 41 = eO 5 [.int (nI 4), .int (nI 3), .ref (g 42), .int (nI nr)]) (hod : f 42 = eI G (4 * 3) dr) (har : f 43 = eO 5 [.int (nI 20), .int (nI 3), .ref (g 44), .int (nI na)]) (had : f 44 = eI G (20 * 3) da) (htr : f 45 = eO 5 [.int (nI 10), .int (nI 70), .ref (g 46), .int (nI nt)]) (hct : f 46 = eI G (10 * 70) ct) (hla : f 47 = eO 6 [.ref (g 48), .ref (g 49)]) (hlaa : f 48 = eA G 5 20 lf) (hts0 : f 112 = eO 6 [.ref (g 113), .ref (g 114)]) (htsa : f 113 = eA G 5 4 tf) (hse : se ≤ 10) (hhf : ∀ i, i < 10 → hf i = some (g (2 * i + 16))) (him0 : imf 0 = some (g 129)) (him1 : imf 1 = some (g 222)) (hmc : mc ≤ 50) (hmn : mn ≤ 6) (hnp : np ≤ 30) (hnf : nf ≤ 40) (hnr : nr ≤ 4) (hna : na ≤ 20) (hnt : nt ≤ 10) (hlf : ∀ z, z < 20 → lf z = some (g (47 + 3 * z + 5))) (htf : ∀ z, z < 4 → tf z = some (g (112 + 3 * z + 5))) (hsn : se ≤ nt) (hTr : trC ct nt) (hH : ∀ i, i < 10 → okH G g f (2 * i + 16)) (hSp : okH G g f 13) (hL : ∀ i, i < 20 → ltx G g f (3 * i + 52) (LL i) (LG i) (i < na)) (hT : ∀ i, i < 4 → txt G g f (3 * i + 117) (TL i) (TG i)) (hB1 : bkD G g f 129 N1 E1 P1 L1 S1 W1 X1) (hB2 : bkD G g f 222 N2 E2 P2 L2 S2 W2 X2) (hQ : ∀ z, z < se → cHz G g f np nf nr na dp df dr da ct LL LG z) : Met l yX10_jury (wsT yX10_jury cX10_jury 2 (some .int)) ({ frames := 7, cells := 0, slots := 0, locals := 176 }) (bP G g f [.ref (g 0), .int a1]) (bQi G g (fun (z9 : Int32) (f' : Nat → va_E) => (cJ G g f' np dp nf df nr dr nt ct pay fine kf na da TL TG LL LG N1 E1 P1 L1 S1 W1 X1 N2 E2 P2 L2 S2 W2 X2) ∧ ((¬ inN a1 nt = true ∧ z9 = -2) ∨ (∃ x, x < nt ∧ a1 = nI x ∧ z9 = cJr np nf nr na dp df dr da ct LL LG x)) ∧ ∀ j, 315 ≤ j → f' j = f j)) 0 0 (gA g) := by
  refine Met.ofW (cc := cX10_jury) (maxL := 2) (ret := (some .int)) (by decide) rfl ?_
  intro p e s m args below meth c s₁ B hml hv
  obtain ⟨rfl, hP, hG⟩ := hv
  have hx := B.exec
  have hb := B.bytes
  have hr := B.returns
  have hts := my_hts (atoms_spec (ws := wsT yX10_jury cX10_jury 2 (some .int)) B.pre)
  have hown : s.vm.findClass RX10 = some m.cls := findClass_of_methodNamed B.named
  have hlocks := B.notSynchronized
  have hS : va_S (gA g) s.heap s.heap [] := va_S.rf
  have hl := lv_entry ([.ref (g 0), .int a1]) (n := 2) (Nat.le_of_ble_eq_true rfl)
  rw [lg_entry_eq]
  generalize (lg_sl ([.ref (g 0), .int a1]) ++ List.replicate (2 - (lg_sl ([.ref (g 0), .int a1])).length) Slot.unset).toArray = ls at hl ⊢
  have hl : lv_has ls 2 [(0, .ref (g 0)), (1, .int a1)] := hl
  refine W_q8 (fun Q9 hQ9 => ?_)
  refine lv_aload_n hx hb dX10_jury_0 rfl (lv_at hl 0 rfl) ?_
  refine va_get (D := G.1) (ci := 9) (v := .ref (g 36)) (C := RX10) (T := TX10) (N := 7) hx hb hts inlX10 hown hG.1 hP 0 (wl_at (by decide) hx0) rfl 1 (by decide) (hts (.fieldLink RX10 20 "SwornLists" "book" "LSwornLists$Book;") w_16) (fun _ h9 => h9) rfl dX10_jury_1 ?_
  refine va_getN (D := G.1) (ci := 0) (v := .ref (g 45)) (C := RX0) (T := TX0) (N := 9) (host := RX10) hx hb hts inlX0 hown hG.1 hP 36 (wl_at (by decide) hbk) rfl 4 (by decide) (va_Nw.use rfl (hG.2.1 (.fieldLinkNest RX10 162 RX0 "trials" "LSwornLists$Rows;" RX10) (List.mem_of_getElem? (i := 7) rfl))) (fun _ h9 => h9) rfl dX10_jury_4 ?_
  refine lv_iload_n hx hb dX10_jury_7 rfl (lv_at hl 1 rfl) ?_
  refine rd_calli (va_runV (As := [.int a1]) (rest := []) ⟨hx, hb, hml, hown, hts⟩ (r_has l G g hg f 45 10 70 nt a1 htr (by first | assumption | omega | decide) (by first | assumption | omega | decide) (by first | assumption | omega | decide) (by first | assumption | omega | decide)) (my_cwV hts ok_X5_has w_174 rfl rfl ⟨Nat.le_of_ble_eq_true rfl, Nat.le_of_ble_eq_true rfl⟩) ⟨bP.blind, va_recv hG.1 hP (ci := 5) (q0 := 45) rfl (wl_at (by decide) htr), fun U hU hW => ⟨rfl, by rw [hU]; exact hP, kG.warm hW hG⟩⟩ rfl rfl hl.1 rfl (lv_room (Nat.le_of_ble_eq_true rfl)) dX10_jury_8 ⟨Nat.le_of_ble_eq_true rfl, Nat.le_of_ble_eq_true rfl⟩) (fun r hr9 => ?_)
  subst hr9
  refine my_ifne (tgt := 17) hx hb dX10_jury_11 (by decide) (fun c_11 => ?_) (fun c_11 => ?_)
  · obtain ⟨tn, htn, rfl⟩ := inN_nat (by omega) c_11
    refine lv_aload_n hx hb dX10_jury_17 rfl (lv_at hl 0 rfl) ?_
    refine va_get (D := G.1) (ci := 9) (v := .ref (g 1)) (C := RX10) (T := TX10) (N := 7) hx hb hts inlX10 hown hG.1 hP 0 (wl_at (by decide) hx0) rfl 0 (by decide) (hts (.fieldLink RX10 12 "SwornLists" "court" "LSwornLists$Court;") w_15) (fun _ h9 => h9) rfl dX10_jury_18 ?_
    refine b_callv (va_runV (As := []) (rest := []) ⟨hx, hb, hml, hown, hts⟩ (u_settleE l G g hg f se hf pay fine nt ct np dp nf df nr dr na da lf vv LL LG hctc hhs hbk htr hct hpr hpd hfr hfd hor hod har had hla hlaa hvl (by first | assumption | omega | decide) (by first | assumption | omega | decide) (by first | assumption | omega | decide) (by first | assumption | omega | decide) (by first | assumption | omega | decide) (by first | assumption | omega | decide) (by first | assumption | omega | decide) (by first | assumption | omega | decide) (hTr.1) (hTr.2.1) (hTr.2.2.1) (by first | assumption | omega | decide) (hQ) (by first | assumption | omega | decide) (hL)) (my_cwV hts ok_X1_settle w_384 rfl rfl ⟨Nat.le_of_ble_eq_true rfl, Nat.le_of_ble_eq_true rfl⟩) ⟨bP.blind, va_recv hG.1 hP (ci := 1) (q0 := 1) rfl (wl_at (by decide) hctc), fun U hU hW => ⟨rfl, by rw [hU]; exact hP, kG.warm hW hG⟩⟩ rfl rfl hl.1 rfl (lv_room (Nat.le_of_ble_eq_true rfl)) dX10_jury_21 ⟨Nat.le_of_ble_eq_true rfl, Nat.le_of_ble_eq_true rfl⟩) hS (fun f_1 H locs hq9 hP hS => ?_)
    obtain ⟨vv91, hq_1_0, hq_1_1, hx_1_0, hx_1_1, o_1⟩ := hq9
    have hctc : f_1 1 = eO 1 [.ref (g 36), .ref (g 12), .ref (g 13), .ref (g 15), .int (nI nt)] := hq_1_0
    have hvl : f_1 15 = eJ G 50 vv91 := hq_1_1
    have hH : ∀ i, i < 10 → okH G g f_1 (2 * i + 16) := hx_1_0
    have hQn : ∀ z, z < nt → cHz G g f_1 np nf nr na dp df dr da ct LL LG z := hx_1_1
    obtain ⟨od7, hh7, ho7, hd7⟩ := id (hQn tn (by omega))
    have hm7 : hM (cBx np nf nr na dp df dr da ct LL LG tn) (fun c => ct (70 * tn + c)) ≤ 24 := by
      have h9 := hTr.2.2.1 tn (by omega)
      exact Nat.le_trans (Nat.min_le_left _ _) h9
    refine lv_aload_n hx hb dX10_jury_24 rfl (lv_at hl 0 rfl) ?_
    replace hx0 := ((o_1 0 (by first | decide | omega))).trans hx0
    refine va_get (D := G.1) (ci := 9) (v := .ref (g 1)) (C := RX10) (T := TX10) (N := 7) hx hb hts inlX10 hown hG.1 hP 0 (wl_at (by decide) hx0) rfl 0 (by decide) (hts (.fieldLink RX10 12 "SwornLists" "court" "LSwornLists$Court;") w_15) (fun _ h9 => h9) rfl dX10_jury_25 ?_
    refine lv_iload_n hx hb dX10_jury_28 rfl (lv_at hl 1 rfl) ?_
    replace hhs := ((o_1 12 (by first | decide | omega))).trans hhs
    refine rd_calla (va_runV (As := [.int (nI tn)]) (rest := []) ⟨hx, hb, hml, hown, hts⟩ (u_hearing l G g hg f_1 nt hf tn hctc hhs (by first | assumption | omega | decide) (by first | assumption | omega | decide) (by first | assumption | omega | decide)) (my_cwV hts ok_X1_hearing w_675 rfl rfl ⟨Nat.le_of_ble_eq_true rfl, Nat.le_of_ble_eq_true rfl⟩) ⟨bP.blind, va_recv hG.1 hP (ci := 1) (q0 := 1) rfl (wl_at (by decide) hctc), fun U hU hW => ⟨rfl, by rw [hU]; exact hP, kG.warm hW hG⟩⟩ rfl rfl hl.1 rfl (lv_room (Nat.le_of_ble_eq_true rfl)) dX10_jury_29 ⟨Nat.le_of_ble_eq_true rfl, Nat.le_of_ble_eq_true rfl⟩) (fun r hr9 => ?_)
    subst hr9
    refine va_getN (D := G.1) (ci := 3) (v := .int (hSw (cBx np nf nr na dp df dr da ct LL LG tn) (pasV (cFt np nf nr na dp df dr da ct LL LG tn) (cBx np nf nr na dp df dr da ct LL LG tn)) (fun c => ct (70 * tn + c)))) (C := RX3) (T := TX3) (N := 9) (host := RX10) hx hb hts inlX3 hown hG.1 hP (2 * tn + 16) (wl_at (by omega) hh7) rfl 8 (by decide) (va_Nw.use rfl (hG.2.1 (.fieldLinkNest RX10 188 RX3 "sworn" "I" RX10) (List.mem_of_getElem? (i := 16) rfl))) (fun _ h9 => h9) rfl dX10_jury_32 ?_
    refine W_q9 hQ9 ?_
    replace him := ((o_1 2 (by first | decide | omega))).trans him
    replace hkp := ((o_1 3 (by first | decide | omega))).trans hkp
    replace hrd := ((o_1 4 (by first | decide | omega))).trans hrd
    replace hmk := ((o_1 5 (by first | decide | omega))).trans hmk
    replace hfc6 := ((o_1 6 (by first | decide | omega))).trans hfc6
    replace hwt := ((o_1 7 (by first | decide | omega))).trans hwt
    replace hw8 := ((o_1 8 (by first | decide | omega))).trans hw8
    replace hw9 := ((o_1 9 (by first | decide | omega))).trans hw9
    replace hw10 := ((o_1 10 (by first | decide | omega))).trans hw10
    replace hw11 := ((o_1 11 (by first | decide | omega))).trans hw11
    replace hbk := ((o_1 36 (by first | decide | omega))).trans hbk
    replace hpr := ((o_1 37 (by first | decide | omega))).trans hpr
    replace hpd := ((o_1 38 (by first | decide | omega))).trans hpd
    replace hfr := ((o_1 39 (by first | decide | omega))).trans hfr
    replace hfd := ((o_1 40 (by first | decide | omega))).trans hfd
    replace hor := ((o_1 41 (by first | decide | omega))).trans hor
    replace hod := ((o_1 42 (by first | decide | omega))).trans hod
    replace har := ((o_1 43 (by first | decide | omega))).trans har
    replace had := ((o_1 44 (by first | decide | omega))).trans had
    replace htr := ((o_1 45 (by first | decide | omega))).trans htr
    replace hct := ((o_1 46 (by first | decide | omega))).trans hct
    replace hla := ((o_1 47 (by first | decide | omega))).trans hla
    replace hlaa := ((o_1 48 (by first | decide | omega))).trans hlaa
    replace hts0 := ((o_1 112 (by first | decide | omega))).trans hts0
    replace htsa := ((o_1 113 (by first | decide | omega))).trans htsa
    replace hSp : okH G g f_1 13 := okH_fr hSp (o_1 _ (by omega)) (o_1 _ (by omega))
    replace hL : ∀ i, i < 20 → ltx G g f_1 (3 * i + 52) (LL i) (LG i) (i < na) := fun z hz => ltx_fr (hL z hz) (o_1 _ (by omega)) (o_1 _ (by omega)) (o_1 _ (by omega))
    replace hT : ∀ i, i < 4 → txt G g f_1 (3 * i + 117) (TL i) (TG i) := fun z hz => txt_fr (hT z hz) (o_1 _ (by omega)) (o_1 _ (by omega)) (o_1 _ (by omega))
    replace hB1 : bkD G g f_1 129 N1 E1 P1 L1 S1 W1 X1 := bkD_fr hB1 (fun j _ _ => o_1 j (by omega))
    replace hB2 : bkD G g f_1 222 N2 E2 P2 L2 S2 W2 X2 := bkD_fr hB2 (fun j _ _ => o_1 j (by omega))
    exact W.iret (v := hSw (cBx np nf nr na dp df dr da ct LL LG tn) (pasV (cFt np nf nr na dp df dr da ct LL LG tn) (cBx np nf nr na dp df dr da ct LL LG tn)) (fun c => ct (70 * tn + c))) hx hb hr (fun _ hT9 _ => ⟨⟨_, f_1, rfl, (⟨cJ_mk (nt) (hf) (imf) (mc) (op) (cm) (wu) (mk) (ab) (be) (mn) (le) (wt) (ww) (wb) (wf) (vv91) (lf) (tf) (hx0) (hctc) (hhs) (him) (hkp) (hrd) (hmk) (hfc6) (hwt) (hw8) (hw9) (hw10) (hw11) (hvl) (hbk) (hpr) (hpd) (hfr) (hfd) (hor) (hod) (har) (had) (htr) (hct) (hla) (hlaa) (hts0) (htsa) (by omega) (hhf) (him0) (him1) (by omega) (by omega) (by omega) (by omega) (by omega) (by omega) (by omega) (hlf) (htf) (by omega) (hH) (hSp) (hL) (hT) (hB1) (hB2) (hQn), (Or.inr ⟨tn, htn, rfl, cJr_eq.symm⟩), fun j hj => (o_1 j (by omega))⟩), by rw [hT9]; exact hP⟩, hS.F hT9⟩) hS.2.2 dX10_jury_35
  · refine lv_bipush (v := (-2)) hx hb dX10_jury_14 (by decide) ?_
    refine W_q9 hQ9 ?_
    exact W.iret (v := (-2)) hx hb hr (fun _ hT9 _ => ⟨⟨_, f, rfl, (⟨cJ_mk (se) (hf) (imf) (mc) (op) (cm) (wu) (mk) (ab) (be) (mn) (le) (wt) (ww) (wb) (wf) (vv) (lf) (tf) (hx0) (hctc) (hhs) (him) (hkp) (hrd) (hmk) (hfc6) (hwt) (hw8) (hw9) (hw10) (hw11) (hvl) (hbk) (hpr) (hpd) (hfr) (hfd) (hor) (hod) (har) (had) (htr) (hct) (hla) (hlaa) (hts0) (htsa) (by omega) (hhf) (him0) (him1) (by omega) (by omega) (by omega) (by omega) (by omega) (by omega) (by omega) (hlf) (htf) (by omega) (hH) (hSp) (hL) (hT) (hB1) (hB2) (hQ), (Or.inl ⟨c_11, rfl⟩), fun j hj => rfl⟩), by rw [hT9]; exact hP⟩, hS.F hT9⟩) hS.2.2 dX10_jury_16
theorem j_jury (l : Launch) (G : gW) (g : Nat → Nat) (hg : gOK g) (f : Nat → va_E) (np : Nat) (dp : Nat → Int32) (nf : Nat) (df : Nat → Int32) (nr : Nat) (dr : Nat → Int32) (nt : Nat) (ct : Nat → Int32) (pay : Int32) (fine : Int32) (kf : Nat → Int32) (na : Nat) (da : Nat → Int32) (TL : Nat → Nat) (TG : Nat → Nat → Int32) (LL : Nat → Nat) (LG : Nat → Nat → Int32) (N1 : Nat → Nat) (E1 : Nat → Nat → Int32) (P1 : Nat → Int32) (L1 : Nat → Nat) (S1 : Nat → Nat → Int32) (W1 : Nat → Nat) (X1 : Nat → Nat → Int32) (N2 : Nat → Nat) (E2 : Nat → Nat → Int32) (P2 : Nat → Int32) (L2 : Nat → Nat) (S2 : Nat → Nat → Int32) (W2 : Nat → Nat) (X2 : Nat → Nat → Int32) (a1 : Int32) (hI : cJ G g f np dp nf df nr dr nt ct pay fine kf na da TL TG LL LG N1 E1 P1 L1 S1 W1 X1 N2 E2 P2 L2 S2 W2 X2) (hTr : trC ct nt) : Met l yX10_jury (wsT yX10_jury cX10_jury 2 (some .int)) ({ frames := 7, cells := 0, slots := 0, locals := 176 }) (bP G g f [.ref (g 0), .int a1]) (bQi G g (fun (z9 : Int32) (f' : Nat → va_E) => (cJ G g f' np dp nf df nr dr nt ct pay fine kf na da TL TG LL LG N1 E1 P1 L1 S1 W1 X1 N2 E2 P2 L2 S2 W2 X2) ∧ ((¬ inN a1 nt = true ∧ z9 = -2) ∨ (∃ x, x < nt ∧ a1 = nI x ∧ z9 = cJr np nf nr na dp df dr da ct LL LG x)) ∧ ∀ j, 315 ≤ j → f' j = f j)) 0 0 (gA g) := cJ_elim hI (fun se hf imf mc op cm wu mk ab be mn le wt ww wb wf vv lf tf hx0 hctc hhs him hkp hrd hmk hfc6 hwt hw8 hw9 hw10 hw11 hvl hbk hpr hpd hfr hfd hor hod har had htr hct hla hlaa hts0 htsa hse hhf him0 him1 hmc hmn hnp hnf hnr hna hnt hlf htf hsn hH hSp hL hT hB1 hB2 hQ => jn_jury l G g hg f se hf imf kf mc op cm wu mk ab be mn le wt ww wb wf vv pay fine np dp nf df nr dr na da nt ct lf tf TL TG LL LG N1 E1 P1 L1 S1 W1 X1 N2 E2 P2 L2 S2 W2 X2 a1 hx0 hctc hhs him hkp hrd hmk hfc6 hwt hw8 hw9 hw10 hw11 hvl hbk hpr hpd hfr hfd hor hod har had htr hct hla hlaa hts0 htsa hse hhf him0 him1 hmc hmn hnp hnf hnr hna hnt hlf htf hsn hTr hH hSp hL hT hB1 hB2 hQ)
set_option maxHeartbeats 4000000 in
set_option maxRecDepth 100000 in
theorem jn_about (l : Launch) (G : gW) (g : Nat → Nat) (hg : gOK g) (f : Nat → va_E) (se : Nat) (hf : Nat → Option Nat) (imf : Nat → Option Nat) (kf : Nat → Int32) (mc : Nat) (op : Int32) (cm : Int32) (wu : Int32) (mk : Nat → Int32) (ab : Int64) (be : Int64) (mn : Nat) (le : Int32) (wt : Nat → Int32) (ww : Nat → Int32) (wb : Nat → Int32) (wf : Nat → Int32) (vv : Nat → Int64) (pay : Int32) (fine : Int32) (np : Nat) (dp : Nat → Int32) (nf : Nat) (df : Nat → Int32) (nr : Nat) (dr : Nat → Int32) (na : Nat) (da : Nat → Int32) (nt : Nat) (ct : Nat → Int32) (lf : Nat → Option Nat) (tf : Nat → Option Nat) (TL : Nat → Nat) (TG : Nat → Nat → Int32) (LL : Nat → Nat) (LG : Nat → Nat → Int32) (N1 : Nat → Nat) (E1 : Nat → Nat → Int32) (P1 : Nat → Int32) (L1 : Nat → Nat) (S1 : Nat → Nat → Int32) (W1 : Nat → Nat) (X1 : Nat → Nat → Int32) (N2 : Nat → Nat) (E2 : Nat → Nat → Int32) (P2 : Nat → Int32) (L2 : Nat → Nat) (S2 : Nat → Nat → Int32) (W2 : Nat → Nat) (X2 : Nat → Nat → Int32) (a1 : Int32) (a2 : Int32) (hx0 : f 0 = eO 9 [.ref (g 1), .ref (g 36), .ref (g 2), .ref (g 3), .ref (g 4), .ref (g 6), .ref (g 7)]) (hctc : f 1 = eO 1 [.ref (g 36), .ref (g 12), .ref (g 13), .ref (g 15), .int (nI se)]) (hhs : f 12 = eA G 4 10 hf) (him : f 2 = eA G 3 2 imf) (hkp : f 3 = eZ G 2 kf) (hrd : f 4 = eO 4 [.ref (g 5), .int (nI mc), .int op, .int cm, .int wu]) (hmk : f 5 = eI G 50 mk) (hfc6 : f 6 = eO 2 [.long ab, .long be]) (hwt : f 7 = eO 8 [.ref (g 8), .ref (g 9), .ref (g 10), .ref (g 11), .int (nI mn), .int le]) (hw8 : f 8 = eI G 6 wt) (hw9 : f 9 = eI G 6 ww) (hw10 : f 10 = eI G 6 wb) (hw11 : f 11 = eI G 6 wf) (hvl : f 15 = eJ G 50 vv) (hbk : f 36 = eO 0 [.ref (g 37), .ref (g 39), .ref (g 41), .ref (g 43), .ref (g 45), .ref (g 47), .ref (g 112), .int pay, .int fine]) (hpr : f 37 = eO 5 [.int (nI 30), .int (nI 4), .ref (g 38), .int (nI np)]) (hpd : f 38 = eI G (30 * 4) dp) (hfr : f 39 = eO 5 [.int (nI 40), .int (nI 3), .ref (g 40), .int (nI nf)]) (hfd : f 40 = eI G (40 * 3) df) (hor : f 41 = eO 5 [.int (nI 4), .int (nI 3), .ref (g 42), .int (nI nr)]) (hod : f 42 = eI G (4 * 3) dr) (har : f 43 = eO 5 [.int (nI 20), .int (nI 3), .ref (g 44), .int (nI na)]) (had : f 44 = eI G (20 * 3) da) (htr : f 45 = eO 5 [.int (nI 10), .int (nI 70), .ref (g 46), .int (nI nt)]) (hct : f 46 = eI G (10 * 70) ct) (hla : f 47 = eO 6 [.ref (g 48), .ref (g 49)]) (hlaa : f 48 = eA G 5 20 lf) (hts0 : f 112 = eO 6 [.ref (g 113), .ref (g 114)]) (htsa : f 113 = eA G 5 4 tf) (hse : se ≤ 10) (hhf : ∀ i, i < 10 → hf i = some (g (2 * i + 16))) (him0 : imf 0 = some (g 129)) (him1 : imf 1 = some (g 222)) (hmc : mc ≤ 50) (hmn : mn ≤ 6) (hnp : np ≤ 30) (hnf : nf ≤ 40) (hnr : nr ≤ 4) (hna : na ≤ 20) (hnt : nt ≤ 10) (hlf : ∀ z, z < 20 → lf z = some (g (47 + 3 * z + 5))) (htf : ∀ z, z < 4 → tf z = some (g (112 + 3 * z + 5))) (hsn : se ≤ nt) (hTr : trC ct nt) (hH : ∀ i, i < 10 → okH G g f (2 * i + 16)) (hSp : okH G g f 13) (hL : ∀ i, i < 20 → ltx G g f (3 * i + 52) (LL i) (LG i) (i < na)) (hT : ∀ i, i < 4 → txt G g f (3 * i + 117) (TL i) (TG i)) (hB1 : bkD G g f 129 N1 E1 P1 L1 S1 W1 X1) (hB2 : bkD G g f 222 N2 E2 P2 L2 S2 W2 X2) (hQ : ∀ z, z < se → cHz G g f np nf nr na dp df dr da ct LL LG z) : Met l yX10_about (wsT yX10_about cX10_about 3 (some .int)) ({ frames := 7, cells := 0, slots := 0, locals := 176 }) (bP G g f [.ref (g 0), .int a1, .int a2]) (bQi G g (fun (z9 : Int32) (f' : Nat → va_E) => (cJ G g f' np dp nf df nr dr nt ct pay fine kf na da TL TG LL LG N1 E1 P1 L1 S1 W1 X1 N2 E2 P2 L2 S2 W2 X2) ∧ ((¬ (inN a1 nt = true ∧ inB 0 a2 3 = true) ∧ z9 = -2000000000) ∨ (∃ x k, x < nt ∧ a1 = nI x ∧ k ≤ 3 ∧ a2 = nI k ∧ z9 = abV (cBx np nf nr na dp df dr da ct LL LG x) (pasV (cFt np nf nr na dp df dr da ct LL LG x) (cBx np nf nr na dp df dr da ct LL LG x)) (fun c => ct (70 * x + c)) k)) ∧ ∀ j, 315 ≤ j → f' j = f j)) 0 0 (gA g) := by
  refine Met.ofW (cc := cX10_about) (maxL := 3) (ret := (some .int)) (by decide) rfl ?_
  intro p e s m args below meth c s₁ B hml hv
  obtain ⟨rfl, hP, hG⟩ := hv
  have hx := B.exec
  have hb := B.bytes
  have hr := B.returns
  have hts := my_hts (atoms_spec (ws := wsT yX10_about cX10_about 3 (some .int)) B.pre)
  have hown : s.vm.findClass RX10 = some m.cls := findClass_of_methodNamed B.named
  have hlocks := B.notSynchronized
  have hS : va_S (gA g) s.heap s.heap [] := va_S.rf
  have hl := lv_entry ([.ref (g 0), .int a1, .int a2]) (n := 3) (Nat.le_of_ble_eq_true rfl)
  rw [lg_entry_eq]
  generalize (lg_sl ([.ref (g 0), .int a1, .int a2]) ++ List.replicate (3 - (lg_sl ([.ref (g 0), .int a1, .int a2])).length) Slot.unset).toArray = ls at hl ⊢
  have hl : lv_has ls 3 [(0, .ref (g 0)), (1, .int a1), (2, .int a2)] := hl
  refine W_q8 (fun Q9 hQ9 => ?_)
  refine lv_aload_n hx hb dX10_about_0 rfl (lv_at hl 0 rfl) ?_
  refine va_get (D := G.1) (ci := 9) (v := .ref (g 36)) (C := RX10) (T := TX10) (N := 7) hx hb hts inlX10 hown hG.1 hP 0 (wl_at (by decide) hx0) rfl 1 (by decide) (hts (.fieldLink RX10 20 "SwornLists" "book" "LSwornLists$Book;") w_16) (fun _ h9 => h9) rfl dX10_about_1 ?_
  refine va_getN (D := G.1) (ci := 0) (v := .ref (g 45)) (C := RX0) (T := TX0) (N := 9) (host := RX10) hx hb hts inlX0 hown hG.1 hP 36 (wl_at (by decide) hbk) rfl 4 (by decide) (va_Nw.use rfl (hG.2.1 (.fieldLinkNest RX10 162 RX0 "trials" "LSwornLists$Rows;" RX10) (List.mem_of_getElem? (i := 7) rfl))) (fun _ h9 => h9) rfl dX10_about_4 ?_
  refine lv_iload_n hx hb dX10_about_7 rfl (lv_at hl 1 rfl) ?_
  refine rd_calli (va_runV (As := [.int a1]) (rest := []) ⟨hx, hb, hml, hown, hts⟩ (r_has l G g hg f 45 10 70 nt a1 htr (by first | assumption | omega | decide) (by first | assumption | omega | decide) (by first | assumption | omega | decide) (by first | assumption | omega | decide)) (my_cwV hts ok_X5_has w_174 rfl rfl ⟨Nat.le_of_ble_eq_true rfl, Nat.le_of_ble_eq_true rfl⟩) ⟨bP.blind, va_recv hG.1 hP (ci := 5) (q0 := 45) rfl (wl_at (by decide) htr), fun U hU hW => ⟨rfl, by rw [hU]; exact hP, kG.warm hW hG⟩⟩ rfl rfl hl.1 rfl (lv_room (Nat.le_of_ble_eq_true rfl)) dX10_about_8 ⟨Nat.le_of_ble_eq_true rfl, Nat.le_of_ble_eq_true rfl⟩) (fun r hr9 => ?_)
  subst hr9
  refine my_ifeq (tgt := 23) hx hb dX10_about_11 (by decide) (fun c_11 => ?_) (fun c_11 => ?_)
  · refine lv_ldc (v := (-2000000000)) hx hb hown (hts (.constant RX10 191 (-2000000000)) w_720) dX10_about_23 ?_
    refine W_q9 hQ9 ?_
    exact W.iret (v := (-2000000000)) hx hb hr (fun _ hT9 _ => ⟨⟨_, f, rfl, (⟨cJ_mk (se) (hf) (imf) (mc) (op) (cm) (wu) (mk) (ab) (be) (mn) (le) (wt) (ww) (wb) (wf) (vv) (lf) (tf) (hx0) (hctc) (hhs) (him) (hkp) (hrd) (hmk) (hfc6) (hwt) (hw8) (hw9) (hw10) (hw11) (hvl) (hbk) (hpr) (hpd) (hfr) (hfd) (hor) (hod) (har) (had) (htr) (hct) (hla) (hlaa) (hts0) (htsa) (by omega) (hhf) (him0) (him1) (by omega) (by omega) (by omega) (by omega) (by omega) (by omega) (by omega) (hlf) (htf) (by omega) (hH) (hSp) (hL) (hT) (hB1) (hB2) (hQ), (Or.inl ⟨fun z => c_11 z.1, rfl⟩), fun j hj => rfl⟩), by rw [hT9]; exact hP⟩, hS.F hT9⟩) hS.2.2 dX10_about_25
  · refine lv_iload_n hx hb dX10_about_14 rfl (lv_at hl 2 rfl) ?_
    refine lv_iconst (v := 0) hx hb dX10_about_15 (by decide) ?_
    refine lv_iconst (v := 3) hx hb dX10_about_16 (by decide) ?_
    refine rd_calli (va_runS (As := [.int a2, .int 0, .int 3]) (rest := []) ⟨hx, hb, hml, hown, hts⟩ (s_within l G g hg f a2 0 3  ) (my_cwS hts ok_X10_within w_134 rfl rfl ⟨Nat.le_of_ble_eq_true rfl, Nat.le_of_ble_eq_true rfl⟩) ⟨bP.blind, fun U hU hW => ⟨rfl, by rw [hU]; exact hP, kG.warm hW hG⟩⟩ rfl rfl hl.1 rfl (lv_room (Nat.le_of_ble_eq_true rfl)) dX10_about_17 ⟨Nat.le_of_ble_eq_true rfl, Nat.le_of_ble_eq_true rfl⟩) (fun r hr9 => ?_)
    subst hr9
    refine my_ifne (tgt := 26) hx hb dX10_about_20 (by decide) (fun c_20 => ?_) (fun c_20 => ?_)
    · rcases fig4 c_20 with e9 | e9 | e9 | e9
      · subst e9
        obtain ⟨tn, htn, rfl⟩ := inN_nat (by omega) c_11
        refine lv_aload_n hx hb dX10_about_26 rfl (lv_at hl 0 rfl) ?_
        refine va_get (D := G.1) (ci := 9) (v := .ref (g 1)) (C := RX10) (T := TX10) (N := 7) hx hb hts inlX10 hown hG.1 hP 0 (wl_at (by decide) hx0) rfl 0 (by decide) (hts (.fieldLink RX10 12 "SwornLists" "court" "LSwornLists$Court;") w_15) (fun _ h9 => h9) rfl dX10_about_27 ?_
        refine b_callv (va_runV (As := []) (rest := []) ⟨hx, hb, hml, hown, hts⟩ (u_settleE l G g hg f se hf pay fine nt ct np dp nf df nr dr na da lf vv LL LG hctc hhs hbk htr hct hpr hpd hfr hfd hor hod har had hla hlaa hvl (by first | assumption | omega | decide) (by first | assumption | omega | decide) (by first | assumption | omega | decide) (by first | assumption | omega | decide) (by first | assumption | omega | decide) (by first | assumption | omega | decide) (by first | assumption | omega | decide) (by first | assumption | omega | decide) (hTr.1) (hTr.2.1) (hTr.2.2.1) (by first | assumption | omega | decide) (hQ) (by first | assumption | omega | decide) (hL)) (my_cwV hts ok_X1_settle w_384 rfl rfl ⟨Nat.le_of_ble_eq_true rfl, Nat.le_of_ble_eq_true rfl⟩) ⟨bP.blind, va_recv hG.1 hP (ci := 1) (q0 := 1) rfl (wl_at (by decide) hctc), fun U hU hW => ⟨rfl, by rw [hU]; exact hP, kG.warm hW hG⟩⟩ rfl rfl hl.1 rfl (lv_room (Nat.le_of_ble_eq_true rfl)) dX10_about_30 ⟨Nat.le_of_ble_eq_true rfl, Nat.le_of_ble_eq_true rfl⟩) hS (fun f_1 H locs hq9 hP hS => ?_)
        obtain ⟨vv91, hq_1_0, hq_1_1, hx_1_0, hx_1_1, o_1⟩ := hq9
        have hctc : f_1 1 = eO 1 [.ref (g 36), .ref (g 12), .ref (g 13), .ref (g 15), .int (nI nt)] := hq_1_0
        have hvl : f_1 15 = eJ G 50 vv91 := hq_1_1
        have hH : ∀ i, i < 10 → okH G g f_1 (2 * i + 16) := hx_1_0
        have hQn : ∀ z, z < nt → cHz G g f_1 np nf nr na dp df dr da ct LL LG z := hx_1_1
        obtain ⟨od7, hh7, ho7, hd7⟩ := id (hQn tn (by omega))
        have hm7 : hM (cBx np nf nr na dp df dr da ct LL LG tn) (fun c => ct (70 * tn + c)) ≤ 24 := by
          have h9 := hTr.2.2.1 tn (by omega)
          exact Nat.le_trans (Nat.min_le_left _ _) h9
        refine lv_aload_n hx hb dX10_about_33 rfl (lv_at hl 0 rfl) ?_
        replace hx0 := ((o_1 0 (by first | decide | omega))).trans hx0
        refine va_get (D := G.1) (ci := 9) (v := .ref (g 1)) (C := RX10) (T := TX10) (N := 7) hx hb hts inlX10 hown hG.1 hP 0 (wl_at (by decide) hx0) rfl 0 (by decide) (hts (.fieldLink RX10 12 "SwornLists" "court" "LSwornLists$Court;") w_15) (fun _ h9 => h9) rfl dX10_about_34 ?_
        refine lv_iload_n hx hb dX10_about_37 rfl (lv_at hl 1 rfl) ?_
        replace hhs := ((o_1 12 (by first | decide | omega))).trans hhs
        refine rd_calla (va_runV (As := [.int (nI tn)]) (rest := []) ⟨hx, hb, hml, hown, hts⟩ (u_hearing l G g hg f_1 nt hf tn hctc hhs (by first | assumption | omega | decide) (by first | assumption | omega | decide) (by first | assumption | omega | decide)) (my_cwV hts ok_X1_hearing w_675 rfl rfl ⟨Nat.le_of_ble_eq_true rfl, Nat.le_of_ble_eq_true rfl⟩) ⟨bP.blind, va_recv hG.1 hP (ci := 1) (q0 := 1) rfl (wl_at (by decide) hctc), fun U hU hW => ⟨rfl, by rw [hU]; exact hP, kG.warm hW hG⟩⟩ rfl rfl hl.1 rfl (lv_room (Nat.le_of_ble_eq_true rfl)) dX10_about_38 ⟨Nat.le_of_ble_eq_true rfl, Nat.le_of_ble_eq_true rfl⟩) (fun r hr9 => ?_)
        subst hr9
        refine lv_iload_n hx hb dX10_about_41 rfl (lv_at hl 2 rfl) ?_
        refine rd_calli (va_runV (As := [.int 0]) (rest := []) ⟨hx, hb, hml, hown, hts⟩ (h_figureE0 l G g hg f_1 (2 * tn + 16) (hM (cBx np nf nr na dp df dr da ct LL LG tn) (fun c => ct (70 * tn + c))) (lotF (ct (70 * tn + 7)) (hM (cBx np nf nr na dp df dr da ct LL LG tn) (fun c => ct (70 * tn + c)))) (cBx np nf nr na dp df dr da ct LL LG tn) (hCa (cBx np nf nr na dp df dr da ct LL LG tn) (fun c => ct (70 * tn + c))) (hMi (cBx np nf nr na dp df dr da ct LL LG tn) (fun c => ct (70 * tn + c))) ((hX (cBx np nf nr na dp df dr da ct LL LG tn) (fun c => ct (70 * tn + c))).1) ((hX (cBx np nf nr na dp df dr da ct LL LG tn) (fun c => ct (70 * tn + c))).2) (hSw (cBx np nf nr na dp df dr da ct LL LG tn) (pasV (cFt np nf nr na dp df dr da ct LL LG tn) (cBx np nf nr na dp df dr da ct LL LG tn)) (fun c => ct (70 * tn + c))) hh7 (by first | assumption | omega | decide) (hm7)) (my_cwV hts ok_X3_figure w_721 rfl rfl ⟨Nat.le_of_ble_eq_true rfl, Nat.le_of_ble_eq_true rfl⟩) ⟨bP.blind, va_recv hG.1 hP (ci := 3) (q0 := (2 * tn + 16)) rfl (wl_at (by omega) hh7), fun U hU hW => ⟨rfl, by rw [hU]; exact hP, kG.warm hW hG⟩⟩ rfl rfl hl.1 rfl (lv_room (Nat.le_of_ble_eq_true rfl)) dX10_about_42 ⟨Nat.le_of_ble_eq_true rfl, Nat.le_of_ble_eq_true rfl⟩) (fun r hr9 => ?_)
        subst hr9
        refine W_q9 hQ9 ?_
        replace him := ((o_1 2 (by first | decide | omega))).trans him
        replace hkp := ((o_1 3 (by first | decide | omega))).trans hkp
        replace hrd := ((o_1 4 (by first | decide | omega))).trans hrd
        replace hmk := ((o_1 5 (by first | decide | omega))).trans hmk
        replace hfc6 := ((o_1 6 (by first | decide | omega))).trans hfc6
        replace hwt := ((o_1 7 (by first | decide | omega))).trans hwt
        replace hw8 := ((o_1 8 (by first | decide | omega))).trans hw8
        replace hw9 := ((o_1 9 (by first | decide | omega))).trans hw9
        replace hw10 := ((o_1 10 (by first | decide | omega))).trans hw10
        replace hw11 := ((o_1 11 (by first | decide | omega))).trans hw11
        replace hbk := ((o_1 36 (by first | decide | omega))).trans hbk
        replace hpr := ((o_1 37 (by first | decide | omega))).trans hpr
        replace hpd := ((o_1 38 (by first | decide | omega))).trans hpd
        replace hfr := ((o_1 39 (by first | decide | omega))).trans hfr
        replace hfd := ((o_1 40 (by first | decide | omega))).trans hfd
        replace hor := ((o_1 41 (by first | decide | omega))).trans hor
        replace hod := ((o_1 42 (by first | decide | omega))).trans hod
        replace har := ((o_1 43 (by first | decide | omega))).trans har
        replace had := ((o_1 44 (by first | decide | omega))).trans had
        replace htr := ((o_1 45 (by first | decide | omega))).trans htr
        replace hct := ((o_1 46 (by first | decide | omega))).trans hct
        replace hla := ((o_1 47 (by first | decide | omega))).trans hla
        replace hlaa := ((o_1 48 (by first | decide | omega))).trans hlaa
        replace hts0 := ((o_1 112 (by first | decide | omega))).trans hts0
        replace htsa := ((o_1 113 (by first | decide | omega))).trans htsa
        replace hSp : okH G g f_1 13 := okH_fr hSp (o_1 _ (by omega)) (o_1 _ (by omega))
        replace hL : ∀ i, i < 20 → ltx G g f_1 (3 * i + 52) (LL i) (LG i) (i < na) := fun z hz => ltx_fr (hL z hz) (o_1 _ (by omega)) (o_1 _ (by omega)) (o_1 _ (by omega))
        replace hT : ∀ i, i < 4 → txt G g f_1 (3 * i + 117) (TL i) (TG i) := fun z hz => txt_fr (hT z hz) (o_1 _ (by omega)) (o_1 _ (by omega)) (o_1 _ (by omega))
        replace hB1 : bkD G g f_1 129 N1 E1 P1 L1 S1 W1 X1 := bkD_fr hB1 (fun j _ _ => o_1 j (by omega))
        replace hB2 : bkD G g f_1 222 N2 E2 P2 L2 S2 W2 X2 := bkD_fr hB2 (fun j _ _ => o_1 j (by omega))
        exact W.iret (v := nI (cnt ((hSw (cBx np nf nr na dp df dr da ct LL LG tn) (pasV (cFt np nf nr na dp df dr da ct LL LG tn) (cBx np nf nr na dp df dr da ct LL LG tn)) (fun c => ct (70 * tn + c))) &&& ((cBx np nf nr na dp df dr da ct LL LG tn) ^^^ (-1))) 32)) hx hb hr (fun _ hT9 _ => ⟨⟨_, f_1, rfl, (⟨cJ_mk (nt) (hf) (imf) (mc) (op) (cm) (wu) (mk) (ab) (be) (mn) (le) (wt) (ww) (wb) (wf) (vv91) (lf) (tf) (hx0) (hctc) (hhs) (him) (hkp) (hrd) (hmk) (hfc6) (hwt) (hw8) (hw9) (hw10) (hw11) (hvl) (hbk) (hpr) (hpd) (hfr) (hfd) (hor) (hod) (har) (had) (htr) (hct) (hla) (hlaa) (hts0) (htsa) (by omega) (hhf) (him0) (him1) (by omega) (by omega) (by omega) (by omega) (by omega) (by omega) (by omega) (hlf) (htf) (by omega) (hH) (hSp) (hL) (hT) (hB1) (hB2) (hQn), (Or.inr ⟨tn, 0, htn, rfl, by omega, rfl, rfl⟩), fun j hj => (o_1 j (by omega))⟩), by rw [hT9]; exact hP⟩, hS.F hT9⟩) hS.2.2 dX10_about_45
      · subst e9
        obtain ⟨tn, htn, rfl⟩ := inN_nat (by omega) c_11
        refine lv_aload_n hx hb dX10_about_26 rfl (lv_at hl 0 rfl) ?_
        refine va_get (D := G.1) (ci := 9) (v := .ref (g 1)) (C := RX10) (T := TX10) (N := 7) hx hb hts inlX10 hown hG.1 hP 0 (wl_at (by decide) hx0) rfl 0 (by decide) (hts (.fieldLink RX10 12 "SwornLists" "court" "LSwornLists$Court;") w_15) (fun _ h9 => h9) rfl dX10_about_27 ?_
        refine b_callv (va_runV (As := []) (rest := []) ⟨hx, hb, hml, hown, hts⟩ (u_settleE l G g hg f se hf pay fine nt ct np dp nf df nr dr na da lf vv LL LG hctc hhs hbk htr hct hpr hpd hfr hfd hor hod har had hla hlaa hvl (by first | assumption | omega | decide) (by first | assumption | omega | decide) (by first | assumption | omega | decide) (by first | assumption | omega | decide) (by first | assumption | omega | decide) (by first | assumption | omega | decide) (by first | assumption | omega | decide) (by first | assumption | omega | decide) (hTr.1) (hTr.2.1) (hTr.2.2.1) (by first | assumption | omega | decide) (hQ) (by first | assumption | omega | decide) (hL)) (my_cwV hts ok_X1_settle w_384 rfl rfl ⟨Nat.le_of_ble_eq_true rfl, Nat.le_of_ble_eq_true rfl⟩) ⟨bP.blind, va_recv hG.1 hP (ci := 1) (q0 := 1) rfl (wl_at (by decide) hctc), fun U hU hW => ⟨rfl, by rw [hU]; exact hP, kG.warm hW hG⟩⟩ rfl rfl hl.1 rfl (lv_room (Nat.le_of_ble_eq_true rfl)) dX10_about_30 ⟨Nat.le_of_ble_eq_true rfl, Nat.le_of_ble_eq_true rfl⟩) hS (fun f_2 H locs hq9 hP hS => ?_)
        obtain ⟨vv92, hq_2_0, hq_2_1, hx_2_0, hx_2_1, o_2⟩ := hq9
        have hctc : f_2 1 = eO 1 [.ref (g 36), .ref (g 12), .ref (g 13), .ref (g 15), .int (nI nt)] := hq_2_0
        have hvl : f_2 15 = eJ G 50 vv92 := hq_2_1
        have hH : ∀ i, i < 10 → okH G g f_2 (2 * i + 16) := hx_2_0
        have hQn : ∀ z, z < nt → cHz G g f_2 np nf nr na dp df dr da ct LL LG z := hx_2_1
        obtain ⟨od7, hh7, ho7, hd7⟩ := id (hQn tn (by omega))
        have hm7 : hM (cBx np nf nr na dp df dr da ct LL LG tn) (fun c => ct (70 * tn + c)) ≤ 24 := by
          have h9 := hTr.2.2.1 tn (by omega)
          exact Nat.le_trans (Nat.min_le_left _ _) h9
        refine lv_aload_n hx hb dX10_about_33 rfl (lv_at hl 0 rfl) ?_
        replace hx0 := ((o_2 0 (by first | decide | omega))).trans hx0
        refine va_get (D := G.1) (ci := 9) (v := .ref (g 1)) (C := RX10) (T := TX10) (N := 7) hx hb hts inlX10 hown hG.1 hP 0 (wl_at (by decide) hx0) rfl 0 (by decide) (hts (.fieldLink RX10 12 "SwornLists" "court" "LSwornLists$Court;") w_15) (fun _ h9 => h9) rfl dX10_about_34 ?_
        refine lv_iload_n hx hb dX10_about_37 rfl (lv_at hl 1 rfl) ?_
        replace hhs := ((o_2 12 (by first | decide | omega))).trans hhs
        refine rd_calla (va_runV (As := [.int (nI tn)]) (rest := []) ⟨hx, hb, hml, hown, hts⟩ (u_hearing l G g hg f_2 nt hf tn hctc hhs (by first | assumption | omega | decide) (by first | assumption | omega | decide) (by first | assumption | omega | decide)) (my_cwV hts ok_X1_hearing w_675 rfl rfl ⟨Nat.le_of_ble_eq_true rfl, Nat.le_of_ble_eq_true rfl⟩) ⟨bP.blind, va_recv hG.1 hP (ci := 1) (q0 := 1) rfl (wl_at (by decide) hctc), fun U hU hW => ⟨rfl, by rw [hU]; exact hP, kG.warm hW hG⟩⟩ rfl rfl hl.1 rfl (lv_room (Nat.le_of_ble_eq_true rfl)) dX10_about_38 ⟨Nat.le_of_ble_eq_true rfl, Nat.le_of_ble_eq_true rfl⟩) (fun r hr9 => ?_)
        subst hr9
        refine lv_iload_n hx hb dX10_about_41 rfl (lv_at hl 2 rfl) ?_
        refine rd_calli (va_runV (As := [.int 1]) (rest := []) ⟨hx, hb, hml, hown, hts⟩ (h_figureE1 l G g hg f_2 (2 * tn + 16) (hM (cBx np nf nr na dp df dr da ct LL LG tn) (fun c => ct (70 * tn + c))) (lotF (ct (70 * tn + 7)) (hM (cBx np nf nr na dp df dr da ct LL LG tn) (fun c => ct (70 * tn + c)))) (cBx np nf nr na dp df dr da ct LL LG tn) (hCa (cBx np nf nr na dp df dr da ct LL LG tn) (fun c => ct (70 * tn + c))) (hMi (cBx np nf nr na dp df dr da ct LL LG tn) (fun c => ct (70 * tn + c))) ((hX (cBx np nf nr na dp df dr da ct LL LG tn) (fun c => ct (70 * tn + c))).1) ((hX (cBx np nf nr na dp df dr da ct LL LG tn) (fun c => ct (70 * tn + c))).2) (hSw (cBx np nf nr na dp df dr da ct LL LG tn) (pasV (cFt np nf nr na dp df dr da ct LL LG tn) (cBx np nf nr na dp df dr da ct LL LG tn)) (fun c => ct (70 * tn + c))) hh7 (by first | assumption | omega | decide) (hm7)) (my_cwV hts ok_X3_figure w_721 rfl rfl ⟨Nat.le_of_ble_eq_true rfl, Nat.le_of_ble_eq_true rfl⟩) ⟨bP.blind, va_recv hG.1 hP (ci := 3) (q0 := (2 * tn + 16)) rfl (wl_at (by omega) hh7), fun U hU hW => ⟨rfl, by rw [hU]; exact hP, kG.warm hW hG⟩⟩ rfl rfl hl.1 rfl (lv_room (Nat.le_of_ble_eq_true rfl)) dX10_about_42 ⟨Nat.le_of_ble_eq_true rfl, Nat.le_of_ble_eq_true rfl⟩) (fun r hr9 => ?_)
        subst hr9
        refine W_q9 hQ9 ?_
        replace him := ((o_2 2 (by first | decide | omega))).trans him
        replace hkp := ((o_2 3 (by first | decide | omega))).trans hkp
        replace hrd := ((o_2 4 (by first | decide | omega))).trans hrd
        replace hmk := ((o_2 5 (by first | decide | omega))).trans hmk
        replace hfc6 := ((o_2 6 (by first | decide | omega))).trans hfc6
        replace hwt := ((o_2 7 (by first | decide | omega))).trans hwt
        replace hw8 := ((o_2 8 (by first | decide | omega))).trans hw8
        replace hw9 := ((o_2 9 (by first | decide | omega))).trans hw9
        replace hw10 := ((o_2 10 (by first | decide | omega))).trans hw10
        replace hw11 := ((o_2 11 (by first | decide | omega))).trans hw11
        replace hbk := ((o_2 36 (by first | decide | omega))).trans hbk
        replace hpr := ((o_2 37 (by first | decide | omega))).trans hpr
        replace hpd := ((o_2 38 (by first | decide | omega))).trans hpd
        replace hfr := ((o_2 39 (by first | decide | omega))).trans hfr
        replace hfd := ((o_2 40 (by first | decide | omega))).trans hfd
        replace hor := ((o_2 41 (by first | decide | omega))).trans hor
        replace hod := ((o_2 42 (by first | decide | omega))).trans hod
        replace har := ((o_2 43 (by first | decide | omega))).trans har
        replace had := ((o_2 44 (by first | decide | omega))).trans had
        replace htr := ((o_2 45 (by first | decide | omega))).trans htr
        replace hct := ((o_2 46 (by first | decide | omega))).trans hct
        replace hla := ((o_2 47 (by first | decide | omega))).trans hla
        replace hlaa := ((o_2 48 (by first | decide | omega))).trans hlaa
        replace hts0 := ((o_2 112 (by first | decide | omega))).trans hts0
        replace htsa := ((o_2 113 (by first | decide | omega))).trans htsa
        replace hSp : okH G g f_2 13 := okH_fr hSp (o_2 _ (by omega)) (o_2 _ (by omega))
        replace hL : ∀ i, i < 20 → ltx G g f_2 (3 * i + 52) (LL i) (LG i) (i < na) := fun z hz => ltx_fr (hL z hz) (o_2 _ (by omega)) (o_2 _ (by omega)) (o_2 _ (by omega))
        replace hT : ∀ i, i < 4 → txt G g f_2 (3 * i + 117) (TL i) (TG i) := fun z hz => txt_fr (hT z hz) (o_2 _ (by omega)) (o_2 _ (by omega)) (o_2 _ (by omega))
        replace hB1 : bkD G g f_2 129 N1 E1 P1 L1 S1 W1 X1 := bkD_fr hB1 (fun j _ _ => o_2 j (by omega))
        replace hB2 : bkD G g f_2 222 N2 E2 P2 L2 S2 W2 X2 := bkD_fr hB2 (fun j _ _ => o_2 j (by omega))
        exact W.iret (v := nI (cnt ((hX (cBx np nf nr na dp df dr da ct LL LG tn) (fun c => ct (70 * tn + c))).1) 32)) hx hb hr (fun _ hT9 _ => ⟨⟨_, f_2, rfl, (⟨cJ_mk (nt) (hf) (imf) (mc) (op) (cm) (wu) (mk) (ab) (be) (mn) (le) (wt) (ww) (wb) (wf) (vv92) (lf) (tf) (hx0) (hctc) (hhs) (him) (hkp) (hrd) (hmk) (hfc6) (hwt) (hw8) (hw9) (hw10) (hw11) (hvl) (hbk) (hpr) (hpd) (hfr) (hfd) (hor) (hod) (har) (had) (htr) (hct) (hla) (hlaa) (hts0) (htsa) (by omega) (hhf) (him0) (him1) (by omega) (by omega) (by omega) (by omega) (by omega) (by omega) (by omega) (hlf) (htf) (by omega) (hH) (hSp) (hL) (hT) (hB1) (hB2) (hQn), (Or.inr ⟨tn, 1, htn, rfl, by omega, rfl, rfl⟩), fun j hj => (o_2 j (by omega))⟩), by rw [hT9]; exact hP⟩, hS.F hT9⟩) hS.2.2 dX10_about_45
      · subst e9
        obtain ⟨tn, htn, rfl⟩ := inN_nat (by omega) c_11
        refine lv_aload_n hx hb dX10_about_26 rfl (lv_at hl 0 rfl) ?_
        refine va_get (D := G.1) (ci := 9) (v := .ref (g 1)) (C := RX10) (T := TX10) (N := 7) hx hb hts inlX10 hown hG.1 hP 0 (wl_at (by decide) hx0) rfl 0 (by decide) (hts (.fieldLink RX10 12 "SwornLists" "court" "LSwornLists$Court;") w_15) (fun _ h9 => h9) rfl dX10_about_27 ?_
        refine b_callv (va_runV (As := []) (rest := []) ⟨hx, hb, hml, hown, hts⟩ (u_settleE l G g hg f se hf pay fine nt ct np dp nf df nr dr na da lf vv LL LG hctc hhs hbk htr hct hpr hpd hfr hfd hor hod har had hla hlaa hvl (by first | assumption | omega | decide) (by first | assumption | omega | decide) (by first | assumption | omega | decide) (by first | assumption | omega | decide) (by first | assumption | omega | decide) (by first | assumption | omega | decide) (by first | assumption | omega | decide) (by first | assumption | omega | decide) (hTr.1) (hTr.2.1) (hTr.2.2.1) (by first | assumption | omega | decide) (hQ) (by first | assumption | omega | decide) (hL)) (my_cwV hts ok_X1_settle w_384 rfl rfl ⟨Nat.le_of_ble_eq_true rfl, Nat.le_of_ble_eq_true rfl⟩) ⟨bP.blind, va_recv hG.1 hP (ci := 1) (q0 := 1) rfl (wl_at (by decide) hctc), fun U hU hW => ⟨rfl, by rw [hU]; exact hP, kG.warm hW hG⟩⟩ rfl rfl hl.1 rfl (lv_room (Nat.le_of_ble_eq_true rfl)) dX10_about_30 ⟨Nat.le_of_ble_eq_true rfl, Nat.le_of_ble_eq_true rfl⟩) hS (fun f_3 H locs hq9 hP hS => ?_)
        obtain ⟨vv93, hq_3_0, hq_3_1, hx_3_0, hx_3_1, o_3⟩ := hq9
        have hctc : f_3 1 = eO 1 [.ref (g 36), .ref (g 12), .ref (g 13), .ref (g 15), .int (nI nt)] := hq_3_0
        have hvl : f_3 15 = eJ G 50 vv93 := hq_3_1
        have hH : ∀ i, i < 10 → okH G g f_3 (2 * i + 16) := hx_3_0
        have hQn : ∀ z, z < nt → cHz G g f_3 np nf nr na dp df dr da ct LL LG z := hx_3_1
        obtain ⟨od7, hh7, ho7, hd7⟩ := id (hQn tn (by omega))
        have hm7 : hM (cBx np nf nr na dp df dr da ct LL LG tn) (fun c => ct (70 * tn + c)) ≤ 24 := by
          have h9 := hTr.2.2.1 tn (by omega)
          exact Nat.le_trans (Nat.min_le_left _ _) h9
        refine lv_aload_n hx hb dX10_about_33 rfl (lv_at hl 0 rfl) ?_
        replace hx0 := ((o_3 0 (by first | decide | omega))).trans hx0
        refine va_get (D := G.1) (ci := 9) (v := .ref (g 1)) (C := RX10) (T := TX10) (N := 7) hx hb hts inlX10 hown hG.1 hP 0 (wl_at (by decide) hx0) rfl 0 (by decide) (hts (.fieldLink RX10 12 "SwornLists" "court" "LSwornLists$Court;") w_15) (fun _ h9 => h9) rfl dX10_about_34 ?_
        refine lv_iload_n hx hb dX10_about_37 rfl (lv_at hl 1 rfl) ?_
        replace hhs := ((o_3 12 (by first | decide | omega))).trans hhs
        refine rd_calla (va_runV (As := [.int (nI tn)]) (rest := []) ⟨hx, hb, hml, hown, hts⟩ (u_hearing l G g hg f_3 nt hf tn hctc hhs (by first | assumption | omega | decide) (by first | assumption | omega | decide) (by first | assumption | omega | decide)) (my_cwV hts ok_X1_hearing w_675 rfl rfl ⟨Nat.le_of_ble_eq_true rfl, Nat.le_of_ble_eq_true rfl⟩) ⟨bP.blind, va_recv hG.1 hP (ci := 1) (q0 := 1) rfl (wl_at (by decide) hctc), fun U hU hW => ⟨rfl, by rw [hU]; exact hP, kG.warm hW hG⟩⟩ rfl rfl hl.1 rfl (lv_room (Nat.le_of_ble_eq_true rfl)) dX10_about_38 ⟨Nat.le_of_ble_eq_true rfl, Nat.le_of_ble_eq_true rfl⟩) (fun r hr9 => ?_)
        subst hr9
        refine lv_iload_n hx hb dX10_about_41 rfl (lv_at hl 2 rfl) ?_
        refine rd_calli (va_runV (As := [.int 2]) (rest := []) ⟨hx, hb, hml, hown, hts⟩ (h_figureE2 l G g hg f_3 (2 * tn + 16) (hM (cBx np nf nr na dp df dr da ct LL LG tn) (fun c => ct (70 * tn + c))) (lotF (ct (70 * tn + 7)) (hM (cBx np nf nr na dp df dr da ct LL LG tn) (fun c => ct (70 * tn + c)))) (cBx np nf nr na dp df dr da ct LL LG tn) (hCa (cBx np nf nr na dp df dr da ct LL LG tn) (fun c => ct (70 * tn + c))) (hMi (cBx np nf nr na dp df dr da ct LL LG tn) (fun c => ct (70 * tn + c))) ((hX (cBx np nf nr na dp df dr da ct LL LG tn) (fun c => ct (70 * tn + c))).1) ((hX (cBx np nf nr na dp df dr da ct LL LG tn) (fun c => ct (70 * tn + c))).2) (hSw (cBx np nf nr na dp df dr da ct LL LG tn) (pasV (cFt np nf nr na dp df dr da ct LL LG tn) (cBx np nf nr na dp df dr da ct LL LG tn)) (fun c => ct (70 * tn + c))) hh7 (by first | assumption | omega | decide) (hm7)) (my_cwV hts ok_X3_figure w_721 rfl rfl ⟨Nat.le_of_ble_eq_true rfl, Nat.le_of_ble_eq_true rfl⟩) ⟨bP.blind, va_recv hG.1 hP (ci := 3) (q0 := (2 * tn + 16)) rfl (wl_at (by omega) hh7), fun U hU hW => ⟨rfl, by rw [hU]; exact hP, kG.warm hW hG⟩⟩ rfl rfl hl.1 rfl (lv_room (Nat.le_of_ble_eq_true rfl)) dX10_about_42 ⟨Nat.le_of_ble_eq_true rfl, Nat.le_of_ble_eq_true rfl⟩) (fun r hr9 => ?_)
        subst hr9
        refine W_q9 hQ9 ?_
        replace him := ((o_3 2 (by first | decide | omega))).trans him
        replace hkp := ((o_3 3 (by first | decide | omega))).trans hkp
        replace hrd := ((o_3 4 (by first | decide | omega))).trans hrd
        replace hmk := ((o_3 5 (by first | decide | omega))).trans hmk
        replace hfc6 := ((o_3 6 (by first | decide | omega))).trans hfc6
        replace hwt := ((o_3 7 (by first | decide | omega))).trans hwt
        replace hw8 := ((o_3 8 (by first | decide | omega))).trans hw8
        replace hw9 := ((o_3 9 (by first | decide | omega))).trans hw9
        replace hw10 := ((o_3 10 (by first | decide | omega))).trans hw10
        replace hw11 := ((o_3 11 (by first | decide | omega))).trans hw11
        replace hbk := ((o_3 36 (by first | decide | omega))).trans hbk
        replace hpr := ((o_3 37 (by first | decide | omega))).trans hpr
        replace hpd := ((o_3 38 (by first | decide | omega))).trans hpd
        replace hfr := ((o_3 39 (by first | decide | omega))).trans hfr
        replace hfd := ((o_3 40 (by first | decide | omega))).trans hfd
        replace hor := ((o_3 41 (by first | decide | omega))).trans hor
        replace hod := ((o_3 42 (by first | decide | omega))).trans hod
        replace har := ((o_3 43 (by first | decide | omega))).trans har
        replace had := ((o_3 44 (by first | decide | omega))).trans had
        replace htr := ((o_3 45 (by first | decide | omega))).trans htr
        replace hct := ((o_3 46 (by first | decide | omega))).trans hct
        replace hla := ((o_3 47 (by first | decide | omega))).trans hla
        replace hlaa := ((o_3 48 (by first | decide | omega))).trans hlaa
        replace hts0 := ((o_3 112 (by first | decide | omega))).trans hts0
        replace htsa := ((o_3 113 (by first | decide | omega))).trans htsa
        replace hSp : okH G g f_3 13 := okH_fr hSp (o_3 _ (by omega)) (o_3 _ (by omega))
        replace hL : ∀ i, i < 20 → ltx G g f_3 (3 * i + 52) (LL i) (LG i) (i < na) := fun z hz => ltx_fr (hL z hz) (o_3 _ (by omega)) (o_3 _ (by omega)) (o_3 _ (by omega))
        replace hT : ∀ i, i < 4 → txt G g f_3 (3 * i + 117) (TL i) (TG i) := fun z hz => txt_fr (hT z hz) (o_3 _ (by omega)) (o_3 _ (by omega)) (o_3 _ (by omega))
        replace hB1 : bkD G g f_3 129 N1 E1 P1 L1 S1 W1 X1 := bkD_fr hB1 (fun j _ _ => o_3 j (by omega))
        replace hB2 : bkD G g f_3 222 N2 E2 P2 L2 S2 W2 X2 := bkD_fr hB2 (fun j _ _ => o_3 j (by omega))
        exact W.iret (v := nI (cnt ((hX (cBx np nf nr na dp df dr da ct LL LG tn) (fun c => ct (70 * tn + c))).2) 32)) hx hb hr (fun _ hT9 _ => ⟨⟨_, f_3, rfl, (⟨cJ_mk (nt) (hf) (imf) (mc) (op) (cm) (wu) (mk) (ab) (be) (mn) (le) (wt) (ww) (wb) (wf) (vv93) (lf) (tf) (hx0) (hctc) (hhs) (him) (hkp) (hrd) (hmk) (hfc6) (hwt) (hw8) (hw9) (hw10) (hw11) (hvl) (hbk) (hpr) (hpd) (hfr) (hfd) (hor) (hod) (har) (had) (htr) (hct) (hla) (hlaa) (hts0) (htsa) (by omega) (hhf) (him0) (him1) (by omega) (by omega) (by omega) (by omega) (by omega) (by omega) (by omega) (hlf) (htf) (by omega) (hH) (hSp) (hL) (hT) (hB1) (hB2) (hQn), (Or.inr ⟨tn, 2, htn, rfl, by omega, rfl, rfl⟩), fun j hj => (o_3 j (by omega))⟩), by rw [hT9]; exact hP⟩, hS.F hT9⟩) hS.2.2 dX10_about_45
      · subst e9
        obtain ⟨tn, htn, rfl⟩ := inN_nat (by omega) c_11
        refine lv_aload_n hx hb dX10_about_26 rfl (lv_at hl 0 rfl) ?_
        refine va_get (D := G.1) (ci := 9) (v := .ref (g 1)) (C := RX10) (T := TX10) (N := 7) hx hb hts inlX10 hown hG.1 hP 0 (wl_at (by decide) hx0) rfl 0 (by decide) (hts (.fieldLink RX10 12 "SwornLists" "court" "LSwornLists$Court;") w_15) (fun _ h9 => h9) rfl dX10_about_27 ?_
        refine b_callv (va_runV (As := []) (rest := []) ⟨hx, hb, hml, hown, hts⟩ (u_settleE l G g hg f se hf pay fine nt ct np dp nf df nr dr na da lf vv LL LG hctc hhs hbk htr hct hpr hpd hfr hfd hor hod har had hla hlaa hvl (by first | assumption | omega | decide) (by first | assumption | omega | decide) (by first | assumption | omega | decide) (by first | assumption | omega | decide) (by first | assumption | omega | decide) (by first | assumption | omega | decide) (by first | assumption | omega | decide) (by first | assumption | omega | decide) (hTr.1) (hTr.2.1) (hTr.2.2.1) (by first | assumption | omega | decide) (hQ) (by first | assumption | omega | decide) (hL)) (my_cwV hts ok_X1_settle w_384 rfl rfl ⟨Nat.le_of_ble_eq_true rfl, Nat.le_of_ble_eq_true rfl⟩) ⟨bP.blind, va_recv hG.1 hP (ci := 1) (q0 := 1) rfl (wl_at (by decide) hctc), fun U hU hW => ⟨rfl, by rw [hU]; exact hP, kG.warm hW hG⟩⟩ rfl rfl hl.1 rfl (lv_room (Nat.le_of_ble_eq_true rfl)) dX10_about_30 ⟨Nat.le_of_ble_eq_true rfl, Nat.le_of_ble_eq_true rfl⟩) hS (fun f_4 H locs hq9 hP hS => ?_)
        obtain ⟨vv94, hq_4_0, hq_4_1, hx_4_0, hx_4_1, o_4⟩ := hq9
        have hctc : f_4 1 = eO 1 [.ref (g 36), .ref (g 12), .ref (g 13), .ref (g 15), .int (nI nt)] := hq_4_0
        have hvl : f_4 15 = eJ G 50 vv94 := hq_4_1
        have hH : ∀ i, i < 10 → okH G g f_4 (2 * i + 16) := hx_4_0
        have hQn : ∀ z, z < nt → cHz G g f_4 np nf nr na dp df dr da ct LL LG z := hx_4_1
        obtain ⟨od7, hh7, ho7, hd7⟩ := id (hQn tn (by omega))
        have hm7 : hM (cBx np nf nr na dp df dr da ct LL LG tn) (fun c => ct (70 * tn + c)) ≤ 24 := by
          have h9 := hTr.2.2.1 tn (by omega)
          exact Nat.le_trans (Nat.min_le_left _ _) h9
        refine lv_aload_n hx hb dX10_about_33 rfl (lv_at hl 0 rfl) ?_
        replace hx0 := ((o_4 0 (by first | decide | omega))).trans hx0
        refine va_get (D := G.1) (ci := 9) (v := .ref (g 1)) (C := RX10) (T := TX10) (N := 7) hx hb hts inlX10 hown hG.1 hP 0 (wl_at (by decide) hx0) rfl 0 (by decide) (hts (.fieldLink RX10 12 "SwornLists" "court" "LSwornLists$Court;") w_15) (fun _ h9 => h9) rfl dX10_about_34 ?_
        refine lv_iload_n hx hb dX10_about_37 rfl (lv_at hl 1 rfl) ?_
        replace hhs := ((o_4 12 (by first | decide | omega))).trans hhs
        refine rd_calla (va_runV (As := [.int (nI tn)]) (rest := []) ⟨hx, hb, hml, hown, hts⟩ (u_hearing l G g hg f_4 nt hf tn hctc hhs (by first | assumption | omega | decide) (by first | assumption | omega | decide) (by first | assumption | omega | decide)) (my_cwV hts ok_X1_hearing w_675 rfl rfl ⟨Nat.le_of_ble_eq_true rfl, Nat.le_of_ble_eq_true rfl⟩) ⟨bP.blind, va_recv hG.1 hP (ci := 1) (q0 := 1) rfl (wl_at (by decide) hctc), fun U hU hW => ⟨rfl, by rw [hU]; exact hP, kG.warm hW hG⟩⟩ rfl rfl hl.1 rfl (lv_room (Nat.le_of_ble_eq_true rfl)) dX10_about_38 ⟨Nat.le_of_ble_eq_true rfl, Nat.le_of_ble_eq_true rfl⟩) (fun r hr9 => ?_)
        subst hr9
        refine lv_iload_n hx hb dX10_about_41 rfl (lv_at hl 2 rfl) ?_
        refine rd_calli (va_runV (As := [.int 3]) (rest := []) ⟨hx, hb, hml, hown, hts⟩ (h_figureE3 l G g hg f_4 (2 * tn + 16) (hM (cBx np nf nr na dp df dr da ct LL LG tn) (fun c => ct (70 * tn + c))) (lotF (ct (70 * tn + 7)) (hM (cBx np nf nr na dp df dr da ct LL LG tn) (fun c => ct (70 * tn + c)))) (cBx np nf nr na dp df dr da ct LL LG tn) (hCa (cBx np nf nr na dp df dr da ct LL LG tn) (fun c => ct (70 * tn + c))) (hMi (cBx np nf nr na dp df dr da ct LL LG tn) (fun c => ct (70 * tn + c))) ((hX (cBx np nf nr na dp df dr da ct LL LG tn) (fun c => ct (70 * tn + c))).1) ((hX (cBx np nf nr na dp df dr da ct LL LG tn) (fun c => ct (70 * tn + c))).2) (hSw (cBx np nf nr na dp df dr da ct LL LG tn) (pasV (cFt np nf nr na dp df dr da ct LL LG tn) (cBx np nf nr na dp df dr da ct LL LG tn)) (fun c => ct (70 * tn + c))) hh7 (by first | assumption | omega | decide) (hm7)) (my_cwV hts ok_X3_figure w_721 rfl rfl ⟨Nat.le_of_ble_eq_true rfl, Nat.le_of_ble_eq_true rfl⟩) ⟨bP.blind, va_recv hG.1 hP (ci := 3) (q0 := (2 * tn + 16)) rfl (wl_at (by omega) hh7), fun U hU hW => ⟨rfl, by rw [hU]; exact hP, kG.warm hW hG⟩⟩ rfl rfl hl.1 rfl (lv_room (Nat.le_of_ble_eq_true rfl)) dX10_about_42 ⟨Nat.le_of_ble_eq_true rfl, Nat.le_of_ble_eq_true rfl⟩) (fun r hr9 => ?_)
        subst hr9
        refine W_q9 hQ9 ?_
        replace him := ((o_4 2 (by first | decide | omega))).trans him
        replace hkp := ((o_4 3 (by first | decide | omega))).trans hkp
        replace hrd := ((o_4 4 (by first | decide | omega))).trans hrd
        replace hmk := ((o_4 5 (by first | decide | omega))).trans hmk
        replace hfc6 := ((o_4 6 (by first | decide | omega))).trans hfc6
        replace hwt := ((o_4 7 (by first | decide | omega))).trans hwt
        replace hw8 := ((o_4 8 (by first | decide | omega))).trans hw8
        replace hw9 := ((o_4 9 (by first | decide | omega))).trans hw9
        replace hw10 := ((o_4 10 (by first | decide | omega))).trans hw10
        replace hw11 := ((o_4 11 (by first | decide | omega))).trans hw11
        replace hbk := ((o_4 36 (by first | decide | omega))).trans hbk
        replace hpr := ((o_4 37 (by first | decide | omega))).trans hpr
        replace hpd := ((o_4 38 (by first | decide | omega))).trans hpd
        replace hfr := ((o_4 39 (by first | decide | omega))).trans hfr
        replace hfd := ((o_4 40 (by first | decide | omega))).trans hfd
        replace hor := ((o_4 41 (by first | decide | omega))).trans hor
        replace hod := ((o_4 42 (by first | decide | omega))).trans hod
        replace har := ((o_4 43 (by first | decide | omega))).trans har
        replace had := ((o_4 44 (by first | decide | omega))).trans had
        replace htr := ((o_4 45 (by first | decide | omega))).trans htr
        replace hct := ((o_4 46 (by first | decide | omega))).trans hct
        replace hla := ((o_4 47 (by first | decide | omega))).trans hla
        replace hlaa := ((o_4 48 (by first | decide | omega))).trans hlaa
        replace hts0 := ((o_4 112 (by first | decide | omega))).trans hts0
        replace htsa := ((o_4 113 (by first | decide | omega))).trans htsa
        replace hSp : okH G g f_4 13 := okH_fr hSp (o_4 _ (by omega)) (o_4 _ (by omega))
        replace hL : ∀ i, i < 20 → ltx G g f_4 (3 * i + 52) (LL i) (LG i) (i < na) := fun z hz => ltx_fr (hL z hz) (o_4 _ (by omega)) (o_4 _ (by omega)) (o_4 _ (by omega))
        replace hT : ∀ i, i < 4 → txt G g f_4 (3 * i + 117) (TL i) (TG i) := fun z hz => txt_fr (hT z hz) (o_4 _ (by omega)) (o_4 _ (by omega)) (o_4 _ (by omega))
        replace hB1 : bkD G g f_4 129 N1 E1 P1 L1 S1 W1 X1 := bkD_fr hB1 (fun j _ _ => o_4 j (by omega))
        replace hB2 : bkD G g f_4 222 N2 E2 P2 L2 S2 W2 X2 := bkD_fr hB2 (fun j _ _ => o_4 j (by omega))
        exact W.iret (v := lotF (ct (70 * tn + 7)) (hM (cBx np nf nr na dp df dr da ct LL LG tn) (fun c => ct (70 * tn + c)))) hx hb hr (fun _ hT9 _ => ⟨⟨_, f_4, rfl, (⟨cJ_mk (nt) (hf) (imf) (mc) (op) (cm) (wu) (mk) (ab) (be) (mn) (le) (wt) (ww) (wb) (wf) (vv94) (lf) (tf) (hx0) (hctc) (hhs) (him) (hkp) (hrd) (hmk) (hfc6) (hwt) (hw8) (hw9) (hw10) (hw11) (hvl) (hbk) (hpr) (hpd) (hfr) (hfd) (hor) (hod) (har) (had) (htr) (hct) (hla) (hlaa) (hts0) (htsa) (by omega) (hhf) (him0) (him1) (by omega) (by omega) (by omega) (by omega) (by omega) (by omega) (by omega) (hlf) (htf) (by omega) (hH) (hSp) (hL) (hT) (hB1) (hB2) (hQn), (Or.inr ⟨tn, 3, htn, rfl, by omega, rfl, rfl⟩), fun j hj => (o_4 j (by omega))⟩), by rw [hT9]; exact hP⟩, hS.F hT9⟩) hS.2.2 dX10_about_45
    · refine lv_ldc (v := (-2000000000)) hx hb hown (hts (.constant RX10 191 (-2000000000)) w_720) dX10_about_23 ?_
      refine W_q9 hQ9 ?_
      exact W.iret (v := (-2000000000)) hx hb hr (fun _ hT9 _ => ⟨⟨_, f, rfl, (⟨cJ_mk (se) (hf) (imf) (mc) (op) (cm) (wu) (mk) (ab) (be) (mn) (le) (wt) (ww) (wb) (wf) (vv) (lf) (tf) (hx0) (hctc) (hhs) (him) (hkp) (hrd) (hmk) (hfc6) (hwt) (hw8) (hw9) (hw10) (hw11) (hvl) (hbk) (hpr) (hpd) (hfr) (hfd) (hor) (hod) (har) (had) (htr) (hct) (hla) (hlaa) (hts0) (htsa) (by omega) (hhf) (him0) (him1) (by omega) (by omega) (by omega) (by omega) (by omega) (by omega) (by omega) (hlf) (htf) (by omega) (hH) (hSp) (hL) (hT) (hB1) (hB2) (hQ), (Or.inl ⟨fun z => c_20 z.2, rfl⟩), fun j hj => rfl⟩), by rw [hT9]; exact hP⟩, hS.F hT9⟩) hS.2.2 dX10_about_25
theorem j_about (l : Launch) (G : gW) (g : Nat → Nat) (hg : gOK g) (f : Nat → va_E) (np : Nat) (dp : Nat → Int32) (nf : Nat) (df : Nat → Int32) (nr : Nat) (dr : Nat → Int32) (nt : Nat) (ct : Nat → Int32) (pay : Int32) (fine : Int32) (kf : Nat → Int32) (na : Nat) (da : Nat → Int32) (TL : Nat → Nat) (TG : Nat → Nat → Int32) (LL : Nat → Nat) (LG : Nat → Nat → Int32) (N1 : Nat → Nat) (E1 : Nat → Nat → Int32) (P1 : Nat → Int32) (L1 : Nat → Nat) (S1 : Nat → Nat → Int32) (W1 : Nat → Nat) (X1 : Nat → Nat → Int32) (N2 : Nat → Nat) (E2 : Nat → Nat → Int32) (P2 : Nat → Int32) (L2 : Nat → Nat) (S2 : Nat → Nat → Int32) (W2 : Nat → Nat) (X2 : Nat → Nat → Int32) (a1 : Int32) (a2 : Int32) (hI : cJ G g f np dp nf df nr dr nt ct pay fine kf na da TL TG LL LG N1 E1 P1 L1 S1 W1 X1 N2 E2 P2 L2 S2 W2 X2) (hTr : trC ct nt) : Met l yX10_about (wsT yX10_about cX10_about 3 (some .int)) ({ frames := 7, cells := 0, slots := 0, locals := 176 }) (bP G g f [.ref (g 0), .int a1, .int a2]) (bQi G g (fun (z9 : Int32) (f' : Nat → va_E) => (cJ G g f' np dp nf df nr dr nt ct pay fine kf na da TL TG LL LG N1 E1 P1 L1 S1 W1 X1 N2 E2 P2 L2 S2 W2 X2) ∧ ((¬ (inN a1 nt = true ∧ inB 0 a2 3 = true) ∧ z9 = -2000000000) ∨ (∃ x k, x < nt ∧ a1 = nI x ∧ k ≤ 3 ∧ a2 = nI k ∧ z9 = abV (cBx np nf nr na dp df dr da ct LL LG x) (pasV (cFt np nf nr na dp df dr da ct LL LG x) (cBx np nf nr na dp df dr da ct LL LG x)) (fun c => ct (70 * x + c)) k)) ∧ ∀ j, 315 ≤ j → f' j = f j)) 0 0 (gA g) := cJ_elim hI (fun se hf imf mc op cm wu mk ab be mn le wt ww wb wf vv lf tf hx0 hctc hhs him hkp hrd hmk hfc6 hwt hw8 hw9 hw10 hw11 hvl hbk hpr hpd hfr hfd hor hod har had htr hct hla hlaa hts0 htsa hse hhf him0 him1 hmc hmn hnp hnf hnr hna hnt hlf htf hsn hH hSp hL hT hB1 hB2 hQ => jn_about l G g hg f se hf imf kf mc op cm wu mk ab be mn le wt ww wb wf vv pay fine np dp nf df nr dr na da nt ct lf tf TL TG LL LG N1 E1 P1 L1 S1 W1 X1 N2 E2 P2 L2 S2 W2 X2 a1 a2 hx0 hctc hhs him hkp hrd hmk hfc6 hwt hw8 hw9 hw10 hw11 hvl hbk hpr hpd hfr hfd hor hod har had htr hct hla hlaa hts0 htsa hse hhf him0 him1 hmc hmn hnp hnf hnr hna hnt hlf htf hsn hTr hH hSp hL hT hB1 hB2 hQ)
set_option maxHeartbeats 4000000 in
set_option maxRecDepth 100000 in
theorem jn_bad (l : Launch) (G : gW) (g : Nat → Nat) (hg : gOK g) (f : Nat → va_E) (se : Nat) (hf : Nat → Option Nat) (imf : Nat → Option Nat) (kf : Nat → Int32) (mc : Nat) (op : Int32) (cm : Int32) (wu : Int32) (mk : Nat → Int32) (ab : Int64) (be : Int64) (mn : Nat) (le : Int32) (wt : Nat → Int32) (ww : Nat → Int32) (wb : Nat → Int32) (wf : Nat → Int32) (vv : Nat → Int64) (pay : Int32) (fine : Int32) (np : Nat) (dp : Nat → Int32) (nf : Nat) (df : Nat → Int32) (nr : Nat) (dr : Nat → Int32) (na : Nat) (da : Nat → Int32) (nt : Nat) (ct : Nat → Int32) (lf : Nat → Option Nat) (tf : Nat → Option Nat) (TL : Nat → Nat) (TG : Nat → Nat → Int32) (LL : Nat → Nat) (LG : Nat → Nat → Int32) (N1 : Nat → Nat) (E1 : Nat → Nat → Int32) (P1 : Nat → Int32) (L1 : Nat → Nat) (S1 : Nat → Nat → Int32) (W1 : Nat → Nat) (X1 : Nat → Nat → Int32) (N2 : Nat → Nat) (E2 : Nat → Nat → Int32) (P2 : Nat → Int32) (L2 : Nat → Nat) (S2 : Nat → Nat → Int32) (W2 : Nat → Nat) (X2 : Nat → Nat → Int32) (a1 : Int32) (hx0 : f 0 = eO 9 [.ref (g 1), .ref (g 36), .ref (g 2), .ref (g 3), .ref (g 4), .ref (g 6), .ref (g 7)]) (hctc : f 1 = eO 1 [.ref (g 36), .ref (g 12), .ref (g 13), .ref (g 15), .int (nI se)]) (hhs : f 12 = eA G 4 10 hf) (him : f 2 = eA G 3 2 imf) (hkp : f 3 = eZ G 2 kf) (hrd : f 4 = eO 4 [.ref (g 5), .int (nI mc), .int op, .int cm, .int wu]) (hmk : f 5 = eI G 50 mk) (hfc6 : f 6 = eO 2 [.long ab, .long be]) (hwt : f 7 = eO 8 [.ref (g 8), .ref (g 9), .ref (g 10), .ref (g 11), .int (nI mn), .int le]) (hw8 : f 8 = eI G 6 wt) (hw9 : f 9 = eI G 6 ww) (hw10 : f 10 = eI G 6 wb) (hw11 : f 11 = eI G 6 wf) (hvl : f 15 = eJ G 50 vv) (hbk : f 36 = eO 0 [.ref (g 37), .ref (g 39), .ref (g 41), .ref (g 43), .ref (g 45), .ref (g 47), .ref (g 112), .int pay, .int fine]) (hpr : f 37 = eO 5 [.int (nI 30), .int (nI 4), .ref (g 38), .int (nI np)]) (hpd : f 38 = eI G (30 * 4) dp) (hfr : f 39 = eO 5 [.int (nI 40), .int (nI 3), .ref (g 40), .int (nI nf)]) (hfd : f 40 = eI G (40 * 3) df) (hor : f 41 = eO 5 [.int (nI 4), .int (nI 3), .ref (g 42), .int (nI nr)]) (hod : f 42 = eI G (4 * 3) dr) (har : f 43 = eO 5 [.int (nI 20), .int (nI 3), .ref (g 44), .int (nI na)]) (had : f 44 = eI G (20 * 3) da) (htr : f 45 = eO 5 [.int (nI 10), .int (nI 70), .ref (g 46), .int (nI nt)]) (hct : f 46 = eI G (10 * 70) ct) (hla : f 47 = eO 6 [.ref (g 48), .ref (g 49)]) (hlaa : f 48 = eA G 5 20 lf) (hts0 : f 112 = eO 6 [.ref (g 113), .ref (g 114)]) (htsa : f 113 = eA G 5 4 tf) (hse : se ≤ 10) (hhf : ∀ i, i < 10 → hf i = some (g (2 * i + 16))) (him0 : imf 0 = some (g 129)) (him1 : imf 1 = some (g 222)) (hmc : mc ≤ 50) (hmn : mn ≤ 6) (hnp : np ≤ 30) (hnf : nf ≤ 40) (hnr : nr ≤ 4) (hna : na ≤ 20) (hnt : nt ≤ 10) (hlf : ∀ z, z < 20 → lf z = some (g (47 + 3 * z + 5))) (htf : ∀ z, z < 4 → tf z = some (g (112 + 3 * z + 5))) (hsn : se ≤ nt) (hTr : trC ct nt) (hH : ∀ i, i < 10 → okH G g f (2 * i + 16)) (hSp : okH G g f 13) (hL : ∀ i, i < 20 → ltx G g f (3 * i + 52) (LL i) (LG i) (i < na)) (hT : ∀ i, i < 4 → txt G g f (3 * i + 117) (TL i) (TG i)) (hB1 : bkD G g f 129 N1 E1 P1 L1 S1 W1 X1) (hB2 : bkD G g f 222 N2 E2 P2 L2 S2 W2 X2) (hQ : ∀ z, z < se → cHz G g f np nf nr na dp df dr da ct LL LG z) : Met l yX10_bad (wsT yX10_bad cX10_bad 4 (some .int)) ({ frames := 7, cells := 0, slots := 0, locals := 176 }) (bP G g f [.ref (g 0), .int a1]) (bQi G g (fun (z9 : Int32) (f' : Nat → va_E) => (cJ G g f' np dp nf df nr dr nt ct pay fine kf na da TL TG LL LG N1 E1 P1 L1 S1 W1 X1 N2 E2 P2 L2 S2 W2 X2) ∧ ((¬ inB 0 a1 9999 = true ∧ z9 = -2) ∨ (inB 0 a1 9999 = true ∧ z9 = bdV (fun i c => df (3 * i + c)) (fun t c => ct (70 * t + c)) (cJr np nf nr na dp df dr da ct LL LG) nf a1 nt)) ∧ ∀ j, 315 ≤ j → f' j = f j)) 0 0 (gA g) := by
  refine Met.ofW (cc := cX10_bad) (maxL := 4) (ret := (some .int)) (by decide) rfl ?_
  intro p e s m args below meth c s₁ B hml hv
  obtain ⟨rfl, hP, hG⟩ := hv
  have hx := B.exec
  have hb := B.bytes
  have hr := B.returns
  have hts := my_hts (atoms_spec (ws := wsT yX10_bad cX10_bad 4 (some .int)) B.pre)
  have hown : s.vm.findClass RX10 = some m.cls := findClass_of_methodNamed B.named
  have hlocks := B.notSynchronized
  have hS : va_S (gA g) s.heap s.heap [] := va_S.rf
  have hl := lv_entry ([.ref (g 0), .int a1]) (n := 4) (Nat.le_of_ble_eq_true rfl)
  rw [lg_entry_eq]
  generalize (lg_sl ([.ref (g 0), .int a1]) ++ List.replicate (4 - (lg_sl ([.ref (g 0), .int a1])).length) Slot.unset).toArray = ls at hl ⊢
  have hl : lv_has ls 4 [(0, .ref (g 0)), (1, .int a1)] := hl
  refine W_q8 (fun Q9 hQ9 => ?_)
  refine lv_iload_n hx hb dX10_bad_0 rfl (lv_at hl 1 rfl) ?_
  refine rd_calli (va_runS (As := [.int a1]) (rest := []) ⟨hx, hb, hml, hown, hts⟩ (s_isDay l G g hg f a1  ) (my_cwS hts ok_X10_isDay w_178 rfl rfl ⟨Nat.le_of_ble_eq_true rfl, Nat.le_of_ble_eq_true rfl⟩) ⟨bP.blind, fun U hU hW => ⟨rfl, by rw [hU]; exact hP, kG.warm hW hG⟩⟩ rfl rfl hl.1 rfl (lv_room (Nat.le_of_ble_eq_true rfl)) dX10_bad_1 ⟨Nat.le_of_ble_eq_true rfl, Nat.le_of_ble_eq_true rfl⟩) (fun r hr9 => ?_)
  subst hr9
  refine my_ifne (tgt := 10) hx hb dX10_bad_4 (by decide) (fun c_4 => ?_) (fun c_4 => ?_)
  · refine lv_aload_n hx hb dX10_bad_10 rfl (lv_at hl 0 rfl) ?_
    refine va_get (D := G.1) (ci := 9) (v := .ref (g 1)) (C := RX10) (T := TX10) (N := 7) hx hb hts inlX10 hown hG.1 hP 0 (wl_at (by decide) hx0) rfl 0 (by decide) (hts (.fieldLink RX10 12 "SwornLists" "court" "LSwornLists$Court;") w_15) (fun _ h9 => h9) rfl dX10_bad_11 ?_
    refine b_callv (va_runV (As := []) (rest := []) ⟨hx, hb, hml, hown, hts⟩ (u_settleE l G g hg f se hf pay fine nt ct np dp nf df nr dr na da lf vv LL LG hctc hhs hbk htr hct hpr hpd hfr hfd hor hod har had hla hlaa hvl (by first | assumption | omega | decide) (by first | assumption | omega | decide) (by first | assumption | omega | decide) (by first | assumption | omega | decide) (by first | assumption | omega | decide) (by first | assumption | omega | decide) (by first | assumption | omega | decide) (by first | assumption | omega | decide) (hTr.1) (hTr.2.1) (hTr.2.2.1) (by first | assumption | omega | decide) (hQ) (by first | assumption | omega | decide) (hL)) (my_cwV hts ok_X1_settle w_384 rfl rfl ⟨Nat.le_of_ble_eq_true rfl, Nat.le_of_ble_eq_true rfl⟩) ⟨bP.blind, va_recv hG.1 hP (ci := 1) (q0 := 1) rfl (wl_at (by decide) hctc), fun U hU hW => ⟨rfl, by rw [hU]; exact hP, kG.warm hW hG⟩⟩ rfl rfl hl.1 rfl (lv_room (Nat.le_of_ble_eq_true rfl)) dX10_bad_14 ⟨Nat.le_of_ble_eq_true rfl, Nat.le_of_ble_eq_true rfl⟩) hS (fun f_1 H locs hq9 hP hS => ?_)
    obtain ⟨vv91, hq_1_0, hq_1_1, hx_1_0, hx_1_1, o_1⟩ := hq9
    have hctc : f_1 1 = eO 1 [.ref (g 36), .ref (g 12), .ref (g 13), .ref (g 15), .int (nI nt)] := hq_1_0
    have hvl : f_1 15 = eJ G 50 vv91 := hq_1_1
    have hH : ∀ i, i < 10 → okH G g f_1 (2 * i + 16) := hx_1_0
    have hQn : ∀ z, z < nt → cHz G g f_1 np nf nr na dp df dr da ct LL LG z := hx_1_1
    refine lv_iconst (v := 0) hx hb dX10_bad_17 (by decide) ?_
    refine lv_istore_n (lv' := [(2, .int 0), (0, .ref (g 0)), (1, .int a1)]) hx hb dX10_bad_18 rfl hl (by decide) rfl (fun ls hl => ?_)
    refine lv_iconst (v := 0) hx hb dX10_bad_19 (by decide) ?_
    refine lv_istore_n (lv' := [(3, .int 0), (2, .int 0), (0, .ref (g 0)), (1, .int a1)]) hx hb dX10_bad_20 rfl hl (by decide) rfl (fun ls hl => ?_)
    replace hSp : okH G g f_1 13 := okH_fr hSp (o_1 _ (by omega)) (o_1 _ (by omega))
    replace hL : ∀ i, i < 20 → ltx G g f_1 (3 * i + 52) (LL i) (LG i) (i < na) := fun z hz => ltx_fr (hL z hz) (o_1 _ (by omega)) (o_1 _ (by omega)) (o_1 _ (by omega))
    replace hT : ∀ i, i < 4 → txt G g f_1 (3 * i + 117) (TL i) (TG i) := fun z hz => txt_fr (hT z hz) (o_1 _ (by omega)) (o_1 _ (by omega)) (o_1 _ (by omega))
    replace hB1 : bkD G g f_1 129 N1 E1 P1 L1 S1 W1 X1 := bkD_fr hB1 (fun j _ _ => o_1 j (by omega))
    replace hB2 : bkD G g f_1 222 N2 E2 P2 L2 S2 W2 X2 := bkD_fr hB2 (fun j _ _ => o_1 j (by omega))
    replace hx0 := ((o_1 0 (by first | decide | omega))).trans hx0
    replace hhs := ((o_1 12 (by first | decide | omega))).trans hhs
    replace him := ((o_1 2 (by first | decide | omega))).trans him
    replace hkp := ((o_1 3 (by first | decide | omega))).trans hkp
    replace hrd := ((o_1 4 (by first | decide | omega))).trans hrd
    replace hmk := ((o_1 5 (by first | decide | omega))).trans hmk
    replace hfc6 := ((o_1 6 (by first | decide | omega))).trans hfc6
    replace hwt := ((o_1 7 (by first | decide | omega))).trans hwt
    replace hw8 := ((o_1 8 (by first | decide | omega))).trans hw8
    replace hw9 := ((o_1 9 (by first | decide | omega))).trans hw9
    replace hw10 := ((o_1 10 (by first | decide | omega))).trans hw10
    replace hw11 := ((o_1 11 (by first | decide | omega))).trans hw11
    replace hbk := ((o_1 36 (by first | decide | omega))).trans hbk
    replace hpr := ((o_1 37 (by first | decide | omega))).trans hpr
    replace hpd := ((o_1 38 (by first | decide | omega))).trans hpd
    replace hfr := ((o_1 39 (by first | decide | omega))).trans hfr
    replace hfd := ((o_1 40 (by first | decide | omega))).trans hfd
    replace hor := ((o_1 41 (by first | decide | omega))).trans hor
    replace hod := ((o_1 42 (by first | decide | omega))).trans hod
    replace har := ((o_1 43 (by first | decide | omega))).trans har
    replace had := ((o_1 44 (by first | decide | omega))).trans had
    replace htr := ((o_1 45 (by first | decide | omega))).trans htr
    replace hct := ((o_1 46 (by first | decide | omega))).trans hct
    replace hla := ((o_1 47 (by first | decide | omega))).trans hla
    replace hlaa := ((o_1 48 (by first | decide | omega))).trans hlaa
    replace hts0 := ((o_1 112 (by first | decide | omega))).trans hts0
    replace htsa := ((o_1 113 (by first | decide | omega))).trans htsa
    have key2 : ∀ (n9_2 : Nat) (i : Nat) (u : Int32) (f_2 : Nat → va_E) (H : Heap) (locs : List Loc) (ls : Array Slot), (i ≤ nt) → (u = bdV (fun i c => df (3 * i + c)) (fun t c => ct (70 * t + c)) (cJr np nf nr na dp df dr da ct LL LG) nf a1 i) → (∀ i, i < 10 → okH G g f_2 (2 * i + 16)) → (okH G g f_2 13) → (∀ i, i < 20 → ltx G g f_2 (3 * i + 52) (LL i) (LG i) (i < na)) → (∀ i, i < 4 → txt G g f_2 (3 * i + 117) (TL i) (TG i)) → (bkD G g f_2 129 N1 E1 P1 L1 S1 W1 X1) → (bkD G g f_2 222 N2 E2 P2 L2 S2 W2 X2) → (∀ z, z < nt → cHz G g f_2 np nf nr na dp df dr da ct LL LG z) → nt - i < n9_2 → f_2 0 = eO 9 [.ref (g 1), .ref (g 36), .ref (g 2), .ref (g 3), .ref (g 4), .ref (g 6), .ref (g 7)] → f_2 1 = eO 1 [.ref (g 36), .ref (g 12), .ref (g 13), .ref (g 15), .int (nI nt)] → f_2 12 = eA G 4 10 hf → f_2 2 = eA G 3 2 imf → f_2 3 = eZ G 2 kf → f_2 4 = eO 4 [.ref (g 5), .int (nI mc), .int op, .int cm, .int wu] → f_2 5 = eI G 50 mk → f_2 6 = eO 2 [.long ab, .long be] → f_2 7 = eO 8 [.ref (g 8), .ref (g 9), .ref (g 10), .ref (g 11), .int (nI mn), .int le] → f_2 8 = eI G 6 wt → f_2 9 = eI G 6 ww → f_2 10 = eI G 6 wb → f_2 11 = eI G 6 wf → f_2 15 = eJ G 50 vv91 → f_2 36 = eO 0 [.ref (g 37), .ref (g 39), .ref (g 41), .ref (g 43), .ref (g 45), .ref (g 47), .ref (g 112), .int pay, .int fine] → f_2 37 = eO 5 [.int (nI 30), .int (nI 4), .ref (g 38), .int (nI np)] → f_2 38 = eI G (30 * 4) dp → f_2 39 = eO 5 [.int (nI 40), .int (nI 3), .ref (g 40), .int (nI nf)] → f_2 40 = eI G (40 * 3) df → f_2 41 = eO 5 [.int (nI 4), .int (nI 3), .ref (g 42), .int (nI nr)] → f_2 42 = eI G (4 * 3) dr → f_2 43 = eO 5 [.int (nI 20), .int (nI 3), .ref (g 44), .int (nI na)] → f_2 44 = eI G (20 * 3) da → f_2 45 = eO 5 [.int (nI 10), .int (nI 70), .ref (g 46), .int (nI nt)] → f_2 46 = eI G (10 * 70) ct → f_2 47 = eO 6 [.ref (g 48), .ref (g 49)] → f_2 48 = eA G 5 20 lf → f_2 112 = eO 6 [.ref (g 113), .ref (g 114)] → f_2 113 = eA G 5 4 tf → (∀ j, (j < 333 ∨ 333 ≤ j) → f_2 j = f_1 j) → va_P G.1 vwCl (wl g f_2) H → va_S (gA g) s.heap H locs → lv_has ls 4 [(0, .ref (g 0)), (1, .int a1), (2, .int u), (3, .int (nI i))] → W p l e (headSpec (wsT yX10_bad cX10_bad 4 (some .int)) ({ frames := 7, cells := 0, slots := 0, locals := 176 })).room s m ([.ref (g 0), .int a1] : List Value).toArray below meth c H locs 0 0 Q9 (F0 m 21 ls []) := by
      intro n9_2
      induction n9_2 with
      | zero => intro i u f_2 H locs ls hi hu hH hSp hL hT hB1 hB2 hQn hn9_2; exact absurd hn9_2 (Nat.not_lt_zero _)
      | succ n9_2 ih_2 =>
        intro i u f_2 H locs ls hi hu hH hSp hL hT hB1 hB2 hQn hn9_2 hx0 hctc hhs him hkp hrd hmk hfc6 hwt hw8 hw9 hw10 hw11 hvl hbk hpr hpd hfr hfd hor hod har had htr hct hla hlaa hts0 htsa o_2 hP hS hl
        refine lv_iload_n hx hb dX10_bad_21 rfl (lv_at hl 3 rfl) ?_
        refine lv_aload_n hx hb dX10_bad_22 rfl (lv_at hl 0 rfl) ?_
        refine va_get (D := G.1) (ci := 9) (v := .ref (g 36)) (C := RX10) (T := TX10) (N := 7) hx hb hts inlX10 hown hG.1 hP 0 (wl_at (by decide) hx0) rfl 1 (by decide) (hts (.fieldLink RX10 20 "SwornLists" "book" "LSwornLists$Book;") w_16) (fun _ h9 => h9) rfl dX10_bad_23 ?_
        refine va_getN (D := G.1) (ci := 0) (v := .ref (g 45)) (C := RX0) (T := TX0) (N := 9) (host := RX10) hx hb hts inlX0 hown hG.1 hP 36 (wl_at (by decide) hbk) rfl 4 (by decide) (va_Nw.use rfl (hG.2.1 (.fieldLinkNest RX10 162 RX0 "trials" "LSwornLists$Rows;" RX10) (List.mem_of_getElem? (i := 7) rfl))) (fun _ h9 => h9) rfl dX10_bad_26 ?_
        refine rd_calli (va_runV (As := []) (rest := [.int (nI i)]) ⟨hx, hb, hml, hown, hts⟩ (r_size l G g hg f_2 45 10 70 nt htr (by first | assumption | omega | decide) (by first | assumption | omega | decide) (by first | assumption | omega | decide) (by first | assumption | omega | decide)) (my_cwV hts ok_X5_size w_642 rfl rfl ⟨Nat.le_of_ble_eq_true rfl, Nat.le_of_ble_eq_true rfl⟩) ⟨bP.blind, va_recv hG.1 hP (ci := 5) (q0 := 45) rfl (wl_at (by decide) htr), fun U hU hW => ⟨rfl, by rw [hU]; exact hP, kG.warm hW hG⟩⟩ rfl rfl hl.1 rfl (lv_room (Nat.le_of_ble_eq_true rfl)) dX10_bad_29 ⟨Nat.le_of_ble_eq_true rfl, Nat.le_of_ble_eq_true rfl⟩) (fun r hr9 => ?_)
        subst hr9
        refine lv_icmp_ge (tgt := 71) hx hb dX10_bad_32 (by decide) (fun c_32 => ?_) (fun c_32 => ?_)
        · have h9n := (nI_leI (by omega) (by omega)).mp c_32
          refine lv_iload_n hx hb dX10_bad_71 rfl (lv_at hl 2 rfl) ?_
          refine W_q9 hQ9 ?_
          exact W.iret (v := u) hx hb hr (fun _ hT9 _ => ⟨⟨_, f_2, rfl, (⟨cJ_mk (nt) (hf) (imf) (mc) (op) (cm) (wu) (mk) (ab) (be) (mn) (le) (wt) (ww) (wb) (wf) (vv91) (lf) (tf) (hx0) (hctc) (hhs) (him) (hkp) (hrd) (hmk) (hfc6) (hwt) (hw8) (hw9) (hw10) (hw11) (hvl) (hbk) (hpr) (hpd) (hfr) (hfd) (hor) (hod) (har) (had) (htr) (hct) (hla) (hlaa) (hts0) (htsa) (by omega) (hhf) (him0) (him1) (by omega) (by omega) (by omega) (by omega) (by omega) (by omega) (by omega) (hlf) (htf) (by omega) (hH) (hSp) (hL) (hT) (hB1) (hB2) (hQn), (Or.inr ⟨c_4, by rw [hu, show i = nt by omega]⟩), fun j hj => ((o_2 j (by omega))).trans (o_1 j (by omega))⟩), by rw [hT9]; exact hP⟩, hS.F hT9⟩) hS.2.2 dX10_bad_72
        · have hi9 : i < nt := Nat.not_le.mp (fun z => c_32 (nI_le z (by omega)))
          obtain ⟨od7, hh7, ho7, hd7⟩ := id (hQn i (by omega))
          have hm7 : hM (cBx np nf nr na dp df dr da ct LL LG i) (fun c => ct (70 * i + c)) ≤ 24 := by
            have h9 := hTr.2.2.1 i (by omega)
            exact Nat.le_trans (Nat.min_le_left _ _) h9
          refine lv_aload_n hx hb dX10_bad_35 rfl (lv_at hl 0 rfl) ?_
          refine va_get (D := G.1) (ci := 9) (v := .ref (g 1)) (C := RX10) (T := TX10) (N := 7) hx hb hts inlX10 hown hG.1 hP 0 (wl_at (by decide) hx0) rfl 0 (by decide) (hts (.fieldLink RX10 12 "SwornLists" "court" "LSwornLists$Court;") w_15) (fun _ h9 => h9) rfl dX10_bad_36 ?_
          refine lv_iload_n hx hb dX10_bad_39 rfl (lv_at hl 3 rfl) ?_
          refine rd_calla (va_runV (As := [.int (nI i)]) (rest := []) ⟨hx, hb, hml, hown, hts⟩ (u_hearing l G g hg f_2 nt hf i hctc hhs (by first | assumption | omega | decide) (by first | assumption | omega | decide) (by first | assumption | omega | decide)) (my_cwV hts ok_X1_hearing w_675 rfl rfl ⟨Nat.le_of_ble_eq_true rfl, Nat.le_of_ble_eq_true rfl⟩) ⟨bP.blind, va_recv hG.1 hP (ci := 1) (q0 := 1) rfl (wl_at (by decide) hctc), fun U hU hW => ⟨rfl, by rw [hU]; exact hP, kG.warm hW hG⟩⟩ rfl rfl hl.1 rfl (lv_room (Nat.le_of_ble_eq_true rfl)) dX10_bad_40 ⟨Nat.le_of_ble_eq_true rfl, Nat.le_of_ble_eq_true rfl⟩) (fun r hr9 => ?_)
          subst hr9
          refine va_getN (D := G.1) (ci := 3) (v := .int (hSw (cBx np nf nr na dp df dr da ct LL LG i) (pasV (cFt np nf nr na dp df dr da ct LL LG i) (cBx np nf nr na dp df dr da ct LL LG i)) (fun c => ct (70 * i + c)))) (C := RX3) (T := TX3) (N := 9) (host := RX10) hx hb hts inlX3 hown hG.1 hP (2 * i + 16) (wl_at (by omega) hh7) rfl 8 (by decide) (va_Nw.use rfl (hG.2.1 (.fieldLinkNest RX10 188 RX3 "sworn" "I" RX10) (List.mem_of_getElem? (i := 16) rfl))) (fun _ h9 => h9) rfl dX10_bad_43 ?_
          refine lv_aload_n hx hb dX10_bad_46 rfl (lv_at hl 0 rfl) ?_
          refine va_get (D := G.1) (ci := 9) (v := .ref (g 36)) (C := RX10) (T := TX10) (N := 7) hx hb hts inlX10 hown hG.1 hP 0 (wl_at (by decide) hx0) rfl 1 (by decide) (hts (.fieldLink RX10 20 "SwornLists" "book" "LSwornLists$Book;") w_16) (fun _ h9 => h9) rfl dX10_bad_47 ?_
          refine lv_iload_n hx hb dX10_bad_50 rfl (lv_at hl 3 rfl) ?_
          refine lv_iload_n hx hb dX10_bad_51 rfl (lv_at hl 1 rfl) ?_
          refine rd_calli (va_runV (As := [.int (nI i), .int a1]) (rest := [.int (hSw (cBx np nf nr na dp df dr da ct LL LG i) (pasV (cFt np nf nr na dp df dr da ct LL LG i) (cBx np nf nr na dp df dr da ct LL LG i)) (fun c => ct (70 * i + c)))]) ⟨hx, hb, hml, hown, hts⟩ (k_kinOfSidesE l G g hg f_2 pay fine nf df nt ct i a1 hbk hfr hfd htr hct (by first | assumption | omega | decide) (by first | assumption | omega | decide) (by first | assumption | omega | decide)) (my_cwV hts ok_X0_kinOfSides w_734 rfl rfl ⟨Nat.le_of_ble_eq_true rfl, Nat.le_of_ble_eq_true rfl⟩) ⟨bP.blind, va_recv hG.1 hP (ci := 0) (q0 := 36) rfl (wl_at (by decide) hbk), fun U hU hW => ⟨rfl, by rw [hU]; exact hP, kG.warm hW hG⟩⟩ rfl rfl hl.1 rfl (lv_room (Nat.le_of_ble_eq_true rfl)) dX10_bad_52 ⟨Nat.le_of_ble_eq_true rfl, Nat.le_of_ble_eq_true rfl⟩) (fun r hr9 => ?_)
          subst hr9
          refine lv_iand hx hb dX10_bad_55 ?_
          refine lv_if_eq (tgt := 65) hx hb dX10_bad_56 (by decide) (fun c_56 => ?_) (fun c_56 => ?_)
          · refine lv_iinc (v := nI (i + 1)) (lv' := [(3, .int (nI (i + 1))), (0, .ref (g 0)), (1, .int a1), (2, .int u)]) hx hb dX10_bad_65 hl (k := 3) rfl (nI_1 i) (by decide) rfl (fun ls hl => ?_)
            refine lv_goto (tgt := 21) hx hb dX10_bad_68 (by decide) ?_
            exact ih_2 (i + 1) u f_2 _ _ _ (hi9) (by rw [hu, bdV_n (F := (fun i c => df (3 * i + c))) (T := (fun t c => ct (70 * t + c))) (J := (cJr np nf nr na dp df dr da ct LL LG)) (by rw [cJr_eq]; exact c_56)]) (hH) (hSp) (hL) (hT) (hB1) (hB2) (hQn) (by omega) (hx0) (hctc) (hhs) (him) (hkp) (hrd) (hmk) (hfc6) (hwt) (hw8) (hw9) (hw10) (hw11) (hvl) (hbk) (hpr) (hpd) (hfr) (hfd) (hor) (hod) (har) (had) (htr) (hct) (hla) (hlaa) (hts0) (htsa) (fun j hj => (o_2 j (by omega))) hP hS (lv_sub hl [1, 2, 3, 0] rfl)
          · refine lv_iload_n hx hb dX10_bad_59 rfl (lv_at hl 2 rfl) ?_
            refine lv_iconst (v := 1) hx hb dX10_bad_60 (by decide) ?_
            refine lv_iload_n hx hb dX10_bad_61 rfl (lv_at hl 3 rfl) ?_
            refine lv_ishl hx hb dX10_bad_62 ?_
            refine lv_ior hx hb dX10_bad_63 ?_
            refine lv_istore_n (lv' := [(2, .int (u ||| (1 <<< ((nI i) &&& 31)))), (0, .ref (g 0)), (1, .int a1), (3, .int (nI i))]) hx hb dX10_bad_64 rfl hl (by decide) rfl (fun ls hl => ?_)
            refine lv_iinc (v := nI (i + 1)) (lv' := [(3, .int (nI (i + 1))), (2, .int (u ||| (1 <<< ((nI i) &&& 31)))), (0, .ref (g 0)), (1, .int a1)]) hx hb dX10_bad_65 hl (k := 3) rfl (nI_1 i) (by decide) rfl (fun ls hl => ?_)
            refine lv_goto (tgt := 21) hx hb dX10_bad_68 (by decide) ?_
            exact ih_2 (i + 1) (u ||| (1 <<< ((nI i) &&& 31))) f_2 _ _ _ (hi9) (by rw [hu, bdV_y (F := (fun i c => df (3 * i + c))) (T := (fun t c => ct (70 * t + c))) (J := (cJr np nf nr na dp df dr da ct LL LG)) (by rw [cJr_eq]; exact c_56)]; rfl) (hH) (hSp) (hL) (hT) (hB1) (hB2) (hQn) (by omega) (hx0) (hctc) (hhs) (him) (hkp) (hrd) (hmk) (hfc6) (hwt) (hw8) (hw9) (hw10) (hw11) (hvl) (hbk) (hpr) (hpd) (hfr) (hfd) (hor) (hod) (har) (had) (htr) (hct) (hla) (hlaa) (hts0) (htsa) (fun j hj => (o_2 j (by omega))) hP hS (lv_sub hl [2, 3, 1, 0] rfl)
    exact key2 (nt + 1) 0 0 f_1 _ _ _ (Nat.zero_le _) (rfl) (hH) (hSp) (hL) (hT) (hB1) (hB2) (hQn) (by omega) (hx0) (hctc) (hhs) (him) (hkp) (hrd) (hmk) (hfc6) (hwt) (hw8) (hw9) (hw10) (hw11) (hvl) (hbk) (hpr) (hpd) (hfr) (hfd) (hor) (hod) (har) (had) (htr) (hct) (hla) (hlaa) (hts0) (htsa) (fun j _ => rfl) hP hS (lv_sub hl [2, 3, 1, 0] rfl)
  · refine lv_bipush (v := (-2)) hx hb dX10_bad_7 (by decide) ?_
    refine W_q9 hQ9 ?_
    exact W.iret (v := (-2)) hx hb hr (fun _ hT9 _ => ⟨⟨_, f, rfl, (⟨cJ_mk (se) (hf) (imf) (mc) (op) (cm) (wu) (mk) (ab) (be) (mn) (le) (wt) (ww) (wb) (wf) (vv) (lf) (tf) (hx0) (hctc) (hhs) (him) (hkp) (hrd) (hmk) (hfc6) (hwt) (hw8) (hw9) (hw10) (hw11) (hvl) (hbk) (hpr) (hpd) (hfr) (hfd) (hor) (hod) (har) (had) (htr) (hct) (hla) (hlaa) (hts0) (htsa) (by omega) (hhf) (him0) (him1) (by omega) (by omega) (by omega) (by omega) (by omega) (by omega) (by omega) (hlf) (htf) (by omega) (hH) (hSp) (hL) (hT) (hB1) (hB2) (hQ), (Or.inl ⟨c_4, rfl⟩), fun j hj => rfl⟩), by rw [hT9]; exact hP⟩, hS.F hT9⟩) hS.2.2 dX10_bad_9
theorem j_bad (l : Launch) (G : gW) (g : Nat → Nat) (hg : gOK g) (f : Nat → va_E) (np : Nat) (dp : Nat → Int32) (nf : Nat) (df : Nat → Int32) (nr : Nat) (dr : Nat → Int32) (nt : Nat) (ct : Nat → Int32) (pay : Int32) (fine : Int32) (kf : Nat → Int32) (na : Nat) (da : Nat → Int32) (TL : Nat → Nat) (TG : Nat → Nat → Int32) (LL : Nat → Nat) (LG : Nat → Nat → Int32) (N1 : Nat → Nat) (E1 : Nat → Nat → Int32) (P1 : Nat → Int32) (L1 : Nat → Nat) (S1 : Nat → Nat → Int32) (W1 : Nat → Nat) (X1 : Nat → Nat → Int32) (N2 : Nat → Nat) (E2 : Nat → Nat → Int32) (P2 : Nat → Int32) (L2 : Nat → Nat) (S2 : Nat → Nat → Int32) (W2 : Nat → Nat) (X2 : Nat → Nat → Int32) (a1 : Int32) (hI : cJ G g f np dp nf df nr dr nt ct pay fine kf na da TL TG LL LG N1 E1 P1 L1 S1 W1 X1 N2 E2 P2 L2 S2 W2 X2) (hTr : trC ct nt) : Met l yX10_bad (wsT yX10_bad cX10_bad 4 (some .int)) ({ frames := 7, cells := 0, slots := 0, locals := 176 }) (bP G g f [.ref (g 0), .int a1]) (bQi G g (fun (z9 : Int32) (f' : Nat → va_E) => (cJ G g f' np dp nf df nr dr nt ct pay fine kf na da TL TG LL LG N1 E1 P1 L1 S1 W1 X1 N2 E2 P2 L2 S2 W2 X2) ∧ ((¬ inB 0 a1 9999 = true ∧ z9 = -2) ∨ (inB 0 a1 9999 = true ∧ z9 = bdV (fun i c => df (3 * i + c)) (fun t c => ct (70 * t + c)) (cJr np nf nr na dp df dr da ct LL LG) nf a1 nt)) ∧ ∀ j, 315 ≤ j → f' j = f j)) 0 0 (gA g) := cJ_elim hI (fun se hf imf mc op cm wu mk ab be mn le wt ww wb wf vv lf tf hx0 hctc hhs him hkp hrd hmk hfc6 hwt hw8 hw9 hw10 hw11 hvl hbk hpr hpd hfr hfd hor hod har had htr hct hla hlaa hts0 htsa hse hhf him0 him1 hmc hmn hnp hnf hnr hna hnt hlf htf hsn hH hSp hL hT hB1 hB2 hQ => jn_bad l G g hg f se hf imf kf mc op cm wu mk ab be mn le wt ww wb wf vv pay fine np dp nf df nr dr na da nt ct lf tf TL TG LL LG N1 E1 P1 L1 S1 W1 X1 N2 E2 P2 L2 S2 W2 X2 a1 hx0 hctc hhs him hkp hrd hmk hfc6 hwt hw8 hw9 hw10 hw11 hvl hbk hpr hpd hfr hfd hor hod har had htr hct hla hlaa hts0 htsa hse hhf him0 him1 hmc hmn hnp hnf hnr hna hnt hlf htf hsn hTr hH hSp hL hT hB1 hB2 hQ)
set_option maxHeartbeats 4000000 in
set_option maxRecDepth 100000 in
theorem jn_owed (l : Launch) (G : gW) (g : Nat → Nat) (hg : gOK g) (f : Nat → va_E) (se : Nat) (hf : Nat → Option Nat) (imf : Nat → Option Nat) (kf : Nat → Int32) (mc : Nat) (op : Int32) (cm : Int32) (wu : Int32) (mk : Nat → Int32) (ab : Int64) (be : Int64) (mn : Nat) (le : Int32) (wt : Nat → Int32) (ww : Nat → Int32) (wb : Nat → Int32) (wf : Nat → Int32) (vv : Nat → Int64) (pay : Int32) (fine : Int32) (np : Nat) (dp : Nat → Int32) (nf : Nat) (df : Nat → Int32) (nr : Nat) (dr : Nat → Int32) (na : Nat) (da : Nat → Int32) (nt : Nat) (ct : Nat → Int32) (lf : Nat → Option Nat) (tf : Nat → Option Nat) (TL : Nat → Nat) (TG : Nat → Nat → Int32) (LL : Nat → Nat) (LG : Nat → Nat → Int32) (N1 : Nat → Nat) (E1 : Nat → Nat → Int32) (P1 : Nat → Int32) (L1 : Nat → Nat) (S1 : Nat → Nat → Int32) (W1 : Nat → Nat) (X1 : Nat → Nat → Int32) (N2 : Nat → Nat) (E2 : Nat → Nat → Int32) (P2 : Nat → Int32) (L2 : Nat → Nat) (S2 : Nat → Nat → Int32) (W2 : Nat → Nat) (X2 : Nat → Nat → Int32) (a1 : Int32) (a2 : Int32) (hx0 : f 0 = eO 9 [.ref (g 1), .ref (g 36), .ref (g 2), .ref (g 3), .ref (g 4), .ref (g 6), .ref (g 7)]) (hctc : f 1 = eO 1 [.ref (g 36), .ref (g 12), .ref (g 13), .ref (g 15), .int (nI se)]) (hhs : f 12 = eA G 4 10 hf) (him : f 2 = eA G 3 2 imf) (hkp : f 3 = eZ G 2 kf) (hrd : f 4 = eO 4 [.ref (g 5), .int (nI mc), .int op, .int cm, .int wu]) (hmk : f 5 = eI G 50 mk) (hfc6 : f 6 = eO 2 [.long ab, .long be]) (hwt : f 7 = eO 8 [.ref (g 8), .ref (g 9), .ref (g 10), .ref (g 11), .int (nI mn), .int le]) (hw8 : f 8 = eI G 6 wt) (hw9 : f 9 = eI G 6 ww) (hw10 : f 10 = eI G 6 wb) (hw11 : f 11 = eI G 6 wf) (hvl : f 15 = eJ G 50 vv) (hbk : f 36 = eO 0 [.ref (g 37), .ref (g 39), .ref (g 41), .ref (g 43), .ref (g 45), .ref (g 47), .ref (g 112), .int pay, .int fine]) (hpr : f 37 = eO 5 [.int (nI 30), .int (nI 4), .ref (g 38), .int (nI np)]) (hpd : f 38 = eI G (30 * 4) dp) (hfr : f 39 = eO 5 [.int (nI 40), .int (nI 3), .ref (g 40), .int (nI nf)]) (hfd : f 40 = eI G (40 * 3) df) (hor : f 41 = eO 5 [.int (nI 4), .int (nI 3), .ref (g 42), .int (nI nr)]) (hod : f 42 = eI G (4 * 3) dr) (har : f 43 = eO 5 [.int (nI 20), .int (nI 3), .ref (g 44), .int (nI na)]) (had : f 44 = eI G (20 * 3) da) (htr : f 45 = eO 5 [.int (nI 10), .int (nI 70), .ref (g 46), .int (nI nt)]) (hct : f 46 = eI G (10 * 70) ct) (hla : f 47 = eO 6 [.ref (g 48), .ref (g 49)]) (hlaa : f 48 = eA G 5 20 lf) (hts0 : f 112 = eO 6 [.ref (g 113), .ref (g 114)]) (htsa : f 113 = eA G 5 4 tf) (hse : se ≤ 10) (hhf : ∀ i, i < 10 → hf i = some (g (2 * i + 16))) (him0 : imf 0 = some (g 129)) (him1 : imf 1 = some (g 222)) (hmc : mc ≤ 50) (hmn : mn ≤ 6) (hnp : np ≤ 30) (hnf : nf ≤ 40) (hnr : nr ≤ 4) (hna : na ≤ 20) (hnt : nt ≤ 10) (hlf : ∀ z, z < 20 → lf z = some (g (47 + 3 * z + 5))) (htf : ∀ z, z < 4 → tf z = some (g (112 + 3 * z + 5))) (hsn : se ≤ nt) (hTr : trC ct nt) (hH : ∀ i, i < 10 → okH G g f (2 * i + 16)) (hSp : okH G g f 13) (hL : ∀ i, i < 20 → ltx G g f (3 * i + 52) (LL i) (LG i) (i < na)) (hT : ∀ i, i < 4 → txt G g f (3 * i + 117) (TL i) (TG i)) (hB1 : bkD G g f 129 N1 E1 P1 L1 S1 W1 X1) (hB2 : bkD G g f 222 N2 E2 P2 L2 S2 W2 X2) (hQ : ∀ z, z < se → cHz G g f np nf nr na dp df dr da ct LL LG z) : Met l yX10_owed (wsT yX10_owed cX10_owed 6 (some .int)) ({ frames := 7, cells := 0, slots := 0, locals := 176 }) (bP G g f [.ref (g 0), .int a1, .int a2]) (bQi G g (fun (z9 : Int32) (f' : Nat → va_E) => (cJ G g f' np dp nf df nr dr nt ct pay fine kf na da TL TG LL LG N1 E1 P1 L1 S1 W1 X1 N2 E2 P2 L2 S2 W2 X2) ∧ ((¬ (inN a1 np = true ∧ inB 0 a2 9999 = true) ∧ z9 = -1000000) ∨ (∃ po, po < np ∧ a1 = nI po ∧ inB 0 a2 9999 = true ∧ z9 = owV (fun t c => ct (70 * t + c)) (cJr np nf nr na dp df dr da ct LL LG) (fun t => hMi (cBx np nf nr na dp df dr da ct LL LG t) (fun c => ct (70 * t + c))) pay fine a2 po nt)) ∧ ∀ j, 315 ≤ j → f' j = f j)) 0 0 (gA g) := by
  refine Met.ofW (cc := cX10_owed) (maxL := 6) (ret := (some .int)) (by decide) rfl ?_
  intro p e s m args below meth c s₁ B hml hv
  obtain ⟨rfl, hP, hG⟩ := hv
  have hx := B.exec
  have hb := B.bytes
  have hr := B.returns
  have hts := my_hts (atoms_spec (ws := wsT yX10_owed cX10_owed 6 (some .int)) B.pre)
  have hown : s.vm.findClass RX10 = some m.cls := findClass_of_methodNamed B.named
  have hlocks := B.notSynchronized
  have hS : va_S (gA g) s.heap s.heap [] := va_S.rf
  have hl := lv_entry ([.ref (g 0), .int a1, .int a2]) (n := 6) (Nat.le_of_ble_eq_true rfl)
  rw [lg_entry_eq]
  generalize (lg_sl ([.ref (g 0), .int a1, .int a2]) ++ List.replicate (6 - (lg_sl ([.ref (g 0), .int a1, .int a2])).length) Slot.unset).toArray = ls at hl ⊢
  have hl : lv_has ls 6 [(0, .ref (g 0)), (1, .int a1), (2, .int a2)] := hl
  refine W_q8 (fun Q9 hQ9 => ?_)
  refine lv_aload_n hx hb dX10_owed_0 rfl (lv_at hl 0 rfl) ?_
  refine va_get (D := G.1) (ci := 9) (v := .ref (g 36)) (C := RX10) (T := TX10) (N := 7) hx hb hts inlX10 hown hG.1 hP 0 (wl_at (by decide) hx0) rfl 1 (by decide) (hts (.fieldLink RX10 20 "SwornLists" "book" "LSwornLists$Book;") w_16) (fun _ h9 => h9) rfl dX10_owed_1 ?_
  refine va_getN (D := G.1) (ci := 0) (v := .ref (g 37)) (C := RX0) (T := TX0) (N := 9) (host := RX10) hx hb hts inlX0 hown hG.1 hP 36 (wl_at (by decide) hbk) rfl 0 (by decide) (va_Nw.use rfl (hG.2.1 (.fieldLinkNest RX10 57 RX0 "people" "LSwornLists$Rows;" RX10) (List.mem_of_getElem? (i := 0) rfl))) (fun _ h9 => h9) rfl dX10_owed_4 ?_
  refine lv_iload_n hx hb dX10_owed_7 rfl (lv_at hl 1 rfl) ?_
  refine rd_calli (va_runV (As := [.int a1]) (rest := []) ⟨hx, hb, hml, hown, hts⟩ (r_has l G g hg f 37 30 4 np a1 hpr (by first | assumption | omega | decide) (by first | assumption | omega | decide) (by first | assumption | omega | decide) (by first | assumption | omega | decide)) (my_cwV hts ok_X5_has w_174 rfl rfl ⟨Nat.le_of_ble_eq_true rfl, Nat.le_of_ble_eq_true rfl⟩) ⟨bP.blind, va_recv hG.1 hP (ci := 5) (q0 := 37) rfl (wl_at (by decide) hpr), fun U hU hW => ⟨rfl, by rw [hU]; exact hP, kG.warm hW hG⟩⟩ rfl rfl hl.1 rfl (lv_room (Nat.le_of_ble_eq_true rfl)) dX10_owed_8 ⟨Nat.le_of_ble_eq_true rfl, Nat.le_of_ble_eq_true rfl⟩) (fun r hr9 => ?_)
  subst hr9
  refine my_ifeq (tgt := 21) hx hb dX10_owed_11 (by decide) (fun c_11 => ?_) (fun c_11 => ?_)
  · refine lv_ldc (v := (-1000000)) hx hb hown (hts (.constant RX10 207 (-1000000)) w_751) dX10_owed_21 ?_
    refine W_q9 hQ9 ?_
    exact W.iret (v := (-1000000)) hx hb hr (fun _ hT9 _ => ⟨⟨_, f, rfl, (⟨cJ_mk (se) (hf) (imf) (mc) (op) (cm) (wu) (mk) (ab) (be) (mn) (le) (wt) (ww) (wb) (wf) (vv) (lf) (tf) (hx0) (hctc) (hhs) (him) (hkp) (hrd) (hmk) (hfc6) (hwt) (hw8) (hw9) (hw10) (hw11) (hvl) (hbk) (hpr) (hpd) (hfr) (hfd) (hor) (hod) (har) (had) (htr) (hct) (hla) (hlaa) (hts0) (htsa) (by omega) (hhf) (him0) (him1) (by omega) (by omega) (by omega) (by omega) (by omega) (by omega) (by omega) (hlf) (htf) (by omega) (hH) (hSp) (hL) (hT) (hB1) (hB2) (hQ), (Or.inl ⟨fun z => c_11 z.1, rfl⟩), fun j hj => rfl⟩), by rw [hT9]; exact hP⟩, hS.F hT9⟩) hS.2.2 dX10_owed_23
  · refine lv_iload_n hx hb dX10_owed_14 rfl (lv_at hl 2 rfl) ?_
    refine rd_calli (va_runS (As := [.int a2]) (rest := []) ⟨hx, hb, hml, hown, hts⟩ (s_isDay l G g hg f a2  ) (my_cwS hts ok_X10_isDay w_178 rfl rfl ⟨Nat.le_of_ble_eq_true rfl, Nat.le_of_ble_eq_true rfl⟩) ⟨bP.blind, fun U hU hW => ⟨rfl, by rw [hU]; exact hP, kG.warm hW hG⟩⟩ rfl rfl hl.1 rfl (lv_room (Nat.le_of_ble_eq_true rfl)) dX10_owed_15 ⟨Nat.le_of_ble_eq_true rfl, Nat.le_of_ble_eq_true rfl⟩) (fun r hr9 => ?_)
    subst hr9
    refine my_ifne (tgt := 24) hx hb dX10_owed_18 (by decide) (fun c_18 => ?_) (fun c_18 => ?_)
    · obtain ⟨pn, hpn, rfl⟩ := inN_nat (by omega) c_11
      refine lv_aload_n hx hb dX10_owed_24 rfl (lv_at hl 0 rfl) ?_
      refine va_get (D := G.1) (ci := 9) (v := .ref (g 1)) (C := RX10) (T := TX10) (N := 7) hx hb hts inlX10 hown hG.1 hP 0 (wl_at (by decide) hx0) rfl 0 (by decide) (hts (.fieldLink RX10 12 "SwornLists" "court" "LSwornLists$Court;") w_15) (fun _ h9 => h9) rfl dX10_owed_25 ?_
      refine b_callv (va_runV (As := []) (rest := []) ⟨hx, hb, hml, hown, hts⟩ (u_settleE l G g hg f se hf pay fine nt ct np dp nf df nr dr na da lf vv LL LG hctc hhs hbk htr hct hpr hpd hfr hfd hor hod har had hla hlaa hvl (by first | assumption | omega | decide) (by first | assumption | omega | decide) (by first | assumption | omega | decide) (by first | assumption | omega | decide) (by first | assumption | omega | decide) (by first | assumption | omega | decide) (by first | assumption | omega | decide) (by first | assumption | omega | decide) (hTr.1) (hTr.2.1) (hTr.2.2.1) (by first | assumption | omega | decide) (hQ) (by first | assumption | omega | decide) (hL)) (my_cwV hts ok_X1_settle w_384 rfl rfl ⟨Nat.le_of_ble_eq_true rfl, Nat.le_of_ble_eq_true rfl⟩) ⟨bP.blind, va_recv hG.1 hP (ci := 1) (q0 := 1) rfl (wl_at (by decide) hctc), fun U hU hW => ⟨rfl, by rw [hU]; exact hP, kG.warm hW hG⟩⟩ rfl rfl hl.1 rfl (lv_room (Nat.le_of_ble_eq_true rfl)) dX10_owed_28 ⟨Nat.le_of_ble_eq_true rfl, Nat.le_of_ble_eq_true rfl⟩) hS (fun f_1 H locs hq9 hP hS => ?_)
      obtain ⟨vv91, hq_1_0, hq_1_1, hx_1_0, hx_1_1, o_1⟩ := hq9
      have hctc : f_1 1 = eO 1 [.ref (g 36), .ref (g 12), .ref (g 13), .ref (g 15), .int (nI nt)] := hq_1_0
      have hvl : f_1 15 = eJ G 50 vv91 := hq_1_1
      have hH : ∀ i, i < 10 → okH G g f_1 (2 * i + 16) := hx_1_0
      have hQn : ∀ z, z < nt → cHz G g f_1 np nf nr na dp df dr da ct LL LG z := hx_1_1
      refine lv_iconst (v := 0) hx hb dX10_owed_31 (by decide) ?_
      refine lv_istore_n (lv' := [(3, .int 0), (0, .ref (g 0)), (1, .int (nI pn)), (2, .int a2)]) hx hb dX10_owed_32 rfl hl (by decide) rfl (fun ls hl => ?_)
      refine lv_iconst (v := 0) hx hb dX10_owed_33 (by decide) ?_
      refine lv_istore (lv' := [(4, .int 0), (3, .int 0), (0, .ref (g 0)), (1, .int (nI pn)), (2, .int a2)]) hx hb dX10_owed_34 hl (by decide) rfl (fun ls hl => ?_)
      replace hSp : okH G g f_1 13 := okH_fr hSp (o_1 _ (by omega)) (o_1 _ (by omega))
      replace hL : ∀ i, i < 20 → ltx G g f_1 (3 * i + 52) (LL i) (LG i) (i < na) := fun z hz => ltx_fr (hL z hz) (o_1 _ (by omega)) (o_1 _ (by omega)) (o_1 _ (by omega))
      replace hT : ∀ i, i < 4 → txt G g f_1 (3 * i + 117) (TL i) (TG i) := fun z hz => txt_fr (hT z hz) (o_1 _ (by omega)) (o_1 _ (by omega)) (o_1 _ (by omega))
      replace hB1 : bkD G g f_1 129 N1 E1 P1 L1 S1 W1 X1 := bkD_fr hB1 (fun j _ _ => o_1 j (by omega))
      replace hB2 : bkD G g f_1 222 N2 E2 P2 L2 S2 W2 X2 := bkD_fr hB2 (fun j _ _ => o_1 j (by omega))
      replace hx0 := ((o_1 0 (by first | decide | omega))).trans hx0
      replace hhs := ((o_1 12 (by first | decide | omega))).trans hhs
      replace him := ((o_1 2 (by first | decide | omega))).trans him
      replace hkp := ((o_1 3 (by first | decide | omega))).trans hkp
      replace hrd := ((o_1 4 (by first | decide | omega))).trans hrd
      replace hmk := ((o_1 5 (by first | decide | omega))).trans hmk
      replace hfc6 := ((o_1 6 (by first | decide | omega))).trans hfc6
      replace hwt := ((o_1 7 (by first | decide | omega))).trans hwt
      replace hw8 := ((o_1 8 (by first | decide | omega))).trans hw8
      replace hw9 := ((o_1 9 (by first | decide | omega))).trans hw9
      replace hw10 := ((o_1 10 (by first | decide | omega))).trans hw10
      replace hw11 := ((o_1 11 (by first | decide | omega))).trans hw11
      replace hbk := ((o_1 36 (by first | decide | omega))).trans hbk
      replace hpr := ((o_1 37 (by first | decide | omega))).trans hpr
      replace hpd := ((o_1 38 (by first | decide | omega))).trans hpd
      replace hfr := ((o_1 39 (by first | decide | omega))).trans hfr
      replace hfd := ((o_1 40 (by first | decide | omega))).trans hfd
      replace hor := ((o_1 41 (by first | decide | omega))).trans hor
      replace hod := ((o_1 42 (by first | decide | omega))).trans hod
      replace har := ((o_1 43 (by first | decide | omega))).trans har
      replace had := ((o_1 44 (by first | decide | omega))).trans had
      replace htr := ((o_1 45 (by first | decide | omega))).trans htr
      replace hct := ((o_1 46 (by first | decide | omega))).trans hct
      replace hla := ((o_1 47 (by first | decide | omega))).trans hla
      replace hlaa := ((o_1 48 (by first | decide | omega))).trans hlaa
      replace hts0 := ((o_1 112 (by first | decide | omega))).trans hts0
      replace htsa := ((o_1 113 (by first | decide | omega))).trans htsa
      have key2 : ∀ (n9_2 : Nat) (i : Nat) (u : Int32) (f_2 : Nat → va_E) (H : Heap) (locs : List Loc) (ls : Array Slot), (i ≤ nt) → (u = owV (fun t c => ct (70 * t + c)) (cJr np nf nr na dp df dr da ct LL LG) (fun t => hMi (cBx np nf nr na dp df dr da ct LL LG t) (fun c => ct (70 * t + c))) pay fine a2 pn i) → (∀ i, i < 10 → okH G g f_2 (2 * i + 16)) → (okH G g f_2 13) → (∀ i, i < 20 → ltx G g f_2 (3 * i + 52) (LL i) (LG i) (i < na)) → (∀ i, i < 4 → txt G g f_2 (3 * i + 117) (TL i) (TG i)) → (bkD G g f_2 129 N1 E1 P1 L1 S1 W1 X1) → (bkD G g f_2 222 N2 E2 P2 L2 S2 W2 X2) → (∀ z, z < nt → cHz G g f_2 np nf nr na dp df dr da ct LL LG z) → nt - i < n9_2 → f_2 0 = eO 9 [.ref (g 1), .ref (g 36), .ref (g 2), .ref (g 3), .ref (g 4), .ref (g 6), .ref (g 7)] → f_2 1 = eO 1 [.ref (g 36), .ref (g 12), .ref (g 13), .ref (g 15), .int (nI nt)] → f_2 12 = eA G 4 10 hf → f_2 2 = eA G 3 2 imf → f_2 3 = eZ G 2 kf → f_2 4 = eO 4 [.ref (g 5), .int (nI mc), .int op, .int cm, .int wu] → f_2 5 = eI G 50 mk → f_2 6 = eO 2 [.long ab, .long be] → f_2 7 = eO 8 [.ref (g 8), .ref (g 9), .ref (g 10), .ref (g 11), .int (nI mn), .int le] → f_2 8 = eI G 6 wt → f_2 9 = eI G 6 ww → f_2 10 = eI G 6 wb → f_2 11 = eI G 6 wf → f_2 15 = eJ G 50 vv91 → f_2 36 = eO 0 [.ref (g 37), .ref (g 39), .ref (g 41), .ref (g 43), .ref (g 45), .ref (g 47), .ref (g 112), .int pay, .int fine] → f_2 37 = eO 5 [.int (nI 30), .int (nI 4), .ref (g 38), .int (nI np)] → f_2 38 = eI G (30 * 4) dp → f_2 39 = eO 5 [.int (nI 40), .int (nI 3), .ref (g 40), .int (nI nf)] → f_2 40 = eI G (40 * 3) df → f_2 41 = eO 5 [.int (nI 4), .int (nI 3), .ref (g 42), .int (nI nr)] → f_2 42 = eI G (4 * 3) dr → f_2 43 = eO 5 [.int (nI 20), .int (nI 3), .ref (g 44), .int (nI na)] → f_2 44 = eI G (20 * 3) da → f_2 45 = eO 5 [.int (nI 10), .int (nI 70), .ref (g 46), .int (nI nt)] → f_2 46 = eI G (10 * 70) ct → f_2 47 = eO 6 [.ref (g 48), .ref (g 49)] → f_2 48 = eA G 5 20 lf → f_2 112 = eO 6 [.ref (g 113), .ref (g 114)] → f_2 113 = eA G 5 4 tf → (∀ j, (j < 333 ∨ 333 ≤ j) → f_2 j = f_1 j) → va_P G.1 vwCl (wl g f_2) H → va_S (gA g) s.heap H locs → lv_has ls 6 [(0, .ref (g 0)), (1, .int (nI pn)), (2, .int a2), (3, .int u), (4, .int (nI i))] → W p l e (headSpec (wsT yX10_owed cX10_owed 6 (some .int)) ({ frames := 7, cells := 0, slots := 0, locals := 176 })).room s m ([.ref (g 0), .int (nI pn), .int a2] : List Value).toArray below meth c H locs 0 0 Q9 (F0 m 36 ls []) := by
        intro n9_2
        induction n9_2 with
        | zero => intro i u f_2 H locs ls hi hu hH hSp hL hT hB1 hB2 hQn hn9_2; exact absurd hn9_2 (Nat.not_lt_zero _)
        | succ n9_2 ih_2 =>
          intro i u f_2 H locs ls hi hu hH hSp hL hT hB1 hB2 hQn hn9_2 hx0 hctc hhs him hkp hrd hmk hfc6 hwt hw8 hw9 hw10 hw11 hvl hbk hpr hpd hfr hfd hor hod har had htr hct hla hlaa hts0 htsa o_2 hP hS hl
          refine lv_iload hx hb dX10_owed_36 (lv_at hl 4 rfl) ?_
          refine lv_aload_n hx hb dX10_owed_38 rfl (lv_at hl 0 rfl) ?_
          refine va_get (D := G.1) (ci := 9) (v := .ref (g 36)) (C := RX10) (T := TX10) (N := 7) hx hb hts inlX10 hown hG.1 hP 0 (wl_at (by decide) hx0) rfl 1 (by decide) (hts (.fieldLink RX10 20 "SwornLists" "book" "LSwornLists$Book;") w_16) (fun _ h9 => h9) rfl dX10_owed_39 ?_
          refine va_getN (D := G.1) (ci := 0) (v := .ref (g 45)) (C := RX0) (T := TX0) (N := 9) (host := RX10) hx hb hts inlX0 hown hG.1 hP 36 (wl_at (by decide) hbk) rfl 4 (by decide) (va_Nw.use rfl (hG.2.1 (.fieldLinkNest RX10 162 RX0 "trials" "LSwornLists$Rows;" RX10) (List.mem_of_getElem? (i := 7) rfl))) (fun _ h9 => h9) rfl dX10_owed_42 ?_
          refine rd_calli (va_runV (As := []) (rest := [.int (nI i)]) ⟨hx, hb, hml, hown, hts⟩ (r_size l G g hg f_2 45 10 70 nt htr (by first | assumption | omega | decide) (by first | assumption | omega | decide) (by first | assumption | omega | decide) (by first | assumption | omega | decide)) (my_cwV hts ok_X5_size w_642 rfl rfl ⟨Nat.le_of_ble_eq_true rfl, Nat.le_of_ble_eq_true rfl⟩) ⟨bP.blind, va_recv hG.1 hP (ci := 5) (q0 := 45) rfl (wl_at (by decide) htr), fun U hU hW => ⟨rfl, by rw [hU]; exact hP, kG.warm hW hG⟩⟩ rfl rfl hl.1 rfl (lv_room (Nat.le_of_ble_eq_true rfl)) dX10_owed_45 ⟨Nat.le_of_ble_eq_true rfl, Nat.le_of_ble_eq_true rfl⟩) (fun r hr9 => ?_)
          subst hr9
          refine lv_icmp_ge (tgt := 151) hx hb dX10_owed_48 (by decide) (fun c_48 => ?_) (fun c_48 => ?_)
          · have h9n := (nI_leI (by omega) (by omega)).mp c_48
            refine lv_iload_n hx hb dX10_owed_151 rfl (lv_at hl 3 rfl) ?_
            refine W_q9 hQ9 ?_
            exact W.iret (v := u) hx hb hr (fun _ hT9 _ => ⟨⟨_, f_2, rfl, (⟨cJ_mk (nt) (hf) (imf) (mc) (op) (cm) (wu) (mk) (ab) (be) (mn) (le) (wt) (ww) (wb) (wf) (vv91) (lf) (tf) (hx0) (hctc) (hhs) (him) (hkp) (hrd) (hmk) (hfc6) (hwt) (hw8) (hw9) (hw10) (hw11) (hvl) (hbk) (hpr) (hpd) (hfr) (hfd) (hor) (hod) (har) (had) (htr) (hct) (hla) (hlaa) (hts0) (htsa) (by omega) (hhf) (him0) (him1) (by omega) (by omega) (by omega) (by omega) (by omega) (by omega) (by omega) (hlf) (htf) (by omega) (hH) (hSp) (hL) (hT) (hB1) (hB2) (hQn), (Or.inr ⟨pn, hpn, rfl, c_18, by rw [hu, show i = nt by omega]⟩), fun j hj => ((o_2 j (by omega))).trans (o_1 j (by omega))⟩), by rw [hT9]; exact hP⟩, hS.F hT9⟩) hS.2.2 dX10_owed_152
          · have hi9 : i < nt := Nat.not_le.mp (fun z => c_48 (nI_le z (by omega)))
            refine lv_aload_n hx hb dX10_owed_51 rfl (lv_at hl 0 rfl) ?_
            refine va_get (D := G.1) (ci := 9) (v := .ref (g 36)) (C := RX10) (T := TX10) (N := 7) hx hb hts inlX10 hown hG.1 hP 0 (wl_at (by decide) hx0) rfl 1 (by decide) (hts (.fieldLink RX10 20 "SwornLists" "book" "LSwornLists$Book;") w_16) (fun _ h9 => h9) rfl dX10_owed_52 ?_
            refine va_getN (D := G.1) (ci := 0) (v := .ref (g 45)) (C := RX0) (T := TX0) (N := 9) (host := RX10) hx hb hts inlX0 hown hG.1 hP 36 (wl_at (by decide) hbk) rfl 4 (by decide) (va_Nw.use rfl (hG.2.1 (.fieldLinkNest RX10 162 RX0 "trials" "LSwornLists$Rows;" RX10) (List.mem_of_getElem? (i := 7) rfl))) (fun _ h9 => h9) rfl dX10_owed_55 ?_
            refine lv_iload hx hb dX10_owed_58 (lv_at hl 4 rfl) ?_
            refine lv_iconst (v := 0) hx hb dX10_owed_60 (by decide) ?_
            refine rd_calli (va_runV (As := [.int (nI i), .int 0]) (rest := []) ⟨hx, hb, hml, hown, hts⟩ (r_at l G g hg f_2 45 10 70 nt ct (nI i) 0 htr hct (by first | assumption | omega | decide) (by first | assumption | omega | decide) (by first | assumption | omega | decide) (by first | assumption | omega | decide)) (my_cwV hts ok_X5_at w_610 rfl rfl ⟨Nat.le_of_ble_eq_true rfl, Nat.le_of_ble_eq_true rfl⟩) ⟨bP.blind, va_recv hG.1 hP (ci := 5) (q0 := 45) rfl (wl_at (by decide) htr), fun U hU hW => ⟨rfl, by rw [hU]; exact hP, kG.warm hW hG⟩⟩ rfl rfl hl.1 rfl (lv_room (Nat.le_of_ble_eq_true rfl)) dX10_owed_61 ⟨Nat.le_of_ble_eq_true rfl, Nat.le_of_ble_eq_true rfl⟩) (fun r hr9 => ?_)
            subst hr9
            refine my_bei (v := ct (70 * i + 0)) (atQ (d := ct) (w := 70) (i := i) (c := 0) hi9 (by omega) (by omega) (by omega)) ?_
            refine lv_iload_n hx hb dX10_owed_64 rfl (lv_at hl 2 rfl) ?_
            refine lv_icmp_gt (tgt := 145) hx hb dX10_owed_65 (by decide) (fun c_65 => ?_) (fun c_65 => ?_)
            · refine lv_iinc (v := nI (i + 1)) (lv' := [(4, .int (nI (i + 1))), (0, .ref (g 0)), (1, .int (nI pn)), (2, .int a2), (3, .int u)]) hx hb dX10_owed_145 hl (k := 4) rfl (nI_1 i) (by decide) rfl (fun ls hl => ?_)
              refine lv_goto (tgt := 36) hx hb dX10_owed_148 (by decide) ?_
              exact ih_2 (i + 1) u f_2 _ _ _ (hi9) (by rw [hu, owV_n (T := (fun t c => ct (70 * t + c))) (J := (cJr np nf nr na dp df dr da ct LL LG)) (M := (fun t => hMi (cBx np nf nr na dp df dr da ct LL LG t) (fun c => ct (70 * t + c)))) (Int32.not_le.mpr c_65)]) (hH) (hSp) (hL) (hT) (hB1) (hB2) (hQn) (by omega) (hx0) (hctc) (hhs) (him) (hkp) (hrd) (hmk) (hfc6) (hwt) (hw8) (hw9) (hw10) (hw11) (hvl) (hbk) (hpr) (hpd) (hfr) (hfd) (hor) (hod) (har) (had) (htr) (hct) (hla) (hlaa) (hts0) (htsa) (fun j hj => (o_2 j (by omega))) hP hS (lv_sub hl [1, 2, 3, 4, 0] rfl)
            · obtain ⟨od7, hh7, ho7, hd7⟩ := id (hQn i (by omega))
              have hm7 : hM (cBx np nf nr na dp df dr da ct LL LG i) (fun c => ct (70 * i + c)) ≤ 24 := by
                have h9 := hTr.2.2.1 i (by omega)
                exact Nat.le_trans (Nat.min_le_left _ _) h9
              refine lv_aload_n hx hb dX10_owed_68 rfl (lv_at hl 0 rfl) ?_
              refine va_get (D := G.1) (ci := 9) (v := .ref (g 1)) (C := RX10) (T := TX10) (N := 7) hx hb hts inlX10 hown hG.1 hP 0 (wl_at (by decide) hx0) rfl 0 (by decide) (hts (.fieldLink RX10 12 "SwornLists" "court" "LSwornLists$Court;") w_15) (fun _ h9 => h9) rfl dX10_owed_69 ?_
              refine lv_iload hx hb dX10_owed_72 (lv_at hl 4 rfl) ?_
              refine rd_calla (va_runV (As := [.int (nI i)]) (rest := []) ⟨hx, hb, hml, hown, hts⟩ (u_hearing l G g hg f_2 nt hf i hctc hhs (by first | assumption | omega | decide) (by first | assumption | omega | decide) (by first | assumption | omega | decide)) (my_cwV hts ok_X1_hearing w_675 rfl rfl ⟨Nat.le_of_ble_eq_true rfl, Nat.le_of_ble_eq_true rfl⟩) ⟨bP.blind, va_recv hG.1 hP (ci := 1) (q0 := 1) rfl (wl_at (by decide) hctc), fun U hU hW => ⟨rfl, by rw [hU]; exact hP, kG.warm hW hG⟩⟩ rfl rfl hl.1 rfl (lv_room (Nat.le_of_ble_eq_true rfl)) dX10_owed_74 ⟨Nat.le_of_ble_eq_true rfl, Nat.le_of_ble_eq_true rfl⟩) (fun r hr9 => ?_)
              subst hr9
              refine lv_astore (lv' := [(5, .ref (g (2 * i + 16))), (0, .ref (g 0)), (1, .int (nI pn)), (2, .int a2), (3, .int u), (4, .int (nI i))]) hx hb dX10_owed_77 hl (by decide) rfl (fun ls hl => ?_)
              refine lv_iload_n hx hb dX10_owed_79 rfl (lv_at hl 4 rfl) ?_
              refine lv_aload hx hb dX10_owed_80 (lv_at hl 0 rfl) ?_
              refine va_getN (D := G.1) (ci := 3) (v := .int (hSw (cBx np nf nr na dp df dr da ct LL LG i) (pasV (cFt np nf nr na dp df dr da ct LL LG i) (cBx np nf nr na dp df dr da ct LL LG i)) (fun c => ct (70 * i + c)))) (C := RX3) (T := TX3) (N := 9) (host := RX10) hx hb hts inlX3 hown hG.1 hP (2 * i + 16) (wl_at (by omega) hh7) rfl 8 (by decide) (va_Nw.use rfl (hG.2.1 (.fieldLinkNest RX10 188 RX3 "sworn" "I" RX10) (List.mem_of_getElem? (i := 16) rfl))) (fun _ h9 => h9) rfl dX10_owed_82 ?_
              refine lv_iload_n hx hb dX10_owed_85 rfl (lv_at hl 2 rfl) ?_
              refine rd_calli (va_runS (As := [.int (hSw (cBx np nf nr na dp df dr da ct LL LG i) (pasV (cFt np nf nr na dp df dr da ct LL LG i) (cBx np nf nr na dp df dr da ct LL LG i)) (fun c => ct (70 * i + c))), .int (nI pn)]) (rest := [.int u]) ⟨hx, hb, hml, hown, hts⟩ (s_hasBit l G g hg f_2 (hSw (cBx np nf nr na dp df dr da ct LL LG i) (pasV (cFt np nf nr na dp df dr da ct LL LG i) (cBx np nf nr na dp df dr da ct LL LG i)) (fun c => ct (70 * i + c))) (nI pn)  ) (my_cwS hts ok_X10_hasBit w_655 rfl rfl ⟨Nat.le_of_ble_eq_true rfl, Nat.le_of_ble_eq_true rfl⟩) ⟨bP.blind, fun U hU hW => ⟨rfl, by rw [hU]; exact hP, kG.warm hW hG⟩⟩ rfl rfl hl.1 rfl (lv_room (Nat.le_of_ble_eq_true rfl)) dX10_owed_86 ⟨Nat.le_of_ble_eq_true rfl, Nat.le_of_ble_eq_true rfl⟩) (fun r hr9 => ?_)
              subst hr9
              refine my_ifeq (tgt := 116) hx hb dX10_owed_89 (by decide) (fun c_89 => ?_) (fun c_89 => ?_)
              · refine lv_iconst (v := 0) hx hb dX10_owed_116 (by decide) ?_
                refine lv_iadd hx hb dX10_owed_117 ?_
                refine lv_istore_n (lv' := [(3, .int (u + 0)), (5, .ref (g (2 * i + 16))), (0, .ref (g 0)), (1, .int (nI pn)), (2, .int a2), (4, .int (nI i))]) hx hb dX10_owed_118 rfl hl (by decide) rfl (fun ls hl => ?_)
                refine lv_iload_n hx hb dX10_owed_119 rfl (lv_at hl 0 rfl) ?_
                refine lv_aload hx hb dX10_owed_120 (lv_at hl 1 rfl) ?_
                refine va_getN (D := G.1) (ci := 3) (v := .int (hMi (cBx np nf nr na dp df dr da ct LL LG i) (fun c => ct (70 * i + c)))) (C := RX3) (T := TX3) (N := 9) (host := RX10) hx hb hts inlX3 hown hG.1 hP (2 * i + 16) (wl_at (by omega) hh7) rfl 5 (by decide) (va_Nw.use rfl (hG.2.1 (.fieldLinkNest RX10 208 RX3 "missing" "I" RX10) (List.mem_of_getElem? (i := 14) rfl))) (fun _ h9 => h9) rfl dX10_owed_122 ?_
                refine lv_iload_n hx hb dX10_owed_125 rfl (lv_at hl 3 rfl) ?_
                refine rd_calli (va_runS (As := [.int (hMi (cBx np nf nr na dp df dr da ct LL LG i) (fun c => ct (70 * i + c))), .int (nI pn)]) (rest := [.int (u + 0)]) ⟨hx, hb, hml, hown, hts⟩ (s_hasBit l G g hg f_2 (hMi (cBx np nf nr na dp df dr da ct LL LG i) (fun c => ct (70 * i + c))) (nI pn)  ) (my_cwS hts ok_X10_hasBit w_655 rfl rfl ⟨Nat.le_of_ble_eq_true rfl, Nat.le_of_ble_eq_true rfl⟩) ⟨bP.blind, fun U hU hW => ⟨rfl, by rw [hU]; exact hP, kG.warm hW hG⟩⟩ rfl rfl hl.1 rfl (lv_room (Nat.le_of_ble_eq_true rfl)) dX10_owed_126 ⟨Nat.le_of_ble_eq_true rfl, Nat.le_of_ble_eq_true rfl⟩) (fun r hr9 => ?_)
                subst hr9
                refine my_ifeq (tgt := 142) hx hb dX10_owed_129 (by decide) (fun c_129 => ?_) (fun c_129 => ?_)
                · refine lv_iconst (v := 0) hx hb dX10_owed_142 (by decide) ?_
                  refine lv_isub hx hb dX10_owed_143 ?_
                  refine lv_istore_n (lv' := [(3, .int ((u + 0) - 0)), (5, .ref (g (2 * i + 16))), (0, .ref (g 0)), (1, .int (nI pn)), (2, .int a2), (4, .int (nI i))]) hx hb dX10_owed_144 rfl hl (by decide) rfl (fun ls hl => ?_)
                  refine lv_iinc (v := nI (i + 1)) (lv' := [(4, .int (nI (i + 1))), (3, .int ((u + 0) - 0)), (5, .ref (g (2 * i + 16))), (0, .ref (g 0)), (1, .int (nI pn)), (2, .int a2)]) hx hb dX10_owed_145 hl (k := 5) rfl (nI_1 i) (by decide) rfl (fun ls hl => ?_)
                  refine lv_goto (tgt := 36) hx hb dX10_owed_148 (by decide) ?_
                  exact ih_2 (i + 1) ((u + 0) - 0) f_2 _ _ _ (hi9) (by rw [hu, owV_y (T := (fun t c => ct (70 * t + c))) (J := (cJr np nf nr na dp df dr da ct LL LG)) (M := (fun t => hMi (cBx np nf nr na dp df dr da ct LL LG t) (fun c => ct (70 * t + c)))) (Int32.not_lt.mp c_65), if_neg (fun z => c_89 (by rw [hbt_bt (by omega), ← cJr_eq]; exact z)), if_neg (fun z => c_129 (by rw [hbt_bt (by omega)]; exact z))]) (hH) (hSp) (hL) (hT) (hB1) (hB2) (hQn) (by omega) (hx0) (hctc) (hhs) (him) (hkp) (hrd) (hmk) (hfc6) (hwt) (hw8) (hw9) (hw10) (hw11) (hvl) (hbk) (hpr) (hpd) (hfr) (hfd) (hor) (hod) (har) (had) (htr) (hct) (hla) (hlaa) (hts0) (htsa) (fun j hj => (o_2 j (by omega))) hP hS (lv_sub hl [3, 4, 5, 1, 0] rfl)
                · refine lv_aload_n hx hb dX10_owed_132 rfl (lv_at hl 2 rfl) ?_
                  refine va_get (D := G.1) (ci := 9) (v := .ref (g 36)) (C := RX10) (T := TX10) (N := 7) hx hb hts inlX10 hown hG.1 hP 0 (wl_at (by decide) hx0) rfl 1 (by decide) (hts (.fieldLink RX10 20 "SwornLists" "book" "LSwornLists$Book;") w_16) (fun _ h9 => h9) rfl dX10_owed_133 ?_
                  refine va_getN (D := G.1) (ci := 0) (v := .int fine) (C := RX0) (T := TX0) (N := 9) (host := RX10) hx hb hts inlX0 hown hG.1 hP 36 (wl_at (by decide) hbk) rfl 8 (by decide) (va_Nw.use rfl (hG.2.1 (.fieldLinkNest RX10 204 RX0 "fine" "I" RX10) (List.mem_of_getElem? (i := 11) rfl))) (fun _ h9 => h9) rfl dX10_owed_136 ?_
                  refine lv_goto (tgt := 143) hx hb dX10_owed_139 (by decide) ?_
                  refine lv_isub hx hb dX10_owed_143 ?_
                  refine lv_istore_n (lv' := [(3, .int ((u + 0) - fine)), (5, .ref (g (2 * i + 16))), (0, .ref (g 0)), (1, .int (nI pn)), (2, .int a2), (4, .int (nI i))]) hx hb dX10_owed_144 rfl hl (by decide) rfl (fun ls hl => ?_)
                  refine lv_iinc (v := nI (i + 1)) (lv' := [(4, .int (nI (i + 1))), (3, .int ((u + 0) - fine)), (5, .ref (g (2 * i + 16))), (0, .ref (g 0)), (1, .int (nI pn)), (2, .int a2)]) hx hb dX10_owed_145 hl (k := 5) rfl (nI_1 i) (by decide) rfl (fun ls hl => ?_)
                  refine lv_goto (tgt := 36) hx hb dX10_owed_148 (by decide) ?_
                  exact ih_2 (i + 1) ((u + 0) - fine) f_2 _ _ _ (hi9) (by rw [hu, owV_y (T := (fun t c => ct (70 * t + c))) (J := (cJr np nf nr na dp df dr da ct LL LG)) (M := (fun t => hMi (cBx np nf nr na dp df dr da ct LL LG t) (fun c => ct (70 * t + c)))) (Int32.not_lt.mp c_65), if_neg (fun z => c_89 (by rw [hbt_bt (by omega), ← cJr_eq]; exact z)), if_pos (show bt (hMi (cBx np nf nr na dp df dr da ct LL LG i) (fun c => ct (70 * i + c))) pn = true by rw [← hbt_bt (by omega)]; exact c_129)]) (hH) (hSp) (hL) (hT) (hB1) (hB2) (hQn) (by omega) (hx0) (hctc) (hhs) (him) (hkp) (hrd) (hmk) (hfc6) (hwt) (hw8) (hw9) (hw10) (hw11) (hvl) (hbk) (hpr) (hpd) (hfr) (hfd) (hor) (hod) (har) (had) (htr) (hct) (hla) (hlaa) (hts0) (htsa) (fun j hj => (o_2 j (by omega))) hP hS (lv_sub hl [3, 4, 5, 1, 0] rfl)
              · refine lv_aload_n hx hb dX10_owed_92 rfl (lv_at hl 1 rfl) ?_
                refine va_get (D := G.1) (ci := 9) (v := .ref (g 36)) (C := RX10) (T := TX10) (N := 7) hx hb hts inlX10 hown hG.1 hP 0 (wl_at (by decide) hx0) rfl 1 (by decide) (hts (.fieldLink RX10 20 "SwornLists" "book" "LSwornLists$Book;") w_16) (fun _ h9 => h9) rfl dX10_owed_93 ?_
                refine va_getN (D := G.1) (ci := 0) (v := .int pay) (C := RX0) (T := TX0) (N := 9) (host := RX10) hx hb hts inlX0 hown hG.1 hP 36 (wl_at (by decide) hbk) rfl 7 (by decide) (va_Nw.use rfl (hG.2.1 (.fieldLinkNest RX10 201 RX0 "pay" "I" RX10) (List.mem_of_getElem? (i := 10) rfl))) (fun _ h9 => h9) rfl dX10_owed_96 ?_
                refine lv_aload_n hx hb dX10_owed_99 rfl (lv_at hl 1 rfl) ?_
                refine va_get (D := G.1) (ci := 9) (v := .ref (g 36)) (C := RX10) (T := TX10) (N := 7) hx hb hts inlX10 hown hG.1 hP 0 (wl_at (by decide) hx0) rfl 1 (by decide) (hts (.fieldLink RX10 20 "SwornLists" "book" "LSwornLists$Book;") w_16) (fun _ h9 => h9) rfl dX10_owed_100 ?_
                refine va_getN (D := G.1) (ci := 0) (v := .ref (g 45)) (C := RX0) (T := TX0) (N := 9) (host := RX10) hx hb hts inlX0 hown hG.1 hP 36 (wl_at (by decide) hbk) rfl 4 (by decide) (va_Nw.use rfl (hG.2.1 (.fieldLinkNest RX10 162 RX0 "trials" "LSwornLists$Rows;" RX10) (List.mem_of_getElem? (i := 7) rfl))) (fun _ h9 => h9) rfl dX10_owed_103 ?_
                refine lv_iload hx hb dX10_owed_106 (lv_at hl 5 rfl) ?_
                refine lv_iconst (v := 1) hx hb dX10_owed_108 (by decide) ?_
                refine rd_calli (va_runV (As := [.int (nI i), .int 1]) (rest := [.int pay, .int u]) ⟨hx, hb, hml, hown, hts⟩ (r_at l G g hg f_2 45 10 70 nt ct (nI i) 1 htr hct (by first | assumption | omega | decide) (by first | assumption | omega | decide) (by first | assumption | omega | decide) (by first | assumption | omega | decide)) (my_cwV hts ok_X5_at w_610 rfl rfl ⟨Nat.le_of_ble_eq_true rfl, Nat.le_of_ble_eq_true rfl⟩) ⟨bP.blind, va_recv hG.1 hP (ci := 5) (q0 := 45) rfl (wl_at (by decide) htr), fun U hU hW => ⟨rfl, by rw [hU]; exact hP, kG.warm hW hG⟩⟩ rfl rfl hl.1 rfl (lv_room (Nat.le_of_ble_eq_true rfl)) dX10_owed_109 ⟨Nat.le_of_ble_eq_true rfl, Nat.le_of_ble_eq_true rfl⟩) (fun r hr9 => ?_)
                subst hr9
                refine my_bei (v := ct (70 * i + 1)) (atQ (d := ct) (w := 70) (i := i) (c := 1) hi9 (by omega) (by omega) (by omega)) ?_
                refine lv_imul hx hb dX10_owed_112 ?_
                refine lv_goto (tgt := 117) hx hb dX10_owed_113 (by decide) ?_
                refine lv_iadd hx hb dX10_owed_117 ?_
                refine lv_istore_n (lv' := [(3, .int (u + (pay * (ct (70 * i + 1))))), (5, .ref (g (2 * i + 16))), (0, .ref (g 0)), (1, .int (nI pn)), (2, .int a2), (4, .int (nI i))]) hx hb dX10_owed_118 rfl hl (by decide) rfl (fun ls hl => ?_)
                refine lv_iload_n hx hb dX10_owed_119 rfl (lv_at hl 0 rfl) ?_
                refine lv_aload hx hb dX10_owed_120 (lv_at hl 1 rfl) ?_
                refine va_getN (D := G.1) (ci := 3) (v := .int (hMi (cBx np nf nr na dp df dr da ct LL LG i) (fun c => ct (70 * i + c)))) (C := RX3) (T := TX3) (N := 9) (host := RX10) hx hb hts inlX3 hown hG.1 hP (2 * i + 16) (wl_at (by omega) hh7) rfl 5 (by decide) (va_Nw.use rfl (hG.2.1 (.fieldLinkNest RX10 208 RX3 "missing" "I" RX10) (List.mem_of_getElem? (i := 14) rfl))) (fun _ h9 => h9) rfl dX10_owed_122 ?_
                refine lv_iload_n hx hb dX10_owed_125 rfl (lv_at hl 3 rfl) ?_
                refine rd_calli (va_runS (As := [.int (hMi (cBx np nf nr na dp df dr da ct LL LG i) (fun c => ct (70 * i + c))), .int (nI pn)]) (rest := [.int (u + (pay * (ct (70 * i + 1))))]) ⟨hx, hb, hml, hown, hts⟩ (s_hasBit l G g hg f_2 (hMi (cBx np nf nr na dp df dr da ct LL LG i) (fun c => ct (70 * i + c))) (nI pn)  ) (my_cwS hts ok_X10_hasBit w_655 rfl rfl ⟨Nat.le_of_ble_eq_true rfl, Nat.le_of_ble_eq_true rfl⟩) ⟨bP.blind, fun U hU hW => ⟨rfl, by rw [hU]; exact hP, kG.warm hW hG⟩⟩ rfl rfl hl.1 rfl (lv_room (Nat.le_of_ble_eq_true rfl)) dX10_owed_126 ⟨Nat.le_of_ble_eq_true rfl, Nat.le_of_ble_eq_true rfl⟩) (fun r hr9 => ?_)
                subst hr9
                refine my_ifeq (tgt := 142) hx hb dX10_owed_129 (by decide) (fun c_129 => ?_) (fun c_129 => ?_)
                · refine lv_iconst (v := 0) hx hb dX10_owed_142 (by decide) ?_
                  refine lv_isub hx hb dX10_owed_143 ?_
                  refine lv_istore_n (lv' := [(3, .int ((u + (pay * (ct (70 * i + 1)))) - 0)), (5, .ref (g (2 * i + 16))), (0, .ref (g 0)), (1, .int (nI pn)), (2, .int a2), (4, .int (nI i))]) hx hb dX10_owed_144 rfl hl (by decide) rfl (fun ls hl => ?_)
                  refine lv_iinc (v := nI (i + 1)) (lv' := [(4, .int (nI (i + 1))), (3, .int ((u + (pay * (ct (70 * i + 1)))) - 0)), (5, .ref (g (2 * i + 16))), (0, .ref (g 0)), (1, .int (nI pn)), (2, .int a2)]) hx hb dX10_owed_145 hl (k := 5) rfl (nI_1 i) (by decide) rfl (fun ls hl => ?_)
                  refine lv_goto (tgt := 36) hx hb dX10_owed_148 (by decide) ?_
                  exact ih_2 (i + 1) ((u + (pay * (ct (70 * i + 1)))) - 0) f_2 _ _ _ (hi9) (by rw [hu, owV_y (T := (fun t c => ct (70 * t + c))) (J := (cJr np nf nr na dp df dr da ct LL LG)) (M := (fun t => hMi (cBx np nf nr na dp df dr da ct LL LG t) (fun c => ct (70 * t + c)))) (Int32.not_lt.mp c_65), if_pos (show bt (cJr np nf nr na dp df dr da ct LL LG i) pn = true by rw [cJr_eq, ← hbt_bt (by omega)]; exact c_89), if_neg (fun z => c_129 (by rw [hbt_bt (by omega)]; exact z))]) (hH) (hSp) (hL) (hT) (hB1) (hB2) (hQn) (by omega) (hx0) (hctc) (hhs) (him) (hkp) (hrd) (hmk) (hfc6) (hwt) (hw8) (hw9) (hw10) (hw11) (hvl) (hbk) (hpr) (hpd) (hfr) (hfd) (hor) (hod) (har) (had) (htr) (hct) (hla) (hlaa) (hts0) (htsa) (fun j hj => (o_2 j (by omega))) hP hS (lv_sub hl [3, 4, 5, 1, 0] rfl)
                · refine lv_aload_n hx hb dX10_owed_132 rfl (lv_at hl 2 rfl) ?_
                  refine va_get (D := G.1) (ci := 9) (v := .ref (g 36)) (C := RX10) (T := TX10) (N := 7) hx hb hts inlX10 hown hG.1 hP 0 (wl_at (by decide) hx0) rfl 1 (by decide) (hts (.fieldLink RX10 20 "SwornLists" "book" "LSwornLists$Book;") w_16) (fun _ h9 => h9) rfl dX10_owed_133 ?_
                  refine va_getN (D := G.1) (ci := 0) (v := .int fine) (C := RX0) (T := TX0) (N := 9) (host := RX10) hx hb hts inlX0 hown hG.1 hP 36 (wl_at (by decide) hbk) rfl 8 (by decide) (va_Nw.use rfl (hG.2.1 (.fieldLinkNest RX10 204 RX0 "fine" "I" RX10) (List.mem_of_getElem? (i := 11) rfl))) (fun _ h9 => h9) rfl dX10_owed_136 ?_
                  refine lv_goto (tgt := 143) hx hb dX10_owed_139 (by decide) ?_
                  refine lv_isub hx hb dX10_owed_143 ?_
                  refine lv_istore_n (lv' := [(3, .int ((u + (pay * (ct (70 * i + 1)))) - fine)), (5, .ref (g (2 * i + 16))), (0, .ref (g 0)), (1, .int (nI pn)), (2, .int a2), (4, .int (nI i))]) hx hb dX10_owed_144 rfl hl (by decide) rfl (fun ls hl => ?_)
                  refine lv_iinc (v := nI (i + 1)) (lv' := [(4, .int (nI (i + 1))), (3, .int ((u + (pay * (ct (70 * i + 1)))) - fine)), (5, .ref (g (2 * i + 16))), (0, .ref (g 0)), (1, .int (nI pn)), (2, .int a2)]) hx hb dX10_owed_145 hl (k := 5) rfl (nI_1 i) (by decide) rfl (fun ls hl => ?_)
                  refine lv_goto (tgt := 36) hx hb dX10_owed_148 (by decide) ?_
                  exact ih_2 (i + 1) ((u + (pay * (ct (70 * i + 1)))) - fine) f_2 _ _ _ (hi9) (by rw [hu, owV_y (T := (fun t c => ct (70 * t + c))) (J := (cJr np nf nr na dp df dr da ct LL LG)) (M := (fun t => hMi (cBx np nf nr na dp df dr da ct LL LG t) (fun c => ct (70 * t + c)))) (Int32.not_lt.mp c_65), if_pos (show bt (cJr np nf nr na dp df dr da ct LL LG i) pn = true by rw [cJr_eq, ← hbt_bt (by omega)]; exact c_89), if_pos (show bt (hMi (cBx np nf nr na dp df dr da ct LL LG i) (fun c => ct (70 * i + c))) pn = true by rw [← hbt_bt (by omega)]; exact c_129)]) (hH) (hSp) (hL) (hT) (hB1) (hB2) (hQn) (by omega) (hx0) (hctc) (hhs) (him) (hkp) (hrd) (hmk) (hfc6) (hwt) (hw8) (hw9) (hw10) (hw11) (hvl) (hbk) (hpr) (hpd) (hfr) (hfd) (hor) (hod) (har) (had) (htr) (hct) (hla) (hlaa) (hts0) (htsa) (fun j hj => (o_2 j (by omega))) hP hS (lv_sub hl [3, 4, 5, 1, 0] rfl)
      exact key2 (nt + 1) 0 0 f_1 _ _ _ (Nat.zero_le _) (rfl) (hH) (hSp) (hL) (hT) (hB1) (hB2) (hQn) (by omega) (hx0) (hctc) (hhs) (him) (hkp) (hrd) (hmk) (hfc6) (hwt) (hw8) (hw9) (hw10) (hw11) (hvl) (hbk) (hpr) (hpd) (hfr) (hfd) (hor) (hod) (har) (had) (htr) (hct) (hla) (hlaa) (hts0) (htsa) (fun j _ => rfl) hP hS (lv_sub hl [2, 3, 4, 1, 0] rfl)
    · refine lv_ldc (v := (-1000000)) hx hb hown (hts (.constant RX10 207 (-1000000)) w_751) dX10_owed_21 ?_
      refine W_q9 hQ9 ?_
      exact W.iret (v := (-1000000)) hx hb hr (fun _ hT9 _ => ⟨⟨_, f, rfl, (⟨cJ_mk (se) (hf) (imf) (mc) (op) (cm) (wu) (mk) (ab) (be) (mn) (le) (wt) (ww) (wb) (wf) (vv) (lf) (tf) (hx0) (hctc) (hhs) (him) (hkp) (hrd) (hmk) (hfc6) (hwt) (hw8) (hw9) (hw10) (hw11) (hvl) (hbk) (hpr) (hpd) (hfr) (hfd) (hor) (hod) (har) (had) (htr) (hct) (hla) (hlaa) (hts0) (htsa) (by omega) (hhf) (him0) (him1) (by omega) (by omega) (by omega) (by omega) (by omega) (by omega) (by omega) (hlf) (htf) (by omega) (hH) (hSp) (hL) (hT) (hB1) (hB2) (hQ), (Or.inl ⟨fun z => c_18 z.2, rfl⟩), fun j hj => rfl⟩), by rw [hT9]; exact hP⟩, hS.F hT9⟩) hS.2.2 dX10_owed_23
theorem j_owed (l : Launch) (G : gW) (g : Nat → Nat) (hg : gOK g) (f : Nat → va_E) (np : Nat) (dp : Nat → Int32) (nf : Nat) (df : Nat → Int32) (nr : Nat) (dr : Nat → Int32) (nt : Nat) (ct : Nat → Int32) (pay : Int32) (fine : Int32) (kf : Nat → Int32) (na : Nat) (da : Nat → Int32) (TL : Nat → Nat) (TG : Nat → Nat → Int32) (LL : Nat → Nat) (LG : Nat → Nat → Int32) (N1 : Nat → Nat) (E1 : Nat → Nat → Int32) (P1 : Nat → Int32) (L1 : Nat → Nat) (S1 : Nat → Nat → Int32) (W1 : Nat → Nat) (X1 : Nat → Nat → Int32) (N2 : Nat → Nat) (E2 : Nat → Nat → Int32) (P2 : Nat → Int32) (L2 : Nat → Nat) (S2 : Nat → Nat → Int32) (W2 : Nat → Nat) (X2 : Nat → Nat → Int32) (a1 : Int32) (a2 : Int32) (hI : cJ G g f np dp nf df nr dr nt ct pay fine kf na da TL TG LL LG N1 E1 P1 L1 S1 W1 X1 N2 E2 P2 L2 S2 W2 X2) (hTr : trC ct nt) : Met l yX10_owed (wsT yX10_owed cX10_owed 6 (some .int)) ({ frames := 7, cells := 0, slots := 0, locals := 176 }) (bP G g f [.ref (g 0), .int a1, .int a2]) (bQi G g (fun (z9 : Int32) (f' : Nat → va_E) => (cJ G g f' np dp nf df nr dr nt ct pay fine kf na da TL TG LL LG N1 E1 P1 L1 S1 W1 X1 N2 E2 P2 L2 S2 W2 X2) ∧ ((¬ (inN a1 np = true ∧ inB 0 a2 9999 = true) ∧ z9 = -1000000) ∨ (∃ po, po < np ∧ a1 = nI po ∧ inB 0 a2 9999 = true ∧ z9 = owV (fun t c => ct (70 * t + c)) (cJr np nf nr na dp df dr da ct LL LG) (fun t => hMi (cBx np nf nr na dp df dr da ct LL LG t) (fun c => ct (70 * t + c))) pay fine a2 po nt)) ∧ ∀ j, 315 ≤ j → f' j = f j)) 0 0 (gA g) := cJ_elim hI (fun se hf imf mc op cm wu mk ab be mn le wt ww wb wf vv lf tf hx0 hctc hhs him hkp hrd hmk hfc6 hwt hw8 hw9 hw10 hw11 hvl hbk hpr hpd hfr hfd hor hod har had htr hct hla hlaa hts0 htsa hse hhf him0 him1 hmc hmn hnp hnf hnr hna hnt hlf htf hsn hH hSp hL hT hB1 hB2 hQ => jn_owed l G g hg f se hf imf kf mc op cm wu mk ab be mn le wt ww wb wf vv pay fine np dp nf df nr dr na da nt ct lf tf TL TG LL LG N1 E1 P1 L1 S1 W1 X1 N2 E2 P2 L2 S2 W2 X2 a1 a2 hx0 hctc hhs him hkp hrd hmk hfc6 hwt hw8 hw9 hw10 hw11 hvl hbk hpr hpd hfr hfd hor hod har had htr hct hla hlaa hts0 htsa hse hhf him0 him1 hmc hmn hnp hnf hnr hna hnt hlf htf hsn hTr hH hSp hL hT hB1 hB2 hQ)
set_option maxHeartbeats 4000000 in
set_option maxRecDepth 100000 in
theorem jn_may (l : Launch) (G : gW) (g : Nat → Nat) (hg : gOK g) (f : Nat → va_E) (se : Nat) (hf : Nat → Option Nat) (imf : Nat → Option Nat) (kf : Nat → Int32) (mc : Nat) (op : Int32) (cm : Int32) (wu : Int32) (mk : Nat → Int32) (ab : Int64) (be : Int64) (mn : Nat) (le : Int32) (wt : Nat → Int32) (ww : Nat → Int32) (wb : Nat → Int32) (wf : Nat → Int32) (vv : Nat → Int64) (pay : Int32) (fine : Int32) (np : Nat) (dp : Nat → Int32) (nf : Nat) (df : Nat → Int32) (nr : Nat) (dr : Nat → Int32) (na : Nat) (da : Nat → Int32) (nt : Nat) (ct : Nat → Int32) (lf : Nat → Option Nat) (tf : Nat → Option Nat) (TL : Nat → Nat) (TG : Nat → Nat → Int32) (LL : Nat → Nat) (LG : Nat → Nat → Int32) (N1 : Nat → Nat) (E1 : Nat → Nat → Int32) (P1 : Nat → Int32) (L1 : Nat → Nat) (S1 : Nat → Nat → Int32) (W1 : Nat → Nat) (X1 : Nat → Nat → Int32) (N2 : Nat → Nat) (E2 : Nat → Nat → Int32) (P2 : Nat → Int32) (L2 : Nat → Nat) (S2 : Nat → Nat → Int32) (W2 : Nat → Nat) (X2 : Nat → Nat → Int32) (a1 : Int32) (a2 : Int32) (a3 : Int32) (hx0 : f 0 = eO 9 [.ref (g 1), .ref (g 36), .ref (g 2), .ref (g 3), .ref (g 4), .ref (g 6), .ref (g 7)]) (hctc : f 1 = eO 1 [.ref (g 36), .ref (g 12), .ref (g 13), .ref (g 15), .int (nI se)]) (hhs : f 12 = eA G 4 10 hf) (him : f 2 = eA G 3 2 imf) (hkp : f 3 = eZ G 2 kf) (hrd : f 4 = eO 4 [.ref (g 5), .int (nI mc), .int op, .int cm, .int wu]) (hmk : f 5 = eI G 50 mk) (hfc6 : f 6 = eO 2 [.long ab, .long be]) (hwt : f 7 = eO 8 [.ref (g 8), .ref (g 9), .ref (g 10), .ref (g 11), .int (nI mn), .int le]) (hw8 : f 8 = eI G 6 wt) (hw9 : f 9 = eI G 6 ww) (hw10 : f 10 = eI G 6 wb) (hw11 : f 11 = eI G 6 wf) (hvl : f 15 = eJ G 50 vv) (hbk : f 36 = eO 0 [.ref (g 37), .ref (g 39), .ref (g 41), .ref (g 43), .ref (g 45), .ref (g 47), .ref (g 112), .int pay, .int fine]) (hpr : f 37 = eO 5 [.int (nI 30), .int (nI 4), .ref (g 38), .int (nI np)]) (hpd : f 38 = eI G (30 * 4) dp) (hfr : f 39 = eO 5 [.int (nI 40), .int (nI 3), .ref (g 40), .int (nI nf)]) (hfd : f 40 = eI G (40 * 3) df) (hor : f 41 = eO 5 [.int (nI 4), .int (nI 3), .ref (g 42), .int (nI nr)]) (hod : f 42 = eI G (4 * 3) dr) (har : f 43 = eO 5 [.int (nI 20), .int (nI 3), .ref (g 44), .int (nI na)]) (had : f 44 = eI G (20 * 3) da) (htr : f 45 = eO 5 [.int (nI 10), .int (nI 70), .ref (g 46), .int (nI nt)]) (hct : f 46 = eI G (10 * 70) ct) (hla : f 47 = eO 6 [.ref (g 48), .ref (g 49)]) (hlaa : f 48 = eA G 5 20 lf) (hts0 : f 112 = eO 6 [.ref (g 113), .ref (g 114)]) (htsa : f 113 = eA G 5 4 tf) (hse : se ≤ 10) (hhf : ∀ i, i < 10 → hf i = some (g (2 * i + 16))) (him0 : imf 0 = some (g 129)) (him1 : imf 1 = some (g 222)) (hmc : mc ≤ 50) (hmn : mn ≤ 6) (hnp : np ≤ 30) (hnf : nf ≤ 40) (hnr : nr ≤ 4) (hna : na ≤ 20) (hnt : nt ≤ 10) (hlf : ∀ z, z < 20 → lf z = some (g (47 + 3 * z + 5))) (htf : ∀ z, z < 4 → tf z = some (g (112 + 3 * z + 5))) (hsn : se ≤ nt) (hTr : trC ct nt) (hH : ∀ i, i < 10 → okH G g f (2 * i + 16)) (hSp : okH G g f 13) (hL : ∀ i, i < 20 → ltx G g f (3 * i + 52) (LL i) (LG i) (i < na)) (hT : ∀ i, i < 4 → txt G g f (3 * i + 117) (TL i) (TG i)) (hB1 : bkD G g f 129 N1 E1 P1 L1 S1 W1 X1) (hB2 : bkD G g f 222 N2 E2 P2 L2 S2 W2 X2) (hQ : ∀ z, z < se → cHz G g f np nf nr na dp df dr da ct LL LG z) : Met l yX10_may (wsT yX10_may cX10_may 4 (some .int)) ({ frames := 7, cells := 0, slots := 0, locals := 176 }) (bP G g f [.ref (g 0), .int a1, .int a2, .int a3]) (bQi G g (fun (z9 : Int32) (f' : Nat → va_E) => (cJ G g f' np dp nf df nr dr nt ct pay fine kf na da TL TG LL LG N1 E1 P1 L1 S1 W1 X1 N2 E2 P2 L2 S2 W2 X2) ∧ ((¬ (inN a1 np = true ∧ inB 0 a2 9999 = true ∧ inB 0 a3 1 = true) ∧ z9 = -2) ∨ (∃ po k, po < np ∧ a1 = nI po ∧ inB 0 a2 9999 = true ∧ k ≤ 1 ∧ a3 = nI k ∧ z9 = myV (nvF (fun i c => dp (4 * i + c)) (fun t c => ct (70 * t + c)) (cJr np nf nr na dp df dr da ct LL LG) a2 nt po) k ((fcB (fun i c => da (3 * i + c)) (nI k) a2 na).map (fun z => rdO (LL z) (LG z))))) ∧ ∀ j, 315 ≤ j → f' j = f j)) 0 0 (gA g) := by
  refine Met.ofW (cc := cX10_may) (maxL := 4) (ret := (some .int)) (by decide) rfl ?_
  intro p e s m args below meth c s₁ B hml hv
  obtain ⟨rfl, hP, hG⟩ := hv
  have hx := B.exec
  have hb := B.bytes
  have hr := B.returns
  have hts := my_hts (atoms_spec (ws := wsT yX10_may cX10_may 4 (some .int)) B.pre)
  have hown : s.vm.findClass RX10 = some m.cls := findClass_of_methodNamed B.named
  have hlocks := B.notSynchronized
  have hS : va_S (gA g) s.heap s.heap [] := va_S.rf
  have hl := lv_entry ([.ref (g 0), .int a1, .int a2, .int a3]) (n := 4) (Nat.le_of_ble_eq_true rfl)
  rw [lg_entry_eq]
  generalize (lg_sl ([.ref (g 0), .int a1, .int a2, .int a3]) ++ List.replicate (4 - (lg_sl ([.ref (g 0), .int a1, .int a2, .int a3])).length) Slot.unset).toArray = ls at hl ⊢
  have hl : lv_has ls 4 [(0, .ref (g 0)), (1, .int a1), (2, .int a2), (3, .int a3)] := hl
  refine W_q8 (fun Q9 hQ9 => ?_)
  refine lv_aload_n hx hb dX10_may_0 rfl (lv_at hl 0 rfl) ?_
  refine va_get (D := G.1) (ci := 9) (v := .ref (g 36)) (C := RX10) (T := TX10) (N := 7) hx hb hts inlX10 hown hG.1 hP 0 (wl_at (by decide) hx0) rfl 1 (by decide) (hts (.fieldLink RX10 20 "SwornLists" "book" "LSwornLists$Book;") w_16) (fun _ h9 => h9) rfl dX10_may_1 ?_
  refine va_getN (D := G.1) (ci := 0) (v := .ref (g 37)) (C := RX0) (T := TX0) (N := 9) (host := RX10) hx hb hts inlX0 hown hG.1 hP 36 (wl_at (by decide) hbk) rfl 0 (by decide) (va_Nw.use rfl (hG.2.1 (.fieldLinkNest RX10 57 RX0 "people" "LSwornLists$Rows;" RX10) (List.mem_of_getElem? (i := 0) rfl))) (fun _ h9 => h9) rfl dX10_may_4 ?_
  refine lv_iload_n hx hb dX10_may_7 rfl (lv_at hl 1 rfl) ?_
  refine rd_calli (va_runV (As := [.int a1]) (rest := []) ⟨hx, hb, hml, hown, hts⟩ (r_has l G g hg f 37 30 4 np a1 hpr (by first | assumption | omega | decide) (by first | assumption | omega | decide) (by first | assumption | omega | decide) (by first | assumption | omega | decide)) (my_cwV hts ok_X5_has w_174 rfl rfl ⟨Nat.le_of_ble_eq_true rfl, Nat.le_of_ble_eq_true rfl⟩) ⟨bP.blind, va_recv hG.1 hP (ci := 5) (q0 := 37) rfl (wl_at (by decide) hpr), fun U hU hW => ⟨rfl, by rw [hU]; exact hP, kG.warm hW hG⟩⟩ rfl rfl hl.1 rfl (lv_room (Nat.le_of_ble_eq_true rfl)) dX10_may_8 ⟨Nat.le_of_ble_eq_true rfl, Nat.le_of_ble_eq_true rfl⟩) (fun r hr9 => ?_)
  subst hr9
  refine my_ifeq (tgt := 28) hx hb dX10_may_11 (by decide) (fun c_11 => ?_) (fun c_11 => ?_)
  · refine lv_bipush (v := (-2)) hx hb dX10_may_28 (by decide) ?_
    refine W_q9 hQ9 ?_
    exact W.iret (v := (-2)) hx hb hr (fun _ hT9 _ => ⟨⟨_, f, rfl, (⟨cJ_mk (se) (hf) (imf) (mc) (op) (cm) (wu) (mk) (ab) (be) (mn) (le) (wt) (ww) (wb) (wf) (vv) (lf) (tf) (hx0) (hctc) (hhs) (him) (hkp) (hrd) (hmk) (hfc6) (hwt) (hw8) (hw9) (hw10) (hw11) (hvl) (hbk) (hpr) (hpd) (hfr) (hfd) (hor) (hod) (har) (had) (htr) (hct) (hla) (hlaa) (hts0) (htsa) (by omega) (hhf) (him0) (him1) (by omega) (by omega) (by omega) (by omega) (by omega) (by omega) (by omega) (hlf) (htf) (by omega) (hH) (hSp) (hL) (hT) (hB1) (hB2) (hQ), (Or.inl ⟨fun z => c_11 z.1, rfl⟩), fun j hj => rfl⟩), by rw [hT9]; exact hP⟩, hS.F hT9⟩) hS.2.2 dX10_may_30
  · refine lv_iload_n hx hb dX10_may_14 rfl (lv_at hl 2 rfl) ?_
    refine rd_calli (va_runS (As := [.int a2]) (rest := []) ⟨hx, hb, hml, hown, hts⟩ (s_isDay l G g hg f a2  ) (my_cwS hts ok_X10_isDay w_178 rfl rfl ⟨Nat.le_of_ble_eq_true rfl, Nat.le_of_ble_eq_true rfl⟩) ⟨bP.blind, fun U hU hW => ⟨rfl, by rw [hU]; exact hP, kG.warm hW hG⟩⟩ rfl rfl hl.1 rfl (lv_room (Nat.le_of_ble_eq_true rfl)) dX10_may_15 ⟨Nat.le_of_ble_eq_true rfl, Nat.le_of_ble_eq_true rfl⟩) (fun r hr9 => ?_)
    subst hr9
    refine my_ifeq (tgt := 28) hx hb dX10_may_18 (by decide) (fun c_18 => ?_) (fun c_18 => ?_)
    · refine lv_bipush (v := (-2)) hx hb dX10_may_28 (by decide) ?_
      refine W_q9 hQ9 ?_
      exact W.iret (v := (-2)) hx hb hr (fun _ hT9 _ => ⟨⟨_, f, rfl, (⟨cJ_mk (se) (hf) (imf) (mc) (op) (cm) (wu) (mk) (ab) (be) (mn) (le) (wt) (ww) (wb) (wf) (vv) (lf) (tf) (hx0) (hctc) (hhs) (him) (hkp) (hrd) (hmk) (hfc6) (hwt) (hw8) (hw9) (hw10) (hw11) (hvl) (hbk) (hpr) (hpd) (hfr) (hfd) (hor) (hod) (har) (had) (htr) (hct) (hla) (hlaa) (hts0) (htsa) (by omega) (hhf) (him0) (him1) (by omega) (by omega) (by omega) (by omega) (by omega) (by omega) (by omega) (hlf) (htf) (by omega) (hH) (hSp) (hL) (hT) (hB1) (hB2) (hQ), (Or.inl ⟨fun z => c_18 z.2.1, rfl⟩), fun j hj => rfl⟩), by rw [hT9]; exact hP⟩, hS.F hT9⟩) hS.2.2 dX10_may_30
    · refine lv_iload_n hx hb dX10_may_21 rfl (lv_at hl 3 rfl) ?_
      refine rd_calli (va_runS (As := [.int a3]) (rest := []) ⟨hx, hb, hml, hown, hts⟩ (s_isSort l G g hg f a3  ) (my_cwS hts ok_X10_isSort w_591 rfl rfl ⟨Nat.le_of_ble_eq_true rfl, Nat.le_of_ble_eq_true rfl⟩) ⟨bP.blind, fun U hU hW => ⟨rfl, by rw [hU]; exact hP, kG.warm hW hG⟩⟩ rfl rfl hl.1 rfl (lv_room (Nat.le_of_ble_eq_true rfl)) dX10_may_22 ⟨Nat.le_of_ble_eq_true rfl, Nat.le_of_ble_eq_true rfl⟩) (fun r hr9 => ?_)
      subst hr9
      refine my_ifne (tgt := 31) hx hb dX10_may_25 (by decide) (fun c_25 => ?_) (fun c_25 => ?_)
      · rcases inB_01.mp c_25 with e9 | e9
        · subst e9
          obtain ⟨pn, hpn, rfl⟩ := inN_nat (by omega) c_11
          refine lv_aload_n hx hb dX10_may_31 rfl (lv_at hl 0 rfl) ?_
          refine va_get (D := G.1) (ci := 9) (v := .ref (g 1)) (C := RX10) (T := TX10) (N := 7) hx hb hts inlX10 hown hG.1 hP 0 (wl_at (by decide) hx0) rfl 0 (by decide) (hts (.fieldLink RX10 12 "SwornLists" "court" "LSwornLists$Court;") w_15) (fun _ h9 => h9) rfl dX10_may_32 ?_
          refine b_callv (va_runV (As := []) (rest := []) ⟨hx, hb, hml, hown, hts⟩ (u_settleE l G g hg f se hf pay fine nt ct np dp nf df nr dr na da lf vv LL LG hctc hhs hbk htr hct hpr hpd hfr hfd hor hod har had hla hlaa hvl (by first | assumption | omega | decide) (by first | assumption | omega | decide) (by first | assumption | omega | decide) (by first | assumption | omega | decide) (by first | assumption | omega | decide) (by first | assumption | omega | decide) (by first | assumption | omega | decide) (by first | assumption | omega | decide) (hTr.1) (hTr.2.1) (hTr.2.2.1) (by first | assumption | omega | decide) (hQ) (by first | assumption | omega | decide) (hL)) (my_cwV hts ok_X1_settle w_384 rfl rfl ⟨Nat.le_of_ble_eq_true rfl, Nat.le_of_ble_eq_true rfl⟩) ⟨bP.blind, va_recv hG.1 hP (ci := 1) (q0 := 1) rfl (wl_at (by decide) hctc), fun U hU hW => ⟨rfl, by rw [hU]; exact hP, kG.warm hW hG⟩⟩ rfl rfl hl.1 rfl (lv_room (Nat.le_of_ble_eq_true rfl)) dX10_may_35 ⟨Nat.le_of_ble_eq_true rfl, Nat.le_of_ble_eq_true rfl⟩) hS (fun f_1 H locs hq9 hP hS => ?_)
          obtain ⟨vv91, hq_1_0, hq_1_1, hx_1_0, hx_1_1, o_1⟩ := hq9
          have hctc : f_1 1 = eO 1 [.ref (g 36), .ref (g 12), .ref (g 13), .ref (g 15), .int (nI nt)] := hq_1_0
          have hvl : f_1 15 = eJ G 50 vv91 := hq_1_1
          have hH : ∀ i, i < 10 → okH G g f_1 (2 * i + 16) := hx_1_0
          have hQn : ∀ z, z < nt → cHz G g f_1 np nf nr na dp df dr da ct LL LG z := hx_1_1
          refine lv_aload_n hx hb dX10_may_38 rfl (lv_at hl 0 rfl) ?_
          replace hx0 := ((o_1 0 (by first | decide | omega))).trans hx0
          refine va_get (D := G.1) (ci := 9) (v := .ref (g 1)) (C := RX10) (T := TX10) (N := 7) hx hb hts inlX10 hown hG.1 hP 0 (wl_at (by decide) hx0) rfl 0 (by decide) (hts (.fieldLink RX10 12 "SwornLists" "court" "LSwornLists$Court;") w_15) (fun _ h9 => h9) rfl dX10_may_39 ?_
          refine lv_aload_n hx hb dX10_may_42 rfl (lv_at hl 0 rfl) ?_
          refine va_get (D := G.1) (ci := 9) (v := .ref (g 36)) (C := RX10) (T := TX10) (N := 7) hx hb hts inlX10 hown hG.1 hP 0 (wl_at (by decide) hx0) rfl 1 (by decide) (hts (.fieldLink RX10 20 "SwornLists" "book" "LSwornLists$Book;") w_16) (fun _ h9 => h9) rfl dX10_may_43 ?_
          refine lv_iload_n hx hb dX10_may_46 rfl (lv_at hl 3 rfl) ?_
          refine lv_iload_n hx hb dX10_may_47 rfl (lv_at hl 2 rfl) ?_
          replace hbk := ((o_1 36 (by first | decide | omega))).trans hbk
          replace har := ((o_1 43 (by first | decide | omega))).trans har
          replace had := ((o_1 44 (by first | decide | omega))).trans had
          replace hla := ((o_1 47 (by first | decide | omega))).trans hla
          replace hlaa := ((o_1 48 (by first | decide | omega))).trans hlaa
          refine rd_calla (va_runV (As := [.int 0, .int a2]) (rest := [.ref (g 1)]) ⟨hx, hb, hml, hown, hts⟩ (k_lawOfE l G g hg f_1 pay fine na da lf 0 a2 hbk har had hla hlaa (by first | assumption | omega | decide) (by first | assumption | omega | decide)) (my_cwV hts ok_X0_lawOf w_628 rfl rfl ⟨Nat.le_of_ble_eq_true rfl, Nat.le_of_ble_eq_true rfl⟩) ⟨bP.blind, va_recv hG.1 hP (ci := 0) (q0 := 36) rfl (wl_at (by decide) hbk), fun U hU hW => ⟨rfl, by rw [hU]; exact hP, kG.warm hW hG⟩⟩ rfl rfl hl.1 rfl (lv_room (Nat.le_of_ble_eq_true rfl)) dX10_may_48 ⟨Nat.le_of_ble_eq_true rfl, Nat.le_of_ble_eq_true rfl⟩) (fun r hr9 => ?_)
          obtain ⟨o92, rfl, hx_2_0, hx_2_1⟩ := hr9
          replace hL : ∀ i, i < 20 → ltx G g f_1 (3 * i + 52) (LL i) (LG i) (i < na) := fun z hz => ltx_fr (hL z hz) (o_1 _ (by omega)) (o_1 _ (by omega)) (o_1 _ (by omega))
          rcases o92 with _ | i3
          · refine my_bea (v := .null) rfl ?_
            refine lv_iload_n hx hb dX10_may_51 rfl (lv_at hl 3 rfl) ?_
            refine lv_iload_n hx hb dX10_may_52 rfl (lv_at hl 2 rfl) ?_
            refine lv_iconst (v := 1) hx hb dX10_may_53 (by decide) ?_
            refine lv_iload_n hx hb dX10_may_54 rfl (lv_at hl 1 rfl) ?_
            refine lv_ishl hx hb dX10_may_55 ?_
            obtain ⟨sw, hZ, hJ9⟩ := okZ_J (Nat.le_refl nt) hH hQn hTr.2.2.1
            refine rd_calli (va_runV (As := [.null, .int 0, .int a2, .int (1 <<< ((nI pn) &&& 31))]) (rest := []) ⟨hx, hb, hml, hown, hts⟩ (u_truthsN0 l G g hg f_1 a2 (1 <<< ((nI pn) &&& 31))  ) (my_cwV hts ok_X1_truths w_629 rfl rfl ⟨Nat.le_of_ble_eq_true rfl, Nat.le_of_ble_eq_true rfl⟩) ⟨bP.blind, va_recv hG.1 hP (ci := 1) (q0 := 1) rfl (wl_at (by decide) hctc), fun U hU hW => ⟨rfl, by rw [hU]; exact hP, kG.warm hW hG⟩⟩ rfl rfl hl.1 rfl (lv_room (Nat.le_of_ble_eq_true rfl)) dX10_may_56 ⟨Nat.le_of_ble_eq_true rfl, Nat.le_of_ble_eq_true rfl⟩) (fun r hr9 => ?_)
            subst hr9
            refine lv_if_eq (tgt := 66) hx hb dX10_may_59 (by decide) (fun c_59 => absurd c_59 (b1_ne (by omega))) (fun c_59 => ?_)
            refine lv_iconst (v := 1) hx hb dX10_may_62 (by decide) ?_
            refine lv_goto (tgt := 67) hx hb dX10_may_63 (by decide) ?_
            refine W_q9 hQ9 ?_
            replace hhs := ((o_1 12 (by first | decide | omega))).trans hhs
            replace him := ((o_1 2 (by first | decide | omega))).trans him
            replace hkp := ((o_1 3 (by first | decide | omega))).trans hkp
            replace hrd := ((o_1 4 (by first | decide | omega))).trans hrd
            replace hmk := ((o_1 5 (by first | decide | omega))).trans hmk
            replace hfc6 := ((o_1 6 (by first | decide | omega))).trans hfc6
            replace hwt := ((o_1 7 (by first | decide | omega))).trans hwt
            replace hw8 := ((o_1 8 (by first | decide | omega))).trans hw8
            replace hw9 := ((o_1 9 (by first | decide | omega))).trans hw9
            replace hw10 := ((o_1 10 (by first | decide | omega))).trans hw10
            replace hw11 := ((o_1 11 (by first | decide | omega))).trans hw11
            replace hpr := ((o_1 37 (by first | decide | omega))).trans hpr
            replace hpd := ((o_1 38 (by first | decide | omega))).trans hpd
            replace hfr := ((o_1 39 (by first | decide | omega))).trans hfr
            replace hfd := ((o_1 40 (by first | decide | omega))).trans hfd
            replace hor := ((o_1 41 (by first | decide | omega))).trans hor
            replace hod := ((o_1 42 (by first | decide | omega))).trans hod
            replace htr := ((o_1 45 (by first | decide | omega))).trans htr
            replace hct := ((o_1 46 (by first | decide | omega))).trans hct
            replace hts0 := ((o_1 112 (by first | decide | omega))).trans hts0
            replace htsa := ((o_1 113 (by first | decide | omega))).trans htsa
            replace hSp : okH G g f_1 13 := okH_fr hSp (o_1 _ (by omega)) (o_1 _ (by omega))
            replace hT : ∀ i, i < 4 → txt G g f_1 (3 * i + 117) (TL i) (TG i) := fun z hz => txt_fr (hT z hz) (o_1 _ (by omega)) (o_1 _ (by omega)) (o_1 _ (by omega))
            replace hB1 : bkD G g f_1 129 N1 E1 P1 L1 S1 W1 X1 := bkD_fr hB1 (fun j _ _ => o_1 j (by omega))
            replace hB2 : bkD G g f_1 222 N2 E2 P2 L2 S2 W2 X2 := bkD_fr hB2 (fun j _ _ => o_1 j (by omega))
            exact W.iret (v := 1) hx hb hr (fun _ hT9 _ => ⟨⟨_, f_1, rfl, (⟨cJ_mk (nt) (hf) (imf) (mc) (op) (cm) (wu) (mk) (ab) (be) (mn) (le) (wt) (ww) (wb) (wf) (vv91) (lf) (tf) (hx0) (hctc) (hhs) (him) (hkp) (hrd) (hmk) (hfc6) (hwt) (hw8) (hw9) (hw10) (hw11) (hvl) (hbk) (hpr) (hpd) (hfr) (hfd) (hor) (hod) (har) (had) (htr) (hct) (hla) (hlaa) (hts0) (htsa) (by omega) (hhf) (him0) (him1) (by omega) (by omega) (by omega) (by omega) (by omega) (by omega) (by omega) (hlf) (htf) (by omega) (hH) (hSp) (hL) (hT) (hB1) (hB2) (hQn), (Or.inr ⟨pn, 0, hpn, rfl, c_18, by decide, rfl, (show (1 : Int32) = myV (nvF (fun i c => dp (4 * i + c)) (fun t c => ct (70 * t + c)) (cJr np nf nr na dp df dr da ct LL LG) a2 nt pn) 0 none from rfl).trans (congrArg (fun o9 => myV (nvF (fun i c => dp (4 * i + c)) (fun t c => ct (70 * t + c)) (cJr np nf nr na dp df dr da ct LL LG) a2 nt pn) 0 (Option.map (fun z => rdO (LL z) (LG z)) o9)) hx_2_1).symm⟩), fun j hj => (o_1 j (by omega))⟩), by rw [hT9]; exact hP⟩, hS.F hT9⟩) hS.2.2 dX10_may_67
          · have hiL3 := hx_2_0 i3 rfl
            obtain ⟨sc3, sp3, ⟨htx3, hsx3, hpx3, hln3, hsc3⟩, hls3, hlen3, hdl3, hol3⟩ := ltx_go (hL i3 (by omega)) (by omega)
            refine my_bea (v := .ref (g (3 * i3 + 52))) rfl ?_
            refine lv_iload_n hx hb dX10_may_51 rfl (lv_at hl 3 rfl) ?_
            refine lv_iload_n hx hb dX10_may_52 rfl (lv_at hl 2 rfl) ?_
            refine lv_iconst (v := 1) hx hb dX10_may_53 (by decide) ?_
            refine lv_iload_n hx hb dX10_may_54 rfl (lv_at hl 1 rfl) ?_
            refine lv_ishl hx hb dX10_may_55 ?_
            obtain ⟨sw, hZ, hJ9⟩ := okZ_J (Nat.le_refl nt) hH hQn hTr.2.2.1
            replace hhs := ((o_1 12 (by first | decide | omega))).trans hhs
            replace htr := ((o_1 45 (by first | decide | omega))).trans htr
            replace hct := ((o_1 46 (by first | decide | omega))).trans hct
            replace hpr := ((o_1 37 (by first | decide | omega))).trans hpr
            replace hpd := ((o_1 38 (by first | decide | omega))).trans hpd
            refine b_calli (va_runV (As := [.ref (g (3 * i3 + 52)), .int 0, .int a2, .int (1 <<< ((nI pn) &&& 31))]) (rest := []) ⟨hx, hb, hml, hown, hts⟩ (u_truthsTE l G g hg f_1 nt hf pay fine nt ct np dp (3 * i3 + 52) (LL i3) sc3 sp3 vv91 sw (rdO (LL i3) (LG i3)) 0 a2 (1 <<< ((nI pn) &&& 31)) hctc hhs hbk htr hct hpr hpd htx3 hpx3 hvl (by first | assumption | omega | decide) (by first | assumption | omega | decide) (by first | assumption | omega | decide) (by first | assumption | omega | decide) (by first | assumption | omega | decide) (hln3) (hsc3) (by first | assumption | omega | decide) (hls3) (hlen3) (hdl3) (hol3) (hZ)) (my_cwV hts ok_X1_truths w_629 rfl rfl ⟨Nat.le_of_ble_eq_true rfl, Nat.le_of_ble_eq_true rfl⟩) ⟨bP.blind, va_recv hG.1 hP (ci := 1) (q0 := 1) rfl (wl_at (by decide) hctc), fun U hU hW => ⟨rfl, by rw [hU]; exact hP, kG.warm hW hG⟩⟩ rfl rfl hl.1 rfl (lv_room (Nat.le_of_ble_eq_true rfl)) dX10_may_56 ⟨Nat.le_of_ble_eq_true rfl, Nat.le_of_ble_eq_true rfl⟩) hS (fun v4 f_3 H locs hq9 hP hS => ?_)
            obtain ⟨vv95, rfl, hq_3_0, o_3⟩ := hq9
            have hvl : f_3 15 = eJ G 50 vv95 := hq_3_0
            refine lv_if_eq (tgt := 66) hx hb dX10_may_59 (by decide) (fun c_59 => ?_) (fun c_59 => ?_)
            · refine lv_iconst (v := 0) hx hb dX10_may_66 (by decide) ?_
              refine W_q9 hQ9 ?_
              replace hx0 := ((o_3 0 (by first | decide | omega))).trans hx0
              replace hctc := ((o_3 1 (by first | decide | omega))).trans hctc
              replace hhs := ((o_3 12 (by first | decide | omega))).trans hhs
              replace him := ((o_3 2 (by first | decide | omega)).trans ((o_1 2 (by first | decide | omega)))).trans him
              replace hkp := ((o_3 3 (by first | decide | omega)).trans ((o_1 3 (by first | decide | omega)))).trans hkp
              replace hrd := ((o_3 4 (by first | decide | omega)).trans ((o_1 4 (by first | decide | omega)))).trans hrd
              replace hmk := ((o_3 5 (by first | decide | omega)).trans ((o_1 5 (by first | decide | omega)))).trans hmk
              replace hfc6 := ((o_3 6 (by first | decide | omega)).trans ((o_1 6 (by first | decide | omega)))).trans hfc6
              replace hwt := ((o_3 7 (by first | decide | omega)).trans ((o_1 7 (by first | decide | omega)))).trans hwt
              replace hw8 := ((o_3 8 (by first | decide | omega)).trans ((o_1 8 (by first | decide | omega)))).trans hw8
              replace hw9 := ((o_3 9 (by first | decide | omega)).trans ((o_1 9 (by first | decide | omega)))).trans hw9
              replace hw10 := ((o_3 10 (by first | decide | omega)).trans ((o_1 10 (by first | decide | omega)))).trans hw10
              replace hw11 := ((o_3 11 (by first | decide | omega)).trans ((o_1 11 (by first | decide | omega)))).trans hw11
              replace hbk := ((o_3 36 (by first | decide | omega))).trans hbk
              replace hpr := ((o_3 37 (by first | decide | omega))).trans hpr
              replace hpd := ((o_3 38 (by first | decide | omega))).trans hpd
              replace hfr := ((o_3 39 (by first | decide | omega)).trans ((o_1 39 (by first | decide | omega)))).trans hfr
              replace hfd := ((o_3 40 (by first | decide | omega)).trans ((o_1 40 (by first | decide | omega)))).trans hfd
              replace hor := ((o_3 41 (by first | decide | omega)).trans ((o_1 41 (by first | decide | omega)))).trans hor
              replace hod := ((o_3 42 (by first | decide | omega)).trans ((o_1 42 (by first | decide | omega)))).trans hod
              replace har := ((o_3 43 (by first | decide | omega))).trans har
              replace had := ((o_3 44 (by first | decide | omega))).trans had
              replace htr := ((o_3 45 (by first | decide | omega))).trans htr
              replace hct := ((o_3 46 (by first | decide | omega))).trans hct
              replace hla := ((o_3 47 (by first | decide | omega))).trans hla
              replace hlaa := ((o_3 48 (by first | decide | omega))).trans hlaa
              replace hts0 := ((o_3 112 (by first | decide | omega)).trans ((o_1 112 (by first | decide | omega)))).trans hts0
              replace htsa := ((o_3 113 (by first | decide | omega)).trans ((o_1 113 (by first | decide | omega)))).trans htsa
              replace hH : ∀ i, i < 10 → okH G g f_3 (2 * i + 16) := fun z hz => okH_fr (hH z hz) (o_3 _ (by omega)) (o_3 _ (by omega))
              replace hSp : okH G g f_1 13 := okH_fr hSp (o_1 _ (by omega)) (o_1 _ (by omega))
              replace hSp : okH G g f_3 13 := okH_fr hSp (o_3 _ (by omega)) (o_3 _ (by omega))
              replace hL : ∀ i, i < 20 → ltx G g f_3 (3 * i + 52) (LL i) (LG i) (i < na) := fun z hz => ltx_fr (hL z hz) (o_3 _ (by omega)) (o_3 _ (by omega)) (o_3 _ (by omega))
              replace hT : ∀ i, i < 4 → txt G g f_1 (3 * i + 117) (TL i) (TG i) := fun z hz => txt_fr (hT z hz) (o_1 _ (by omega)) (o_1 _ (by omega)) (o_1 _ (by omega))
              replace hT : ∀ i, i < 4 → txt G g f_3 (3 * i + 117) (TL i) (TG i) := fun z hz => txt_fr (hT z hz) (o_3 _ (by omega)) (o_3 _ (by omega)) (o_3 _ (by omega))
              replace hB1 : bkD G g f_1 129 N1 E1 P1 L1 S1 W1 X1 := bkD_fr hB1 (fun j _ _ => o_1 j (by omega))
              replace hB1 : bkD G g f_3 129 N1 E1 P1 L1 S1 W1 X1 := bkD_fr hB1 (fun j _ _ => o_3 j (by omega))
              replace hB2 : bkD G g f_1 222 N2 E2 P2 L2 S2 W2 X2 := bkD_fr hB2 (fun j _ _ => o_1 j (by omega))
              replace hB2 : bkD G g f_3 222 N2 E2 P2 L2 S2 W2 X2 := bkD_fr hB2 (fun j _ _ => o_3 j (by omega))
              replace hQn : ∀ z, z < nt → cHz G g f_3 np nf nr na dp df dr da ct LL LG z := fun z hz => okQ_fr (hQn z hz) (o_3 _ (by omega)) (o_3 _ (by omega))
              exact W.iret (v := 0) hx hb hr (fun _ hT9 _ => ⟨⟨_, f_3, rfl, (⟨cJ_mk (nt) (hf) (imf) (mc) (op) (cm) (wu) (mk) (ab) (be) (mn) (le) (wt) (ww) (wb) (wf) (vv95) (lf) (tf) (hx0) (hctc) (hhs) (him) (hkp) (hrd) (hmk) (hfc6) (hwt) (hw8) (hw9) (hw10) (hw11) (hvl) (hbk) (hpr) (hpd) (hfr) (hfd) (hor) (hod) (har) (had) (htr) (hct) (hla) (hlaa) (hts0) (htsa) (by omega) (hhf) (him0) (him1) (by omega) (by omega) (by omega) (by omega) (by omega) (by omega) (by omega) (hlf) (htf) (by omega) (hH) (hSp) (hL) (hT) (hB1) (hB2) (hQn), (Or.inr ⟨pn, 0, hpn, rfl, c_18, by decide, rfl, (my_n (N := nvF (fun i c => dp (4 * i + c)) (fun t c => ct (70 * t + c)) sw a2 nt) hpn hnp (nvF_congr (fun _ _ => rfl) (fun _ _ => rfl) hJ9) c_59).trans (congrArg (fun o9 => myV (nvF (fun i c => dp (4 * i + c)) (fun t c => ct (70 * t + c)) (cJr np nf nr na dp df dr da ct LL LG) a2 nt pn) 0 (Option.map (fun z => rdO (LL z) (LG z)) o9)) hx_2_1).symm⟩), fun j hj => ((o_3 j (by omega))).trans (o_1 j (by omega))⟩), by rw [hT9]; exact hP⟩, hS.F hT9⟩) hS.2.2 dX10_may_67
            · refine lv_iconst (v := 1) hx hb dX10_may_62 (by decide) ?_
              refine lv_goto (tgt := 67) hx hb dX10_may_63 (by decide) ?_
              refine W_q9 hQ9 ?_
              replace hx0 := ((o_3 0 (by first | decide | omega))).trans hx0
              replace hctc := ((o_3 1 (by first | decide | omega))).trans hctc
              replace hhs := ((o_3 12 (by first | decide | omega))).trans hhs
              replace him := ((o_3 2 (by first | decide | omega)).trans ((o_1 2 (by first | decide | omega)))).trans him
              replace hkp := ((o_3 3 (by first | decide | omega)).trans ((o_1 3 (by first | decide | omega)))).trans hkp
              replace hrd := ((o_3 4 (by first | decide | omega)).trans ((o_1 4 (by first | decide | omega)))).trans hrd
              replace hmk := ((o_3 5 (by first | decide | omega)).trans ((o_1 5 (by first | decide | omega)))).trans hmk
              replace hfc6 := ((o_3 6 (by first | decide | omega)).trans ((o_1 6 (by first | decide | omega)))).trans hfc6
              replace hwt := ((o_3 7 (by first | decide | omega)).trans ((o_1 7 (by first | decide | omega)))).trans hwt
              replace hw8 := ((o_3 8 (by first | decide | omega)).trans ((o_1 8 (by first | decide | omega)))).trans hw8
              replace hw9 := ((o_3 9 (by first | decide | omega)).trans ((o_1 9 (by first | decide | omega)))).trans hw9
              replace hw10 := ((o_3 10 (by first | decide | omega)).trans ((o_1 10 (by first | decide | omega)))).trans hw10
              replace hw11 := ((o_3 11 (by first | decide | omega)).trans ((o_1 11 (by first | decide | omega)))).trans hw11
              replace hbk := ((o_3 36 (by first | decide | omega))).trans hbk
              replace hpr := ((o_3 37 (by first | decide | omega))).trans hpr
              replace hpd := ((o_3 38 (by first | decide | omega))).trans hpd
              replace hfr := ((o_3 39 (by first | decide | omega)).trans ((o_1 39 (by first | decide | omega)))).trans hfr
              replace hfd := ((o_3 40 (by first | decide | omega)).trans ((o_1 40 (by first | decide | omega)))).trans hfd
              replace hor := ((o_3 41 (by first | decide | omega)).trans ((o_1 41 (by first | decide | omega)))).trans hor
              replace hod := ((o_3 42 (by first | decide | omega)).trans ((o_1 42 (by first | decide | omega)))).trans hod
              replace har := ((o_3 43 (by first | decide | omega))).trans har
              replace had := ((o_3 44 (by first | decide | omega))).trans had
              replace htr := ((o_3 45 (by first | decide | omega))).trans htr
              replace hct := ((o_3 46 (by first | decide | omega))).trans hct
              replace hla := ((o_3 47 (by first | decide | omega))).trans hla
              replace hlaa := ((o_3 48 (by first | decide | omega))).trans hlaa
              replace hts0 := ((o_3 112 (by first | decide | omega)).trans ((o_1 112 (by first | decide | omega)))).trans hts0
              replace htsa := ((o_3 113 (by first | decide | omega)).trans ((o_1 113 (by first | decide | omega)))).trans htsa
              replace hH : ∀ i, i < 10 → okH G g f_3 (2 * i + 16) := fun z hz => okH_fr (hH z hz) (o_3 _ (by omega)) (o_3 _ (by omega))
              replace hSp : okH G g f_1 13 := okH_fr hSp (o_1 _ (by omega)) (o_1 _ (by omega))
              replace hSp : okH G g f_3 13 := okH_fr hSp (o_3 _ (by omega)) (o_3 _ (by omega))
              replace hL : ∀ i, i < 20 → ltx G g f_3 (3 * i + 52) (LL i) (LG i) (i < na) := fun z hz => ltx_fr (hL z hz) (o_3 _ (by omega)) (o_3 _ (by omega)) (o_3 _ (by omega))
              replace hT : ∀ i, i < 4 → txt G g f_1 (3 * i + 117) (TL i) (TG i) := fun z hz => txt_fr (hT z hz) (o_1 _ (by omega)) (o_1 _ (by omega)) (o_1 _ (by omega))
              replace hT : ∀ i, i < 4 → txt G g f_3 (3 * i + 117) (TL i) (TG i) := fun z hz => txt_fr (hT z hz) (o_3 _ (by omega)) (o_3 _ (by omega)) (o_3 _ (by omega))
              replace hB1 : bkD G g f_1 129 N1 E1 P1 L1 S1 W1 X1 := bkD_fr hB1 (fun j _ _ => o_1 j (by omega))
              replace hB1 : bkD G g f_3 129 N1 E1 P1 L1 S1 W1 X1 := bkD_fr hB1 (fun j _ _ => o_3 j (by omega))
              replace hB2 : bkD G g f_1 222 N2 E2 P2 L2 S2 W2 X2 := bkD_fr hB2 (fun j _ _ => o_1 j (by omega))
              replace hB2 : bkD G g f_3 222 N2 E2 P2 L2 S2 W2 X2 := bkD_fr hB2 (fun j _ _ => o_3 j (by omega))
              replace hQn : ∀ z, z < nt → cHz G g f_3 np nf nr na dp df dr da ct LL LG z := fun z hz => okQ_fr (hQn z hz) (o_3 _ (by omega)) (o_3 _ (by omega))
              exact W.iret (v := 1) hx hb hr (fun _ hT9 _ => ⟨⟨_, f_3, rfl, (⟨cJ_mk (nt) (hf) (imf) (mc) (op) (cm) (wu) (mk) (ab) (be) (mn) (le) (wt) (ww) (wb) (wf) (vv95) (lf) (tf) (hx0) (hctc) (hhs) (him) (hkp) (hrd) (hmk) (hfc6) (hwt) (hw8) (hw9) (hw10) (hw11) (hvl) (hbk) (hpr) (hpd) (hfr) (hfd) (hor) (hod) (har) (had) (htr) (hct) (hla) (hlaa) (hts0) (htsa) (by omega) (hhf) (him0) (him1) (by omega) (by omega) (by omega) (by omega) (by omega) (by omega) (by omega) (hlf) (htf) (by omega) (hH) (hSp) (hL) (hT) (hB1) (hB2) (hQn), (Or.inr ⟨pn, 0, hpn, rfl, c_18, by decide, rfl, (my_y (N := nvF (fun i c => dp (4 * i + c)) (fun t c => ct (70 * t + c)) sw a2 nt) hpn hnp (nvF_congr (fun _ _ => rfl) (fun _ _ => rfl) hJ9) c_59).trans (congrArg (fun o9 => myV (nvF (fun i c => dp (4 * i + c)) (fun t c => ct (70 * t + c)) (cJr np nf nr na dp df dr da ct LL LG) a2 nt pn) 0 (Option.map (fun z => rdO (LL z) (LG z)) o9)) hx_2_1).symm⟩), fun j hj => ((o_3 j (by omega))).trans (o_1 j (by omega))⟩), by rw [hT9]; exact hP⟩, hS.F hT9⟩) hS.2.2 dX10_may_67
        · subst e9
          obtain ⟨pn, hpn, rfl⟩ := inN_nat (by omega) c_11
          refine lv_aload_n hx hb dX10_may_31 rfl (lv_at hl 0 rfl) ?_
          refine va_get (D := G.1) (ci := 9) (v := .ref (g 1)) (C := RX10) (T := TX10) (N := 7) hx hb hts inlX10 hown hG.1 hP 0 (wl_at (by decide) hx0) rfl 0 (by decide) (hts (.fieldLink RX10 12 "SwornLists" "court" "LSwornLists$Court;") w_15) (fun _ h9 => h9) rfl dX10_may_32 ?_
          refine b_callv (va_runV (As := []) (rest := []) ⟨hx, hb, hml, hown, hts⟩ (u_settleE l G g hg f se hf pay fine nt ct np dp nf df nr dr na da lf vv LL LG hctc hhs hbk htr hct hpr hpd hfr hfd hor hod har had hla hlaa hvl (by first | assumption | omega | decide) (by first | assumption | omega | decide) (by first | assumption | omega | decide) (by first | assumption | omega | decide) (by first | assumption | omega | decide) (by first | assumption | omega | decide) (by first | assumption | omega | decide) (by first | assumption | omega | decide) (hTr.1) (hTr.2.1) (hTr.2.2.1) (by first | assumption | omega | decide) (hQ) (by first | assumption | omega | decide) (hL)) (my_cwV hts ok_X1_settle w_384 rfl rfl ⟨Nat.le_of_ble_eq_true rfl, Nat.le_of_ble_eq_true rfl⟩) ⟨bP.blind, va_recv hG.1 hP (ci := 1) (q0 := 1) rfl (wl_at (by decide) hctc), fun U hU hW => ⟨rfl, by rw [hU]; exact hP, kG.warm hW hG⟩⟩ rfl rfl hl.1 rfl (lv_room (Nat.le_of_ble_eq_true rfl)) dX10_may_35 ⟨Nat.le_of_ble_eq_true rfl, Nat.le_of_ble_eq_true rfl⟩) hS (fun f_4 H locs hq9 hP hS => ?_)
          obtain ⟨vv96, hq_4_0, hq_4_1, hx_4_0, hx_4_1, o_4⟩ := hq9
          have hctc : f_4 1 = eO 1 [.ref (g 36), .ref (g 12), .ref (g 13), .ref (g 15), .int (nI nt)] := hq_4_0
          have hvl : f_4 15 = eJ G 50 vv96 := hq_4_1
          have hH : ∀ i, i < 10 → okH G g f_4 (2 * i + 16) := hx_4_0
          have hQn : ∀ z, z < nt → cHz G g f_4 np nf nr na dp df dr da ct LL LG z := hx_4_1
          refine lv_aload_n hx hb dX10_may_38 rfl (lv_at hl 0 rfl) ?_
          replace hx0 := ((o_4 0 (by first | decide | omega))).trans hx0
          refine va_get (D := G.1) (ci := 9) (v := .ref (g 1)) (C := RX10) (T := TX10) (N := 7) hx hb hts inlX10 hown hG.1 hP 0 (wl_at (by decide) hx0) rfl 0 (by decide) (hts (.fieldLink RX10 12 "SwornLists" "court" "LSwornLists$Court;") w_15) (fun _ h9 => h9) rfl dX10_may_39 ?_
          refine lv_aload_n hx hb dX10_may_42 rfl (lv_at hl 0 rfl) ?_
          refine va_get (D := G.1) (ci := 9) (v := .ref (g 36)) (C := RX10) (T := TX10) (N := 7) hx hb hts inlX10 hown hG.1 hP 0 (wl_at (by decide) hx0) rfl 1 (by decide) (hts (.fieldLink RX10 20 "SwornLists" "book" "LSwornLists$Book;") w_16) (fun _ h9 => h9) rfl dX10_may_43 ?_
          refine lv_iload_n hx hb dX10_may_46 rfl (lv_at hl 3 rfl) ?_
          refine lv_iload_n hx hb dX10_may_47 rfl (lv_at hl 2 rfl) ?_
          replace hbk := ((o_4 36 (by first | decide | omega))).trans hbk
          replace har := ((o_4 43 (by first | decide | omega))).trans har
          replace had := ((o_4 44 (by first | decide | omega))).trans had
          replace hla := ((o_4 47 (by first | decide | omega))).trans hla
          replace hlaa := ((o_4 48 (by first | decide | omega))).trans hlaa
          refine rd_calla (va_runV (As := [.int 1, .int a2]) (rest := [.ref (g 1)]) ⟨hx, hb, hml, hown, hts⟩ (k_lawOfE l G g hg f_4 pay fine na da lf 1 a2 hbk har had hla hlaa (by first | assumption | omega | decide) (by first | assumption | omega | decide)) (my_cwV hts ok_X0_lawOf w_628 rfl rfl ⟨Nat.le_of_ble_eq_true rfl, Nat.le_of_ble_eq_true rfl⟩) ⟨bP.blind, va_recv hG.1 hP (ci := 0) (q0 := 36) rfl (wl_at (by decide) hbk), fun U hU hW => ⟨rfl, by rw [hU]; exact hP, kG.warm hW hG⟩⟩ rfl rfl hl.1 rfl (lv_room (Nat.le_of_ble_eq_true rfl)) dX10_may_48 ⟨Nat.le_of_ble_eq_true rfl, Nat.le_of_ble_eq_true rfl⟩) (fun r hr9 => ?_)
          obtain ⟨o97, rfl, hx_5_0, hx_5_1⟩ := hr9
          replace hL : ∀ i, i < 20 → ltx G g f_4 (3 * i + 52) (LL i) (LG i) (i < na) := fun z hz => ltx_fr (hL z hz) (o_4 _ (by omega)) (o_4 _ (by omega)) (o_4 _ (by omega))
          rcases o97 with _ | i8
          · refine my_bea (v := .null) rfl ?_
            refine lv_iload_n hx hb dX10_may_51 rfl (lv_at hl 3 rfl) ?_
            refine lv_iload_n hx hb dX10_may_52 rfl (lv_at hl 2 rfl) ?_
            refine lv_iconst (v := 1) hx hb dX10_may_53 (by decide) ?_
            refine lv_iload_n hx hb dX10_may_54 rfl (lv_at hl 1 rfl) ?_
            refine lv_ishl hx hb dX10_may_55 ?_
            obtain ⟨sw, hZ, hJ9⟩ := okZ_J (Nat.le_refl nt) hH hQn hTr.2.2.1
            refine rd_calli (va_runV (As := [.null, .int 1, .int a2, .int (1 <<< ((nI pn) &&& 31))]) (rest := []) ⟨hx, hb, hml, hown, hts⟩ (u_truthsN1 l G g hg f_4 a2 (1 <<< ((nI pn) &&& 31))  ) (my_cwV hts ok_X1_truths w_629 rfl rfl ⟨Nat.le_of_ble_eq_true rfl, Nat.le_of_ble_eq_true rfl⟩) ⟨bP.blind, va_recv hG.1 hP (ci := 1) (q0 := 1) rfl (wl_at (by decide) hctc), fun U hU hW => ⟨rfl, by rw [hU]; exact hP, kG.warm hW hG⟩⟩ rfl rfl hl.1 rfl (lv_room (Nat.le_of_ble_eq_true rfl)) dX10_may_56 ⟨Nat.le_of_ble_eq_true rfl, Nat.le_of_ble_eq_true rfl⟩) (fun r hr9 => ?_)
            subst hr9
            refine lv_if_eq (tgt := 66) hx hb dX10_may_59 (by decide) (fun c_59 => ?_) (fun c_59 => absurd (by decide) c_59)
            refine lv_iconst (v := 0) hx hb dX10_may_66 (by decide) ?_
            refine W_q9 hQ9 ?_
            replace hhs := ((o_4 12 (by first | decide | omega))).trans hhs
            replace him := ((o_4 2 (by first | decide | omega))).trans him
            replace hkp := ((o_4 3 (by first | decide | omega))).trans hkp
            replace hrd := ((o_4 4 (by first | decide | omega))).trans hrd
            replace hmk := ((o_4 5 (by first | decide | omega))).trans hmk
            replace hfc6 := ((o_4 6 (by first | decide | omega))).trans hfc6
            replace hwt := ((o_4 7 (by first | decide | omega))).trans hwt
            replace hw8 := ((o_4 8 (by first | decide | omega))).trans hw8
            replace hw9 := ((o_4 9 (by first | decide | omega))).trans hw9
            replace hw10 := ((o_4 10 (by first | decide | omega))).trans hw10
            replace hw11 := ((o_4 11 (by first | decide | omega))).trans hw11
            replace hpr := ((o_4 37 (by first | decide | omega))).trans hpr
            replace hpd := ((o_4 38 (by first | decide | omega))).trans hpd
            replace hfr := ((o_4 39 (by first | decide | omega))).trans hfr
            replace hfd := ((o_4 40 (by first | decide | omega))).trans hfd
            replace hor := ((o_4 41 (by first | decide | omega))).trans hor
            replace hod := ((o_4 42 (by first | decide | omega))).trans hod
            replace htr := ((o_4 45 (by first | decide | omega))).trans htr
            replace hct := ((o_4 46 (by first | decide | omega))).trans hct
            replace hts0 := ((o_4 112 (by first | decide | omega))).trans hts0
            replace htsa := ((o_4 113 (by first | decide | omega))).trans htsa
            replace hSp : okH G g f_4 13 := okH_fr hSp (o_4 _ (by omega)) (o_4 _ (by omega))
            replace hT : ∀ i, i < 4 → txt G g f_4 (3 * i + 117) (TL i) (TG i) := fun z hz => txt_fr (hT z hz) (o_4 _ (by omega)) (o_4 _ (by omega)) (o_4 _ (by omega))
            replace hB1 : bkD G g f_4 129 N1 E1 P1 L1 S1 W1 X1 := bkD_fr hB1 (fun j _ _ => o_4 j (by omega))
            replace hB2 : bkD G g f_4 222 N2 E2 P2 L2 S2 W2 X2 := bkD_fr hB2 (fun j _ _ => o_4 j (by omega))
            exact W.iret (v := 0) hx hb hr (fun _ hT9 _ => ⟨⟨_, f_4, rfl, (⟨cJ_mk (nt) (hf) (imf) (mc) (op) (cm) (wu) (mk) (ab) (be) (mn) (le) (wt) (ww) (wb) (wf) (vv96) (lf) (tf) (hx0) (hctc) (hhs) (him) (hkp) (hrd) (hmk) (hfc6) (hwt) (hw8) (hw9) (hw10) (hw11) (hvl) (hbk) (hpr) (hpd) (hfr) (hfd) (hor) (hod) (har) (had) (htr) (hct) (hla) (hlaa) (hts0) (htsa) (by omega) (hhf) (him0) (him1) (by omega) (by omega) (by omega) (by omega) (by omega) (by omega) (by omega) (hlf) (htf) (by omega) (hH) (hSp) (hL) (hT) (hB1) (hB2) (hQn), (Or.inr ⟨pn, 1, hpn, rfl, c_18, by decide, rfl, (show (0 : Int32) = myV (nvF (fun i c => dp (4 * i + c)) (fun t c => ct (70 * t + c)) (cJr np nf nr na dp df dr da ct LL LG) a2 nt pn) 1 none from rfl).trans (congrArg (fun o9 => myV (nvF (fun i c => dp (4 * i + c)) (fun t c => ct (70 * t + c)) (cJr np nf nr na dp df dr da ct LL LG) a2 nt pn) 1 (Option.map (fun z => rdO (LL z) (LG z)) o9)) hx_5_1).symm⟩), fun j hj => (o_4 j (by omega))⟩), by rw [hT9]; exact hP⟩, hS.F hT9⟩) hS.2.2 dX10_may_67
          · have hiL8 := hx_5_0 i8 rfl
            obtain ⟨sc8, sp8, ⟨htx8, hsx8, hpx8, hln8, hsc8⟩, hls8, hlen8, hdl8, hol8⟩ := ltx_go (hL i8 (by omega)) (by omega)
            refine my_bea (v := .ref (g (3 * i8 + 52))) rfl ?_
            refine lv_iload_n hx hb dX10_may_51 rfl (lv_at hl 3 rfl) ?_
            refine lv_iload_n hx hb dX10_may_52 rfl (lv_at hl 2 rfl) ?_
            refine lv_iconst (v := 1) hx hb dX10_may_53 (by decide) ?_
            refine lv_iload_n hx hb dX10_may_54 rfl (lv_at hl 1 rfl) ?_
            refine lv_ishl hx hb dX10_may_55 ?_
            obtain ⟨sw, hZ, hJ9⟩ := okZ_J (Nat.le_refl nt) hH hQn hTr.2.2.1
            replace hhs := ((o_4 12 (by first | decide | omega))).trans hhs
            replace htr := ((o_4 45 (by first | decide | omega))).trans htr
            replace hct := ((o_4 46 (by first | decide | omega))).trans hct
            replace hpr := ((o_4 37 (by first | decide | omega))).trans hpr
            replace hpd := ((o_4 38 (by first | decide | omega))).trans hpd
            refine b_calli (va_runV (As := [.ref (g (3 * i8 + 52)), .int 1, .int a2, .int (1 <<< ((nI pn) &&& 31))]) (rest := []) ⟨hx, hb, hml, hown, hts⟩ (u_truthsTE l G g hg f_4 nt hf pay fine nt ct np dp (3 * i8 + 52) (LL i8) sc8 sp8 vv96 sw (rdO (LL i8) (LG i8)) 1 a2 (1 <<< ((nI pn) &&& 31)) hctc hhs hbk htr hct hpr hpd htx8 hpx8 hvl (by first | assumption | omega | decide) (by first | assumption | omega | decide) (by first | assumption | omega | decide) (by first | assumption | omega | decide) (by first | assumption | omega | decide) (hln8) (hsc8) (by first | assumption | omega | decide) (hls8) (hlen8) (hdl8) (hol8) (hZ)) (my_cwV hts ok_X1_truths w_629 rfl rfl ⟨Nat.le_of_ble_eq_true rfl, Nat.le_of_ble_eq_true rfl⟩) ⟨bP.blind, va_recv hG.1 hP (ci := 1) (q0 := 1) rfl (wl_at (by decide) hctc), fun U hU hW => ⟨rfl, by rw [hU]; exact hP, kG.warm hW hG⟩⟩ rfl rfl hl.1 rfl (lv_room (Nat.le_of_ble_eq_true rfl)) dX10_may_56 ⟨Nat.le_of_ble_eq_true rfl, Nat.le_of_ble_eq_true rfl⟩) hS (fun v9 f_6 H locs hq9 hP hS => ?_)
            obtain ⟨vv910, rfl, hq_6_0, o_6⟩ := hq9
            have hvl : f_6 15 = eJ G 50 vv910 := hq_6_0
            refine lv_if_eq (tgt := 66) hx hb dX10_may_59 (by decide) (fun c_59 => ?_) (fun c_59 => ?_)
            · refine lv_iconst (v := 0) hx hb dX10_may_66 (by decide) ?_
              refine W_q9 hQ9 ?_
              replace hx0 := ((o_6 0 (by first | decide | omega))).trans hx0
              replace hctc := ((o_6 1 (by first | decide | omega))).trans hctc
              replace hhs := ((o_6 12 (by first | decide | omega))).trans hhs
              replace him := ((o_6 2 (by first | decide | omega)).trans ((o_4 2 (by first | decide | omega)))).trans him
              replace hkp := ((o_6 3 (by first | decide | omega)).trans ((o_4 3 (by first | decide | omega)))).trans hkp
              replace hrd := ((o_6 4 (by first | decide | omega)).trans ((o_4 4 (by first | decide | omega)))).trans hrd
              replace hmk := ((o_6 5 (by first | decide | omega)).trans ((o_4 5 (by first | decide | omega)))).trans hmk
              replace hfc6 := ((o_6 6 (by first | decide | omega)).trans ((o_4 6 (by first | decide | omega)))).trans hfc6
              replace hwt := ((o_6 7 (by first | decide | omega)).trans ((o_4 7 (by first | decide | omega)))).trans hwt
              replace hw8 := ((o_6 8 (by first | decide | omega)).trans ((o_4 8 (by first | decide | omega)))).trans hw8
              replace hw9 := ((o_6 9 (by first | decide | omega)).trans ((o_4 9 (by first | decide | omega)))).trans hw9
              replace hw10 := ((o_6 10 (by first | decide | omega)).trans ((o_4 10 (by first | decide | omega)))).trans hw10
              replace hw11 := ((o_6 11 (by first | decide | omega)).trans ((o_4 11 (by first | decide | omega)))).trans hw11
              replace hbk := ((o_6 36 (by first | decide | omega))).trans hbk
              replace hpr := ((o_6 37 (by first | decide | omega))).trans hpr
              replace hpd := ((o_6 38 (by first | decide | omega))).trans hpd
              replace hfr := ((o_6 39 (by first | decide | omega)).trans ((o_4 39 (by first | decide | omega)))).trans hfr
              replace hfd := ((o_6 40 (by first | decide | omega)).trans ((o_4 40 (by first | decide | omega)))).trans hfd
              replace hor := ((o_6 41 (by first | decide | omega)).trans ((o_4 41 (by first | decide | omega)))).trans hor
              replace hod := ((o_6 42 (by first | decide | omega)).trans ((o_4 42 (by first | decide | omega)))).trans hod
              replace har := ((o_6 43 (by first | decide | omega))).trans har
              replace had := ((o_6 44 (by first | decide | omega))).trans had
              replace htr := ((o_6 45 (by first | decide | omega))).trans htr
              replace hct := ((o_6 46 (by first | decide | omega))).trans hct
              replace hla := ((o_6 47 (by first | decide | omega))).trans hla
              replace hlaa := ((o_6 48 (by first | decide | omega))).trans hlaa
              replace hts0 := ((o_6 112 (by first | decide | omega)).trans ((o_4 112 (by first | decide | omega)))).trans hts0
              replace htsa := ((o_6 113 (by first | decide | omega)).trans ((o_4 113 (by first | decide | omega)))).trans htsa
              replace hH : ∀ i, i < 10 → okH G g f_6 (2 * i + 16) := fun z hz => okH_fr (hH z hz) (o_6 _ (by omega)) (o_6 _ (by omega))
              replace hSp : okH G g f_4 13 := okH_fr hSp (o_4 _ (by omega)) (o_4 _ (by omega))
              replace hSp : okH G g f_6 13 := okH_fr hSp (o_6 _ (by omega)) (o_6 _ (by omega))
              replace hL : ∀ i, i < 20 → ltx G g f_6 (3 * i + 52) (LL i) (LG i) (i < na) := fun z hz => ltx_fr (hL z hz) (o_6 _ (by omega)) (o_6 _ (by omega)) (o_6 _ (by omega))
              replace hT : ∀ i, i < 4 → txt G g f_4 (3 * i + 117) (TL i) (TG i) := fun z hz => txt_fr (hT z hz) (o_4 _ (by omega)) (o_4 _ (by omega)) (o_4 _ (by omega))
              replace hT : ∀ i, i < 4 → txt G g f_6 (3 * i + 117) (TL i) (TG i) := fun z hz => txt_fr (hT z hz) (o_6 _ (by omega)) (o_6 _ (by omega)) (o_6 _ (by omega))
              replace hB1 : bkD G g f_4 129 N1 E1 P1 L1 S1 W1 X1 := bkD_fr hB1 (fun j _ _ => o_4 j (by omega))
              replace hB1 : bkD G g f_6 129 N1 E1 P1 L1 S1 W1 X1 := bkD_fr hB1 (fun j _ _ => o_6 j (by omega))
              replace hB2 : bkD G g f_4 222 N2 E2 P2 L2 S2 W2 X2 := bkD_fr hB2 (fun j _ _ => o_4 j (by omega))
              replace hB2 : bkD G g f_6 222 N2 E2 P2 L2 S2 W2 X2 := bkD_fr hB2 (fun j _ _ => o_6 j (by omega))
              replace hQn : ∀ z, z < nt → cHz G g f_6 np nf nr na dp df dr da ct LL LG z := fun z hz => okQ_fr (hQn z hz) (o_6 _ (by omega)) (o_6 _ (by omega))
              exact W.iret (v := 0) hx hb hr (fun _ hT9 _ => ⟨⟨_, f_6, rfl, (⟨cJ_mk (nt) (hf) (imf) (mc) (op) (cm) (wu) (mk) (ab) (be) (mn) (le) (wt) (ww) (wb) (wf) (vv910) (lf) (tf) (hx0) (hctc) (hhs) (him) (hkp) (hrd) (hmk) (hfc6) (hwt) (hw8) (hw9) (hw10) (hw11) (hvl) (hbk) (hpr) (hpd) (hfr) (hfd) (hor) (hod) (har) (had) (htr) (hct) (hla) (hlaa) (hts0) (htsa) (by omega) (hhf) (him0) (him1) (by omega) (by omega) (by omega) (by omega) (by omega) (by omega) (by omega) (hlf) (htf) (by omega) (hH) (hSp) (hL) (hT) (hB1) (hB2) (hQn), (Or.inr ⟨pn, 1, hpn, rfl, c_18, by decide, rfl, (my_n (N := nvF (fun i c => dp (4 * i + c)) (fun t c => ct (70 * t + c)) sw a2 nt) hpn hnp (nvF_congr (fun _ _ => rfl) (fun _ _ => rfl) hJ9) c_59).trans (congrArg (fun o9 => myV (nvF (fun i c => dp (4 * i + c)) (fun t c => ct (70 * t + c)) (cJr np nf nr na dp df dr da ct LL LG) a2 nt pn) 1 (Option.map (fun z => rdO (LL z) (LG z)) o9)) hx_5_1).symm⟩), fun j hj => ((o_6 j (by omega))).trans (o_4 j (by omega))⟩), by rw [hT9]; exact hP⟩, hS.F hT9⟩) hS.2.2 dX10_may_67
            · refine lv_iconst (v := 1) hx hb dX10_may_62 (by decide) ?_
              refine lv_goto (tgt := 67) hx hb dX10_may_63 (by decide) ?_
              refine W_q9 hQ9 ?_
              replace hx0 := ((o_6 0 (by first | decide | omega))).trans hx0
              replace hctc := ((o_6 1 (by first | decide | omega))).trans hctc
              replace hhs := ((o_6 12 (by first | decide | omega))).trans hhs
              replace him := ((o_6 2 (by first | decide | omega)).trans ((o_4 2 (by first | decide | omega)))).trans him
              replace hkp := ((o_6 3 (by first | decide | omega)).trans ((o_4 3 (by first | decide | omega)))).trans hkp
              replace hrd := ((o_6 4 (by first | decide | omega)).trans ((o_4 4 (by first | decide | omega)))).trans hrd
              replace hmk := ((o_6 5 (by first | decide | omega)).trans ((o_4 5 (by first | decide | omega)))).trans hmk
              replace hfc6 := ((o_6 6 (by first | decide | omega)).trans ((o_4 6 (by first | decide | omega)))).trans hfc6
              replace hwt := ((o_6 7 (by first | decide | omega)).trans ((o_4 7 (by first | decide | omega)))).trans hwt
              replace hw8 := ((o_6 8 (by first | decide | omega)).trans ((o_4 8 (by first | decide | omega)))).trans hw8
              replace hw9 := ((o_6 9 (by first | decide | omega)).trans ((o_4 9 (by first | decide | omega)))).trans hw9
              replace hw10 := ((o_6 10 (by first | decide | omega)).trans ((o_4 10 (by first | decide | omega)))).trans hw10
              replace hw11 := ((o_6 11 (by first | decide | omega)).trans ((o_4 11 (by first | decide | omega)))).trans hw11
              replace hbk := ((o_6 36 (by first | decide | omega))).trans hbk
              replace hpr := ((o_6 37 (by first | decide | omega))).trans hpr
              replace hpd := ((o_6 38 (by first | decide | omega))).trans hpd
              replace hfr := ((o_6 39 (by first | decide | omega)).trans ((o_4 39 (by first | decide | omega)))).trans hfr
              replace hfd := ((o_6 40 (by first | decide | omega)).trans ((o_4 40 (by first | decide | omega)))).trans hfd
              replace hor := ((o_6 41 (by first | decide | omega)).trans ((o_4 41 (by first | decide | omega)))).trans hor
              replace hod := ((o_6 42 (by first | decide | omega)).trans ((o_4 42 (by first | decide | omega)))).trans hod
              replace har := ((o_6 43 (by first | decide | omega))).trans har
              replace had := ((o_6 44 (by first | decide | omega))).trans had
              replace htr := ((o_6 45 (by first | decide | omega))).trans htr
              replace hct := ((o_6 46 (by first | decide | omega))).trans hct
              replace hla := ((o_6 47 (by first | decide | omega))).trans hla
              replace hlaa := ((o_6 48 (by first | decide | omega))).trans hlaa
              replace hts0 := ((o_6 112 (by first | decide | omega)).trans ((o_4 112 (by first | decide | omega)))).trans hts0
              replace htsa := ((o_6 113 (by first | decide | omega)).trans ((o_4 113 (by first | decide | omega)))).trans htsa
              replace hH : ∀ i, i < 10 → okH G g f_6 (2 * i + 16) := fun z hz => okH_fr (hH z hz) (o_6 _ (by omega)) (o_6 _ (by omega))
              replace hSp : okH G g f_4 13 := okH_fr hSp (o_4 _ (by omega)) (o_4 _ (by omega))
              replace hSp : okH G g f_6 13 := okH_fr hSp (o_6 _ (by omega)) (o_6 _ (by omega))
              replace hL : ∀ i, i < 20 → ltx G g f_6 (3 * i + 52) (LL i) (LG i) (i < na) := fun z hz => ltx_fr (hL z hz) (o_6 _ (by omega)) (o_6 _ (by omega)) (o_6 _ (by omega))
              replace hT : ∀ i, i < 4 → txt G g f_4 (3 * i + 117) (TL i) (TG i) := fun z hz => txt_fr (hT z hz) (o_4 _ (by omega)) (o_4 _ (by omega)) (o_4 _ (by omega))
              replace hT : ∀ i, i < 4 → txt G g f_6 (3 * i + 117) (TL i) (TG i) := fun z hz => txt_fr (hT z hz) (o_6 _ (by omega)) (o_6 _ (by omega)) (o_6 _ (by omega))
              replace hB1 : bkD G g f_4 129 N1 E1 P1 L1 S1 W1 X1 := bkD_fr hB1 (fun j _ _ => o_4 j (by omega))
              replace hB1 : bkD G g f_6 129 N1 E1 P1 L1 S1 W1 X1 := bkD_fr hB1 (fun j _ _ => o_6 j (by omega))
              replace hB2 : bkD G g f_4 222 N2 E2 P2 L2 S2 W2 X2 := bkD_fr hB2 (fun j _ _ => o_4 j (by omega))
              replace hB2 : bkD G g f_6 222 N2 E2 P2 L2 S2 W2 X2 := bkD_fr hB2 (fun j _ _ => o_6 j (by omega))
              replace hQn : ∀ z, z < nt → cHz G g f_6 np nf nr na dp df dr da ct LL LG z := fun z hz => okQ_fr (hQn z hz) (o_6 _ (by omega)) (o_6 _ (by omega))
              exact W.iret (v := 1) hx hb hr (fun _ hT9 _ => ⟨⟨_, f_6, rfl, (⟨cJ_mk (nt) (hf) (imf) (mc) (op) (cm) (wu) (mk) (ab) (be) (mn) (le) (wt) (ww) (wb) (wf) (vv910) (lf) (tf) (hx0) (hctc) (hhs) (him) (hkp) (hrd) (hmk) (hfc6) (hwt) (hw8) (hw9) (hw10) (hw11) (hvl) (hbk) (hpr) (hpd) (hfr) (hfd) (hor) (hod) (har) (had) (htr) (hct) (hla) (hlaa) (hts0) (htsa) (by omega) (hhf) (him0) (him1) (by omega) (by omega) (by omega) (by omega) (by omega) (by omega) (by omega) (hlf) (htf) (by omega) (hH) (hSp) (hL) (hT) (hB1) (hB2) (hQn), (Or.inr ⟨pn, 1, hpn, rfl, c_18, by decide, rfl, (my_y (N := nvF (fun i c => dp (4 * i + c)) (fun t c => ct (70 * t + c)) sw a2 nt) hpn hnp (nvF_congr (fun _ _ => rfl) (fun _ _ => rfl) hJ9) c_59).trans (congrArg (fun o9 => myV (nvF (fun i c => dp (4 * i + c)) (fun t c => ct (70 * t + c)) (cJr np nf nr na dp df dr da ct LL LG) a2 nt pn) 1 (Option.map (fun z => rdO (LL z) (LG z)) o9)) hx_5_1).symm⟩), fun j hj => ((o_6 j (by omega))).trans (o_4 j (by omega))⟩), by rw [hT9]; exact hP⟩, hS.F hT9⟩) hS.2.2 dX10_may_67
      · refine lv_bipush (v := (-2)) hx hb dX10_may_28 (by decide) ?_
        refine W_q9 hQ9 ?_
        exact W.iret (v := (-2)) hx hb hr (fun _ hT9 _ => ⟨⟨_, f, rfl, (⟨cJ_mk (se) (hf) (imf) (mc) (op) (cm) (wu) (mk) (ab) (be) (mn) (le) (wt) (ww) (wb) (wf) (vv) (lf) (tf) (hx0) (hctc) (hhs) (him) (hkp) (hrd) (hmk) (hfc6) (hwt) (hw8) (hw9) (hw10) (hw11) (hvl) (hbk) (hpr) (hpd) (hfr) (hfd) (hor) (hod) (har) (had) (htr) (hct) (hla) (hlaa) (hts0) (htsa) (by omega) (hhf) (him0) (him1) (by omega) (by omega) (by omega) (by omega) (by omega) (by omega) (by omega) (hlf) (htf) (by omega) (hH) (hSp) (hL) (hT) (hB1) (hB2) (hQ), (Or.inl ⟨fun z => c_25 z.2.2, rfl⟩), fun j hj => rfl⟩), by rw [hT9]; exact hP⟩, hS.F hT9⟩) hS.2.2 dX10_may_30
theorem j_may (l : Launch) (G : gW) (g : Nat → Nat) (hg : gOK g) (f : Nat → va_E) (np : Nat) (dp : Nat → Int32) (nf : Nat) (df : Nat → Int32) (nr : Nat) (dr : Nat → Int32) (nt : Nat) (ct : Nat → Int32) (pay : Int32) (fine : Int32) (kf : Nat → Int32) (na : Nat) (da : Nat → Int32) (TL : Nat → Nat) (TG : Nat → Nat → Int32) (LL : Nat → Nat) (LG : Nat → Nat → Int32) (N1 : Nat → Nat) (E1 : Nat → Nat → Int32) (P1 : Nat → Int32) (L1 : Nat → Nat) (S1 : Nat → Nat → Int32) (W1 : Nat → Nat) (X1 : Nat → Nat → Int32) (N2 : Nat → Nat) (E2 : Nat → Nat → Int32) (P2 : Nat → Int32) (L2 : Nat → Nat) (S2 : Nat → Nat → Int32) (W2 : Nat → Nat) (X2 : Nat → Nat → Int32) (a1 : Int32) (a2 : Int32) (a3 : Int32) (hI : cJ G g f np dp nf df nr dr nt ct pay fine kf na da TL TG LL LG N1 E1 P1 L1 S1 W1 X1 N2 E2 P2 L2 S2 W2 X2) (hTr : trC ct nt) : Met l yX10_may (wsT yX10_may cX10_may 4 (some .int)) ({ frames := 7, cells := 0, slots := 0, locals := 176 }) (bP G g f [.ref (g 0), .int a1, .int a2, .int a3]) (bQi G g (fun (z9 : Int32) (f' : Nat → va_E) => (cJ G g f' np dp nf df nr dr nt ct pay fine kf na da TL TG LL LG N1 E1 P1 L1 S1 W1 X1 N2 E2 P2 L2 S2 W2 X2) ∧ ((¬ (inN a1 np = true ∧ inB 0 a2 9999 = true ∧ inB 0 a3 1 = true) ∧ z9 = -2) ∨ (∃ po k, po < np ∧ a1 = nI po ∧ inB 0 a2 9999 = true ∧ k ≤ 1 ∧ a3 = nI k ∧ z9 = myV (nvF (fun i c => dp (4 * i + c)) (fun t c => ct (70 * t + c)) (cJr np nf nr na dp df dr da ct LL LG) a2 nt po) k ((fcB (fun i c => da (3 * i + c)) (nI k) a2 na).map (fun z => rdO (LL z) (LG z))))) ∧ ∀ j, 315 ≤ j → f' j = f j)) 0 0 (gA g) := cJ_elim hI (fun se hf imf mc op cm wu mk ab be mn le wt ww wb wf vv lf tf hx0 hctc hhs him hkp hrd hmk hfc6 hwt hw8 hw9 hw10 hw11 hvl hbk hpr hpd hfr hfd hor hod har had htr hct hla hlaa hts0 htsa hse hhf him0 him1 hmc hmn hnp hnf hnr hna hnt hlf htf hsn hH hSp hL hT hB1 hB2 hQ => jn_may l G g hg f se hf imf kf mc op cm wu mk ab be mn le wt ww wb wf vv pay fine np dp nf df nr dr na da nt ct lf tf TL TG LL LG N1 E1 P1 L1 S1 W1 X1 N2 E2 P2 L2 S2 W2 X2 a1 a2 a3 hx0 hctc hhs him hkp hrd hmk hfc6 hwt hw8 hw9 hw10 hw11 hvl hbk hpr hpd hfr hfd hor hod har had htr hct hla hlaa hts0 htsa hse hhf him0 him1 hmc hmn hnp hnf hnr hna hnt hlf htf hsn hTr hH hSp hL hT hB1 hB2 hQ)
set_option maxHeartbeats 4000000 in
set_option maxRecDepth 100000 in
theorem jn_turn (l : Launch) (G : gW) (g : Nat → Nat) (hg : gOK g) (f : Nat → va_E) (se : Nat) (hf : Nat → Option Nat) (imf : Nat → Option Nat) (kf : Nat → Int32) (mc : Nat) (op : Int32) (cm : Int32) (wu : Int32) (mk : Nat → Int32) (ab : Int64) (be : Int64) (mn : Nat) (le : Int32) (wt : Nat → Int32) (ww : Nat → Int32) (wb : Nat → Int32) (wf : Nat → Int32) (vv : Nat → Int64) (pay : Int32) (fine : Int32) (np : Nat) (dp : Nat → Int32) (nf : Nat) (df : Nat → Int32) (nr : Nat) (dr : Nat → Int32) (na : Nat) (da : Nat → Int32) (nt : Nat) (ct : Nat → Int32) (lf : Nat → Option Nat) (tf : Nat → Option Nat) (TL : Nat → Nat) (TG : Nat → Nat → Int32) (LL : Nat → Nat) (LG : Nat → Nat → Int32) (N1 : Nat → Nat) (E1 : Nat → Nat → Int32) (P1 : Nat → Int32) (L1 : Nat → Nat) (S1 : Nat → Nat → Int32) (W1 : Nat → Nat) (X1 : Nat → Nat → Int32) (N2 : Nat → Nat) (E2 : Nat → Nat → Int32) (P2 : Nat → Int32) (L2 : Nat → Nat) (S2 : Nat → Nat → Int32) (W2 : Nat → Nat) (X2 : Nat → Nat → Int32) (a1 : Int32) (a2 : Int32) (hx0 : f 0 = eO 9 [.ref (g 1), .ref (g 36), .ref (g 2), .ref (g 3), .ref (g 4), .ref (g 6), .ref (g 7)]) (hctc : f 1 = eO 1 [.ref (g 36), .ref (g 12), .ref (g 13), .ref (g 15), .int (nI se)]) (hhs : f 12 = eA G 4 10 hf) (him : f 2 = eA G 3 2 imf) (hkp : f 3 = eZ G 2 kf) (hrd : f 4 = eO 4 [.ref (g 5), .int (nI mc), .int op, .int cm, .int wu]) (hmk : f 5 = eI G 50 mk) (hfc6 : f 6 = eO 2 [.long ab, .long be]) (hwt : f 7 = eO 8 [.ref (g 8), .ref (g 9), .ref (g 10), .ref (g 11), .int (nI mn), .int le]) (hw8 : f 8 = eI G 6 wt) (hw9 : f 9 = eI G 6 ww) (hw10 : f 10 = eI G 6 wb) (hw11 : f 11 = eI G 6 wf) (hvl : f 15 = eJ G 50 vv) (hbk : f 36 = eO 0 [.ref (g 37), .ref (g 39), .ref (g 41), .ref (g 43), .ref (g 45), .ref (g 47), .ref (g 112), .int pay, .int fine]) (hpr : f 37 = eO 5 [.int (nI 30), .int (nI 4), .ref (g 38), .int (nI np)]) (hpd : f 38 = eI G (30 * 4) dp) (hfr : f 39 = eO 5 [.int (nI 40), .int (nI 3), .ref (g 40), .int (nI nf)]) (hfd : f 40 = eI G (40 * 3) df) (hor : f 41 = eO 5 [.int (nI 4), .int (nI 3), .ref (g 42), .int (nI nr)]) (hod : f 42 = eI G (4 * 3) dr) (har : f 43 = eO 5 [.int (nI 20), .int (nI 3), .ref (g 44), .int (nI na)]) (had : f 44 = eI G (20 * 3) da) (htr : f 45 = eO 5 [.int (nI 10), .int (nI 70), .ref (g 46), .int (nI nt)]) (hct : f 46 = eI G (10 * 70) ct) (hla : f 47 = eO 6 [.ref (g 48), .ref (g 49)]) (hlaa : f 48 = eA G 5 20 lf) (hts0 : f 112 = eO 6 [.ref (g 113), .ref (g 114)]) (htsa : f 113 = eA G 5 4 tf) (hse : se ≤ 10) (hhf : ∀ i, i < 10 → hf i = some (g (2 * i + 16))) (him0 : imf 0 = some (g 129)) (him1 : imf 1 = some (g 222)) (hmc : mc ≤ 50) (hmn : mn ≤ 6) (hnp : np ≤ 30) (hnf : nf ≤ 40) (hnr : nr ≤ 4) (hna : na ≤ 20) (hnt : nt ≤ 10) (hlf : ∀ z, z < 20 → lf z = some (g (47 + 3 * z + 5))) (htf : ∀ z, z < 4 → tf z = some (g (112 + 3 * z + 5))) (hsn : se ≤ nt) (hTr : trC ct nt) (hH : ∀ i, i < 10 → okH G g f (2 * i + 16)) (hSp : okH G g f 13) (hL : ∀ i, i < 20 → ltx G g f (3 * i + 52) (LL i) (LG i) (i < na)) (hT : ∀ i, i < 4 → txt G g f (3 * i + 117) (TL i) (TG i)) (hB1 : bkD G g f 129 N1 E1 P1 L1 S1 W1 X1) (hB2 : bkD G g f 222 N2 E2 P2 L2 S2 W2 X2) (hQ : ∀ z, z < se → cHz G g f np nf nr na dp df dr da ct LL LG z) : Met l yX10_turn (wsT yX10_turn cX10_turn 4 (some .int)) ({ frames := 7, cells := 0, slots := 0, locals := 176 }) (bP G g f [.ref (g 0), .int a1, .int a2]) (bQi G g (fun (z9 : Int32) (f' : Nat → va_E) => (cJ G g f' np dp nf df nr dr nt ct pay fine kf na da TL TG LL LG N1 E1 P1 L1 S1 W1 X1 N2 E2 P2 L2 S2 W2 X2) ∧ ((¬ (inB 0 a1 3 = true ∧ inB 0 a2 9999 = true) ∧ z9 = -2) ∨ ((inB 0 a1 3 = true ∧ inB 0 a2 9999 = true) ∧ z9 = tuV np nt (fun i c => dp (4 * i + c)) (fun t c => ct (70 * t + c)) (cJr np nf nr na dp df dr da ct LL LG) a2 (rlV np nr (fun i c => dr (3 * i + c)) a2 &&& sO (fun i => decide (dp (4 * i + 0) = a1)) np) ((fcB (fun i c => da (3 * i + c)) 0 a2 na).map (fun z => rdO (LL z) (LG z))))) ∧ ∀ j, 315 ≤ j → f' j = f j)) 0 0 (gA g) := by
  refine Met.ofW (cc := cX10_turn) (maxL := 4) (ret := (some .int)) (by decide) rfl ?_
  intro p e s m args below meth c s₁ B hml hv
  obtain ⟨rfl, hP, hG⟩ := hv
  have hx := B.exec
  have hb := B.bytes
  have hr := B.returns
  have hts := my_hts (atoms_spec (ws := wsT yX10_turn cX10_turn 4 (some .int)) B.pre)
  have hown : s.vm.findClass RX10 = some m.cls := findClass_of_methodNamed B.named
  have hlocks := B.notSynchronized
  have hS : va_S (gA g) s.heap s.heap [] := va_S.rf
  have hl := lv_entry ([.ref (g 0), .int a1, .int a2]) (n := 4) (Nat.le_of_ble_eq_true rfl)
  rw [lg_entry_eq]
  generalize (lg_sl ([.ref (g 0), .int a1, .int a2]) ++ List.replicate (4 - (lg_sl ([.ref (g 0), .int a1, .int a2])).length) Slot.unset).toArray = ls at hl ⊢
  have hl : lv_has ls 4 [(0, .ref (g 0)), (1, .int a1), (2, .int a2)] := hl
  refine W_q8 (fun Q9 hQ9 => ?_)
  refine lv_iload_n hx hb dX10_turn_0 rfl (lv_at hl 1 rfl) ?_
  refine lv_iconst (v := 0) hx hb dX10_turn_1 (by decide) ?_
  refine lv_iconst (v := 3) hx hb dX10_turn_2 (by decide) ?_
  refine rd_calli (va_runS (As := [.int a1, .int 0, .int 3]) (rest := []) ⟨hx, hb, hml, hown, hts⟩ (s_within l G g hg f a1 0 3  ) (my_cwS hts ok_X10_within w_134 rfl rfl ⟨Nat.le_of_ble_eq_true rfl, Nat.le_of_ble_eq_true rfl⟩) ⟨bP.blind, fun U hU hW => ⟨rfl, by rw [hU]; exact hP, kG.warm hW hG⟩⟩ rfl rfl hl.1 rfl (lv_room (Nat.le_of_ble_eq_true rfl)) dX10_turn_3 ⟨Nat.le_of_ble_eq_true rfl, Nat.le_of_ble_eq_true rfl⟩) (fun r hr9 => ?_)
  subst hr9
  refine my_ifeq (tgt := 16) hx hb dX10_turn_6 (by decide) (fun c_6 => ?_) (fun c_6 => ?_)
  · refine lv_bipush (v := (-2)) hx hb dX10_turn_16 (by decide) ?_
    refine W_q9 hQ9 ?_
    exact W.iret (v := (-2)) hx hb hr (fun _ hT9 _ => ⟨⟨_, f, rfl, (⟨cJ_mk (se) (hf) (imf) (mc) (op) (cm) (wu) (mk) (ab) (be) (mn) (le) (wt) (ww) (wb) (wf) (vv) (lf) (tf) (hx0) (hctc) (hhs) (him) (hkp) (hrd) (hmk) (hfc6) (hwt) (hw8) (hw9) (hw10) (hw11) (hvl) (hbk) (hpr) (hpd) (hfr) (hfd) (hor) (hod) (har) (had) (htr) (hct) (hla) (hlaa) (hts0) (htsa) (by omega) (hhf) (him0) (him1) (by omega) (by omega) (by omega) (by omega) (by omega) (by omega) (by omega) (hlf) (htf) (by omega) (hH) (hSp) (hL) (hT) (hB1) (hB2) (hQ), (Or.inl ⟨fun z => c_6 z.1, rfl⟩), fun j hj => rfl⟩), by rw [hT9]; exact hP⟩, hS.F hT9⟩) hS.2.2 dX10_turn_18
  · refine lv_iload_n hx hb dX10_turn_9 rfl (lv_at hl 2 rfl) ?_
    refine rd_calli (va_runS (As := [.int a2]) (rest := []) ⟨hx, hb, hml, hown, hts⟩ (s_isDay l G g hg f a2  ) (my_cwS hts ok_X10_isDay w_178 rfl rfl ⟨Nat.le_of_ble_eq_true rfl, Nat.le_of_ble_eq_true rfl⟩) ⟨bP.blind, fun U hU hW => ⟨rfl, by rw [hU]; exact hP, kG.warm hW hG⟩⟩ rfl rfl hl.1 rfl (lv_room (Nat.le_of_ble_eq_true rfl)) dX10_turn_10 ⟨Nat.le_of_ble_eq_true rfl, Nat.le_of_ble_eq_true rfl⟩) (fun r hr9 => ?_)
    subst hr9
    refine my_ifne (tgt := 19) hx hb dX10_turn_13 (by decide) (fun c_13 => ?_) (fun c_13 => ?_)
    · refine lv_aload_n hx hb dX10_turn_19 rfl (lv_at hl 0 rfl) ?_
      refine va_get (D := G.1) (ci := 9) (v := .ref (g 1)) (C := RX10) (T := TX10) (N := 7) hx hb hts inlX10 hown hG.1 hP 0 (wl_at (by decide) hx0) rfl 0 (by decide) (hts (.fieldLink RX10 12 "SwornLists" "court" "LSwornLists$Court;") w_15) (fun _ h9 => h9) rfl dX10_turn_20 ?_
      refine b_callv (va_runV (As := []) (rest := []) ⟨hx, hb, hml, hown, hts⟩ (u_settleE l G g hg f se hf pay fine nt ct np dp nf df nr dr na da lf vv LL LG hctc hhs hbk htr hct hpr hpd hfr hfd hor hod har had hla hlaa hvl (by first | assumption | omega | decide) (by first | assumption | omega | decide) (by first | assumption | omega | decide) (by first | assumption | omega | decide) (by first | assumption | omega | decide) (by first | assumption | omega | decide) (by first | assumption | omega | decide) (by first | assumption | omega | decide) (hTr.1) (hTr.2.1) (hTr.2.2.1) (by first | assumption | omega | decide) (hQ) (by first | assumption | omega | decide) (hL)) (my_cwV hts ok_X1_settle w_384 rfl rfl ⟨Nat.le_of_ble_eq_true rfl, Nat.le_of_ble_eq_true rfl⟩) ⟨bP.blind, va_recv hG.1 hP (ci := 1) (q0 := 1) rfl (wl_at (by decide) hctc), fun U hU hW => ⟨rfl, by rw [hU]; exact hP, kG.warm hW hG⟩⟩ rfl rfl hl.1 rfl (lv_room (Nat.le_of_ble_eq_true rfl)) dX10_turn_23 ⟨Nat.le_of_ble_eq_true rfl, Nat.le_of_ble_eq_true rfl⟩) hS (fun f_1 H locs hq9 hP hS => ?_)
      obtain ⟨vv91, hq_1_0, hq_1_1, hx_1_0, hx_1_1, o_1⟩ := hq9
      have hctc : f_1 1 = eO 1 [.ref (g 36), .ref (g 12), .ref (g 13), .ref (g 15), .int (nI nt)] := hq_1_0
      have hvl : f_1 15 = eJ G 50 vv91 := hq_1_1
      have hH : ∀ i, i < 10 → okH G g f_1 (2 * i + 16) := hx_1_0
      have hQn : ∀ z, z < nt → cHz G g f_1 np nf nr na dp df dr da ct LL LG z := hx_1_1
      refine lv_aload_n hx hb dX10_turn_26 rfl (lv_at hl 0 rfl) ?_
      replace hx0 := ((o_1 0 (by first | decide | omega))).trans hx0
      refine va_get (D := G.1) (ci := 9) (v := .ref (g 36)) (C := RX10) (T := TX10) (N := 7) hx hb hts inlX10 hown hG.1 hP 0 (wl_at (by decide) hx0) rfl 1 (by decide) (hts (.fieldLink RX10 20 "SwornLists" "book" "LSwornLists$Book;") w_16) (fun _ h9 => h9) rfl dX10_turn_27 ?_
      refine lv_iload_n hx hb dX10_turn_30 rfl (lv_at hl 2 rfl) ?_
      replace hbk := ((o_1 36 (by first | decide | omega))).trans hbk
      replace hpr := ((o_1 37 (by first | decide | omega))).trans hpr
      replace hpd := ((o_1 38 (by first | decide | omega))).trans hpd
      replace hor := ((o_1 41 (by first | decide | omega))).trans hor
      replace hod := ((o_1 42 (by first | decide | omega))).trans hod
      refine rd_calli (va_runV (As := [.int a2]) (rest := []) ⟨hx, hb, hml, hown, hts⟩ (k_listedOnE l G g hg f_1 pay fine np dp nr dr a2 hbk hpr hpd hor hod (by first | assumption | omega | decide) (by first | assumption | omega | decide)) (my_cwV hts ok_X0_listedOn w_221 rfl rfl ⟨Nat.le_of_ble_eq_true rfl, Nat.le_of_ble_eq_true rfl⟩) ⟨bP.blind, va_recv hG.1 hP (ci := 0) (q0 := 36) rfl (wl_at (by decide) hbk), fun U hU hW => ⟨rfl, by rw [hU]; exact hP, kG.warm hW hG⟩⟩ rfl rfl hl.1 rfl (lv_room (Nat.le_of_ble_eq_true rfl)) dX10_turn_31 ⟨Nat.le_of_ble_eq_true rfl, Nat.le_of_ble_eq_true rfl⟩) (fun r hr9 => ?_)
      subst hr9
      refine lv_aload_n hx hb dX10_turn_34 rfl (lv_at hl 0 rfl) ?_
      refine va_get (D := G.1) (ci := 9) (v := .ref (g 36)) (C := RX10) (T := TX10) (N := 7) hx hb hts inlX10 hown hG.1 hP 0 (wl_at (by decide) hx0) rfl 1 (by decide) (hts (.fieldLink RX10 20 "SwornLists" "book" "LSwornLists$Book;") w_16) (fun _ h9 => h9) rfl dX10_turn_35 ?_
      refine lv_iconst (v := 0) hx hb dX10_turn_38 (by decide) ?_
      refine lv_iload_n hx hb dX10_turn_39 rfl (lv_at hl 1 rfl) ?_
      refine rd_calli (va_runV (As := [.int 0, .int a1]) (rest := [.int (rlV np nr (fun i c => dr (3 * i + c)) a2)]) ⟨hx, hb, hml, hown, hts⟩ (k_peopleWithE l G g hg f_1 pay fine np dp 0 a1 hbk hpr hpd (by first | assumption | omega | decide) (by first | assumption | omega | decide)) (my_cwV hts ok_X0_peopleWith w_791 rfl rfl ⟨Nat.le_of_ble_eq_true rfl, Nat.le_of_ble_eq_true rfl⟩) ⟨bP.blind, va_recv hG.1 hP (ci := 0) (q0 := 36) rfl (wl_at (by decide) hbk), fun U hU hW => ⟨rfl, by rw [hU]; exact hP, kG.warm hW hG⟩⟩ rfl rfl hl.1 rfl (lv_room (Nat.le_of_ble_eq_true rfl)) dX10_turn_40 ⟨Nat.le_of_ble_eq_true rfl, Nat.le_of_ble_eq_true rfl⟩) (fun r hr9 => ?_)
      subst hr9
      refine lv_iand hx hb dX10_turn_43 ?_
      refine lv_istore_n (lv' := [(3, .int ((rlV np nr (fun i c => dr (3 * i + c)) a2) &&& (sO (fun i => decide (dp (4 * i + 0) = a1)) np))), (0, .ref (g 0)), (1, .int a1), (2, .int a2)]) hx hb dX10_turn_44 rfl hl (by decide) rfl (fun ls hl => ?_)
      refine lv_aload_n hx hb dX10_turn_45 rfl (lv_at hl 1 rfl) ?_
      refine va_get (D := G.1) (ci := 9) (v := .ref (g 1)) (C := RX10) (T := TX10) (N := 7) hx hb hts inlX10 hown hG.1 hP 0 (wl_at (by decide) hx0) rfl 0 (by decide) (hts (.fieldLink RX10 12 "SwornLists" "court" "LSwornLists$Court;") w_15) (fun _ h9 => h9) rfl dX10_turn_46 ?_
      refine lv_aload_n hx hb dX10_turn_49 rfl (lv_at hl 1 rfl) ?_
      refine va_get (D := G.1) (ci := 9) (v := .ref (g 1)) (C := RX10) (T := TX10) (N := 7) hx hb hts inlX10 hown hG.1 hP 0 (wl_at (by decide) hx0) rfl 0 (by decide) (hts (.fieldLink RX10 12 "SwornLists" "court" "LSwornLists$Court;") w_15) (fun _ h9 => h9) rfl dX10_turn_50 ?_
      refine lv_aload_n hx hb dX10_turn_53 rfl (lv_at hl 1 rfl) ?_
      refine va_get (D := G.1) (ci := 9) (v := .ref (g 36)) (C := RX10) (T := TX10) (N := 7) hx hb hts inlX10 hown hG.1 hP 0 (wl_at (by decide) hx0) rfl 1 (by decide) (hts (.fieldLink RX10 20 "SwornLists" "book" "LSwornLists$Book;") w_16) (fun _ h9 => h9) rfl dX10_turn_54 ?_
      refine lv_iconst (v := 0) hx hb dX10_turn_57 (by decide) ?_
      refine lv_iload_n hx hb dX10_turn_58 rfl (lv_at hl 3 rfl) ?_
      replace har := ((o_1 43 (by first | decide | omega))).trans har
      replace had := ((o_1 44 (by first | decide | omega))).trans had
      replace hla := ((o_1 47 (by first | decide | omega))).trans hla
      replace hlaa := ((o_1 48 (by first | decide | omega))).trans hlaa
      refine rd_calla (va_runV (As := [.int 0, .int a2]) (rest := [.ref (g 1), .ref (g 1)]) ⟨hx, hb, hml, hown, hts⟩ (k_lawOfE l G g hg f_1 pay fine na da lf 0 a2 hbk har had hla hlaa (by first | assumption | omega | decide) (by first | assumption | omega | decide)) (my_cwV hts ok_X0_lawOf w_628 rfl rfl ⟨Nat.le_of_ble_eq_true rfl, Nat.le_of_ble_eq_true rfl⟩) ⟨bP.blind, va_recv hG.1 hP (ci := 0) (q0 := 36) rfl (wl_at (by decide) hbk), fun U hU hW => ⟨rfl, by rw [hU]; exact hP, kG.warm hW hG⟩⟩ rfl rfl hl.1 rfl (lv_room (Nat.le_of_ble_eq_true rfl)) dX10_turn_59 ⟨Nat.le_of_ble_eq_true rfl, Nat.le_of_ble_eq_true rfl⟩) (fun r hr9 => ?_)
      obtain ⟨o92, rfl, hx_2_0, hx_2_1⟩ := hr9
      replace hL : ∀ i, i < 20 → ltx G g f_1 (3 * i + 52) (LL i) (LG i) (i < na) := fun z hz => ltx_fr (hL z hz) (o_1 _ (by omega)) (o_1 _ (by omega)) (o_1 _ (by omega))
      rcases o92 with _ | i3
      · refine my_bea (v := .null) rfl ?_
        refine lv_iconst (v := 0) hx hb dX10_turn_62 (by decide) ?_
        refine lv_iload_n hx hb dX10_turn_63 rfl (lv_at hl 3 rfl) ?_
        refine lv_iload_n hx hb dX10_turn_64 rfl (lv_at hl 0 rfl) ?_
        obtain ⟨sw, hZ, hJ9⟩ := okZ_J (Nat.le_refl nt) hH hQn hTr.2.2.1
        refine rd_calli (va_runV (As := [.null, .int 0, .int a2, .int ((rlV np nr (fun i c => dr (3 * i + c)) a2) &&& (sO (fun i => decide (dp (4 * i + 0) = a1)) np))]) (rest := [.ref (g 1)]) ⟨hx, hb, hml, hown, hts⟩ (u_truthsN0 l G g hg f_1 a2 ((rlV np nr (fun i c => dr (3 * i + c)) a2) &&& (sO (fun i => decide (dp (4 * i + 0) = a1)) np))  ) (my_cwV hts ok_X1_truths w_629 rfl rfl ⟨Nat.le_of_ble_eq_true rfl, Nat.le_of_ble_eq_true rfl⟩) ⟨bP.blind, va_recv hG.1 hP (ci := 1) (q0 := 1) rfl (wl_at (by decide) hctc), fun U hU hW => ⟨rfl, by rw [hU]; exact hP, kG.warm hW hG⟩⟩ rfl rfl hl.1 rfl (lv_room (Nat.le_of_ble_eq_true rfl)) dX10_turn_65 ⟨Nat.le_of_ble_eq_true rfl, Nat.le_of_ble_eq_true rfl⟩) (fun r hr9 => ?_)
        subst hr9
        refine lv_iload_n hx hb dX10_turn_68 rfl (lv_at hl 3 rfl) ?_
        replace hhs := ((o_1 12 (by first | decide | omega))).trans hhs
        replace htr := ((o_1 45 (by first | decide | omega))).trans htr
        replace hct := ((o_1 46 (by first | decide | omega))).trans hct
        refine rd_calli (va_runV (As := [.int ((rlV np nr (fun i c => dr (3 * i + c)) a2) &&& (sO (fun i => decide (dp (4 * i + 0) = a1)) np)), .int a2]) (rest := []) ⟨hx, hb, hml, hown, hts⟩ (u_nextE l G g hg f_1 nt hf pay fine nt ct np dp sw a2 ((rlV np nr (fun i c => dr (3 * i + c)) a2) &&& (sO (fun i => decide (dp (4 * i + 0) = a1)) np)) hctc hhs hbk htr hct hpr hpd (by first | assumption | omega | decide) (by first | assumption | omega | decide) (by first | assumption | omega | decide) (by first | assumption | omega | decide) (by first | assumption | omega | decide) (hZ)) (my_cwV hts ok_X1_nextInTurn w_875 rfl rfl ⟨Nat.le_of_ble_eq_true rfl, Nat.le_of_ble_eq_true rfl⟩) ⟨bP.blind, va_recv hG.1 hP (ci := 1) (q0 := 1) rfl (wl_at (by decide) hctc), fun U hU hW => ⟨rfl, by rw [hU]; exact hP, kG.warm hW hG⟩⟩ rfl rfl hl.1 rfl (lv_room (Nat.le_of_ble_eq_true rfl)) dX10_turn_69 ⟨Nat.le_of_ble_eq_true rfl, Nat.le_of_ble_eq_true rfl⟩) (fun r hr9 => ?_)
        subst hr9
        refine W_q9 hQ9 ?_
        replace him := ((o_1 2 (by first | decide | omega))).trans him
        replace hkp := ((o_1 3 (by first | decide | omega))).trans hkp
        replace hrd := ((o_1 4 (by first | decide | omega))).trans hrd
        replace hmk := ((o_1 5 (by first | decide | omega))).trans hmk
        replace hfc6 := ((o_1 6 (by first | decide | omega))).trans hfc6
        replace hwt := ((o_1 7 (by first | decide | omega))).trans hwt
        replace hw8 := ((o_1 8 (by first | decide | omega))).trans hw8
        replace hw9 := ((o_1 9 (by first | decide | omega))).trans hw9
        replace hw10 := ((o_1 10 (by first | decide | omega))).trans hw10
        replace hw11 := ((o_1 11 (by first | decide | omega))).trans hw11
        replace hfr := ((o_1 39 (by first | decide | omega))).trans hfr
        replace hfd := ((o_1 40 (by first | decide | omega))).trans hfd
        replace hts0 := ((o_1 112 (by first | decide | omega))).trans hts0
        replace htsa := ((o_1 113 (by first | decide | omega))).trans htsa
        replace hSp : okH G g f_1 13 := okH_fr hSp (o_1 _ (by omega)) (o_1 _ (by omega))
        replace hT : ∀ i, i < 4 → txt G g f_1 (3 * i + 117) (TL i) (TG i) := fun z hz => txt_fr (hT z hz) (o_1 _ (by omega)) (o_1 _ (by omega)) (o_1 _ (by omega))
        replace hB1 : bkD G g f_1 129 N1 E1 P1 L1 S1 W1 X1 := bkD_fr hB1 (fun j _ _ => o_1 j (by omega))
        replace hB2 : bkD G g f_1 222 N2 E2 P2 L2 S2 W2 X2 := bkD_fr hB2 (fun j _ _ => o_1 j (by omega))
        exact W.iret (v := fo (tnF (fun i => bt ((rlV np nr (fun i c => dr (3 * i + c)) a2) &&& (sO (fun i => decide (dp (4 * i + 0) = a1)) np)) i) (ahB (fun t c => ct (70 * t + c)) sw a2 nt) np)) hx hb hr (fun _ hT9 _ => ⟨⟨_, f_1, rfl, (⟨cJ_mk (nt) (hf) (imf) (mc) (op) (cm) (wu) (mk) (ab) (be) (mn) (le) (wt) (ww) (wb) (wf) (vv91) (lf) (tf) (hx0) (hctc) (hhs) (him) (hkp) (hrd) (hmk) (hfc6) (hwt) (hw8) (hw9) (hw10) (hw11) (hvl) (hbk) (hpr) (hpd) (hfr) (hfd) (hor) (hod) (har) (had) (htr) (hct) (hla) (hlaa) (hts0) (htsa) (by omega) (hhf) (him0) (him1) (by omega) (by omega) (by omega) (by omega) (by omega) (by omega) (by omega) (hlf) (htf) (by omega) (hH) (hSp) (hL) (hT) (hB1) (hB2) (hQn), (Or.inr ⟨⟨c_6, c_13⟩, (show _ = tuV np nt (fun i c => dp (4 * i + c)) (fun t c => ct (70 * t + c)) sw a2 (rlV np nr (fun i c => dr (3 * i + c)) a2 &&& sO (fun i => decide (dp (4 * i + 0) = a1)) np) none from rfl).trans ((tuV_congr (P := (fun i c => dp (4 * i + c))) (T := (fun t c => ct (70 * t + c))) (fun _ _ _ _ => rfl) (fun _ _ => rfl) hJ9).trans (congrArg (fun o9 => tuV np nt (fun i c => dp (4 * i + c)) (fun t c => ct (70 * t + c)) (cJr np nf nr na dp df dr da ct LL LG) a2 (rlV np nr (fun i c => dr (3 * i + c)) a2 &&& sO (fun i => decide (dp (4 * i + 0) = a1)) np) (Option.map (fun z => rdO (LL z) (LG z)) o9)) hx_2_1).symm)⟩), fun j hj => (o_1 j (by omega))⟩), by rw [hT9]; exact hP⟩, hS.F hT9⟩) hS.2.2 dX10_turn_72
      · have hiL3 := hx_2_0 i3 rfl
        obtain ⟨sc3, sp3, ⟨htx3, hsx3, hpx3, hln3, hsc3⟩, hls3, hlen3, hdl3, hol3⟩ := ltx_go (hL i3 (by omega)) (by omega)
        refine my_bea (v := .ref (g (3 * i3 + 52))) rfl ?_
        refine lv_iconst (v := 0) hx hb dX10_turn_62 (by decide) ?_
        refine lv_iload_n hx hb dX10_turn_63 rfl (lv_at hl 3 rfl) ?_
        refine lv_iload_n hx hb dX10_turn_64 rfl (lv_at hl 0 rfl) ?_
        obtain ⟨sw, hZ, hJ9⟩ := okZ_J (Nat.le_refl nt) hH hQn hTr.2.2.1
        replace hhs := ((o_1 12 (by first | decide | omega))).trans hhs
        replace htr := ((o_1 45 (by first | decide | omega))).trans htr
        replace hct := ((o_1 46 (by first | decide | omega))).trans hct
        refine b_calli (va_runV (As := [.ref (g (3 * i3 + 52)), .int 0, .int a2, .int ((rlV np nr (fun i c => dr (3 * i + c)) a2) &&& (sO (fun i => decide (dp (4 * i + 0) = a1)) np))]) (rest := [.ref (g 1)]) ⟨hx, hb, hml, hown, hts⟩ (u_truthsTE l G g hg f_1 nt hf pay fine nt ct np dp (3 * i3 + 52) (LL i3) sc3 sp3 vv91 sw (rdO (LL i3) (LG i3)) 0 a2 ((rlV np nr (fun i c => dr (3 * i + c)) a2) &&& (sO (fun i => decide (dp (4 * i + 0) = a1)) np)) hctc hhs hbk htr hct hpr hpd htx3 hpx3 hvl (by first | assumption | omega | decide) (by first | assumption | omega | decide) (by first | assumption | omega | decide) (by first | assumption | omega | decide) (by first | assumption | omega | decide) (hln3) (hsc3) (by first | assumption | omega | decide) (hls3) (hlen3) (hdl3) (hol3) (hZ)) (my_cwV hts ok_X1_truths w_629 rfl rfl ⟨Nat.le_of_ble_eq_true rfl, Nat.le_of_ble_eq_true rfl⟩) ⟨bP.blind, va_recv hG.1 hP (ci := 1) (q0 := 1) rfl (wl_at (by decide) hctc), fun U hU hW => ⟨rfl, by rw [hU]; exact hP, kG.warm hW hG⟩⟩ rfl rfl hl.1 rfl (lv_room (Nat.le_of_ble_eq_true rfl)) dX10_turn_65 ⟨Nat.le_of_ble_eq_true rfl, Nat.le_of_ble_eq_true rfl⟩) hS (fun v4 f_3 H locs hq9 hP hS => ?_)
        obtain ⟨vv95, rfl, hq_3_0, o_3⟩ := hq9
        have hvl : f_3 15 = eJ G 50 vv95 := hq_3_0
        refine lv_iload_n hx hb dX10_turn_68 rfl (lv_at hl 3 rfl) ?_
        replace hctc := ((o_3 1 (by first | decide | omega))).trans hctc
        replace hhs := ((o_3 12 (by first | decide | omega))).trans hhs
        replace hbk := ((o_3 36 (by first | decide | omega))).trans hbk
        replace htr := ((o_3 45 (by first | decide | omega))).trans htr
        replace hct := ((o_3 46 (by first | decide | omega))).trans hct
        replace hpr := ((o_3 37 (by first | decide | omega))).trans hpr
        replace hpd := ((o_3 38 (by first | decide | omega))).trans hpd
        replace hH : ∀ i, i < 10 → okH G g f_3 (2 * i + 16) := fun z hz => okH_fr (hH z hz) (o_3 _ (by omega)) (o_3 _ (by omega))
        refine rd_calli (va_runV (As := [.int (sO (fun p => bt ((rlV np nr (fun i c => dr (3 * i + c)) a2) &&& (sO (fun i => decide (dp (4 * i + 0) = a1)) np)) p && decide (¬ (ev (ltk (fun i c => dp (4 * i + c)) (satN (fun t c => ct (70 * t + c)) sw a2 p nt) (sinV (fun t c => ct (70 * t + c)) sw a2 p nt) p a2) (rdO (LL i3) (LG i3))).headD 0 = 0)) np), .int a2]) (rest := []) ⟨hx, hb, hml, hown, hts⟩ (u_nextE l G g hg f_3 nt hf pay fine nt ct np dp sw a2 (sO (fun p => bt ((rlV np nr (fun i c => dr (3 * i + c)) a2) &&& (sO (fun i => decide (dp (4 * i + 0) = a1)) np)) p && decide (¬ (ev (ltk (fun i c => dp (4 * i + c)) (satN (fun t c => ct (70 * t + c)) sw a2 p nt) (sinV (fun t c => ct (70 * t + c)) sw a2 p nt) p a2) (rdO (LL i3) (LG i3))).headD 0 = 0)) np) hctc hhs hbk htr hct hpr hpd (by first | assumption | omega | decide) (by first | assumption | omega | decide) (by first | assumption | omega | decide) (by first | assumption | omega | decide) (by first | assumption | omega | decide) ((fun z hz => okZ_fr (hZ z hz) (o_3 _ (by omega)) (o_3 _ (by omega))))) (my_cwV hts ok_X1_nextInTurn w_875 rfl rfl ⟨Nat.le_of_ble_eq_true rfl, Nat.le_of_ble_eq_true rfl⟩) ⟨bP.blind, va_recv hG.1 hP (ci := 1) (q0 := 1) rfl (wl_at (by decide) hctc), fun U hU hW => ⟨rfl, by rw [hU]; exact hP, kG.warm hW hG⟩⟩ rfl rfl hl.1 rfl (lv_room (Nat.le_of_ble_eq_true rfl)) dX10_turn_69 ⟨Nat.le_of_ble_eq_true rfl, Nat.le_of_ble_eq_true rfl⟩) (fun r hr9 => ?_)
        subst hr9
        refine W_q9 hQ9 ?_
        replace hx0 := ((o_3 0 (by first | decide | omega))).trans hx0
        replace him := ((o_3 2 (by first | decide | omega)).trans ((o_1 2 (by first | decide | omega)))).trans him
        replace hkp := ((o_3 3 (by first | decide | omega)).trans ((o_1 3 (by first | decide | omega)))).trans hkp
        replace hrd := ((o_3 4 (by first | decide | omega)).trans ((o_1 4 (by first | decide | omega)))).trans hrd
        replace hmk := ((o_3 5 (by first | decide | omega)).trans ((o_1 5 (by first | decide | omega)))).trans hmk
        replace hfc6 := ((o_3 6 (by first | decide | omega)).trans ((o_1 6 (by first | decide | omega)))).trans hfc6
        replace hwt := ((o_3 7 (by first | decide | omega)).trans ((o_1 7 (by first | decide | omega)))).trans hwt
        replace hw8 := ((o_3 8 (by first | decide | omega)).trans ((o_1 8 (by first | decide | omega)))).trans hw8
        replace hw9 := ((o_3 9 (by first | decide | omega)).trans ((o_1 9 (by first | decide | omega)))).trans hw9
        replace hw10 := ((o_3 10 (by first | decide | omega)).trans ((o_1 10 (by first | decide | omega)))).trans hw10
        replace hw11 := ((o_3 11 (by first | decide | omega)).trans ((o_1 11 (by first | decide | omega)))).trans hw11
        replace hfr := ((o_3 39 (by first | decide | omega)).trans ((o_1 39 (by first | decide | omega)))).trans hfr
        replace hfd := ((o_3 40 (by first | decide | omega)).trans ((o_1 40 (by first | decide | omega)))).trans hfd
        replace hor := ((o_3 41 (by first | decide | omega))).trans hor
        replace hod := ((o_3 42 (by first | decide | omega))).trans hod
        replace har := ((o_3 43 (by first | decide | omega))).trans har
        replace had := ((o_3 44 (by first | decide | omega))).trans had
        replace hla := ((o_3 47 (by first | decide | omega))).trans hla
        replace hlaa := ((o_3 48 (by first | decide | omega))).trans hlaa
        replace hts0 := ((o_3 112 (by first | decide | omega)).trans ((o_1 112 (by first | decide | omega)))).trans hts0
        replace htsa := ((o_3 113 (by first | decide | omega)).trans ((o_1 113 (by first | decide | omega)))).trans htsa
        replace hSp : okH G g f_1 13 := okH_fr hSp (o_1 _ (by omega)) (o_1 _ (by omega))
        replace hSp : okH G g f_3 13 := okH_fr hSp (o_3 _ (by omega)) (o_3 _ (by omega))
        replace hL : ∀ i, i < 20 → ltx G g f_3 (3 * i + 52) (LL i) (LG i) (i < na) := fun z hz => ltx_fr (hL z hz) (o_3 _ (by omega)) (o_3 _ (by omega)) (o_3 _ (by omega))
        replace hT : ∀ i, i < 4 → txt G g f_1 (3 * i + 117) (TL i) (TG i) := fun z hz => txt_fr (hT z hz) (o_1 _ (by omega)) (o_1 _ (by omega)) (o_1 _ (by omega))
        replace hT : ∀ i, i < 4 → txt G g f_3 (3 * i + 117) (TL i) (TG i) := fun z hz => txt_fr (hT z hz) (o_3 _ (by omega)) (o_3 _ (by omega)) (o_3 _ (by omega))
        replace hB1 : bkD G g f_1 129 N1 E1 P1 L1 S1 W1 X1 := bkD_fr hB1 (fun j _ _ => o_1 j (by omega))
        replace hB1 : bkD G g f_3 129 N1 E1 P1 L1 S1 W1 X1 := bkD_fr hB1 (fun j _ _ => o_3 j (by omega))
        replace hB2 : bkD G g f_1 222 N2 E2 P2 L2 S2 W2 X2 := bkD_fr hB2 (fun j _ _ => o_1 j (by omega))
        replace hB2 : bkD G g f_3 222 N2 E2 P2 L2 S2 W2 X2 := bkD_fr hB2 (fun j _ _ => o_3 j (by omega))
        replace hQn : ∀ z, z < nt → cHz G g f_3 np nf nr na dp df dr da ct LL LG z := fun z hz => okQ_fr (hQn z hz) (o_3 _ (by omega)) (o_3 _ (by omega))
        exact W.iret (v := fo (tnF (fun i => bt (sO (fun p => bt ((rlV np nr (fun i c => dr (3 * i + c)) a2) &&& (sO (fun i => decide (dp (4 * i + 0) = a1)) np)) p && decide (¬ (ev (ltk (fun i c => dp (4 * i + c)) (satN (fun t c => ct (70 * t + c)) sw a2 p nt) (sinV (fun t c => ct (70 * t + c)) sw a2 p nt) p a2) (rdO (LL i3) (LG i3))).headD 0 = 0)) np) i) (ahB (fun t c => ct (70 * t + c)) sw a2 nt) np)) hx hb hr (fun _ hT9 _ => ⟨⟨_, f_3, rfl, (⟨cJ_mk (nt) (hf) (imf) (mc) (op) (cm) (wu) (mk) (ab) (be) (mn) (le) (wt) (ww) (wb) (wf) (vv95) (lf) (tf) (hx0) (hctc) (hhs) (him) (hkp) (hrd) (hmk) (hfc6) (hwt) (hw8) (hw9) (hw10) (hw11) (hvl) (hbk) (hpr) (hpd) (hfr) (hfd) (hor) (hod) (har) (had) (htr) (hct) (hla) (hlaa) (hts0) (htsa) (by omega) (hhf) (him0) (him1) (by omega) (by omega) (by omega) (by omega) (by omega) (by omega) (by omega) (hlf) (htf) (by omega) (hH) (hSp) (hL) (hT) (hB1) (hB2) (hQn), (Or.inr ⟨⟨c_6, c_13⟩, (show _ = tuV np nt (fun i c => dp (4 * i + c)) (fun t c => ct (70 * t + c)) sw a2 (rlV np nr (fun i c => dr (3 * i + c)) a2 &&& sO (fun i => decide (dp (4 * i + 0) = a1)) np) (some (rdO (LL i3) (LG i3))) from rfl).trans ((tuV_congr (P := (fun i c => dp (4 * i + c))) (T := (fun t c => ct (70 * t + c))) (fun _ _ _ _ => rfl) (fun _ _ => rfl) hJ9).trans (congrArg (fun o9 => tuV np nt (fun i c => dp (4 * i + c)) (fun t c => ct (70 * t + c)) (cJr np nf nr na dp df dr da ct LL LG) a2 (rlV np nr (fun i c => dr (3 * i + c)) a2 &&& sO (fun i => decide (dp (4 * i + 0) = a1)) np) (Option.map (fun z => rdO (LL z) (LG z)) o9)) hx_2_1).symm)⟩), fun j hj => ((o_3 j (by omega))).trans (o_1 j (by omega))⟩), by rw [hT9]; exact hP⟩, hS.F hT9⟩) hS.2.2 dX10_turn_72
    · refine lv_bipush (v := (-2)) hx hb dX10_turn_16 (by decide) ?_
      refine W_q9 hQ9 ?_
      exact W.iret (v := (-2)) hx hb hr (fun _ hT9 _ => ⟨⟨_, f, rfl, (⟨cJ_mk (se) (hf) (imf) (mc) (op) (cm) (wu) (mk) (ab) (be) (mn) (le) (wt) (ww) (wb) (wf) (vv) (lf) (tf) (hx0) (hctc) (hhs) (him) (hkp) (hrd) (hmk) (hfc6) (hwt) (hw8) (hw9) (hw10) (hw11) (hvl) (hbk) (hpr) (hpd) (hfr) (hfd) (hor) (hod) (har) (had) (htr) (hct) (hla) (hlaa) (hts0) (htsa) (by omega) (hhf) (him0) (him1) (by omega) (by omega) (by omega) (by omega) (by omega) (by omega) (by omega) (hlf) (htf) (by omega) (hH) (hSp) (hL) (hT) (hB1) (hB2) (hQ), (Or.inl ⟨fun z => c_13 z.2, rfl⟩), fun j hj => rfl⟩), by rw [hT9]; exact hP⟩, hS.F hT9⟩) hS.2.2 dX10_turn_18
theorem j_turn (l : Launch) (G : gW) (g : Nat → Nat) (hg : gOK g) (f : Nat → va_E) (np : Nat) (dp : Nat → Int32) (nf : Nat) (df : Nat → Int32) (nr : Nat) (dr : Nat → Int32) (nt : Nat) (ct : Nat → Int32) (pay : Int32) (fine : Int32) (kf : Nat → Int32) (na : Nat) (da : Nat → Int32) (TL : Nat → Nat) (TG : Nat → Nat → Int32) (LL : Nat → Nat) (LG : Nat → Nat → Int32) (N1 : Nat → Nat) (E1 : Nat → Nat → Int32) (P1 : Nat → Int32) (L1 : Nat → Nat) (S1 : Nat → Nat → Int32) (W1 : Nat → Nat) (X1 : Nat → Nat → Int32) (N2 : Nat → Nat) (E2 : Nat → Nat → Int32) (P2 : Nat → Int32) (L2 : Nat → Nat) (S2 : Nat → Nat → Int32) (W2 : Nat → Nat) (X2 : Nat → Nat → Int32) (a1 : Int32) (a2 : Int32) (hI : cJ G g f np dp nf df nr dr nt ct pay fine kf na da TL TG LL LG N1 E1 P1 L1 S1 W1 X1 N2 E2 P2 L2 S2 W2 X2) (hTr : trC ct nt) : Met l yX10_turn (wsT yX10_turn cX10_turn 4 (some .int)) ({ frames := 7, cells := 0, slots := 0, locals := 176 }) (bP G g f [.ref (g 0), .int a1, .int a2]) (bQi G g (fun (z9 : Int32) (f' : Nat → va_E) => (cJ G g f' np dp nf df nr dr nt ct pay fine kf na da TL TG LL LG N1 E1 P1 L1 S1 W1 X1 N2 E2 P2 L2 S2 W2 X2) ∧ ((¬ (inB 0 a1 3 = true ∧ inB 0 a2 9999 = true) ∧ z9 = -2) ∨ ((inB 0 a1 3 = true ∧ inB 0 a2 9999 = true) ∧ z9 = tuV np nt (fun i c => dp (4 * i + c)) (fun t c => ct (70 * t + c)) (cJr np nf nr na dp df dr da ct LL LG) a2 (rlV np nr (fun i c => dr (3 * i + c)) a2 &&& sO (fun i => decide (dp (4 * i + 0) = a1)) np) ((fcB (fun i c => da (3 * i + c)) 0 a2 na).map (fun z => rdO (LL z) (LG z))))) ∧ ∀ j, 315 ≤ j → f' j = f j)) 0 0 (gA g) := cJ_elim hI (fun se hf imf mc op cm wu mk ab be mn le wt ww wb wf vv lf tf hx0 hctc hhs him hkp hrd hmk hfc6 hwt hw8 hw9 hw10 hw11 hvl hbk hpr hpd hfr hfd hor hod har had htr hct hla hlaa hts0 htsa hse hhf him0 him1 hmc hmn hnp hnf hnr hna hnt hlf htf hsn hH hSp hL hT hB1 hB2 hQ => jn_turn l G g hg f se hf imf kf mc op cm wu mk ab be mn le wt ww wb wf vv pay fine np dp nf df nr dr na da nt ct lf tf TL TG LL LG N1 E1 P1 L1 S1 W1 X1 N2 E2 P2 L2 S2 W2 X2 a1 a2 hx0 hctc hhs him hkp hrd hmk hfc6 hwt hw8 hw9 hw10 hw11 hvl hbk hpr hpd hfr hfd hor hod har had htr hct hla hlaa hts0 htsa hse hhf him0 him1 hmc hmn hnp hnf hnr hna hnt hlf htf hsn hTr hH hSp hL hT hB1 hB2 hQ)


set_option maxHeartbeats 4000000 in
set_option maxRecDepth 100000 in
theorem jn_write (l : Launch) (G : gW) (g : Nat → Nat) (hg : gOK g) (f : Nat → va_E) (se : Nat) (hf : Nat → Option Nat) (imf : Nat → Option Nat) (kf : Nat → Int32) (mc : Nat) (op : Int32) (cm : Int32) (wu : Int32) (mk : Nat → Int32) (ab : Int64) (be : Int64) (mn : Nat) (le : Int32) (wt : Nat → Int32) (ww : Nat → Int32) (wb : Nat → Int32) (wf : Nat → Int32) (vv : Nat → Int64) (pay : Int32) (fine : Int32) (np : Nat) (dp : Nat → Int32) (nf : Nat) (df : Nat → Int32) (nr : Nat) (dr : Nat → Int32) (na : Nat) (da : Nat → Int32) (nt : Nat) (ct : Nat → Int32) (lf : Nat → Option Nat) (tf : Nat → Option Nat) (TL : Nat → Nat) (TG : Nat → Nat → Int32) (LL : Nat → Nat) (LG : Nat → Nat → Int32) (N1 : Nat → Nat) (E1 : Nat → Nat → Int32) (P1 : Nat → Int32) (L1 : Nat → Nat) (S1 : Nat → Nat → Int32) (W1 : Nat → Nat) (X1 : Nat → Nat → Int32) (N2 : Nat → Nat) (E2 : Nat → Nat → Int32) (P2 : Nat → Int32) (L2 : Nat → Nat) (S2 : Nat → Nat → Int32) (W2 : Nat → Nat) (X2 : Nat → Nat → Int32) (a1 : Int32) (a2 : Int32) (hx0 : f 0 = eO 9 [.ref (g 1), .ref (g 36), .ref (g 2), .ref (g 3), .ref (g 4), .ref (g 6), .ref (g 7)]) (hctc : f 1 = eO 1 [.ref (g 36), .ref (g 12), .ref (g 13), .ref (g 15), .int (nI se)]) (hhs : f 12 = eA G 4 10 hf) (him : f 2 = eA G 3 2 imf) (hkp : f 3 = eZ G 2 kf) (hrd : f 4 = eO 4 [.ref (g 5), .int (nI mc), .int op, .int cm, .int wu]) (hmk : f 5 = eI G 50 mk) (hfc6 : f 6 = eO 2 [.long ab, .long be]) (hwt : f 7 = eO 8 [.ref (g 8), .ref (g 9), .ref (g 10), .ref (g 11), .int (nI mn), .int le]) (hw8 : f 8 = eI G 6 wt) (hw9 : f 9 = eI G 6 ww) (hw10 : f 10 = eI G 6 wb) (hw11 : f 11 = eI G 6 wf) (hvl : f 15 = eJ G 50 vv) (hbk : f 36 = eO 0 [.ref (g 37), .ref (g 39), .ref (g 41), .ref (g 43), .ref (g 45), .ref (g 47), .ref (g 112), .int pay, .int fine]) (hpr : f 37 = eO 5 [.int (nI 30), .int (nI 4), .ref (g 38), .int (nI np)]) (hpd : f 38 = eI G (30 * 4) dp) (hfr : f 39 = eO 5 [.int (nI 40), .int (nI 3), .ref (g 40), .int (nI nf)]) (hfd : f 40 = eI G (40 * 3) df) (hor : f 41 = eO 5 [.int (nI 4), .int (nI 3), .ref (g 42), .int (nI nr)]) (hod : f 42 = eI G (4 * 3) dr) (har : f 43 = eO 5 [.int (nI 20), .int (nI 3), .ref (g 44), .int (nI na)]) (had : f 44 = eI G (20 * 3) da) (htr : f 45 = eO 5 [.int (nI 10), .int (nI 70), .ref (g 46), .int (nI nt)]) (hct : f 46 = eI G (10 * 70) ct) (hla : f 47 = eO 6 [.ref (g 48), .ref (g 49)]) (hlaa : f 48 = eA G 5 20 lf) (hts0 : f 112 = eO 6 [.ref (g 113), .ref (g 114)]) (htsa : f 113 = eA G 5 4 tf) (hse : se ≤ 10) (hhf : ∀ i, i < 10 → hf i = some (g (2 * i + 16))) (him0 : imf 0 = some (g 129)) (him1 : imf 1 = some (g 222)) (hmc : mc ≤ 50) (hmn : mn ≤ 6) (hnp : np ≤ 30) (hnf : nf ≤ 40) (hnr : nr ≤ 4) (hna : na ≤ 20) (hnt : nt ≤ 10) (hlf : ∀ z, z < 20 → lf z = some (g (47 + 3 * z + 5))) (htf : ∀ z, z < 4 → tf z = some (g (112 + 3 * z + 5))) (hsn : se ≤ nt) (hTr : trC ct nt) (hH : ∀ i, i < 10 → okH G g f (2 * i + 16)) (hSp : okH G g f 13) (hL : ∀ i, i < 20 → ltx G g f (3 * i + 52) (LL i) (LG i) (i < na)) (hT : ∀ i, i < 4 → txt G g f (3 * i + 117) (TL i) (TG i)) (hB1 : bkD G g f 129 N1 E1 P1 L1 S1 W1 X1) (hB2 : bkD G g f 222 N2 E2 P2 L2 S2 W2 X2) (hQ : ∀ z, z < se → cHz G g f np nf nr na dp df dr da ct LL LG z) : Met l yX10_write (wsT yX10_write cX10_write 3 (some .int)) ({ frames := 2, cells := 0, slots := 0, locals := 42 }) (bP G g f [.ref (g 0), .int a1, .int a2]) (bQi G g (fun (z9 : Int32) (f' : Nat → va_E) => ∃ TL9 : Nat → Nat, ∃ TG9 : Nat → Nat → Int32, (cJ G g f' np dp nf df nr dr nt ct pay fine kf na da TL9 TG9 LL LG N1 E1 P1 L1 S1 W1 X1 N2 E2 P2 L2 S2 W2 X2) ∧ ((¬ (inB 0 a1 3 = true ∧ inB 0 a2 127 = true) ∧ z9 = -2 ∧ TL9 = TL ∧ TG9 = TG) ∨ ((inB 0 a1 3 = true ∧ inB 0 a2 127 = true) ∧ ∃ x, x ≤ 3 ∧ a1 = nI x ∧ ((¬ TL x < 50 ∧ z9 = -4 ∧ TL9 = TL ∧ TG9 = TG) ∨ (TL x < 50 ∧ z9 = nI (TL x + 1) ∧ TL9 = upN TL x (TL x + 1) ∧ TG9 = upN TG x (upd (TG x) (TL x) a2))))) ∧ ∀ j, 315 ≤ j → f' j = f j)) 0 0 (gA g) := by
  refine Met.ofW (cc := cX10_write) (maxL := 3) (ret := (some .int)) (by decide) rfl ?_
  intro p e s m args below meth c s₁ B hml hv
  obtain ⟨rfl, hP, hG⟩ := hv
  have hx := B.exec
  have hb := B.bytes
  have hr := B.returns
  have hts := my_hts (atoms_spec (ws := wsT yX10_write cX10_write 3 (some .int)) B.pre)
  have hown : s.vm.findClass RX10 = some m.cls := findClass_of_methodNamed B.named
  have hlocks := B.notSynchronized
  have hS : va_S (gA g) s.heap s.heap [] := va_S.rf
  have hl := lv_entry ([.ref (g 0), .int a1, .int a2]) (n := 3) (Nat.le_of_ble_eq_true rfl)
  rw [lg_entry_eq]
  generalize (lg_sl ([.ref (g 0), .int a1, .int a2]) ++ List.replicate (3 - (lg_sl ([.ref (g 0), .int a1, .int a2])).length) Slot.unset).toArray = ls at hl ⊢
  have hl : lv_has ls 3 [(0, .ref (g 0)), (1, .int a1), (2, .int a2)] := hl
  refine W_q8 (fun Q9 hQ9 => ?_)
  refine lv_iload_n hx hb dX10_write_0 rfl (lv_at hl 1 rfl) ?_
  refine rd_calli (va_runS (As := [.int a1]) (rest := []) ⟨hx, hb, hml, hown, hts⟩ (s_isText l G g hg f a1  ) (my_cwS hts ok_X10_isText w_242 rfl rfl ⟨Nat.le_of_ble_eq_true rfl, Nat.le_of_ble_eq_true rfl⟩) ⟨bP.blind, fun U hU hW => ⟨rfl, by rw [hU]; exact hP, kG.warm hW hG⟩⟩ rfl rfl hl.1 rfl (lv_room (Nat.le_of_ble_eq_true rfl)) dX10_write_1 ⟨Nat.le_of_ble_eq_true rfl, Nat.le_of_ble_eq_true rfl⟩) (fun r hr9 => ?_)
  subst hr9
  refine my_ifeq (tgt := 17) hx hb dX10_write_4 (by decide) (fun c_4 => ?_) (fun c_4 => ?_)
  · refine lv_bipush (v := (-2)) hx hb dX10_write_17 (by decide) ?_
    refine W_q9 hQ9 ?_
    exact W.iret (v := (-2)) hx hb hr (fun _ hT9 _ => ⟨⟨_, f, rfl, (⟨TL, TG, cJ_mk (se) (hf) (imf) (mc) (op) (cm) (wu) (mk) (ab) (be) (mn) (le) (wt) (ww) (wb) (wf) (vv) (lf) (tf) (hx0) (hctc) (hhs) (him) (hkp) (hrd) (hmk) (hfc6) (hwt) (hw8) (hw9) (hw10) (hw11) (hvl) (hbk) (hpr) (hpd) (hfr) (hfd) (hor) (hod) (har) (had) (htr) (hct) (hla) (hlaa) (hts0) (htsa) (by omega) (hhf) (him0) (him1) (by omega) (by omega) (by omega) (by omega) (by omega) (by omega) (by omega) (hlf) (htf) (by omega) (hH) (hSp) (hL) (hT) (hB1) (hB2) (hQ), (Or.inl ⟨fun z => c_4 z.1, rfl, rfl, rfl⟩), fun j hj => rfl⟩), by rw [hT9]; exact hP⟩, hS.F hT9⟩) hS.2.2 dX10_write_19
  · refine lv_iload_n hx hb dX10_write_7 rfl (lv_at hl 2 rfl) ?_
    refine lv_iconst (v := 0) hx hb dX10_write_8 (by decide) ?_
    refine lv_bipush (v := 127) hx hb dX10_write_9 (by decide) ?_
    refine rd_calli (va_runS (As := [.int a2, .int 0, .int 127]) (rest := []) ⟨hx, hb, hml, hown, hts⟩ (s_within l G g hg f a2 0 127  ) (my_cwS hts ok_X10_within w_134 rfl rfl ⟨Nat.le_of_ble_eq_true rfl, Nat.le_of_ble_eq_true rfl⟩) ⟨bP.blind, fun U hU hW => ⟨rfl, by rw [hU]; exact hP, kG.warm hW hG⟩⟩ rfl rfl hl.1 rfl (lv_room (Nat.le_of_ble_eq_true rfl)) dX10_write_11 ⟨Nat.le_of_ble_eq_true rfl, Nat.le_of_ble_eq_true rfl⟩) (fun r hr9 => ?_)
    subst hr9
    refine my_ifne (tgt := 20) hx hb dX10_write_14 (by decide) (fun c_14 => ?_) (fun c_14 => ?_)
    · obtain ⟨xn, hxn, rfl⟩ := inB_n (b := 3) (by omega) c_4
      refine lv_aload_n hx hb dX10_write_20 rfl (lv_at hl 0 rfl) ?_
      refine va_get (D := G.1) (ci := 9) (v := .ref (g 36)) (C := RX10) (T := TX10) (N := 7) hx hb hts inlX10 hown hG.1 hP 0 (wl_at (by decide) hx0) rfl 1 (by decide) (hts (.fieldLink RX10 20 "SwornLists" "book" "LSwornLists$Book;") w_16) (fun _ h9 => h9) rfl dX10_write_21 ?_
      refine va_getN (D := G.1) (ci := 0) (v := .ref (g 112)) (C := RX0) (T := TX0) (N := 9) (host := RX10) hx hb hts inlX0 hown hG.1 hP 36 (wl_at (by decide) hbk) rfl 6 (by decide) (va_Nw.use rfl (hG.2.1 (.fieldLinkNest RX10 98 RX0 "texts" "LSwornLists$Shelf;" RX10) (List.mem_of_getElem? (i := 9) rfl))) (fun _ h9 => h9) rfl dX10_write_24 ?_
      refine lv_iload_n hx hb dX10_write_27 rfl (lv_at hl 1 rfl) ?_
      refine rd_calla (va_runV (As := [.int (nI xn)]) (rest := []) ⟨hx, hb, hml, hown, hts⟩ (w_get l G g hg f 112 4 tf xn hts0 htsa (by first | assumption | omega | decide) (by first | assumption | omega | decide) (by first | assumption | omega | decide) (by first | assumption | omega | decide)) (my_cwV hts ok_X6_get w_245 rfl rfl ⟨Nat.le_of_ble_eq_true rfl, Nat.le_of_ble_eq_true rfl⟩) ⟨bP.blind, va_recv hG.1 hP (ci := 6) (q0 := 112) rfl (wl_at (by decide) hts0), fun U hU hW => ⟨rfl, by rw [hU]; exact hP, kG.warm hW hG⟩⟩ rfl rfl hl.1 rfl (lv_room (Nat.le_of_ble_eq_true rfl)) dX10_write_28 ⟨Nat.le_of_ble_eq_true rfl, Nat.le_of_ble_eq_true rfl⟩) (fun r hr9 => ?_)
      subst hr9
      refine my_bea (v := .ref (g (3 * xn + 117))) (by rw [show 112 + 3 * xn + 5 = 3 * xn + 117 by omega]) ?_
      obtain ⟨sc7, sp7, htx7, hsx7, hpx7, hln7, hsc7⟩ := hT xn (by omega)
      refine lv_iload_n hx hb dX10_write_31 rfl (lv_at hl 2 rfl) ?_
      by_cases hlt : TL xn < 50
      · refine b_calli (va_runV (As := [.int a2]) (rest := []) ⟨hx, hb, hml, hown, hts⟩ (t_put l G g hg f (3 * xn + 117) (TL xn) sc7 (TG xn) a2 htx7 hsx7 (by first | assumption | omega | decide) (by first | assumption | omega | decide) (by first | assumption | omega | decide) (by first | assumption | omega | decide)) (my_cwV hts ok_X8_put w_249 rfl rfl ⟨Nat.le_of_ble_eq_true rfl, Nat.le_of_ble_eq_true rfl⟩) ⟨bP.blind, va_recv hG.1 hP (ci := 7) (q0 := (3 * xn + 117)) rfl (wl_at (by omega) htx7), fun U hU hW => ⟨rfl, by rw [hU]; exact hP, kG.warm hW hG⟩⟩ rfl rfl hl.1 rfl (lv_room (Nat.le_of_ble_eq_true rfl)) dX10_write_32 ⟨Nat.le_of_ble_eq_true rfl, Nat.le_of_ble_eq_true rfl⟩) hS (fun v1 f_1 H locs hq9 hP hS => ?_)
        obtain ⟨rfl, hq_1_0, hq_1_1, o_1⟩ := hq9
        have htx7 : f_1 (3 * xn + 117) = eO 7 [.ref (g ((3 * xn + 117) + 1)), .ref (g ((3 * xn + 117) + 2)), .int (nI ((TL xn) + 1)), .int (nI sc7)] := hq_1_0
        have hsx7 : f_1 (3 * xn + 118) = eI G 50 (upd (TG xn) (Int32.toNatClampNeg (nI (TL xn))) a2) := hq_1_1
        refine W_q9 hQ9 ?_
        replace hx0 := ((o_1 0 (by first | decide | omega))).trans hx0
        replace hctc := ((o_1 1 (by first | decide | omega))).trans hctc
        replace hhs := ((o_1 12 (by first | decide | omega))).trans hhs
        replace him := ((o_1 2 (by first | decide | omega))).trans him
        replace hkp := ((o_1 3 (by first | decide | omega))).trans hkp
        replace hrd := ((o_1 4 (by first | decide | omega))).trans hrd
        replace hmk := ((o_1 5 (by first | decide | omega))).trans hmk
        replace hfc6 := ((o_1 6 (by first | decide | omega))).trans hfc6
        replace hwt := ((o_1 7 (by first | decide | omega))).trans hwt
        replace hw8 := ((o_1 8 (by first | decide | omega))).trans hw8
        replace hw9 := ((o_1 9 (by first | decide | omega))).trans hw9
        replace hw10 := ((o_1 10 (by first | decide | omega))).trans hw10
        replace hw11 := ((o_1 11 (by first | decide | omega))).trans hw11
        replace hvl := ((o_1 15 (by first | decide | omega))).trans hvl
        replace hbk := ((o_1 36 (by first | decide | omega))).trans hbk
        replace hpr := ((o_1 37 (by first | decide | omega))).trans hpr
        replace hpd := ((o_1 38 (by first | decide | omega))).trans hpd
        replace hfr := ((o_1 39 (by first | decide | omega))).trans hfr
        replace hfd := ((o_1 40 (by first | decide | omega))).trans hfd
        replace hor := ((o_1 41 (by first | decide | omega))).trans hor
        replace hod := ((o_1 42 (by first | decide | omega))).trans hod
        replace har := ((o_1 43 (by first | decide | omega))).trans har
        replace had := ((o_1 44 (by first | decide | omega))).trans had
        replace htr := ((o_1 45 (by first | decide | omega))).trans htr
        replace hct := ((o_1 46 (by first | decide | omega))).trans hct
        replace hla := ((o_1 47 (by first | decide | omega))).trans hla
        replace hlaa := ((o_1 48 (by first | decide | omega))).trans hlaa
        replace hts0 := ((o_1 112 (by first | decide | omega))).trans hts0
        replace htsa := ((o_1 113 (by first | decide | omega))).trans htsa
        replace hpx7 : f_1 (3 * xn + 119) = eI G 50 sp7 := ((o_1 (3 * xn + 119) (by omega))).trans hpx7
        replace hH : ∀ i, i < 10 → okH G g f_1 (2 * i + 16) := fun z hz => okH_fr (hH z hz) (o_1 _ (by omega)) (o_1 _ (by omega))
        replace hSp : okH G g f_1 13 := okH_fr hSp (o_1 _ (by omega)) (o_1 _ (by omega))
        replace hL : ∀ i, i < 20 → ltx G g f_1 (3 * i + 52) (LL i) (LG i) (i < na) := fun z hz => ltx_fr (hL z hz) (o_1 _ (by omega)) (o_1 _ (by omega)) (o_1 _ (by omega))
        replace hB1 : bkD G g f_1 129 N1 E1 P1 L1 S1 W1 X1 := bkD_fr hB1 (fun j _ _ => o_1 j (by omega))
        replace hB2 : bkD G g f_1 222 N2 E2 P2 L2 S2 W2 X2 := bkD_fr hB2 (fun j _ _ => o_1 j (by omega))
        replace hQ : ∀ z, z < se → cHz G g f_1 np nf nr na dp df dr da ct LL LG z := fun z hz => okQ_fr (hQ z hz) (o_1 _ (by omega)) (o_1 _ (by omega))
        exact W.iret (v := nI ((TL xn) + 1)) hx hb hr (fun _ hT9 _ => ⟨⟨_, f_1, rfl, (⟨(upN TL xn (TL xn + 1)), (upN TG xn (upd (TG xn) (TL xn) a2)), cJ_mk (se) (hf) (imf) (mc) (op) (cm) (wu) (mk) (ab) (be) (mn) (le) (wt) (ww) (wb) (wf) (vv) (lf) (tf) (hx0) (hctc) (hhs) (him) (hkp) (hrd) (hmk) (hfc6) (hwt) (hw8) (hw9) (hw10) (hw11) (hvl) (hbk) (hpr) (hpd) (hfr) (hfd) (hor) (hod) (har) (had) (htr) (hct) (hla) (hlaa) (hts0) (htsa) (by omega) (hhf) (him0) (him1) (by omega) (by omega) (by omega) (by omega) (by omega) (by omega) (by omega) (hlf) (htf) (by omega) (hH) (hSp) (hL) ((fun z hz => if e9 : z = xn then (by rw [e9, upN_s, upN_s]; exact ⟨_, _, htx7, (by rw [← nI_clamp (n := TL xn) (by omega)]; exact hsx7), hpx7, by omega, by omega⟩) else (by rw [upN_o e9, upN_o e9]; exact txt_fr (hT z hz) (o_1 _ (by omega)) (o_1 _ (by omega)) (o_1 _ (by omega))))) (hB1) (hB2) (hQ), (Or.inr ⟨⟨c_4, c_14⟩, xn, hxn, rfl, Or.inr ⟨hlt, rfl, rfl, rfl⟩⟩), fun j hj => (o_1 j (by omega))⟩), by rw [hT9]; exact hP⟩, hS.F hT9⟩) hS.2.2 dX10_write_35
      · refine rd_calli (va_runV (As := [.int a2]) (rest := []) ⟨hx, hb, hml, hown, hts⟩ (t_putF l G g hg f (3 * xn + 117) (TL xn) sc7 a2 htx7 (by first | assumption | omega | decide) (by first | assumption | omega | decide) (by first | assumption | omega | decide) (by first | assumption | omega | decide)) (my_cwV hts ok_X8_put w_249 rfl rfl ⟨Nat.le_of_ble_eq_true rfl, Nat.le_of_ble_eq_true rfl⟩) ⟨bP.blind, va_recv hG.1 hP (ci := 7) (q0 := (3 * xn + 117)) rfl (wl_at (by omega) htx7), fun U hU hW => ⟨rfl, by rw [hU]; exact hP, kG.warm hW hG⟩⟩ rfl rfl hl.1 rfl (lv_room (Nat.le_of_ble_eq_true rfl)) dX10_write_32 ⟨Nat.le_of_ble_eq_true rfl, Nat.le_of_ble_eq_true rfl⟩) (fun r hr9 => ?_)
        subst hr9
        refine W_q9 hQ9 ?_
        exact W.iret (v := (-4)) hx hb hr (fun _ hT9 _ => ⟨⟨_, f, rfl, (⟨TL, TG, cJ_mk (se) (hf) (imf) (mc) (op) (cm) (wu) (mk) (ab) (be) (mn) (le) (wt) (ww) (wb) (wf) (vv) (lf) (tf) (hx0) (hctc) (hhs) (him) (hkp) (hrd) (hmk) (hfc6) (hwt) (hw8) (hw9) (hw10) (hw11) (hvl) (hbk) (hpr) (hpd) (hfr) (hfd) (hor) (hod) (har) (had) (htr) (hct) (hla) (hlaa) (hts0) (htsa) (by omega) (hhf) (him0) (him1) (by omega) (by omega) (by omega) (by omega) (by omega) (by omega) (by omega) (hlf) (htf) (by omega) (hH) (hSp) (hL) (hT) (hB1) (hB2) (hQ), (Or.inr ⟨⟨c_4, c_14⟩, xn, hxn, rfl, Or.inl ⟨hlt, rfl, rfl, rfl⟩⟩), fun j hj => rfl⟩), by rw [hT9]; exact hP⟩, hS.F hT9⟩) hS.2.2 dX10_write_35
    · refine lv_bipush (v := (-2)) hx hb dX10_write_17 (by decide) ?_
      refine W_q9 hQ9 ?_
      exact W.iret (v := (-2)) hx hb hr (fun _ hT9 _ => ⟨⟨_, f, rfl, (⟨TL, TG, cJ_mk (se) (hf) (imf) (mc) (op) (cm) (wu) (mk) (ab) (be) (mn) (le) (wt) (ww) (wb) (wf) (vv) (lf) (tf) (hx0) (hctc) (hhs) (him) (hkp) (hrd) (hmk) (hfc6) (hwt) (hw8) (hw9) (hw10) (hw11) (hvl) (hbk) (hpr) (hpd) (hfr) (hfd) (hor) (hod) (har) (had) (htr) (hct) (hla) (hlaa) (hts0) (htsa) (by omega) (hhf) (him0) (him1) (by omega) (by omega) (by omega) (by omega) (by omega) (by omega) (by omega) (hlf) (htf) (by omega) (hH) (hSp) (hL) (hT) (hB1) (hB2) (hQ), (Or.inl ⟨fun z => c_14 z.2, rfl, rfl, rfl⟩), fun j hj => rfl⟩), by rw [hT9]; exact hP⟩, hS.F hT9⟩) hS.2.2 dX10_write_19
theorem j_write (l : Launch) (G : gW) (g : Nat → Nat) (hg : gOK g) (f : Nat → va_E) (np : Nat) (dp : Nat → Int32) (nf : Nat) (df : Nat → Int32) (nr : Nat) (dr : Nat → Int32) (nt : Nat) (ct : Nat → Int32) (pay : Int32) (fine : Int32) (kf : Nat → Int32) (na : Nat) (da : Nat → Int32) (TL : Nat → Nat) (TG : Nat → Nat → Int32) (LL : Nat → Nat) (LG : Nat → Nat → Int32) (N1 : Nat → Nat) (E1 : Nat → Nat → Int32) (P1 : Nat → Int32) (L1 : Nat → Nat) (S1 : Nat → Nat → Int32) (W1 : Nat → Nat) (X1 : Nat → Nat → Int32) (N2 : Nat → Nat) (E2 : Nat → Nat → Int32) (P2 : Nat → Int32) (L2 : Nat → Nat) (S2 : Nat → Nat → Int32) (W2 : Nat → Nat) (X2 : Nat → Nat → Int32) (a1 : Int32) (a2 : Int32) (hI : cJ G g f np dp nf df nr dr nt ct pay fine kf na da TL TG LL LG N1 E1 P1 L1 S1 W1 X1 N2 E2 P2 L2 S2 W2 X2) (hTr : trC ct nt) : Met l yX10_write (wsT yX10_write cX10_write 3 (some .int)) ({ frames := 2, cells := 0, slots := 0, locals := 42 }) (bP G g f [.ref (g 0), .int a1, .int a2]) (bQi G g (fun (z9 : Int32) (f' : Nat → va_E) => ∃ TL9 : Nat → Nat, ∃ TG9 : Nat → Nat → Int32, (cJ G g f' np dp nf df nr dr nt ct pay fine kf na da TL9 TG9 LL LG N1 E1 P1 L1 S1 W1 X1 N2 E2 P2 L2 S2 W2 X2) ∧ ((¬ (inB 0 a1 3 = true ∧ inB 0 a2 127 = true) ∧ z9 = -2 ∧ TL9 = TL ∧ TG9 = TG) ∨ ((inB 0 a1 3 = true ∧ inB 0 a2 127 = true) ∧ ∃ x, x ≤ 3 ∧ a1 = nI x ∧ ((¬ TL x < 50 ∧ z9 = -4 ∧ TL9 = TL ∧ TG9 = TG) ∨ (TL x < 50 ∧ z9 = nI (TL x + 1) ∧ TL9 = upN TL x (TL x + 1) ∧ TG9 = upN TG x (upd (TG x) (TL x) a2))))) ∧ ∀ j, 315 ≤ j → f' j = f j)) 0 0 (gA g) := cJ_elim hI (fun se hf imf mc op cm wu mk ab be mn le wt ww wb wf vv lf tf hx0 hctc hhs him hkp hrd hmk hfc6 hwt hw8 hw9 hw10 hw11 hvl hbk hpr hpd hfr hfd hor hod har had htr hct hla hlaa hts0 htsa hse hhf him0 him1 hmc hmn hnp hnf hnr hna hnt hlf htf hsn hH hSp hL hT hB1 hB2 hQ => jn_write l G g hg f se hf imf kf mc op cm wu mk ab be mn le wt ww wb wf vv pay fine np dp nf df nr dr na da nt ct lf tf TL TG LL LG N1 E1 P1 L1 S1 W1 X1 N2 E2 P2 L2 S2 W2 X2 a1 a2 hx0 hctc hhs him hkp hrd hmk hfc6 hwt hw8 hw9 hw10 hw11 hvl hbk hpr hpd hfr hfd hor hod har had htr hct hla hlaa hts0 htsa hse hhf him0 him1 hmc hmn hnp hnf hnr hna hnt hlf htf hsn hTr hH hSp hL hT hB1 hB2 hQ)
set_option maxHeartbeats 4000000 in
set_option maxRecDepth 100000 in
theorem jn_erase (l : Launch) (G : gW) (g : Nat → Nat) (hg : gOK g) (f : Nat → va_E) (se : Nat) (hf : Nat → Option Nat) (imf : Nat → Option Nat) (kf : Nat → Int32) (mc : Nat) (op : Int32) (cm : Int32) (wu : Int32) (mk : Nat → Int32) (ab : Int64) (be : Int64) (mn : Nat) (le : Int32) (wt : Nat → Int32) (ww : Nat → Int32) (wb : Nat → Int32) (wf : Nat → Int32) (vv : Nat → Int64) (pay : Int32) (fine : Int32) (np : Nat) (dp : Nat → Int32) (nf : Nat) (df : Nat → Int32) (nr : Nat) (dr : Nat → Int32) (na : Nat) (da : Nat → Int32) (nt : Nat) (ct : Nat → Int32) (lf : Nat → Option Nat) (tf : Nat → Option Nat) (TL : Nat → Nat) (TG : Nat → Nat → Int32) (LL : Nat → Nat) (LG : Nat → Nat → Int32) (N1 : Nat → Nat) (E1 : Nat → Nat → Int32) (P1 : Nat → Int32) (L1 : Nat → Nat) (S1 : Nat → Nat → Int32) (W1 : Nat → Nat) (X1 : Nat → Nat → Int32) (N2 : Nat → Nat) (E2 : Nat → Nat → Int32) (P2 : Nat → Int32) (L2 : Nat → Nat) (S2 : Nat → Nat → Int32) (W2 : Nat → Nat) (X2 : Nat → Nat → Int32) (a1 : Int32) (hx0 : f 0 = eO 9 [.ref (g 1), .ref (g 36), .ref (g 2), .ref (g 3), .ref (g 4), .ref (g 6), .ref (g 7)]) (hctc : f 1 = eO 1 [.ref (g 36), .ref (g 12), .ref (g 13), .ref (g 15), .int (nI se)]) (hhs : f 12 = eA G 4 10 hf) (him : f 2 = eA G 3 2 imf) (hkp : f 3 = eZ G 2 kf) (hrd : f 4 = eO 4 [.ref (g 5), .int (nI mc), .int op, .int cm, .int wu]) (hmk : f 5 = eI G 50 mk) (hfc6 : f 6 = eO 2 [.long ab, .long be]) (hwt : f 7 = eO 8 [.ref (g 8), .ref (g 9), .ref (g 10), .ref (g 11), .int (nI mn), .int le]) (hw8 : f 8 = eI G 6 wt) (hw9 : f 9 = eI G 6 ww) (hw10 : f 10 = eI G 6 wb) (hw11 : f 11 = eI G 6 wf) (hvl : f 15 = eJ G 50 vv) (hbk : f 36 = eO 0 [.ref (g 37), .ref (g 39), .ref (g 41), .ref (g 43), .ref (g 45), .ref (g 47), .ref (g 112), .int pay, .int fine]) (hpr : f 37 = eO 5 [.int (nI 30), .int (nI 4), .ref (g 38), .int (nI np)]) (hpd : f 38 = eI G (30 * 4) dp) (hfr : f 39 = eO 5 [.int (nI 40), .int (nI 3), .ref (g 40), .int (nI nf)]) (hfd : f 40 = eI G (40 * 3) df) (hor : f 41 = eO 5 [.int (nI 4), .int (nI 3), .ref (g 42), .int (nI nr)]) (hod : f 42 = eI G (4 * 3) dr) (har : f 43 = eO 5 [.int (nI 20), .int (nI 3), .ref (g 44), .int (nI na)]) (had : f 44 = eI G (20 * 3) da) (htr : f 45 = eO 5 [.int (nI 10), .int (nI 70), .ref (g 46), .int (nI nt)]) (hct : f 46 = eI G (10 * 70) ct) (hla : f 47 = eO 6 [.ref (g 48), .ref (g 49)]) (hlaa : f 48 = eA G 5 20 lf) (hts0 : f 112 = eO 6 [.ref (g 113), .ref (g 114)]) (htsa : f 113 = eA G 5 4 tf) (hse : se ≤ 10) (hhf : ∀ i, i < 10 → hf i = some (g (2 * i + 16))) (him0 : imf 0 = some (g 129)) (him1 : imf 1 = some (g 222)) (hmc : mc ≤ 50) (hmn : mn ≤ 6) (hnp : np ≤ 30) (hnf : nf ≤ 40) (hnr : nr ≤ 4) (hna : na ≤ 20) (hnt : nt ≤ 10) (hlf : ∀ z, z < 20 → lf z = some (g (47 + 3 * z + 5))) (htf : ∀ z, z < 4 → tf z = some (g (112 + 3 * z + 5))) (hsn : se ≤ nt) (hTr : trC ct nt) (hH : ∀ i, i < 10 → okH G g f (2 * i + 16)) (hSp : okH G g f 13) (hL : ∀ i, i < 20 → ltx G g f (3 * i + 52) (LL i) (LG i) (i < na)) (hT : ∀ i, i < 4 → txt G g f (3 * i + 117) (TL i) (TG i)) (hB1 : bkD G g f 129 N1 E1 P1 L1 S1 W1 X1) (hB2 : bkD G g f 222 N2 E2 P2 L2 S2 W2 X2) (hQ : ∀ z, z < se → cHz G g f np nf nr na dp df dr da ct LL LG z) : Met l yX10_erase (wsT yX10_erase cX10_erase 2 (some .int)) ({ frames := 2, cells := 0, slots := 0, locals := 42 }) (bP G g f [.ref (g 0), .int a1]) (bQi G g (fun (z9 : Int32) (f' : Nat → va_E) => ∃ TL9 : Nat → Nat, (cJ G g f' np dp nf df nr dr nt ct pay fine kf na da TL9 TG LL LG N1 E1 P1 L1 S1 W1 X1 N2 E2 P2 L2 S2 W2 X2) ∧ ((¬ inB 0 a1 3 = true ∧ z9 = -2 ∧ TL9 = TL) ∨ (∃ x, x ≤ 3 ∧ a1 = nI x ∧ z9 = nI (TL x) ∧ TL9 = upN TL x 0)) ∧ ∀ j, 315 ≤ j → f' j = f j)) 0 0 (gA g) := by
  refine Met.ofW (cc := cX10_erase) (maxL := 2) (ret := (some .int)) (by decide) rfl ?_
  intro p e s m args below meth c s₁ B hml hv
  obtain ⟨rfl, hP, hG⟩ := hv
  have hx := B.exec
  have hb := B.bytes
  have hr := B.returns
  have hts := my_hts (atoms_spec (ws := wsT yX10_erase cX10_erase 2 (some .int)) B.pre)
  have hown : s.vm.findClass RX10 = some m.cls := findClass_of_methodNamed B.named
  have hlocks := B.notSynchronized
  have hS : va_S (gA g) s.heap s.heap [] := va_S.rf
  have hl := lv_entry ([.ref (g 0), .int a1]) (n := 2) (Nat.le_of_ble_eq_true rfl)
  rw [lg_entry_eq]
  generalize (lg_sl ([.ref (g 0), .int a1]) ++ List.replicate (2 - (lg_sl ([.ref (g 0), .int a1])).length) Slot.unset).toArray = ls at hl ⊢
  have hl : lv_has ls 2 [(0, .ref (g 0)), (1, .int a1)] := hl
  refine W_q8 (fun Q9 hQ9 => ?_)
  refine lv_iload_n hx hb dX10_erase_0 rfl (lv_at hl 1 rfl) ?_
  refine rd_calli (va_runS (As := [.int a1]) (rest := []) ⟨hx, hb, hml, hown, hts⟩ (s_isText l G g hg f a1  ) (my_cwS hts ok_X10_isText w_242 rfl rfl ⟨Nat.le_of_ble_eq_true rfl, Nat.le_of_ble_eq_true rfl⟩) ⟨bP.blind, fun U hU hW => ⟨rfl, by rw [hU]; exact hP, kG.warm hW hG⟩⟩ rfl rfl hl.1 rfl (lv_room (Nat.le_of_ble_eq_true rfl)) dX10_erase_1 ⟨Nat.le_of_ble_eq_true rfl, Nat.le_of_ble_eq_true rfl⟩) (fun r hr9 => ?_)
  subst hr9
  refine my_ifeq (tgt := 24) hx hb dX10_erase_4 (by decide) (fun c_4 => ?_) (fun c_4 => ?_)
  · refine lv_bipush (v := (-2)) hx hb dX10_erase_24 (by decide) ?_
    refine W_q9 hQ9 ?_
    exact W.iret (v := (-2)) hx hb hr (fun _ hT9 _ => ⟨⟨_, f, rfl, (⟨TL, cJ_mk (se) (hf) (imf) (mc) (op) (cm) (wu) (mk) (ab) (be) (mn) (le) (wt) (ww) (wb) (wf) (vv) (lf) (tf) (hx0) (hctc) (hhs) (him) (hkp) (hrd) (hmk) (hfc6) (hwt) (hw8) (hw9) (hw10) (hw11) (hvl) (hbk) (hpr) (hpd) (hfr) (hfd) (hor) (hod) (har) (had) (htr) (hct) (hla) (hlaa) (hts0) (htsa) (by omega) (hhf) (him0) (him1) (by omega) (by omega) (by omega) (by omega) (by omega) (by omega) (by omega) (hlf) (htf) (by omega) (hH) (hSp) (hL) (hT) (hB1) (hB2) (hQ), (Or.inl ⟨c_4, rfl, rfl⟩), fun j hj => rfl⟩), by rw [hT9]; exact hP⟩, hS.F hT9⟩) hS.2.2 dX10_erase_26
  · obtain ⟨xn, hxn, rfl⟩ := inB_n (b := 3) (by omega) c_4
    refine lv_aload_n hx hb dX10_erase_7 rfl (lv_at hl 0 rfl) ?_
    refine va_get (D := G.1) (ci := 9) (v := .ref (g 36)) (C := RX10) (T := TX10) (N := 7) hx hb hts inlX10 hown hG.1 hP 0 (wl_at (by decide) hx0) rfl 1 (by decide) (hts (.fieldLink RX10 20 "SwornLists" "book" "LSwornLists$Book;") w_16) (fun _ h9 => h9) rfl dX10_erase_8 ?_
    refine va_getN (D := G.1) (ci := 0) (v := .ref (g 112)) (C := RX0) (T := TX0) (N := 9) (host := RX10) hx hb hts inlX0 hown hG.1 hP 36 (wl_at (by decide) hbk) rfl 6 (by decide) (va_Nw.use rfl (hG.2.1 (.fieldLinkNest RX10 98 RX0 "texts" "LSwornLists$Shelf;" RX10) (List.mem_of_getElem? (i := 9) rfl))) (fun _ h9 => h9) rfl dX10_erase_11 ?_
    refine lv_iload_n hx hb dX10_erase_14 rfl (lv_at hl 1 rfl) ?_
    refine rd_calla (va_runV (As := [.int (nI xn)]) (rest := []) ⟨hx, hb, hml, hown, hts⟩ (w_get l G g hg f 112 4 tf xn hts0 htsa (by first | assumption | omega | decide) (by first | assumption | omega | decide) (by first | assumption | omega | decide) (by first | assumption | omega | decide)) (my_cwV hts ok_X6_get w_245 rfl rfl ⟨Nat.le_of_ble_eq_true rfl, Nat.le_of_ble_eq_true rfl⟩) ⟨bP.blind, va_recv hG.1 hP (ci := 6) (q0 := 112) rfl (wl_at (by decide) hts0), fun U hU hW => ⟨rfl, by rw [hU]; exact hP, kG.warm hW hG⟩⟩ rfl rfl hl.1 rfl (lv_room (Nat.le_of_ble_eq_true rfl)) dX10_erase_15 ⟨Nat.le_of_ble_eq_true rfl, Nat.le_of_ble_eq_true rfl⟩) (fun r hr9 => ?_)
    subst hr9
    refine my_bea (v := .ref (g (3 * xn + 117))) (by rw [show 112 + 3 * xn + 5 = 3 * xn + 117 by omega]) ?_
    obtain ⟨sc7, sp7, htx7, hsx7, hpx7, hln7, hsc7⟩ := hT xn (by omega)
    refine b_calli (va_runV (As := []) (rest := []) ⟨hx, hb, hml, hown, hts⟩ (t_clear l G g hg f (3 * xn + 117) (TL xn) sc7 htx7 (by first | assumption | omega | decide) (by first | assumption | omega | decide) (by first | assumption | omega | decide)) (my_cwV hts ok_X8_clear w_266 rfl rfl ⟨Nat.le_of_ble_eq_true rfl, Nat.le_of_ble_eq_true rfl⟩) ⟨bP.blind, va_recv hG.1 hP (ci := 7) (q0 := (3 * xn + 117)) rfl (wl_at (by omega) htx7), fun U hU hW => ⟨rfl, by rw [hU]; exact hP, kG.warm hW hG⟩⟩ rfl rfl hl.1 rfl (lv_room (Nat.le_of_ble_eq_true rfl)) dX10_erase_18 ⟨Nat.le_of_ble_eq_true rfl, Nat.le_of_ble_eq_true rfl⟩) hS (fun v1 f_1 H locs hq9 hP hS => ?_)
    obtain ⟨rfl, hq_1_0, o_1⟩ := hq9
    have htx7 : f_1 (3 * xn + 117) = eO 7 [.ref (g ((3 * xn + 117) + 1)), .ref (g ((3 * xn + 117) + 2)), .int (nI 0), .int (nI sc7)] := hq_1_0
    refine lv_goto (tgt := 26) hx hb dX10_erase_21 (by decide) ?_
    refine W_q9 hQ9 ?_
    replace hx0 := ((o_1 0 (by first | decide | omega))).trans hx0
    replace hctc := ((o_1 1 (by first | decide | omega))).trans hctc
    replace hhs := ((o_1 12 (by first | decide | omega))).trans hhs
    replace him := ((o_1 2 (by first | decide | omega))).trans him
    replace hkp := ((o_1 3 (by first | decide | omega))).trans hkp
    replace hrd := ((o_1 4 (by first | decide | omega))).trans hrd
    replace hmk := ((o_1 5 (by first | decide | omega))).trans hmk
    replace hfc6 := ((o_1 6 (by first | decide | omega))).trans hfc6
    replace hwt := ((o_1 7 (by first | decide | omega))).trans hwt
    replace hw8 := ((o_1 8 (by first | decide | omega))).trans hw8
    replace hw9 := ((o_1 9 (by first | decide | omega))).trans hw9
    replace hw10 := ((o_1 10 (by first | decide | omega))).trans hw10
    replace hw11 := ((o_1 11 (by first | decide | omega))).trans hw11
    replace hvl := ((o_1 15 (by first | decide | omega))).trans hvl
    replace hbk := ((o_1 36 (by first | decide | omega))).trans hbk
    replace hpr := ((o_1 37 (by first | decide | omega))).trans hpr
    replace hpd := ((o_1 38 (by first | decide | omega))).trans hpd
    replace hfr := ((o_1 39 (by first | decide | omega))).trans hfr
    replace hfd := ((o_1 40 (by first | decide | omega))).trans hfd
    replace hor := ((o_1 41 (by first | decide | omega))).trans hor
    replace hod := ((o_1 42 (by first | decide | omega))).trans hod
    replace har := ((o_1 43 (by first | decide | omega))).trans har
    replace had := ((o_1 44 (by first | decide | omega))).trans had
    replace htr := ((o_1 45 (by first | decide | omega))).trans htr
    replace hct := ((o_1 46 (by first | decide | omega))).trans hct
    replace hla := ((o_1 47 (by first | decide | omega))).trans hla
    replace hlaa := ((o_1 48 (by first | decide | omega))).trans hlaa
    replace hts0 := ((o_1 112 (by first | decide | omega))).trans hts0
    replace htsa := ((o_1 113 (by first | decide | omega))).trans htsa
    replace hsx7 : f_1 (3 * xn + 118) = eI G 50 (TG xn) := ((o_1 (3 * xn + 118) (by omega))).trans hsx7
    replace hpx7 : f_1 (3 * xn + 119) = eI G 50 sp7 := ((o_1 (3 * xn + 119) (by omega))).trans hpx7
    replace hH : ∀ i, i < 10 → okH G g f_1 (2 * i + 16) := fun z hz => okH_fr (hH z hz) (o_1 _ (by omega)) (o_1 _ (by omega))
    replace hSp : okH G g f_1 13 := okH_fr hSp (o_1 _ (by omega)) (o_1 _ (by omega))
    replace hL : ∀ i, i < 20 → ltx G g f_1 (3 * i + 52) (LL i) (LG i) (i < na) := fun z hz => ltx_fr (hL z hz) (o_1 _ (by omega)) (o_1 _ (by omega)) (o_1 _ (by omega))
    replace hB1 : bkD G g f_1 129 N1 E1 P1 L1 S1 W1 X1 := bkD_fr hB1 (fun j _ _ => o_1 j (by omega))
    replace hB2 : bkD G g f_1 222 N2 E2 P2 L2 S2 W2 X2 := bkD_fr hB2 (fun j _ _ => o_1 j (by omega))
    replace hQ : ∀ z, z < se → cHz G g f_1 np nf nr na dp df dr da ct LL LG z := fun z hz => okQ_fr (hQ z hz) (o_1 _ (by omega)) (o_1 _ (by omega))
    exact W.iret (v := nI (TL xn)) hx hb hr (fun _ hT9 _ => ⟨⟨_, f_1, rfl, (⟨(upN TL xn 0), cJ_mk (se) (hf) (imf) (mc) (op) (cm) (wu) (mk) (ab) (be) (mn) (le) (wt) (ww) (wb) (wf) (vv) (lf) (tf) (hx0) (hctc) (hhs) (him) (hkp) (hrd) (hmk) (hfc6) (hwt) (hw8) (hw9) (hw10) (hw11) (hvl) (hbk) (hpr) (hpd) (hfr) (hfd) (hor) (hod) (har) (had) (htr) (hct) (hla) (hlaa) (hts0) (htsa) (by omega) (hhf) (him0) (him1) (by omega) (by omega) (by omega) (by omega) (by omega) (by omega) (by omega) (hlf) (htf) (by omega) (hH) (hSp) (hL) ((fun z hz => if e9 : z = xn then (by rw [e9, upN_s]; exact ⟨_, _, htx7, hsx7, hpx7, by omega, by omega⟩) else (by rw [upN_o e9]; exact txt_fr (hT z hz) (o_1 _ (by omega)) (o_1 _ (by omega)) (o_1 _ (by omega))))) (hB1) (hB2) (hQ), (Or.inr ⟨xn, hxn, rfl, rfl, rfl⟩), fun j hj => (o_1 j (by omega))⟩), by rw [hT9]; exact hP⟩, hS.F hT9⟩) hS.2.2 dX10_erase_26
theorem j_erase (l : Launch) (G : gW) (g : Nat → Nat) (hg : gOK g) (f : Nat → va_E) (np : Nat) (dp : Nat → Int32) (nf : Nat) (df : Nat → Int32) (nr : Nat) (dr : Nat → Int32) (nt : Nat) (ct : Nat → Int32) (pay : Int32) (fine : Int32) (kf : Nat → Int32) (na : Nat) (da : Nat → Int32) (TL : Nat → Nat) (TG : Nat → Nat → Int32) (LL : Nat → Nat) (LG : Nat → Nat → Int32) (N1 : Nat → Nat) (E1 : Nat → Nat → Int32) (P1 : Nat → Int32) (L1 : Nat → Nat) (S1 : Nat → Nat → Int32) (W1 : Nat → Nat) (X1 : Nat → Nat → Int32) (N2 : Nat → Nat) (E2 : Nat → Nat → Int32) (P2 : Nat → Int32) (L2 : Nat → Nat) (S2 : Nat → Nat → Int32) (W2 : Nat → Nat) (X2 : Nat → Nat → Int32) (a1 : Int32) (hI : cJ G g f np dp nf df nr dr nt ct pay fine kf na da TL TG LL LG N1 E1 P1 L1 S1 W1 X1 N2 E2 P2 L2 S2 W2 X2) (hTr : trC ct nt) : Met l yX10_erase (wsT yX10_erase cX10_erase 2 (some .int)) ({ frames := 2, cells := 0, slots := 0, locals := 42 }) (bP G g f [.ref (g 0), .int a1]) (bQi G g (fun (z9 : Int32) (f' : Nat → va_E) => ∃ TL9 : Nat → Nat, (cJ G g f' np dp nf df nr dr nt ct pay fine kf na da TL9 TG LL LG N1 E1 P1 L1 S1 W1 X1 N2 E2 P2 L2 S2 W2 X2) ∧ ((¬ inB 0 a1 3 = true ∧ z9 = -2 ∧ TL9 = TL) ∨ (∃ x, x ≤ 3 ∧ a1 = nI x ∧ z9 = nI (TL x) ∧ TL9 = upN TL x 0)) ∧ ∀ j, 315 ≤ j → f' j = f j)) 0 0 (gA g) := cJ_elim hI (fun se hf imf mc op cm wu mk ab be mn le wt ww wb wf vv lf tf hx0 hctc hhs him hkp hrd hmk hfc6 hwt hw8 hw9 hw10 hw11 hvl hbk hpr hpd hfr hfd hor hod har had htr hct hla hlaa hts0 htsa hse hhf him0 him1 hmc hmn hnp hnf hnr hna hnt hlf htf hsn hH hSp hL hT hB1 hB2 hQ => jn_erase l G g hg f se hf imf kf mc op cm wu mk ab be mn le wt ww wb wf vv pay fine np dp nf df nr dr na da nt ct lf tf TL TG LL LG N1 E1 P1 L1 S1 W1 X1 N2 E2 P2 L2 S2 W2 X2 a1 hx0 hctc hhs him hkp hrd hmk hfc6 hwt hw8 hw9 hw10 hw11 hvl hbk hpr hpd hfr hfd hor hod har had htr hct hla hlaa hts0 htsa hse hhf him0 him1 hmc hmn hnp hnf hnr hna hnt hlf htf hsn hTr hH hSp hL hT hB1 hB2 hQ)
set_option maxHeartbeats 4000000 in
set_option maxRecDepth 100000 in
theorem jn_fault (l : Launch) (G : gW) (g : Nat → Nat) (hg : gOK g) (f : Nat → va_E) (se : Nat) (hf : Nat → Option Nat) (imf : Nat → Option Nat) (kf : Nat → Int32) (mc : Nat) (op : Int32) (cm : Int32) (wu : Int32) (mk : Nat → Int32) (ab : Int64) (be : Int64) (mn : Nat) (le : Int32) (wt : Nat → Int32) (ww : Nat → Int32) (wb : Nat → Int32) (wf : Nat → Int32) (vv : Nat → Int64) (pay : Int32) (fine : Int32) (np : Nat) (dp : Nat → Int32) (nf : Nat) (df : Nat → Int32) (nr : Nat) (dr : Nat → Int32) (na : Nat) (da : Nat → Int32) (nt : Nat) (ct : Nat → Int32) (lf : Nat → Option Nat) (tf : Nat → Option Nat) (TL : Nat → Nat) (TG : Nat → Nat → Int32) (LL : Nat → Nat) (LG : Nat → Nat → Int32) (N1 : Nat → Nat) (E1 : Nat → Nat → Int32) (P1 : Nat → Int32) (L1 : Nat → Nat) (S1 : Nat → Nat → Int32) (W1 : Nat → Nat) (X1 : Nat → Nat → Int32) (N2 : Nat → Nat) (E2 : Nat → Nat → Int32) (P2 : Nat → Int32) (L2 : Nat → Nat) (S2 : Nat → Nat → Int32) (W2 : Nat → Nat) (X2 : Nat → Nat → Int32) (a1 : Int32) (hx0 : f 0 = eO 9 [.ref (g 1), .ref (g 36), .ref (g 2), .ref (g 3), .ref (g 4), .ref (g 6), .ref (g 7)]) (hctc : f 1 = eO 1 [.ref (g 36), .ref (g 12), .ref (g 13), .ref (g 15), .int (nI se)]) (hhs : f 12 = eA G 4 10 hf) (him : f 2 = eA G 3 2 imf) (hkp : f 3 = eZ G 2 kf) (hrd : f 4 = eO 4 [.ref (g 5), .int (nI mc), .int op, .int cm, .int wu]) (hmk : f 5 = eI G 50 mk) (hfc6 : f 6 = eO 2 [.long ab, .long be]) (hwt : f 7 = eO 8 [.ref (g 8), .ref (g 9), .ref (g 10), .ref (g 11), .int (nI mn), .int le]) (hw8 : f 8 = eI G 6 wt) (hw9 : f 9 = eI G 6 ww) (hw10 : f 10 = eI G 6 wb) (hw11 : f 11 = eI G 6 wf) (hvl : f 15 = eJ G 50 vv) (hbk : f 36 = eO 0 [.ref (g 37), .ref (g 39), .ref (g 41), .ref (g 43), .ref (g 45), .ref (g 47), .ref (g 112), .int pay, .int fine]) (hpr : f 37 = eO 5 [.int (nI 30), .int (nI 4), .ref (g 38), .int (nI np)]) (hpd : f 38 = eI G (30 * 4) dp) (hfr : f 39 = eO 5 [.int (nI 40), .int (nI 3), .ref (g 40), .int (nI nf)]) (hfd : f 40 = eI G (40 * 3) df) (hor : f 41 = eO 5 [.int (nI 4), .int (nI 3), .ref (g 42), .int (nI nr)]) (hod : f 42 = eI G (4 * 3) dr) (har : f 43 = eO 5 [.int (nI 20), .int (nI 3), .ref (g 44), .int (nI na)]) (had : f 44 = eI G (20 * 3) da) (htr : f 45 = eO 5 [.int (nI 10), .int (nI 70), .ref (g 46), .int (nI nt)]) (hct : f 46 = eI G (10 * 70) ct) (hla : f 47 = eO 6 [.ref (g 48), .ref (g 49)]) (hlaa : f 48 = eA G 5 20 lf) (hts0 : f 112 = eO 6 [.ref (g 113), .ref (g 114)]) (htsa : f 113 = eA G 5 4 tf) (hse : se ≤ 10) (hhf : ∀ i, i < 10 → hf i = some (g (2 * i + 16))) (him0 : imf 0 = some (g 129)) (him1 : imf 1 = some (g 222)) (hmc : mc ≤ 50) (hmn : mn ≤ 6) (hnp : np ≤ 30) (hnf : nf ≤ 40) (hnr : nr ≤ 4) (hna : na ≤ 20) (hnt : nt ≤ 10) (hlf : ∀ z, z < 20 → lf z = some (g (47 + 3 * z + 5))) (htf : ∀ z, z < 4 → tf z = some (g (112 + 3 * z + 5))) (hsn : se ≤ nt) (hTr : trC ct nt) (hH : ∀ i, i < 10 → okH G g f (2 * i + 16)) (hSp : okH G g f 13) (hL : ∀ i, i < 20 → ltx G g f (3 * i + 52) (LL i) (LG i) (i < na)) (hT : ∀ i, i < 4 → txt G g f (3 * i + 117) (TL i) (TG i)) (hB1 : bkD G g f 129 N1 E1 P1 L1 S1 W1 X1) (hB2 : bkD G g f 222 N2 E2 P2 L2 S2 W2 X2) (hQ : ∀ z, z < se → cHz G g f np nf nr na dp df dr da ct LL LG z) : Met l yX10_fault (wsT yX10_fault cX10_fault 2 (some .int)) ({ frames := 5, cells := 0, slots := 0, locals := 112 }) (bP G g f [.ref (g 0), .int a1]) (bQi G g (fun (z9 : Int32) (f' : Nat → va_E) => (cJ G g f' np dp nf df nr dr nt ct pay fine kf na da TL TG LL LG N1 E1 P1 L1 S1 W1 X1 N2 E2 P2 L2 S2 W2 X2) ∧ ((¬ inB 0 a1 3 = true ∧ z9 = -2) ∨ (∃ x, x ≤ 3 ∧ a1 = nI x ∧ z9 = rdA (TL x) (TG x))) ∧ ∀ j, 315 ≤ j → f' j = f j)) 0 0 (gA g) := by
  refine Met.ofW (cc := cX10_fault) (maxL := 2) (ret := (some .int)) (by decide) rfl ?_
  intro p e s m args below meth c s₁ B hml hv
  obtain ⟨rfl, hP, hG⟩ := hv
  have hx := B.exec
  have hb := B.bytes
  have hr := B.returns
  have hts := my_hts (atoms_spec (ws := wsT yX10_fault cX10_fault 2 (some .int)) B.pre)
  have hown : s.vm.findClass RX10 = some m.cls := findClass_of_methodNamed B.named
  have hlocks := B.notSynchronized
  have hS : va_S (gA g) s.heap s.heap [] := va_S.rf
  have hl := lv_entry ([.ref (g 0), .int a1]) (n := 2) (Nat.le_of_ble_eq_true rfl)
  rw [lg_entry_eq]
  generalize (lg_sl ([.ref (g 0), .int a1]) ++ List.replicate (2 - (lg_sl ([.ref (g 0), .int a1])).length) Slot.unset).toArray = ls at hl ⊢
  have hl : lv_has ls 2 [(0, .ref (g 0)), (1, .int a1)] := hl
  refine W_q8 (fun Q9 hQ9 => ?_)
  refine lv_iload_n hx hb dX10_fault_0 rfl (lv_at hl 1 rfl) ?_
  refine rd_calli (va_runS (As := [.int a1]) (rest := []) ⟨hx, hb, hml, hown, hts⟩ (s_isText l G g hg f a1  ) (my_cwS hts ok_X10_isText w_242 rfl rfl ⟨Nat.le_of_ble_eq_true rfl, Nat.le_of_ble_eq_true rfl⟩) ⟨bP.blind, fun U hU hW => ⟨rfl, by rw [hU]; exact hP, kG.warm hW hG⟩⟩ rfl rfl hl.1 rfl (lv_room (Nat.le_of_ble_eq_true rfl)) dX10_fault_1 ⟨Nat.le_of_ble_eq_true rfl, Nat.le_of_ble_eq_true rfl⟩) (fun r hr9 => ?_)
  subst hr9
  refine my_ifeq (tgt := 28) hx hb dX10_fault_4 (by decide) (fun c_4 => ?_) (fun c_4 => ?_)
  · refine lv_bipush (v := (-2)) hx hb dX10_fault_28 (by decide) ?_
    refine W_q9 hQ9 ?_
    exact W.iret (v := (-2)) hx hb hr (fun _ hT9 _ => ⟨⟨_, f, rfl, (⟨cJ_mk (se) (hf) (imf) (mc) (op) (cm) (wu) (mk) (ab) (be) (mn) (le) (wt) (ww) (wb) (wf) (vv) (lf) (tf) (hx0) (hctc) (hhs) (him) (hkp) (hrd) (hmk) (hfc6) (hwt) (hw8) (hw9) (hw10) (hw11) (hvl) (hbk) (hpr) (hpd) (hfr) (hfd) (hor) (hod) (har) (had) (htr) (hct) (hla) (hlaa) (hts0) (htsa) (by omega) (hhf) (him0) (him1) (by omega) (by omega) (by omega) (by omega) (by omega) (by omega) (by omega) (hlf) (htf) (by omega) (hH) (hSp) (hL) (hT) (hB1) (hB2) (hQ), (Or.inl ⟨c_4, rfl⟩), fun j hj => rfl⟩), by rw [hT9]; exact hP⟩, hS.F hT9⟩) hS.2.2 dX10_fault_30
  · obtain ⟨xn, hxn, rfl⟩ := inB_n (b := 3) (by omega) c_4
    refine lv_aload_n hx hb dX10_fault_7 rfl (lv_at hl 0 rfl) ?_
    refine va_get (D := G.1) (ci := 9) (v := .ref (g 4)) (C := RX10) (T := TX10) (N := 7) hx hb hts inlX10 hown hG.1 hP 0 (wl_at (by decide) hx0) rfl 4 (by decide) (hts (.fieldLink RX10 34 "SwornLists" "reader" "LSwornLists$Reader;") w_24) (fun _ h9 => h9) rfl dX10_fault_8 ?_
    refine lv_aload_n hx hb dX10_fault_11 rfl (lv_at hl 0 rfl) ?_
    refine va_get (D := G.1) (ci := 9) (v := .ref (g 36)) (C := RX10) (T := TX10) (N := 7) hx hb hts inlX10 hown hG.1 hP 0 (wl_at (by decide) hx0) rfl 1 (by decide) (hts (.fieldLink RX10 20 "SwornLists" "book" "LSwornLists$Book;") w_16) (fun _ h9 => h9) rfl dX10_fault_12 ?_
    refine va_getN (D := G.1) (ci := 0) (v := .ref (g 112)) (C := RX0) (T := TX0) (N := 9) (host := RX10) hx hb hts inlX0 hown hG.1 hP 36 (wl_at (by decide) hbk) rfl 6 (by decide) (va_Nw.use rfl (hG.2.1 (.fieldLinkNest RX10 98 RX0 "texts" "LSwornLists$Shelf;" RX10) (List.mem_of_getElem? (i := 9) rfl))) (fun _ h9 => h9) rfl dX10_fault_15 ?_
    refine lv_iload_n hx hb dX10_fault_18 rfl (lv_at hl 1 rfl) ?_
    refine rd_calla (va_runV (As := [.int (nI xn)]) (rest := [.ref (g 4)]) ⟨hx, hb, hml, hown, hts⟩ (w_get l G g hg f 112 4 tf xn hts0 htsa (by first | assumption | omega | decide) (by first | assumption | omega | decide) (by first | assumption | omega | decide) (by first | assumption | omega | decide)) (my_cwV hts ok_X6_get w_245 rfl rfl ⟨Nat.le_of_ble_eq_true rfl, Nat.le_of_ble_eq_true rfl⟩) ⟨bP.blind, va_recv hG.1 hP (ci := 6) (q0 := 112) rfl (wl_at (by decide) hts0), fun U hU hW => ⟨rfl, by rw [hU]; exact hP, kG.warm hW hG⟩⟩ rfl rfl hl.1 rfl (lv_room (Nat.le_of_ble_eq_true rfl)) dX10_fault_19 ⟨Nat.le_of_ble_eq_true rfl, Nat.le_of_ble_eq_true rfl⟩) (fun r hr9 => ?_)
    subst hr9
    refine my_bea (v := .ref (g (3 * xn + 117))) (by rw [show 112 + 3 * xn + 5 = 3 * xn + 117 by omega]) ?_
    obtain ⟨sc7, sp7, htx7, hsx7, hpx7, hln7, hsc7⟩ := hT xn (by omega)
    refine b_calli (va_runV (As := [.ref (g (3 * xn + 117))]) (rest := []) ⟨hx, hb, hml, hown, hts⟩ (e_readE l G g hg f (3 * xn + 117) (TL xn) sc7 (TG xn) sp7 mc op cm wu mk hrd hmk htx7 hsx7 hpx7 (by first | assumption | omega | decide) (by first | assumption | omega | decide) (by first | assumption | omega | decide) (by first | assumption | omega | decide) (by first | assumption | omega | decide)) (my_cwV hts ok_X4_read w_278 rfl rfl ⟨Nat.le_of_ble_eq_true rfl, Nat.le_of_ble_eq_true rfl⟩) ⟨bP.blind, va_recv hG.1 hP (ci := 4) (q0 := 4) rfl (wl_at (by decide) hrd), fun U hU hW => ⟨rfl, by rw [hU]; exact hP, kG.warm hW hG⟩⟩ rfl rfl hl.1 rfl (lv_room (Nat.le_of_ble_eq_true rfl)) dX10_fault_22 ⟨Nat.le_of_ble_eq_true rfl, Nat.le_of_ble_eq_true rfl⟩) hS (fun v1 f_1 H locs hq9 hP hS => ?_)
    obtain ⟨mc92, op93, cm94, wu95, mk96, sc97, sp98, rfl, hq_1_0, hq_1_1, hq_1_2, hq_1_3, hx_1_0, hx_1_1, hx_1_2, o_1⟩ := hq9
    have hrd : f_1 4 = eO 4 [.ref (g 5), .int (nI mc92), .int op93, .int cm94, .int wu95] := hq_1_0
    have hmk : f_1 5 = eI G 50 mk96 := hq_1_1
    have htx7 : f_1 (3 * xn + 117) = eO 7 [.ref (g ((3 * xn + 117) + 1)), .ref (g ((3 * xn + 117) + 2)), .int (nI (TL xn)), .int (nI sc97)] := hq_1_2
    have hpx7 : f_1 (3 * xn + 119) = eI G 50 sp98 := hq_1_3
    replace hsx7 : f_1 (3 * xn + 118) = eI G 50 (TG xn) := ((o_1 (3 * xn + 118) (by omega))).trans hsx7
    have hT : ∀ i, i < 4 → txt G g f_1 (3 * i + 117) (TL i) (TG i) := fun z hz => if e9 : z = xn then (by rw [e9]; exact ⟨_, _, htx7, hsx7, hpx7, by omega, by omega⟩) else txt_fr (hT z hz) (o_1 _ (by omega)) (o_1 _ (by omega)) (o_1 _ (by omega))
    refine lv_goto (tgt := 30) hx hb dX10_fault_25 (by decide) ?_
    refine W_q9 hQ9 ?_
    replace hx0 := ((o_1 0 (by first | decide | omega))).trans hx0
    replace hctc := ((o_1 1 (by first | decide | omega))).trans hctc
    replace hhs := ((o_1 12 (by first | decide | omega))).trans hhs
    replace him := ((o_1 2 (by first | decide | omega))).trans him
    replace hkp := ((o_1 3 (by first | decide | omega))).trans hkp
    replace hfc6 := ((o_1 6 (by first | decide | omega))).trans hfc6
    replace hwt := ((o_1 7 (by first | decide | omega))).trans hwt
    replace hw8 := ((o_1 8 (by first | decide | omega))).trans hw8
    replace hw9 := ((o_1 9 (by first | decide | omega))).trans hw9
    replace hw10 := ((o_1 10 (by first | decide | omega))).trans hw10
    replace hw11 := ((o_1 11 (by first | decide | omega))).trans hw11
    replace hvl := ((o_1 15 (by first | decide | omega))).trans hvl
    replace hbk := ((o_1 36 (by first | decide | omega))).trans hbk
    replace hpr := ((o_1 37 (by first | decide | omega))).trans hpr
    replace hpd := ((o_1 38 (by first | decide | omega))).trans hpd
    replace hfr := ((o_1 39 (by first | decide | omega))).trans hfr
    replace hfd := ((o_1 40 (by first | decide | omega))).trans hfd
    replace hor := ((o_1 41 (by first | decide | omega))).trans hor
    replace hod := ((o_1 42 (by first | decide | omega))).trans hod
    replace har := ((o_1 43 (by first | decide | omega))).trans har
    replace had := ((o_1 44 (by first | decide | omega))).trans had
    replace htr := ((o_1 45 (by first | decide | omega))).trans htr
    replace hct := ((o_1 46 (by first | decide | omega))).trans hct
    replace hla := ((o_1 47 (by first | decide | omega))).trans hla
    replace hlaa := ((o_1 48 (by first | decide | omega))).trans hlaa
    replace hts0 := ((o_1 112 (by first | decide | omega))).trans hts0
    replace htsa := ((o_1 113 (by first | decide | omega))).trans htsa
    replace hH : ∀ i, i < 10 → okH G g f_1 (2 * i + 16) := fun z hz => okH_fr (hH z hz) (o_1 _ (by omega)) (o_1 _ (by omega))
    replace hSp : okH G g f_1 13 := okH_fr hSp (o_1 _ (by omega)) (o_1 _ (by omega))
    replace hL : ∀ i, i < 20 → ltx G g f_1 (3 * i + 52) (LL i) (LG i) (i < na) := fun z hz => ltx_fr (hL z hz) (o_1 _ (by omega)) (o_1 _ (by omega)) (o_1 _ (by omega))
    replace hB1 : bkD G g f_1 129 N1 E1 P1 L1 S1 W1 X1 := bkD_fr hB1 (fun j _ _ => o_1 j (by omega))
    replace hB2 : bkD G g f_1 222 N2 E2 P2 L2 S2 W2 X2 := bkD_fr hB2 (fun j _ _ => o_1 j (by omega))
    replace hQ : ∀ z, z < se → cHz G g f_1 np nf nr na dp df dr da ct LL LG z := fun z hz => okQ_fr (hQ z hz) (o_1 _ (by omega)) (o_1 _ (by omega))
    exact W.iret (v := rdA (TL xn) (TG xn)) hx hb hr (fun _ hT9 _ => ⟨⟨_, f_1, rfl, (⟨cJ_mk (se) (hf) (imf) (mc92) (op93) (cm94) (wu95) (mk96) (ab) (be) (mn) (le) (wt) (ww) (wb) (wf) (vv) (lf) (tf) (hx0) (hctc) (hhs) (him) (hkp) (hrd) (hmk) (hfc6) (hwt) (hw8) (hw9) (hw10) (hw11) (hvl) (hbk) (hpr) (hpd) (hfr) (hfd) (hor) (hod) (har) (had) (htr) (hct) (hla) (hlaa) (hts0) (htsa) (by omega) (hhf) (him0) (him1) (by omega) (by omega) (by omega) (by omega) (by omega) (by omega) (by omega) (hlf) (htf) (by omega) (hH) (hSp) (hL) (hT) (hB1) (hB2) (hQ), (Or.inr ⟨xn, hxn, rfl, rfl⟩), fun j hj => (o_1 j (by omega))⟩), by rw [hT9]; exact hP⟩, hS.F hT9⟩) hS.2.2 dX10_fault_30
theorem j_fault (l : Launch) (G : gW) (g : Nat → Nat) (hg : gOK g) (f : Nat → va_E) (np : Nat) (dp : Nat → Int32) (nf : Nat) (df : Nat → Int32) (nr : Nat) (dr : Nat → Int32) (nt : Nat) (ct : Nat → Int32) (pay : Int32) (fine : Int32) (kf : Nat → Int32) (na : Nat) (da : Nat → Int32) (TL : Nat → Nat) (TG : Nat → Nat → Int32) (LL : Nat → Nat) (LG : Nat → Nat → Int32) (N1 : Nat → Nat) (E1 : Nat → Nat → Int32) (P1 : Nat → Int32) (L1 : Nat → Nat) (S1 : Nat → Nat → Int32) (W1 : Nat → Nat) (X1 : Nat → Nat → Int32) (N2 : Nat → Nat) (E2 : Nat → Nat → Int32) (P2 : Nat → Int32) (L2 : Nat → Nat) (S2 : Nat → Nat → Int32) (W2 : Nat → Nat) (X2 : Nat → Nat → Int32) (a1 : Int32) (hI : cJ G g f np dp nf df nr dr nt ct pay fine kf na da TL TG LL LG N1 E1 P1 L1 S1 W1 X1 N2 E2 P2 L2 S2 W2 X2) (hTr : trC ct nt) : Met l yX10_fault (wsT yX10_fault cX10_fault 2 (some .int)) ({ frames := 5, cells := 0, slots := 0, locals := 112 }) (bP G g f [.ref (g 0), .int a1]) (bQi G g (fun (z9 : Int32) (f' : Nat → va_E) => (cJ G g f' np dp nf df nr dr nt ct pay fine kf na da TL TG LL LG N1 E1 P1 L1 S1 W1 X1 N2 E2 P2 L2 S2 W2 X2) ∧ ((¬ inB 0 a1 3 = true ∧ z9 = -2) ∨ (∃ x, x ≤ 3 ∧ a1 = nI x ∧ z9 = rdA (TL x) (TG x))) ∧ ∀ j, 315 ≤ j → f' j = f j)) 0 0 (gA g) := cJ_elim hI (fun se hf imf mc op cm wu mk ab be mn le wt ww wb wf vv lf tf hx0 hctc hhs him hkp hrd hmk hfc6 hwt hw8 hw9 hw10 hw11 hvl hbk hpr hpd hfr hfd hor hod har had htr hct hla hlaa hts0 htsa hse hhf him0 him1 hmc hmn hnp hnf hnr hna hnt hlf htf hsn hH hSp hL hT hB1 hB2 hQ => jn_fault l G g hg f se hf imf kf mc op cm wu mk ab be mn le wt ww wb wf vv pay fine np dp nf df nr dr na da nt ct lf tf TL TG LL LG N1 E1 P1 L1 S1 W1 X1 N2 E2 P2 L2 S2 W2 X2 a1 hx0 hctc hhs him hkp hrd hmk hfc6 hwt hw8 hw9 hw10 hw11 hvl hbk hpr hpd hfr hfd hor hod har had htr hct hla hlaa hts0 htsa hse hhf him0 him1 hmc hmn hnp hnf hnr hna hnt hlf htf hsn hTr hH hSp hL hT hB1 hB2 hQ)
set_option maxHeartbeats 4000000 in
set_option maxRecDepth 100000 in
theorem jn_tells (l : Launch) (G : gW) (g : Nat → Nat) (hg : gOK g) (f : Nat → va_E) (se : Nat) (hf : Nat → Option Nat) (imf : Nat → Option Nat) (kf : Nat → Int32) (mc : Nat) (op : Int32) (cm : Int32) (wu : Int32) (mk : Nat → Int32) (ab : Int64) (be : Int64) (mn : Nat) (le : Int32) (wt : Nat → Int32) (ww : Nat → Int32) (wb : Nat → Int32) (wf : Nat → Int32) (vv : Nat → Int64) (pay : Int32) (fine : Int32) (np : Nat) (dp : Nat → Int32) (nf : Nat) (df : Nat → Int32) (nr : Nat) (dr : Nat → Int32) (na : Nat) (da : Nat → Int32) (nt : Nat) (ct : Nat → Int32) (lf : Nat → Option Nat) (tf : Nat → Option Nat) (TL : Nat → Nat) (TG : Nat → Nat → Int32) (LL : Nat → Nat) (LG : Nat → Nat → Int32) (N1 : Nat → Nat) (E1 : Nat → Nat → Int32) (P1 : Nat → Int32) (L1 : Nat → Nat) (S1 : Nat → Nat → Int32) (W1 : Nat → Nat) (X1 : Nat → Nat → Int32) (N2 : Nat → Nat) (E2 : Nat → Nat → Int32) (P2 : Nat → Int32) (L2 : Nat → Nat) (S2 : Nat → Nat → Int32) (W2 : Nat → Nat) (X2 : Nat → Nat → Int32) (a1 : Int32) (a2 : Int32) (a3 : Int32) (hx0 : f 0 = eO 9 [.ref (g 1), .ref (g 36), .ref (g 2), .ref (g 3), .ref (g 4), .ref (g 6), .ref (g 7)]) (hctc : f 1 = eO 1 [.ref (g 36), .ref (g 12), .ref (g 13), .ref (g 15), .int (nI se)]) (hhs : f 12 = eA G 4 10 hf) (him : f 2 = eA G 3 2 imf) (hkp : f 3 = eZ G 2 kf) (hrd : f 4 = eO 4 [.ref (g 5), .int (nI mc), .int op, .int cm, .int wu]) (hmk : f 5 = eI G 50 mk) (hfc6 : f 6 = eO 2 [.long ab, .long be]) (hwt : f 7 = eO 8 [.ref (g 8), .ref (g 9), .ref (g 10), .ref (g 11), .int (nI mn), .int le]) (hw8 : f 8 = eI G 6 wt) (hw9 : f 9 = eI G 6 ww) (hw10 : f 10 = eI G 6 wb) (hw11 : f 11 = eI G 6 wf) (hvl : f 15 = eJ G 50 vv) (hbk : f 36 = eO 0 [.ref (g 37), .ref (g 39), .ref (g 41), .ref (g 43), .ref (g 45), .ref (g 47), .ref (g 112), .int pay, .int fine]) (hpr : f 37 = eO 5 [.int (nI 30), .int (nI 4), .ref (g 38), .int (nI np)]) (hpd : f 38 = eI G (30 * 4) dp) (hfr : f 39 = eO 5 [.int (nI 40), .int (nI 3), .ref (g 40), .int (nI nf)]) (hfd : f 40 = eI G (40 * 3) df) (hor : f 41 = eO 5 [.int (nI 4), .int (nI 3), .ref (g 42), .int (nI nr)]) (hod : f 42 = eI G (4 * 3) dr) (har : f 43 = eO 5 [.int (nI 20), .int (nI 3), .ref (g 44), .int (nI na)]) (had : f 44 = eI G (20 * 3) da) (htr : f 45 = eO 5 [.int (nI 10), .int (nI 70), .ref (g 46), .int (nI nt)]) (hct : f 46 = eI G (10 * 70) ct) (hla : f 47 = eO 6 [.ref (g 48), .ref (g 49)]) (hlaa : f 48 = eA G 5 20 lf) (hts0 : f 112 = eO 6 [.ref (g 113), .ref (g 114)]) (htsa : f 113 = eA G 5 4 tf) (hse : se ≤ 10) (hhf : ∀ i, i < 10 → hf i = some (g (2 * i + 16))) (him0 : imf 0 = some (g 129)) (him1 : imf 1 = some (g 222)) (hmc : mc ≤ 50) (hmn : mn ≤ 6) (hnp : np ≤ 30) (hnf : nf ≤ 40) (hnr : nr ≤ 4) (hna : na ≤ 20) (hnt : nt ≤ 10) (hlf : ∀ z, z < 20 → lf z = some (g (47 + 3 * z + 5))) (htf : ∀ z, z < 4 → tf z = some (g (112 + 3 * z + 5))) (hsn : se ≤ nt) (hTr : trC ct nt) (hH : ∀ i, i < 10 → okH G g f (2 * i + 16)) (hSp : okH G g f 13) (hL : ∀ i, i < 20 → ltx G g f (3 * i + 52) (LL i) (LG i) (i < na)) (hT : ∀ i, i < 4 → txt G g f (3 * i + 117) (TL i) (TG i)) (hB1 : bkD G g f 129 N1 E1 P1 L1 S1 W1 X1) (hB2 : bkD G g f 222 N2 E2 P2 L2 S2 W2 X2) (hQ : ∀ z, z < se → cHz G g f np nf nr na dp df dr da ct LL LG z) : Met l yX10_tells (wsT yX10_tells cX10_tells 5 (some .long)) ({ frames := 7, cells := 0, slots := 0, locals := 176 }) (bP G g f [.ref (g 0), .int a1, .int a2, .int a3]) (bQl G g (fun (z9 : Int64) (f' : Nat → va_E) => (cJ G g f' np dp nf df nr dr nt ct pay fine kf na da TL TG LL LG N1 E1 P1 L1 S1 W1 X1 N2 E2 P2 L2 S2 W2 X2) ∧ ((¬ (inB 0 a1 3 = true ∧ inN a2 np = true ∧ inB 0 a3 9999 = true) ∧ z9 = -2000000000000000000) ∨ (∃ x po, x ≤ 3 ∧ a1 = nI x ∧ po < np ∧ a2 = nI po ∧ inB 0 a3 9999 = true ∧ ((¬ rdA (TL x) (TG x) = -1 ∧ z9 = -3000000000000000000) ∨ (rdA (TL x) (TG x) = -1 ∧ z9 = (ev (nvF (fun i c => dp (4 * i + c)) (fun t c => ct (70 * t + c)) (cJr np nf nr na dp df dr da ct LL LG) a3 nt po) (rdO (TL x) (TG x))).headD 0)))) ∧ ∀ j, 315 ≤ j → f' j = f j)) 0 0 (gA g) := by
  refine Met.ofW (cc := cX10_tells) (maxL := 5) (ret := (some .long)) (by decide) rfl ?_
  intro p e s m args below meth c s₁ B hml hv
  obtain ⟨rfl, hP, hG⟩ := hv
  have hx := B.exec
  have hb := B.bytes
  have hr := B.returns
  have hts := my_hts (atoms_spec (ws := wsT yX10_tells cX10_tells 5 (some .long)) B.pre)
  have hown : s.vm.findClass RX10 = some m.cls := findClass_of_methodNamed B.named
  have hlocks := B.notSynchronized
  have hS : va_S (gA g) s.heap s.heap [] := va_S.rf
  have hl := lv_entry ([.ref (g 0), .int a1, .int a2, .int a3]) (n := 5) (Nat.le_of_ble_eq_true rfl)
  rw [lg_entry_eq]
  generalize (lg_sl ([.ref (g 0), .int a1, .int a2, .int a3]) ++ List.replicate (5 - (lg_sl ([.ref (g 0), .int a1, .int a2, .int a3])).length) Slot.unset).toArray = ls at hl ⊢
  have hl : lv_has ls 5 [(0, .ref (g 0)), (1, .int a1), (2, .int a2), (3, .int a3)] := hl
  refine W_q8 (fun Q9 hQ9 => ?_)
  refine lv_iload_n hx hb dX10_tells_0 rfl (lv_at hl 1 rfl) ?_
  refine rd_calli (va_runS (As := [.int a1]) (rest := []) ⟨hx, hb, hml, hown, hts⟩ (s_isText l G g hg f a1  ) (my_cwS hts ok_X10_isText w_242 rfl rfl ⟨Nat.le_of_ble_eq_true rfl, Nat.le_of_ble_eq_true rfl⟩) ⟨bP.blind, fun U hU hW => ⟨rfl, by rw [hU]; exact hP, kG.warm hW hG⟩⟩ rfl rfl hl.1 rfl (lv_room (Nat.le_of_ble_eq_true rfl)) dX10_tells_1 ⟨Nat.le_of_ble_eq_true rfl, Nat.le_of_ble_eq_true rfl⟩) (fun r hr9 => ?_)
  subst hr9
  refine my_ifeq (tgt := 28) hx hb dX10_tells_4 (by decide) (fun c_4 => ?_) (fun c_4 => ?_)
  · refine lv_ldc2 (v := (-2000000000000000000)) hx hb hown (hts (.constantLong RX10 120 (-2000000000000000000)) w_382) dX10_tells_28 ?_
    refine W_q9 hQ9 ?_
    exact W.lret (v := (-2000000000000000000)) hx hb hr (fun _ hT9 _ => ⟨⟨_, f, rfl, (⟨cJ_mk (se) (hf) (imf) (mc) (op) (cm) (wu) (mk) (ab) (be) (mn) (le) (wt) (ww) (wb) (wf) (vv) (lf) (tf) (hx0) (hctc) (hhs) (him) (hkp) (hrd) (hmk) (hfc6) (hwt) (hw8) (hw9) (hw10) (hw11) (hvl) (hbk) (hpr) (hpd) (hfr) (hfd) (hor) (hod) (har) (had) (htr) (hct) (hla) (hlaa) (hts0) (htsa) (by omega) (hhf) (him0) (him1) (by omega) (by omega) (by omega) (by omega) (by omega) (by omega) (by omega) (hlf) (htf) (by omega) (hH) (hSp) (hL) (hT) (hB1) (hB2) (hQ), (Or.inl ⟨fun z => c_4 z.1, rfl⟩), fun j hj => rfl⟩), by rw [hT9]; exact hP⟩, hS.F hT9⟩) hS.2.2 dX10_tells_31
  · refine lv_aload_n hx hb dX10_tells_7 rfl (lv_at hl 0 rfl) ?_
    refine va_get (D := G.1) (ci := 9) (v := .ref (g 36)) (C := RX10) (T := TX10) (N := 7) hx hb hts inlX10 hown hG.1 hP 0 (wl_at (by decide) hx0) rfl 1 (by decide) (hts (.fieldLink RX10 20 "SwornLists" "book" "LSwornLists$Book;") w_16) (fun _ h9 => h9) rfl dX10_tells_8 ?_
    refine va_getN (D := G.1) (ci := 0) (v := .ref (g 37)) (C := RX0) (T := TX0) (N := 9) (host := RX10) hx hb hts inlX0 hown hG.1 hP 36 (wl_at (by decide) hbk) rfl 0 (by decide) (va_Nw.use rfl (hG.2.1 (.fieldLinkNest RX10 57 RX0 "people" "LSwornLists$Rows;" RX10) (List.mem_of_getElem? (i := 0) rfl))) (fun _ h9 => h9) rfl dX10_tells_11 ?_
    refine lv_iload_n hx hb dX10_tells_14 rfl (lv_at hl 2 rfl) ?_
    refine rd_calli (va_runV (As := [.int a2]) (rest := []) ⟨hx, hb, hml, hown, hts⟩ (r_has l G g hg f 37 30 4 np a2 hpr (by first | assumption | omega | decide) (by first | assumption | omega | decide) (by first | assumption | omega | decide) (by first | assumption | omega | decide)) (my_cwV hts ok_X5_has w_174 rfl rfl ⟨Nat.le_of_ble_eq_true rfl, Nat.le_of_ble_eq_true rfl⟩) ⟨bP.blind, va_recv hG.1 hP (ci := 5) (q0 := 37) rfl (wl_at (by decide) hpr), fun U hU hW => ⟨rfl, by rw [hU]; exact hP, kG.warm hW hG⟩⟩ rfl rfl hl.1 rfl (lv_room (Nat.le_of_ble_eq_true rfl)) dX10_tells_15 ⟨Nat.le_of_ble_eq_true rfl, Nat.le_of_ble_eq_true rfl⟩) (fun r hr9 => ?_)
    subst hr9
    refine my_ifeq (tgt := 28) hx hb dX10_tells_18 (by decide) (fun c_18 => ?_) (fun c_18 => ?_)
    · refine lv_ldc2 (v := (-2000000000000000000)) hx hb hown (hts (.constantLong RX10 120 (-2000000000000000000)) w_382) dX10_tells_28 ?_
      refine W_q9 hQ9 ?_
      exact W.lret (v := (-2000000000000000000)) hx hb hr (fun _ hT9 _ => ⟨⟨_, f, rfl, (⟨cJ_mk (se) (hf) (imf) (mc) (op) (cm) (wu) (mk) (ab) (be) (mn) (le) (wt) (ww) (wb) (wf) (vv) (lf) (tf) (hx0) (hctc) (hhs) (him) (hkp) (hrd) (hmk) (hfc6) (hwt) (hw8) (hw9) (hw10) (hw11) (hvl) (hbk) (hpr) (hpd) (hfr) (hfd) (hor) (hod) (har) (had) (htr) (hct) (hla) (hlaa) (hts0) (htsa) (by omega) (hhf) (him0) (him1) (by omega) (by omega) (by omega) (by omega) (by omega) (by omega) (by omega) (hlf) (htf) (by omega) (hH) (hSp) (hL) (hT) (hB1) (hB2) (hQ), (Or.inl ⟨fun z => c_18 z.2.1, rfl⟩), fun j hj => rfl⟩), by rw [hT9]; exact hP⟩, hS.F hT9⟩) hS.2.2 dX10_tells_31
    · refine lv_iload_n hx hb dX10_tells_21 rfl (lv_at hl 3 rfl) ?_
      refine rd_calli (va_runS (As := [.int a3]) (rest := []) ⟨hx, hb, hml, hown, hts⟩ (s_isDay l G g hg f a3  ) (my_cwS hts ok_X10_isDay w_178 rfl rfl ⟨Nat.le_of_ble_eq_true rfl, Nat.le_of_ble_eq_true rfl⟩) ⟨bP.blind, fun U hU hW => ⟨rfl, by rw [hU]; exact hP, kG.warm hW hG⟩⟩ rfl rfl hl.1 rfl (lv_room (Nat.le_of_ble_eq_true rfl)) dX10_tells_22 ⟨Nat.le_of_ble_eq_true rfl, Nat.le_of_ble_eq_true rfl⟩) (fun r hr9 => ?_)
      subst hr9
      refine my_ifne (tgt := 32) hx hb dX10_tells_25 (by decide) (fun c_25 => ?_) (fun c_25 => ?_)
      · obtain ⟨xn, hxn, rfl⟩ := inB_n (b := 3) (by omega) c_4
        obtain ⟨pn, hpn, rfl⟩ := inN_nat (by omega) c_18
        refine lv_aload_n hx hb dX10_tells_32 rfl (lv_at hl 0 rfl) ?_
        refine va_get (D := G.1) (ci := 9) (v := .ref (g 36)) (C := RX10) (T := TX10) (N := 7) hx hb hts inlX10 hown hG.1 hP 0 (wl_at (by decide) hx0) rfl 1 (by decide) (hts (.fieldLink RX10 20 "SwornLists" "book" "LSwornLists$Book;") w_16) (fun _ h9 => h9) rfl dX10_tells_33 ?_
        refine va_getN (D := G.1) (ci := 0) (v := .ref (g 112)) (C := RX0) (T := TX0) (N := 9) (host := RX10) hx hb hts inlX0 hown hG.1 hP 36 (wl_at (by decide) hbk) rfl 6 (by decide) (va_Nw.use rfl (hG.2.1 (.fieldLinkNest RX10 98 RX0 "texts" "LSwornLists$Shelf;" RX10) (List.mem_of_getElem? (i := 9) rfl))) (fun _ h9 => h9) rfl dX10_tells_36 ?_
        refine lv_iload_n hx hb dX10_tells_39 rfl (lv_at hl 1 rfl) ?_
        refine rd_calla (va_runV (As := [.int (nI xn)]) (rest := []) ⟨hx, hb, hml, hown, hts⟩ (w_get l G g hg f 112 4 tf xn hts0 htsa (by first | assumption | omega | decide) (by first | assumption | omega | decide) (by first | assumption | omega | decide) (by first | assumption | omega | decide)) (my_cwV hts ok_X6_get w_245 rfl rfl ⟨Nat.le_of_ble_eq_true rfl, Nat.le_of_ble_eq_true rfl⟩) ⟨bP.blind, va_recv hG.1 hP (ci := 6) (q0 := 112) rfl (wl_at (by decide) hts0), fun U hU hW => ⟨rfl, by rw [hU]; exact hP, kG.warm hW hG⟩⟩ rfl rfl hl.1 rfl (lv_room (Nat.le_of_ble_eq_true rfl)) dX10_tells_40 ⟨Nat.le_of_ble_eq_true rfl, Nat.le_of_ble_eq_true rfl⟩) (fun r hr9 => ?_)
        subst hr9
        refine my_bea (v := .ref (g (3 * xn + 117))) (by rw [show 112 + 3 * xn + 5 = 3 * xn + 117 by omega]) ?_
        obtain ⟨sc7, sp7, htx7, hsx7, hpx7, hln7, hsc7⟩ := hT xn (by omega)
        refine lv_astore (lv' := [(4, .ref (g (3 * xn + 117))), (0, .ref (g 0)), (1, .int (nI xn)), (2, .int (nI pn)), (3, .int a3)]) hx hb dX10_tells_43 hl (by decide) rfl (fun ls hl => ?_)
        refine lv_aload_n hx hb dX10_tells_45 rfl (lv_at hl 1 rfl) ?_
        refine va_get (D := G.1) (ci := 9) (v := .ref (g 4)) (C := RX10) (T := TX10) (N := 7) hx hb hts inlX10 hown hG.1 hP 0 (wl_at (by decide) hx0) rfl 4 (by decide) (hts (.fieldLink RX10 34 "SwornLists" "reader" "LSwornLists$Reader;") w_24) (fun _ h9 => h9) rfl dX10_tells_46 ?_
        refine lv_aload hx hb dX10_tells_49 (lv_at hl 0 rfl) ?_
        refine b_calli (va_runV (As := [.ref (g (3 * xn + 117))]) (rest := []) ⟨hx, hb, hml, hown, hts⟩ (e_readE l G g hg f (3 * xn + 117) (TL xn) sc7 (TG xn) sp7 mc op cm wu mk hrd hmk htx7 hsx7 hpx7 (by first | assumption | omega | decide) (by first | assumption | omega | decide) (by first | assumption | omega | decide) (by first | assumption | omega | decide) (by first | assumption | omega | decide)) (my_cwV hts ok_X4_read w_278 rfl rfl ⟨Nat.le_of_ble_eq_true rfl, Nat.le_of_ble_eq_true rfl⟩) ⟨bP.blind, va_recv hG.1 hP (ci := 4) (q0 := 4) rfl (wl_at (by decide) hrd), fun U hU hW => ⟨rfl, by rw [hU]; exact hP, kG.warm hW hG⟩⟩ rfl rfl hl.1 rfl (lv_room (Nat.le_of_ble_eq_true rfl)) dX10_tells_51 ⟨Nat.le_of_ble_eq_true rfl, Nat.le_of_ble_eq_true rfl⟩) hS (fun v1 f_1 H locs hq9 hP hS => ?_)
        obtain ⟨mc92, op93, cm94, wu95, mk96, sc97, sp98, rfl, hq_1_0, hq_1_1, hq_1_2, hq_1_3, hx_1_0, hx_1_1, hx_1_2, o_1⟩ := hq9
        have hrd : f_1 4 = eO 4 [.ref (g 5), .int (nI mc92), .int op93, .int cm94, .int wu95] := hq_1_0
        have hmk : f_1 5 = eI G 50 mk96 := hq_1_1
        have htx7 : f_1 (3 * xn + 117) = eO 7 [.ref (g ((3 * xn + 117) + 1)), .ref (g ((3 * xn + 117) + 2)), .int (nI (TL xn)), .int (nI sc97)] := hq_1_2
        have hpx7 : f_1 (3 * xn + 119) = eI G 50 sp98 := hq_1_3
        replace hsx7 : f_1 (3 * xn + 118) = eI G 50 (TG xn) := ((o_1 (3 * xn + 118) (by omega))).trans hsx7
        have hT : ∀ i, i < 4 → txt G g f_1 (3 * i + 117) (TL i) (TG i) := fun z hz => if e9 : z = xn then (by rw [e9]; exact ⟨_, _, htx7, hsx7, hpx7, by omega, by omega⟩) else txt_fr (hT z hz) (o_1 _ (by omega)) (o_1 _ (by omega)) (o_1 _ (by omega))
        refine lv_iconst (v := (-1)) hx hb dX10_tells_54 (by decide) ?_
        refine lv_icmp_eq (tgt := 62) hx hb dX10_tells_55 (by decide) (fun c_55 => ?_) (fun c_55 => ?_)
        · refine lv_aload_n hx hb dX10_tells_62 rfl (lv_at hl 1 rfl) ?_
          replace hx0 := ((o_1 0 (by first | decide | omega))).trans hx0
          refine va_get (D := G.1) (ci := 9) (v := .ref (g 1)) (C := RX10) (T := TX10) (N := 7) hx hb hts inlX10 hown hG.1 hP 0 (wl_at (by decide) hx0) rfl 0 (by decide) (hts (.fieldLink RX10 12 "SwornLists" "court" "LSwornLists$Court;") w_15) (fun _ h9 => h9) rfl dX10_tells_63 ?_
          replace hctc := ((o_1 1 (by first | decide | omega))).trans hctc
          replace hhs := ((o_1 12 (by first | decide | omega))).trans hhs
          replace hbk := ((o_1 36 (by first | decide | omega))).trans hbk
          replace htr := ((o_1 45 (by first | decide | omega))).trans htr
          replace hct := ((o_1 46 (by first | decide | omega))).trans hct
          replace hpr := ((o_1 37 (by first | decide | omega))).trans hpr
          replace hpd := ((o_1 38 (by first | decide | omega))).trans hpd
          replace hfr := ((o_1 39 (by first | decide | omega))).trans hfr
          replace hfd := ((o_1 40 (by first | decide | omega))).trans hfd
          replace hor := ((o_1 41 (by first | decide | omega))).trans hor
          replace hod := ((o_1 42 (by first | decide | omega))).trans hod
          replace har := ((o_1 43 (by first | decide | omega))).trans har
          replace had := ((o_1 44 (by first | decide | omega))).trans had
          replace hla := ((o_1 47 (by first | decide | omega))).trans hla
          replace hlaa := ((o_1 48 (by first | decide | omega))).trans hlaa
          replace hvl := ((o_1 15 (by first | decide | omega))).trans hvl
          replace hQ : ∀ z, z < se → cHz G g f_1 np nf nr na dp df dr da ct LL LG z := fun z hz => okQ_fr (hQ z hz) (o_1 _ (by omega)) (o_1 _ (by omega))
          replace hH : ∀ i, i < 10 → okH G g f_1 (2 * i + 16) := fun z hz => okH_fr (hH z hz) (o_1 _ (by omega)) (o_1 _ (by omega))
          replace hL : ∀ i, i < 20 → ltx G g f_1 (3 * i + 52) (LL i) (LG i) (i < na) := fun z hz => ltx_fr (hL z hz) (o_1 _ (by omega)) (o_1 _ (by omega)) (o_1 _ (by omega))
          refine b_callv (va_runV (As := []) (rest := []) ⟨hx, hb, hml, hown, hts⟩ (u_settleE l G g hg f_1 se hf pay fine nt ct np dp nf df nr dr na da lf vv LL LG hctc hhs hbk htr hct hpr hpd hfr hfd hor hod har had hla hlaa hvl (by first | assumption | omega | decide) (by first | assumption | omega | decide) (by first | assumption | omega | decide) (by first | assumption | omega | decide) (by first | assumption | omega | decide) (by first | assumption | omega | decide) (by first | assumption | omega | decide) (by first | assumption | omega | decide) (hTr.1) (hTr.2.1) (hTr.2.2.1) (by first | assumption | omega | decide) (hQ) (by first | assumption | omega | decide) (hL)) (my_cwV hts ok_X1_settle w_384 rfl rfl ⟨Nat.le_of_ble_eq_true rfl, Nat.le_of_ble_eq_true rfl⟩) ⟨bP.blind, va_recv hG.1 hP (ci := 1) (q0 := 1) rfl (wl_at (by decide) hctc), fun U hU hW => ⟨rfl, by rw [hU]; exact hP, kG.warm hW hG⟩⟩ rfl rfl hl.1 rfl (lv_room (Nat.le_of_ble_eq_true rfl)) dX10_tells_66 ⟨Nat.le_of_ble_eq_true rfl, Nat.le_of_ble_eq_true rfl⟩) hS (fun f_2 H locs hq9 hP hS => ?_)
          obtain ⟨vv99, hq_2_0, hq_2_1, hx_2_0, hx_2_1, o_2⟩ := hq9
          have hctc : f_2 1 = eO 1 [.ref (g 36), .ref (g 12), .ref (g 13), .ref (g 15), .int (nI nt)] := hq_2_0
          have hvl : f_2 15 = eJ G 50 vv99 := hq_2_1
          have hH : ∀ i, i < 10 → okH G g f_2 (2 * i + 16) := hx_2_0
          have hQn : ∀ z, z < nt → cHz G g f_2 np nf nr na dp df dr da ct LL LG z := hx_2_1
          refine lv_aload_n hx hb dX10_tells_69 rfl (lv_at hl 1 rfl) ?_
          replace hx0 := ((o_2 0 (by first | decide | omega))).trans hx0
          refine va_get (D := G.1) (ci := 9) (v := .ref (g 1)) (C := RX10) (T := TX10) (N := 7) hx hb hts inlX10 hown hG.1 hP 0 (wl_at (by decide) hx0) rfl 0 (by decide) (hts (.fieldLink RX10 12 "SwornLists" "court" "LSwornLists$Court;") w_15) (fun _ h9 => h9) rfl dX10_tells_70 ?_
          refine lv_aload hx hb dX10_tells_73 (lv_at hl 0 rfl) ?_
          refine lv_iload_n hx hb dX10_tells_75 rfl (lv_at hl 3 rfl) ?_
          refine lv_iload_n hx hb dX10_tells_76 rfl (lv_at hl 4 rfl) ?_
          obtain ⟨sw, hZ, hJ9⟩ := okZ_J (Nat.le_refl nt) hH hQn hTr.2.2.1
          have hls7 := hx_1_2 c_55
          have hgd7 := rdO_good hln7 c_55
          have hlen7 : (rdO (TL xn) (TG xn)).length = sc97 := by
            have h6 := congrArg List.length hls7
            rw [stk_len, List.length_map] at h6
            exact h6.symm
          replace hhs := ((o_2 12 (by first | decide | omega))).trans hhs
          replace hbk := ((o_2 36 (by first | decide | omega))).trans hbk
          replace htr := ((o_2 45 (by first | decide | omega))).trans htr
          replace hct := ((o_2 46 (by first | decide | omega))).trans hct
          replace hpr := ((o_2 37 (by first | decide | omega))).trans hpr
          replace hpd := ((o_2 38 (by first | decide | omega))).trans hpd
          replace htx7 : f_2 (3 * xn + 117) = eO 7 [.ref (g ((3 * xn + 117) + 1)), .ref (g ((3 * xn + 117) + 2)), .int (nI (TL xn)), .int (nI sc97)] := ((o_2 (3 * xn + 117) (by omega))).trans htx7
          replace hpx7 : f_2 (3 * xn + 119) = eI G 50 sp98 := ((o_2 (3 * xn + 119) (by omega))).trans hpx7
          refine b_calll (va_runV (As := [.ref (g (3 * xn + 117)), .int (nI pn), .int a3]) (rest := []) ⟨hx, hb, hml, hown, hts⟩ (u_tellE l G g hg f_2 nt hf pay fine nt ct np dp (3 * xn + 117) (TL xn) sc97 sp98 vv99 sw pn (rdO (TL xn) (TG xn)) a3 hctc hhs hbk htr hct hpr hpd htx7 hpx7 hvl (by first | assumption | omega | decide) (by first | assumption | omega | decide) (by first | assumption | omega | decide) (by first | assumption | omega | decide) (hZ) (by first | assumption | omega | decide) (by first | assumption | omega | decide) (by first | assumption | omega | decide) (by first | assumption | omega | decide) (by first | assumption | omega | decide) (hls7) (hlen7) (hgd7.1) (hgd7.2)) (my_cwV hts ok_X1_tell w_516 rfl rfl ⟨Nat.le_of_ble_eq_true rfl, Nat.le_of_ble_eq_true rfl⟩) ⟨bP.blind, va_recv hG.1 hP (ci := 1) (q0 := 1) rfl (wl_at (by decide) hctc), fun U hU hW => ⟨rfl, by rw [hU]; exact hP, kG.warm hW hG⟩⟩ rfl rfl hl.1 rfl (lv_room (Nat.le_of_ble_eq_true rfl)) dX10_tells_77 ⟨Nat.le_of_ble_eq_true rfl, Nat.le_of_ble_eq_true rfl⟩) hS (fun v10 f_3 H locs hq9 hP hS => ?_)
          obtain ⟨vv911, rfl, hq_3_0, o_3⟩ := hq9
          have hvl : f_3 15 = eJ G 50 vv911 := hq_3_0
          refine W_q9 hQ9 ?_
          replace hx0 := ((o_3 0 (by first | decide | omega))).trans hx0
          replace hctc := ((o_3 1 (by first | decide | omega))).trans hctc
          replace hhs := ((o_3 12 (by first | decide | omega))).trans hhs
          replace him := ((o_3 2 (by first | decide | omega)).trans ((o_2 2 (by first | decide | omega)).trans ((o_1 2 (by first | decide | omega))))).trans him
          replace hkp := ((o_3 3 (by first | decide | omega)).trans ((o_2 3 (by first | decide | omega)).trans ((o_1 3 (by first | decide | omega))))).trans hkp
          replace hrd := ((o_3 4 (by first | decide | omega)).trans ((o_2 4 (by first | decide | omega)))).trans hrd
          replace hmk := ((o_3 5 (by first | decide | omega)).trans ((o_2 5 (by first | decide | omega)))).trans hmk
          replace hfc6 := ((o_3 6 (by first | decide | omega)).trans ((o_2 6 (by first | decide | omega)).trans ((o_1 6 (by first | decide | omega))))).trans hfc6
          replace hwt := ((o_3 7 (by first | decide | omega)).trans ((o_2 7 (by first | decide | omega)).trans ((o_1 7 (by first | decide | omega))))).trans hwt
          replace hw8 := ((o_3 8 (by first | decide | omega)).trans ((o_2 8 (by first | decide | omega)).trans ((o_1 8 (by first | decide | omega))))).trans hw8
          replace hw9 := ((o_3 9 (by first | decide | omega)).trans ((o_2 9 (by first | decide | omega)).trans ((o_1 9 (by first | decide | omega))))).trans hw9
          replace hw10 := ((o_3 10 (by first | decide | omega)).trans ((o_2 10 (by first | decide | omega)).trans ((o_1 10 (by first | decide | omega))))).trans hw10
          replace hw11 := ((o_3 11 (by first | decide | omega)).trans ((o_2 11 (by first | decide | omega)).trans ((o_1 11 (by first | decide | omega))))).trans hw11
          replace hbk := ((o_3 36 (by first | decide | omega))).trans hbk
          replace hpr := ((o_3 37 (by first | decide | omega))).trans hpr
          replace hpd := ((o_3 38 (by first | decide | omega))).trans hpd
          replace hfr := ((o_3 39 (by first | decide | omega)).trans ((o_2 39 (by first | decide | omega)))).trans hfr
          replace hfd := ((o_3 40 (by first | decide | omega)).trans ((o_2 40 (by first | decide | omega)))).trans hfd
          replace hor := ((o_3 41 (by first | decide | omega)).trans ((o_2 41 (by first | decide | omega)))).trans hor
          replace hod := ((o_3 42 (by first | decide | omega)).trans ((o_2 42 (by first | decide | omega)))).trans hod
          replace har := ((o_3 43 (by first | decide | omega)).trans ((o_2 43 (by first | decide | omega)))).trans har
          replace had := ((o_3 44 (by first | decide | omega)).trans ((o_2 44 (by first | decide | omega)))).trans had
          replace htr := ((o_3 45 (by first | decide | omega))).trans htr
          replace hct := ((o_3 46 (by first | decide | omega))).trans hct
          replace hla := ((o_3 47 (by first | decide | omega)).trans ((o_2 47 (by first | decide | omega)))).trans hla
          replace hlaa := ((o_3 48 (by first | decide | omega)).trans ((o_2 48 (by first | decide | omega)))).trans hlaa
          replace hts0 := ((o_3 112 (by first | decide | omega)).trans ((o_2 112 (by first | decide | omega)).trans ((o_1 112 (by first | decide | omega))))).trans hts0
          replace htsa := ((o_3 113 (by first | decide | omega)).trans ((o_2 113 (by first | decide | omega)).trans ((o_1 113 (by first | decide | omega))))).trans htsa
          replace hH : ∀ i, i < 10 → okH G g f_3 (2 * i + 16) := fun z hz => okH_fr (hH z hz) (o_3 _ (by omega)) (o_3 _ (by omega))
          replace hSp : okH G g f_1 13 := okH_fr hSp (o_1 _ (by omega)) (o_1 _ (by omega))
          replace hSp : okH G g f_2 13 := okH_fr hSp (o_2 _ (by omega)) (o_2 _ (by omega))
          replace hSp : okH G g f_3 13 := okH_fr hSp (o_3 _ (by omega)) (o_3 _ (by omega))
          replace hL : ∀ i, i < 20 → ltx G g f_2 (3 * i + 52) (LL i) (LG i) (i < na) := fun z hz => ltx_fr (hL z hz) (o_2 _ (by omega)) (o_2 _ (by omega)) (o_2 _ (by omega))
          replace hL : ∀ i, i < 20 → ltx G g f_3 (3 * i + 52) (LL i) (LG i) (i < na) := fun z hz => ltx_fr (hL z hz) (o_3 _ (by omega)) (o_3 _ (by omega)) (o_3 _ (by omega))
          replace hT : ∀ i, i < 4 → txt G g f_2 (3 * i + 117) (TL i) (TG i) := fun z hz => txt_fr (hT z hz) (o_2 _ (by omega)) (o_2 _ (by omega)) (o_2 _ (by omega))
          replace hT : ∀ i, i < 4 → txt G g f_3 (3 * i + 117) (TL i) (TG i) := fun z hz => txt_fr (hT z hz) (o_3 _ (by omega)) (o_3 _ (by omega)) (o_3 _ (by omega))
          replace hB1 : bkD G g f_1 129 N1 E1 P1 L1 S1 W1 X1 := bkD_fr hB1 (fun j _ _ => o_1 j (by omega))
          replace hB1 : bkD G g f_2 129 N1 E1 P1 L1 S1 W1 X1 := bkD_fr hB1 (fun j _ _ => o_2 j (by omega))
          replace hB1 : bkD G g f_3 129 N1 E1 P1 L1 S1 W1 X1 := bkD_fr hB1 (fun j _ _ => o_3 j (by omega))
          replace hB2 : bkD G g f_1 222 N2 E2 P2 L2 S2 W2 X2 := bkD_fr hB2 (fun j _ _ => o_1 j (by omega))
          replace hB2 : bkD G g f_2 222 N2 E2 P2 L2 S2 W2 X2 := bkD_fr hB2 (fun j _ _ => o_2 j (by omega))
          replace hB2 : bkD G g f_3 222 N2 E2 P2 L2 S2 W2 X2 := bkD_fr hB2 (fun j _ _ => o_3 j (by omega))
          replace hQn : ∀ z, z < nt → cHz G g f_3 np nf nr na dp df dr da ct LL LG z := fun z hz => okQ_fr (hQn z hz) (o_3 _ (by omega)) (o_3 _ (by omega))
          exact W.lret (v := (ev (ltk (fun i c => dp (4 * i + c)) (satN (fun t c => ct (70 * t + c)) sw a3 pn nt) (sinV (fun t c => ct (70 * t + c)) sw a3 pn nt) pn a3) (rdO (TL xn) (TG xn))).headD 0) hx hb hr (fun _ hT9 _ => ⟨⟨_, f_3, rfl, (⟨cJ_mk (nt) (hf) (imf) (mc92) (op93) (cm94) (wu95) (mk96) (ab) (be) (mn) (le) (wt) (ww) (wb) (wf) (vv911) (lf) (tf) (hx0) (hctc) (hhs) (him) (hkp) (hrd) (hmk) (hfc6) (hwt) (hw8) (hw9) (hw10) (hw11) (hvl) (hbk) (hpr) (hpd) (hfr) (hfd) (hor) (hod) (har) (had) (htr) (hct) (hla) (hlaa) (hts0) (htsa) (by omega) (hhf) (him0) (him1) (by omega) (by omega) (by omega) (by omega) (by omega) (by omega) (by omega) (hlf) (htf) (by omega) (hH) (hSp) (hL) (hT) (hB1) (hB2) (hQn), (Or.inr ⟨xn, pn, hxn, rfl, hpn, rfl, c_25, Or.inr ⟨c_55, congrArg (fun n9 => (ev n9 (rdO (TL xn) (TG xn))).headD 0) (nvF_congr (P := (fun i c => dp (4 * i + c))) (T := (fun t c => ct (70 * t + c))) (fun _ _ => rfl) (fun _ _ => rfl) hJ9)⟩⟩), fun j hj => (((o_3 j (by omega))).trans (o_2 j (by omega))).trans (o_1 j (by omega))⟩), by rw [hT9]; exact hP⟩, hS.F hT9⟩) hS.2.2 dX10_tells_80
        · refine lv_ldc2 (v := (-3000000000000000000)) hx hb hown (hts (.constantLong RX10 122 (-3000000000000000000)) w_383) dX10_tells_58 ?_
          refine W_q9 hQ9 ?_
          replace hx0 := ((o_1 0 (by first | decide | omega))).trans hx0
          replace hctc := ((o_1 1 (by first | decide | omega))).trans hctc
          replace hhs := ((o_1 12 (by first | decide | omega))).trans hhs
          replace him := ((o_1 2 (by first | decide | omega))).trans him
          replace hkp := ((o_1 3 (by first | decide | omega))).trans hkp
          replace hfc6 := ((o_1 6 (by first | decide | omega))).trans hfc6
          replace hwt := ((o_1 7 (by first | decide | omega))).trans hwt
          replace hw8 := ((o_1 8 (by first | decide | omega))).trans hw8
          replace hw9 := ((o_1 9 (by first | decide | omega))).trans hw9
          replace hw10 := ((o_1 10 (by first | decide | omega))).trans hw10
          replace hw11 := ((o_1 11 (by first | decide | omega))).trans hw11
          replace hvl := ((o_1 15 (by first | decide | omega))).trans hvl
          replace hbk := ((o_1 36 (by first | decide | omega))).trans hbk
          replace hpr := ((o_1 37 (by first | decide | omega))).trans hpr
          replace hpd := ((o_1 38 (by first | decide | omega))).trans hpd
          replace hfr := ((o_1 39 (by first | decide | omega))).trans hfr
          replace hfd := ((o_1 40 (by first | decide | omega))).trans hfd
          replace hor := ((o_1 41 (by first | decide | omega))).trans hor
          replace hod := ((o_1 42 (by first | decide | omega))).trans hod
          replace har := ((o_1 43 (by first | decide | omega))).trans har
          replace had := ((o_1 44 (by first | decide | omega))).trans had
          replace htr := ((o_1 45 (by first | decide | omega))).trans htr
          replace hct := ((o_1 46 (by first | decide | omega))).trans hct
          replace hla := ((o_1 47 (by first | decide | omega))).trans hla
          replace hlaa := ((o_1 48 (by first | decide | omega))).trans hlaa
          replace hts0 := ((o_1 112 (by first | decide | omega))).trans hts0
          replace htsa := ((o_1 113 (by first | decide | omega))).trans htsa
          replace hH : ∀ i, i < 10 → okH G g f_1 (2 * i + 16) := fun z hz => okH_fr (hH z hz) (o_1 _ (by omega)) (o_1 _ (by omega))
          replace hSp : okH G g f_1 13 := okH_fr hSp (o_1 _ (by omega)) (o_1 _ (by omega))
          replace hL : ∀ i, i < 20 → ltx G g f_1 (3 * i + 52) (LL i) (LG i) (i < na) := fun z hz => ltx_fr (hL z hz) (o_1 _ (by omega)) (o_1 _ (by omega)) (o_1 _ (by omega))
          replace hB1 : bkD G g f_1 129 N1 E1 P1 L1 S1 W1 X1 := bkD_fr hB1 (fun j _ _ => o_1 j (by omega))
          replace hB2 : bkD G g f_1 222 N2 E2 P2 L2 S2 W2 X2 := bkD_fr hB2 (fun j _ _ => o_1 j (by omega))
          replace hQ : ∀ z, z < se → cHz G g f_1 np nf nr na dp df dr da ct LL LG z := fun z hz => okQ_fr (hQ z hz) (o_1 _ (by omega)) (o_1 _ (by omega))
          exact W.lret (v := (-3000000000000000000)) hx hb hr (fun _ hT9 _ => ⟨⟨_, f_1, rfl, (⟨cJ_mk (se) (hf) (imf) (mc92) (op93) (cm94) (wu95) (mk96) (ab) (be) (mn) (le) (wt) (ww) (wb) (wf) (vv) (lf) (tf) (hx0) (hctc) (hhs) (him) (hkp) (hrd) (hmk) (hfc6) (hwt) (hw8) (hw9) (hw10) (hw11) (hvl) (hbk) (hpr) (hpd) (hfr) (hfd) (hor) (hod) (har) (had) (htr) (hct) (hla) (hlaa) (hts0) (htsa) (by omega) (hhf) (him0) (him1) (by omega) (by omega) (by omega) (by omega) (by omega) (by omega) (by omega) (hlf) (htf) (by omega) (hH) (hSp) (hL) (hT) (hB1) (hB2) (hQ), (Or.inr ⟨xn, pn, hxn, rfl, hpn, rfl, c_25, Or.inl ⟨c_55, rfl⟩⟩), fun j hj => (o_1 j (by omega))⟩), by rw [hT9]; exact hP⟩, hS.F hT9⟩) hS.2.2 dX10_tells_61
      · refine lv_ldc2 (v := (-2000000000000000000)) hx hb hown (hts (.constantLong RX10 120 (-2000000000000000000)) w_382) dX10_tells_28 ?_
        refine W_q9 hQ9 ?_
        exact W.lret (v := (-2000000000000000000)) hx hb hr (fun _ hT9 _ => ⟨⟨_, f, rfl, (⟨cJ_mk (se) (hf) (imf) (mc) (op) (cm) (wu) (mk) (ab) (be) (mn) (le) (wt) (ww) (wb) (wf) (vv) (lf) (tf) (hx0) (hctc) (hhs) (him) (hkp) (hrd) (hmk) (hfc6) (hwt) (hw8) (hw9) (hw10) (hw11) (hvl) (hbk) (hpr) (hpd) (hfr) (hfd) (hor) (hod) (har) (had) (htr) (hct) (hla) (hlaa) (hts0) (htsa) (by omega) (hhf) (him0) (him1) (by omega) (by omega) (by omega) (by omega) (by omega) (by omega) (by omega) (hlf) (htf) (by omega) (hH) (hSp) (hL) (hT) (hB1) (hB2) (hQ), (Or.inl ⟨fun z => c_25 z.2.2, rfl⟩), fun j hj => rfl⟩), by rw [hT9]; exact hP⟩, hS.F hT9⟩) hS.2.2 dX10_tells_31
theorem j_tells (l : Launch) (G : gW) (g : Nat → Nat) (hg : gOK g) (f : Nat → va_E) (np : Nat) (dp : Nat → Int32) (nf : Nat) (df : Nat → Int32) (nr : Nat) (dr : Nat → Int32) (nt : Nat) (ct : Nat → Int32) (pay : Int32) (fine : Int32) (kf : Nat → Int32) (na : Nat) (da : Nat → Int32) (TL : Nat → Nat) (TG : Nat → Nat → Int32) (LL : Nat → Nat) (LG : Nat → Nat → Int32) (N1 : Nat → Nat) (E1 : Nat → Nat → Int32) (P1 : Nat → Int32) (L1 : Nat → Nat) (S1 : Nat → Nat → Int32) (W1 : Nat → Nat) (X1 : Nat → Nat → Int32) (N2 : Nat → Nat) (E2 : Nat → Nat → Int32) (P2 : Nat → Int32) (L2 : Nat → Nat) (S2 : Nat → Nat → Int32) (W2 : Nat → Nat) (X2 : Nat → Nat → Int32) (a1 : Int32) (a2 : Int32) (a3 : Int32) (hI : cJ G g f np dp nf df nr dr nt ct pay fine kf na da TL TG LL LG N1 E1 P1 L1 S1 W1 X1 N2 E2 P2 L2 S2 W2 X2) (hTr : trC ct nt) : Met l yX10_tells (wsT yX10_tells cX10_tells 5 (some .long)) ({ frames := 7, cells := 0, slots := 0, locals := 176 }) (bP G g f [.ref (g 0), .int a1, .int a2, .int a3]) (bQl G g (fun (z9 : Int64) (f' : Nat → va_E) => (cJ G g f' np dp nf df nr dr nt ct pay fine kf na da TL TG LL LG N1 E1 P1 L1 S1 W1 X1 N2 E2 P2 L2 S2 W2 X2) ∧ ((¬ (inB 0 a1 3 = true ∧ inN a2 np = true ∧ inB 0 a3 9999 = true) ∧ z9 = -2000000000000000000) ∨ (∃ x po, x ≤ 3 ∧ a1 = nI x ∧ po < np ∧ a2 = nI po ∧ inB 0 a3 9999 = true ∧ ((¬ rdA (TL x) (TG x) = -1 ∧ z9 = -3000000000000000000) ∨ (rdA (TL x) (TG x) = -1 ∧ z9 = (ev (nvF (fun i c => dp (4 * i + c)) (fun t c => ct (70 * t + c)) (cJr np nf nr na dp df dr da ct LL LG) a3 nt po) (rdO (TL x) (TG x))).headD 0)))) ∧ ∀ j, 315 ≤ j → f' j = f j)) 0 0 (gA g) := cJ_elim hI (fun se hf imf mc op cm wu mk ab be mn le wt ww wb wf vv lf tf hx0 hctc hhs him hkp hrd hmk hfc6 hwt hw8 hw9 hw10 hw11 hvl hbk hpr hpd hfr hfd hor hod har had htr hct hla hlaa hts0 htsa hse hhf him0 him1 hmc hmn hnp hnf hnr hna hnt hlf htf hsn hH hSp hL hT hB1 hB2 hQ => jn_tells l G g hg f se hf imf kf mc op cm wu mk ab be mn le wt ww wb wf vv pay fine np dp nf df nr dr na da nt ct lf tf TL TG LL LG N1 E1 P1 L1 S1 W1 X1 N2 E2 P2 L2 S2 W2 X2 a1 a2 a3 hx0 hctc hhs him hkp hrd hmk hfc6 hwt hw8 hw9 hw10 hw11 hvl hbk hpr hpd hfr hfd hor hod har had htr hct hla hlaa hts0 htsa hse hhf him0 him1 hmc hmn hnp hnf hnr hna hnt hlf htf hsn hTr hH hSp hL hT hB1 hB2 hQ)
set_option maxHeartbeats 4000000 in
set_option maxRecDepth 100000 in
theorem jn_act (l : Launch) (G : gW) (g : Nat → Nat) (hg : gOK g) (f : Nat → va_E) (se : Nat) (hf : Nat → Option Nat) (imf : Nat → Option Nat) (kf : Nat → Int32) (mc : Nat) (op : Int32) (cm : Int32) (wu : Int32) (mk : Nat → Int32) (ab : Int64) (be : Int64) (mn : Nat) (le : Int32) (wt : Nat → Int32) (ww : Nat → Int32) (wb : Nat → Int32) (wf : Nat → Int32) (vv : Nat → Int64) (pay : Int32) (fine : Int32) (np : Nat) (dp : Nat → Int32) (nf : Nat) (df : Nat → Int32) (nr : Nat) (dr : Nat → Int32) (na : Nat) (da : Nat → Int32) (nt : Nat) (ct : Nat → Int32) (lf : Nat → Option Nat) (tf : Nat → Option Nat) (TL : Nat → Nat) (TG : Nat → Nat → Int32) (LL : Nat → Nat) (LG : Nat → Nat → Int32) (N1 : Nat → Nat) (E1 : Nat → Nat → Int32) (P1 : Nat → Int32) (L1 : Nat → Nat) (S1 : Nat → Nat → Int32) (W1 : Nat → Nat) (X1 : Nat → Nat → Int32) (N2 : Nat → Nat) (E2 : Nat → Nat → Int32) (P2 : Nat → Int32) (L2 : Nat → Nat) (S2 : Nat → Nat → Int32) (W2 : Nat → Nat) (X2 : Nat → Nat → Int32) (a1 : Int32) (a2 : Int32) (a3 : Int32) (hx0 : f 0 = eO 9 [.ref (g 1), .ref (g 36), .ref (g 2), .ref (g 3), .ref (g 4), .ref (g 6), .ref (g 7)]) (hctc : f 1 = eO 1 [.ref (g 36), .ref (g 12), .ref (g 13), .ref (g 15), .int (nI se)]) (hhs : f 12 = eA G 4 10 hf) (him : f 2 = eA G 3 2 imf) (hkp : f 3 = eZ G 2 kf) (hrd : f 4 = eO 4 [.ref (g 5), .int (nI mc), .int op, .int cm, .int wu]) (hmk : f 5 = eI G 50 mk) (hfc6 : f 6 = eO 2 [.long ab, .long be]) (hwt : f 7 = eO 8 [.ref (g 8), .ref (g 9), .ref (g 10), .ref (g 11), .int (nI mn), .int le]) (hw8 : f 8 = eI G 6 wt) (hw9 : f 9 = eI G 6 ww) (hw10 : f 10 = eI G 6 wb) (hw11 : f 11 = eI G 6 wf) (hvl : f 15 = eJ G 50 vv) (hbk : f 36 = eO 0 [.ref (g 37), .ref (g 39), .ref (g 41), .ref (g 43), .ref (g 45), .ref (g 47), .ref (g 112), .int pay, .int fine]) (hpr : f 37 = eO 5 [.int (nI 30), .int (nI 4), .ref (g 38), .int (nI np)]) (hpd : f 38 = eI G (30 * 4) dp) (hfr : f 39 = eO 5 [.int (nI 40), .int (nI 3), .ref (g 40), .int (nI nf)]) (hfd : f 40 = eI G (40 * 3) df) (hor : f 41 = eO 5 [.int (nI 4), .int (nI 3), .ref (g 42), .int (nI nr)]) (hod : f 42 = eI G (4 * 3) dr) (har : f 43 = eO 5 [.int (nI 20), .int (nI 3), .ref (g 44), .int (nI na)]) (had : f 44 = eI G (20 * 3) da) (htr : f 45 = eO 5 [.int (nI 10), .int (nI 70), .ref (g 46), .int (nI nt)]) (hct : f 46 = eI G (10 * 70) ct) (hla : f 47 = eO 6 [.ref (g 48), .ref (g 49)]) (hlaa : f 48 = eA G 5 20 lf) (hts0 : f 112 = eO 6 [.ref (g 113), .ref (g 114)]) (htsa : f 113 = eA G 5 4 tf) (hse : se ≤ 10) (hhf : ∀ i, i < 10 → hf i = some (g (2 * i + 16))) (him0 : imf 0 = some (g 129)) (him1 : imf 1 = some (g 222)) (hmc : mc ≤ 50) (hmn : mn ≤ 6) (hnp : np ≤ 30) (hnf : nf ≤ 40) (hnr : nr ≤ 4) (hna : na ≤ 20) (hnt : nt ≤ 10) (hlf : ∀ z, z < 20 → lf z = some (g (47 + 3 * z + 5))) (htf : ∀ z, z < 4 → tf z = some (g (112 + 3 * z + 5))) (hsn : se ≤ nt) (hTr : trC ct nt) (hH : ∀ i, i < 10 → okH G g f (2 * i + 16)) (hSp : okH G g f 13) (hL : ∀ i, i < 20 → ltx G g f (3 * i + 52) (LL i) (LG i) (i < na)) (hT : ∀ i, i < 4 → txt G g f (3 * i + 117) (TL i) (TG i)) (hB1 : bkD G g f 129 N1 E1 P1 L1 S1 W1 X1) (hB2 : bkD G g f 222 N2 E2 P2 L2 S2 W2 X2) (hQ : ∀ z, z < se → cHz G g f np nf nr na dp df dr da ct LL LG z) : Met l yX10_act (wsT yX10_act cX10_act 6 (some .int)) ({ frames := 5, cells := 0, slots := 0, locals := 112 }) (bP G g f [.ref (g 0), .int a1, .int a2, .int a3]) (bQi G g (fun (z9 : Int32) (f' : Nat → va_E) => ∃ na9 : Nat, ∃ da9 : Nat → Int32, ∃ LL9 : Nat → Nat, ∃ LG9 : Nat → Nat → Int32, (cJ G g f' np dp nf df nr dr nt ct pay fine kf na9 da9 TL TG LL9 LG9 N1 E1 P1 L1 S1 W1 X1 N2 E2 P2 L2 S2 W2 X2) ∧ ((¬ (inB 0 a1 3 = true ∧ inB 0 a2 1 = true ∧ inB 0 a3 9999 = true) ∧ z9 = -2 ∧ na9 = na ∧ da9 = da ∧ LL9 = LL ∧ LG9 = LG) ∨ ((inB 0 a1 3 = true ∧ inB 0 a2 1 = true ∧ inB 0 a3 9999 = true) ∧ ∃ x, x ≤ 3 ∧ a1 = nI x ∧ ((¬ rdA (TL x) (TG x) = -1 ∧ z9 = -3 ∧ na9 = na ∧ da9 = da ∧ LL9 = LL ∧ LG9 = LG) ∨ (rdA (TL x) (TG x) = -1 ∧ ¬ na < 20 ∧ z9 = -4 ∧ na9 = na ∧ da9 = da ∧ LL9 = LL ∧ LG9 = LG) ∨ (rdA (TL x) (TG x) = -1 ∧ na < 20 ∧ z9 = nI na ∧ na9 = na + 1 ∧ da9 = upd (upd (upd da (Int32.toNatClampNeg (nI na * nI 3 + 0)) a2) (Int32.toNatClampNeg (nI na * nI 3 + 1)) a3) (Int32.toNatClampNeg (nI na * nI 3 + 2)) (-1) ∧ LL9 = upN LL na (TL x) ∧ ∃ s, LG9 = upN LG na s ∧ ∀ i, i < 50 → s i = TG x i)))) ∧ ∀ j, 315 ≤ j → f' j = f j)) 0 0 (gA g) := by
  refine Met.ofW (cc := cX10_act) (maxL := 6) (ret := (some .int)) (by decide) rfl ?_
  intro p e s m args below meth c s₁ B hml hv
  obtain ⟨rfl, hP, hG⟩ := hv
  have hx := B.exec
  have hb := B.bytes
  have hr := B.returns
  have hts := my_hts (atoms_spec (ws := wsT yX10_act cX10_act 6 (some .int)) B.pre)
  have hown : s.vm.findClass RX10 = some m.cls := findClass_of_methodNamed B.named
  have hlocks := B.notSynchronized
  have hS : va_S (gA g) s.heap s.heap [] := va_S.rf
  have hl := lv_entry ([.ref (g 0), .int a1, .int a2, .int a3]) (n := 6) (Nat.le_of_ble_eq_true rfl)
  rw [lg_entry_eq]
  generalize (lg_sl ([.ref (g 0), .int a1, .int a2, .int a3]) ++ List.replicate (6 - (lg_sl ([.ref (g 0), .int a1, .int a2, .int a3])).length) Slot.unset).toArray = ls at hl ⊢
  have hl : lv_has ls 6 [(0, .ref (g 0)), (1, .int a1), (2, .int a2), (3, .int a3)] := hl
  refine W_q8 (fun Q9 hQ9 => ?_)
  refine lv_iload_n hx hb dX10_act_0 rfl (lv_at hl 1 rfl) ?_
  refine rd_calli (va_runS (As := [.int a1]) (rest := []) ⟨hx, hb, hml, hown, hts⟩ (s_isText l G g hg f a1  ) (my_cwS hts ok_X10_isText w_242 rfl rfl ⟨Nat.le_of_ble_eq_true rfl, Nat.le_of_ble_eq_true rfl⟩) ⟨bP.blind, fun U hU hW => ⟨rfl, by rw [hU]; exact hP, kG.warm hW hG⟩⟩ rfl rfl hl.1 rfl (lv_room (Nat.le_of_ble_eq_true rfl)) dX10_act_1 ⟨Nat.le_of_ble_eq_true rfl, Nat.le_of_ble_eq_true rfl⟩) (fun r hr9 => ?_)
  subst hr9
  refine my_ifeq (tgt := 21) hx hb dX10_act_4 (by decide) (fun c_4 => ?_) (fun c_4 => ?_)
  · refine lv_bipush (v := (-2)) hx hb dX10_act_21 (by decide) ?_
    refine W_q9 hQ9 ?_
    exact W.iret (v := (-2)) hx hb hr (fun _ hT9 _ => ⟨⟨_, f, rfl, (⟨na, da, LL, LG, cJ_mk (se) (hf) (imf) (mc) (op) (cm) (wu) (mk) (ab) (be) (mn) (le) (wt) (ww) (wb) (wf) (vv) (lf) (tf) (hx0) (hctc) (hhs) (him) (hkp) (hrd) (hmk) (hfc6) (hwt) (hw8) (hw9) (hw10) (hw11) (hvl) (hbk) (hpr) (hpd) (hfr) (hfd) (hor) (hod) (har) (had) (htr) (hct) (hla) (hlaa) (hts0) (htsa) (by omega) (hhf) (him0) (him1) (by omega) (by omega) (by omega) (by omega) (by omega) (by omega) (by omega) (hlf) (htf) (by omega) (hH) (hSp) (hL) (hT) (hB1) (hB2) (hQ), (Or.inl ⟨fun z => c_4 z.1, rfl, rfl, rfl, rfl, rfl⟩), fun j hj => rfl⟩), by rw [hT9]; exact hP⟩, hS.F hT9⟩) hS.2.2 dX10_act_23
  · refine lv_iload_n hx hb dX10_act_7 rfl (lv_at hl 2 rfl) ?_
    refine rd_calli (va_runS (As := [.int a2]) (rest := []) ⟨hx, hb, hml, hown, hts⟩ (s_isSort l G g hg f a2  ) (my_cwS hts ok_X10_isSort w_591 rfl rfl ⟨Nat.le_of_ble_eq_true rfl, Nat.le_of_ble_eq_true rfl⟩) ⟨bP.blind, fun U hU hW => ⟨rfl, by rw [hU]; exact hP, kG.warm hW hG⟩⟩ rfl rfl hl.1 rfl (lv_room (Nat.le_of_ble_eq_true rfl)) dX10_act_8 ⟨Nat.le_of_ble_eq_true rfl, Nat.le_of_ble_eq_true rfl⟩) (fun r hr9 => ?_)
    subst hr9
    refine my_ifeq (tgt := 21) hx hb dX10_act_11 (by decide) (fun c_11 => ?_) (fun c_11 => ?_)
    · refine lv_bipush (v := (-2)) hx hb dX10_act_21 (by decide) ?_
      refine W_q9 hQ9 ?_
      exact W.iret (v := (-2)) hx hb hr (fun _ hT9 _ => ⟨⟨_, f, rfl, (⟨na, da, LL, LG, cJ_mk (se) (hf) (imf) (mc) (op) (cm) (wu) (mk) (ab) (be) (mn) (le) (wt) (ww) (wb) (wf) (vv) (lf) (tf) (hx0) (hctc) (hhs) (him) (hkp) (hrd) (hmk) (hfc6) (hwt) (hw8) (hw9) (hw10) (hw11) (hvl) (hbk) (hpr) (hpd) (hfr) (hfd) (hor) (hod) (har) (had) (htr) (hct) (hla) (hlaa) (hts0) (htsa) (by omega) (hhf) (him0) (him1) (by omega) (by omega) (by omega) (by omega) (by omega) (by omega) (by omega) (hlf) (htf) (by omega) (hH) (hSp) (hL) (hT) (hB1) (hB2) (hQ), (Or.inl ⟨fun z => c_11 z.2.1, rfl, rfl, rfl, rfl, rfl⟩), fun j hj => rfl⟩), by rw [hT9]; exact hP⟩, hS.F hT9⟩) hS.2.2 dX10_act_23
    · refine lv_iload_n hx hb dX10_act_14 rfl (lv_at hl 3 rfl) ?_
      refine rd_calli (va_runS (As := [.int a3]) (rest := []) ⟨hx, hb, hml, hown, hts⟩ (s_isDay l G g hg f a3  ) (my_cwS hts ok_X10_isDay w_178 rfl rfl ⟨Nat.le_of_ble_eq_true rfl, Nat.le_of_ble_eq_true rfl⟩) ⟨bP.blind, fun U hU hW => ⟨rfl, by rw [hU]; exact hP, kG.warm hW hG⟩⟩ rfl rfl hl.1 rfl (lv_room (Nat.le_of_ble_eq_true rfl)) dX10_act_15 ⟨Nat.le_of_ble_eq_true rfl, Nat.le_of_ble_eq_true rfl⟩) (fun r hr9 => ?_)
      subst hr9
      refine my_ifne (tgt := 24) hx hb dX10_act_18 (by decide) (fun c_18 => ?_) (fun c_18 => ?_)
      · obtain ⟨xn, hxn, rfl⟩ := inB_n (b := 3) (by omega) c_4
        refine lv_aload_n hx hb dX10_act_24 rfl (lv_at hl 0 rfl) ?_
        refine va_get (D := G.1) (ci := 9) (v := .ref (g 36)) (C := RX10) (T := TX10) (N := 7) hx hb hts inlX10 hown hG.1 hP 0 (wl_at (by decide) hx0) rfl 1 (by decide) (hts (.fieldLink RX10 20 "SwornLists" "book" "LSwornLists$Book;") w_16) (fun _ h9 => h9) rfl dX10_act_25 ?_
        refine va_getN (D := G.1) (ci := 0) (v := .ref (g 112)) (C := RX0) (T := TX0) (N := 9) (host := RX10) hx hb hts inlX0 hown hG.1 hP 36 (wl_at (by decide) hbk) rfl 6 (by decide) (va_Nw.use rfl (hG.2.1 (.fieldLinkNest RX10 98 RX0 "texts" "LSwornLists$Shelf;" RX10) (List.mem_of_getElem? (i := 9) rfl))) (fun _ h9 => h9) rfl dX10_act_28 ?_
        refine lv_iload_n hx hb dX10_act_31 rfl (lv_at hl 1 rfl) ?_
        refine rd_calla (va_runV (As := [.int (nI xn)]) (rest := []) ⟨hx, hb, hml, hown, hts⟩ (w_get l G g hg f 112 4 tf xn hts0 htsa (by first | assumption | omega | decide) (by first | assumption | omega | decide) (by first | assumption | omega | decide) (by first | assumption | omega | decide)) (my_cwV hts ok_X6_get w_245 rfl rfl ⟨Nat.le_of_ble_eq_true rfl, Nat.le_of_ble_eq_true rfl⟩) ⟨bP.blind, va_recv hG.1 hP (ci := 6) (q0 := 112) rfl (wl_at (by decide) hts0), fun U hU hW => ⟨rfl, by rw [hU]; exact hP, kG.warm hW hG⟩⟩ rfl rfl hl.1 rfl (lv_room (Nat.le_of_ble_eq_true rfl)) dX10_act_32 ⟨Nat.le_of_ble_eq_true rfl, Nat.le_of_ble_eq_true rfl⟩) (fun r hr9 => ?_)
        subst hr9
        refine my_bea (v := .ref (g (3 * xn + 117))) (by rw [show 112 + 3 * xn + 5 = 3 * xn + 117 by omega]) ?_
        obtain ⟨sc7, sp7, htx7, hsx7, hpx7, hln7, hsc7⟩ := hT xn (by omega)
        refine lv_astore (lv' := [(4, .ref (g (3 * xn + 117))), (0, .ref (g 0)), (1, .int (nI xn)), (2, .int a2), (3, .int a3)]) hx hb dX10_act_35 hl (by decide) rfl (fun ls hl => ?_)
        refine lv_aload_n hx hb dX10_act_37 rfl (lv_at hl 1 rfl) ?_
        refine va_get (D := G.1) (ci := 9) (v := .ref (g 4)) (C := RX10) (T := TX10) (N := 7) hx hb hts inlX10 hown hG.1 hP 0 (wl_at (by decide) hx0) rfl 4 (by decide) (hts (.fieldLink RX10 34 "SwornLists" "reader" "LSwornLists$Reader;") w_24) (fun _ h9 => h9) rfl dX10_act_38 ?_
        refine lv_aload hx hb dX10_act_41 (lv_at hl 0 rfl) ?_
        refine b_calli (va_runV (As := [.ref (g (3 * xn + 117))]) (rest := []) ⟨hx, hb, hml, hown, hts⟩ (e_readE l G g hg f (3 * xn + 117) (TL xn) sc7 (TG xn) sp7 mc op cm wu mk hrd hmk htx7 hsx7 hpx7 (by first | assumption | omega | decide) (by first | assumption | omega | decide) (by first | assumption | omega | decide) (by first | assumption | omega | decide) (by first | assumption | omega | decide)) (my_cwV hts ok_X4_read w_278 rfl rfl ⟨Nat.le_of_ble_eq_true rfl, Nat.le_of_ble_eq_true rfl⟩) ⟨bP.blind, va_recv hG.1 hP (ci := 4) (q0 := 4) rfl (wl_at (by decide) hrd), fun U hU hW => ⟨rfl, by rw [hU]; exact hP, kG.warm hW hG⟩⟩ rfl rfl hl.1 rfl (lv_room (Nat.le_of_ble_eq_true rfl)) dX10_act_43 ⟨Nat.le_of_ble_eq_true rfl, Nat.le_of_ble_eq_true rfl⟩) hS (fun v1 f_1 H locs hq9 hP hS => ?_)
        obtain ⟨mc92, op93, cm94, wu95, mk96, sc97, sp98, rfl, hq_1_0, hq_1_1, hq_1_2, hq_1_3, hx_1_0, hx_1_1, hx_1_2, o_1⟩ := hq9
        have hrd : f_1 4 = eO 4 [.ref (g 5), .int (nI mc92), .int op93, .int cm94, .int wu95] := hq_1_0
        have hmk : f_1 5 = eI G 50 mk96 := hq_1_1
        have htx7 : f_1 (3 * xn + 117) = eO 7 [.ref (g ((3 * xn + 117) + 1)), .ref (g ((3 * xn + 117) + 2)), .int (nI (TL xn)), .int (nI sc97)] := hq_1_2
        have hpx7 : f_1 (3 * xn + 119) = eI G 50 sp98 := hq_1_3
        replace hsx7 : f_1 (3 * xn + 118) = eI G 50 (TG xn) := ((o_1 (3 * xn + 118) (by omega))).trans hsx7
        have hT : ∀ i, i < 4 → txt G g f_1 (3 * i + 117) (TL i) (TG i) := fun z hz => if e9 : z = xn then (by rw [e9]; exact ⟨_, _, htx7, hsx7, hpx7, by omega, by omega⟩) else txt_fr (hT z hz) (o_1 _ (by omega)) (o_1 _ (by omega)) (o_1 _ (by omega))
        refine lv_iconst (v := (-1)) hx hb dX10_act_46 (by decide) ?_
        refine lv_icmp_eq (tgt := 53) hx hb dX10_act_47 (by decide) (fun c_47 => ?_) (fun c_47 => ?_)
        · refine lv_aload_n hx hb dX10_act_53 rfl (lv_at hl 1 rfl) ?_
          replace hx0 := ((o_1 0 (by first | decide | omega))).trans hx0
          refine va_get (D := G.1) (ci := 9) (v := .ref (g 36)) (C := RX10) (T := TX10) (N := 7) hx hb hts inlX10 hown hG.1 hP 0 (wl_at (by decide) hx0) rfl 1 (by decide) (hts (.fieldLink RX10 20 "SwornLists" "book" "LSwornLists$Book;") w_16) (fun _ h9 => h9) rfl dX10_act_54 ?_
          replace hbk := ((o_1 36 (by first | decide | omega))).trans hbk
          refine va_getN (D := G.1) (ci := 0) (v := .ref (g 43)) (C := RX0) (T := TX0) (N := 9) (host := RX10) hx hb hts inlX0 hown hG.1 hP 36 (wl_at (by decide) hbk) rfl 3 (by decide) (va_Nw.use rfl (hG.2.1 (.fieldLinkNest RX10 134 RX0 "acts" "LSwornLists$Rows;" RX10) (List.mem_of_getElem? (i := 4) rfl))) (fun _ h9 => h9) rfl dX10_act_57 ?_
          by_cases hlt : na < 20
          · replace har := ((o_1 43 (by first | decide | omega))).trans har
            refine b_calli (va_runV (As := []) (rest := []) ⟨hx, hb, hml, hown, hts⟩ (r_grow l G g hg f_1 43 20 3 na har (by first | assumption | omega | decide) (by first | assumption | omega | decide) (by first | assumption | omega | decide) (by first | assumption | omega | decide) (by first | assumption | omega | decide)) (my_cwV hts ok_X5_grow w_137 rfl rfl ⟨Nat.le_of_ble_eq_true rfl, Nat.le_of_ble_eq_true rfl⟩) ⟨bP.blind, va_recv hG.1 hP (ci := 5) (q0 := 43) rfl (wl_at (by decide) har), fun U hU hW => ⟨rfl, by rw [hU]; exact hP, kG.warm hW hG⟩⟩ rfl rfl hl.1 rfl (lv_room (Nat.le_of_ble_eq_true rfl)) dX10_act_60 ⟨Nat.le_of_ble_eq_true rfl, Nat.le_of_ble_eq_true rfl⟩) hS (fun v9 f_2 H locs hq9 hP hS => ?_)
            obtain ⟨rfl, hq_2_0, o_2⟩ := hq9
            have har : f_2 43 = eO 5 [.int (nI 20), .int (nI 3), .ref (g (43 + 1)), .int (nI (na + 1))] := hq_2_0
            refine lv_istore (lv' := [(5, .int (nI na)), (4, .ref (g (3 * xn + 117))), (0, .ref (g 0)), (1, .int (nI xn)), (2, .int a2), (3, .int a3)]) hx hb dX10_act_63 hl (by decide) rfl (fun ls hl => ?_)
            refine lv_iload hx hb dX10_act_65 (lv_at hl 0 rfl) ?_
            refine lv_bipush (v := (-4)) hx hb dX10_act_67 (by decide) ?_
            refine lv_icmp_ne (tgt := 75) hx hb dX10_act_69 (by decide) (fun c_69 => ?_) (fun c_69 => absurd c_69 (nI_m4 (by omega)))
            refine lv_aload_n hx hb dX10_act_75 rfl (lv_at hl 2 rfl) ?_
            replace hx0 := ((o_2 0 (by first | decide | omega))).trans hx0
            refine va_get (D := G.1) (ci := 9) (v := .ref (g 36)) (C := RX10) (T := TX10) (N := 7) hx hb hts inlX10 hown hG.1 hP 0 (wl_at (by decide) hx0) rfl 1 (by decide) (hts (.fieldLink RX10 20 "SwornLists" "book" "LSwornLists$Book;") w_16) (fun _ h9 => h9) rfl dX10_act_76 ?_
            replace hbk := ((o_2 36 (by first | decide | omega))).trans hbk
            refine va_getN (D := G.1) (ci := 0) (v := .ref (g 43)) (C := RX0) (T := TX0) (N := 9) (host := RX10) hx hb hts inlX0 hown hG.1 hP 36 (wl_at (by decide) hbk) rfl 3 (by decide) (va_Nw.use rfl (hG.2.1 (.fieldLinkNest RX10 134 RX0 "acts" "LSwornLists$Rows;" RX10) (List.mem_of_getElem? (i := 4) rfl))) (fun _ h9 => h9) rfl dX10_act_79 ?_
            refine lv_iload hx hb dX10_act_82 (lv_at hl 0 rfl) ?_
            refine lv_iconst (v := 0) hx hb dX10_act_84 (by decide) ?_
            refine lv_iload_n hx hb dX10_act_85 rfl (lv_at hl 4 rfl) ?_
            replace had := ((o_2 44 (by first | decide | omega)).trans ((o_1 44 (by first | decide | omega)))).trans had
            refine b_callv (va_runV (As := [.int (nI na), .int 0, .int a2]) (rest := []) ⟨hx, hb, hml, hown, hts⟩ (r_set l G g hg f_2 43 20 3 (na + 1) da (nI na) 0 a2 har had (by first | assumption | omega | decide) (by first | assumption | omega | decide) (by first | assumption | omega | decide) (by first | assumption | omega | decide) (inN_n (by omega) (by omega)) (by first | assumption | omega | decide)) (my_cwV hts ok_X5_set w_142 rfl rfl ⟨Nat.le_of_ble_eq_true rfl, Nat.le_of_ble_eq_true rfl⟩) ⟨bP.blind, va_recv hG.1 hP (ci := 5) (q0 := 43) rfl (wl_at (by decide) har), fun U hU hW => ⟨rfl, by rw [hU]; exact hP, kG.warm hW hG⟩⟩ rfl rfl hl.1 rfl (lv_room (Nat.le_of_ble_eq_true rfl)) dX10_act_86 ⟨Nat.le_of_ble_eq_true rfl, Nat.le_of_ble_eq_true rfl⟩) hS (fun f_3 H locs hq9 hP hS => ?_)
            obtain ⟨hq_3_0, o_3⟩ := hq9
            have had : f_3 44 = eI G (20 * 3) (upd da (Int32.toNatClampNeg ((nI na) * nI 3 + 0)) a2) := hq_3_0
            refine lv_aload_n hx hb dX10_act_89 rfl (lv_at hl 2 rfl) ?_
            replace hx0 := ((o_3 0 (by first | decide | omega))).trans hx0
            refine va_get (D := G.1) (ci := 9) (v := .ref (g 36)) (C := RX10) (T := TX10) (N := 7) hx hb hts inlX10 hown hG.1 hP 0 (wl_at (by decide) hx0) rfl 1 (by decide) (hts (.fieldLink RX10 20 "SwornLists" "book" "LSwornLists$Book;") w_16) (fun _ h9 => h9) rfl dX10_act_90 ?_
            replace hbk := ((o_3 36 (by first | decide | omega))).trans hbk
            refine va_getN (D := G.1) (ci := 0) (v := .ref (g 43)) (C := RX0) (T := TX0) (N := 9) (host := RX10) hx hb hts inlX0 hown hG.1 hP 36 (wl_at (by decide) hbk) rfl 3 (by decide) (va_Nw.use rfl (hG.2.1 (.fieldLinkNest RX10 134 RX0 "acts" "LSwornLists$Rows;" RX10) (List.mem_of_getElem? (i := 4) rfl))) (fun _ h9 => h9) rfl dX10_act_93 ?_
            refine lv_iload hx hb dX10_act_96 (lv_at hl 0 rfl) ?_
            refine lv_iconst (v := 1) hx hb dX10_act_98 (by decide) ?_
            refine lv_iload_n hx hb dX10_act_99 rfl (lv_at hl 5 rfl) ?_
            replace har := ((o_3 43 (by first | decide | omega))).trans har
            refine b_callv (va_runV (As := [.int (nI na), .int 1, .int a3]) (rest := []) ⟨hx, hb, hml, hown, hts⟩ (r_set l G g hg f_3 43 20 3 (na + 1) (upd da (Int32.toNatClampNeg ((nI na) * nI 3 + 0)) a2) (nI na) 1 a3 har had (by first | assumption | omega | decide) (by first | assumption | omega | decide) (by first | assumption | omega | decide) (by first | assumption | omega | decide) (inN_n (by omega) (by omega)) (by first | assumption | omega | decide)) (my_cwV hts ok_X5_set w_142 rfl rfl ⟨Nat.le_of_ble_eq_true rfl, Nat.le_of_ble_eq_true rfl⟩) ⟨bP.blind, va_recv hG.1 hP (ci := 5) (q0 := 43) rfl (wl_at (by decide) har), fun U hU hW => ⟨rfl, by rw [hU]; exact hP, kG.warm hW hG⟩⟩ rfl rfl hl.1 rfl (lv_room (Nat.le_of_ble_eq_true rfl)) dX10_act_100 ⟨Nat.le_of_ble_eq_true rfl, Nat.le_of_ble_eq_true rfl⟩) hS (fun f_4 H locs hq9 hP hS => ?_)
            obtain ⟨hq_4_0, o_4⟩ := hq9
            have had : f_4 44 = eI G (20 * 3) (upd (upd da (Int32.toNatClampNeg ((nI na) * nI 3 + 0)) a2) (Int32.toNatClampNeg ((nI na) * nI 3 + 1)) a3) := hq_4_0
            refine lv_aload_n hx hb dX10_act_103 rfl (lv_at hl 2 rfl) ?_
            replace hx0 := ((o_4 0 (by first | decide | omega))).trans hx0
            refine va_get (D := G.1) (ci := 9) (v := .ref (g 36)) (C := RX10) (T := TX10) (N := 7) hx hb hts inlX10 hown hG.1 hP 0 (wl_at (by decide) hx0) rfl 1 (by decide) (hts (.fieldLink RX10 20 "SwornLists" "book" "LSwornLists$Book;") w_16) (fun _ h9 => h9) rfl dX10_act_104 ?_
            replace hbk := ((o_4 36 (by first | decide | omega))).trans hbk
            refine va_getN (D := G.1) (ci := 0) (v := .ref (g 43)) (C := RX0) (T := TX0) (N := 9) (host := RX10) hx hb hts inlX0 hown hG.1 hP 36 (wl_at (by decide) hbk) rfl 3 (by decide) (va_Nw.use rfl (hG.2.1 (.fieldLinkNest RX10 134 RX0 "acts" "LSwornLists$Rows;" RX10) (List.mem_of_getElem? (i := 4) rfl))) (fun _ h9 => h9) rfl dX10_act_107 ?_
            refine lv_iload hx hb dX10_act_110 (lv_at hl 0 rfl) ?_
            refine lv_iconst (v := 2) hx hb dX10_act_112 (by decide) ?_
            refine lv_iconst (v := (-1)) hx hb dX10_act_113 (by decide) ?_
            replace har := ((o_4 43 (by first | decide | omega))).trans har
            refine b_callv (va_runV (As := [.int (nI na), .int 2, .int (-1)]) (rest := []) ⟨hx, hb, hml, hown, hts⟩ (r_set l G g hg f_4 43 20 3 (na + 1) (upd (upd da (Int32.toNatClampNeg ((nI na) * nI 3 + 0)) a2) (Int32.toNatClampNeg ((nI na) * nI 3 + 1)) a3) (nI na) 2 (-1) har had (by first | assumption | omega | decide) (by first | assumption | omega | decide) (by first | assumption | omega | decide) (by first | assumption | omega | decide) (inN_n (by omega) (by omega)) (by first | assumption | omega | decide)) (my_cwV hts ok_X5_set w_142 rfl rfl ⟨Nat.le_of_ble_eq_true rfl, Nat.le_of_ble_eq_true rfl⟩) ⟨bP.blind, va_recv hG.1 hP (ci := 5) (q0 := 43) rfl (wl_at (by decide) har), fun U hU hW => ⟨rfl, by rw [hU]; exact hP, kG.warm hW hG⟩⟩ rfl rfl hl.1 rfl (lv_room (Nat.le_of_ble_eq_true rfl)) dX10_act_114 ⟨Nat.le_of_ble_eq_true rfl, Nat.le_of_ble_eq_true rfl⟩) hS (fun f_5 H locs hq9 hP hS => ?_)
            obtain ⟨hq_5_0, o_5⟩ := hq9
            have had : f_5 44 = eI G (20 * 3) (upd (upd (upd da (Int32.toNatClampNeg ((nI na) * nI 3 + 0)) a2) (Int32.toNatClampNeg ((nI na) * nI 3 + 1)) a3) (Int32.toNatClampNeg ((nI na) * nI 3 + 2)) (-1)) := hq_5_0
            refine lv_aload_n hx hb dX10_act_117 rfl (lv_at hl 2 rfl) ?_
            replace hx0 := ((o_5 0 (by first | decide | omega))).trans hx0
            refine va_get (D := G.1) (ci := 9) (v := .ref (g 36)) (C := RX10) (T := TX10) (N := 7) hx hb hts inlX10 hown hG.1 hP 0 (wl_at (by decide) hx0) rfl 1 (by decide) (hts (.fieldLink RX10 20 "SwornLists" "book" "LSwornLists$Book;") w_16) (fun _ h9 => h9) rfl dX10_act_118 ?_
            replace hbk := ((o_5 36 (by first | decide | omega))).trans hbk
            refine va_getN (D := G.1) (ci := 0) (v := .ref (g 47)) (C := RX0) (T := TX0) (N := 9) (host := RX10) hx hb hts inlX0 hown hG.1 hP 36 (wl_at (by decide) hbk) rfl 5 (by decide) (va_Nw.use rfl (hG.2.1 (.fieldLinkNest RX10 137 RX0 "laws" "LSwornLists$Shelf;" RX10) (List.mem_of_getElem? (i := 8) rfl))) (fun _ h9 => h9) rfl dX10_act_121 ?_
            refine lv_iload hx hb dX10_act_124 (lv_at hl 0 rfl) ?_
            replace hla := ((o_5 47 (by first | decide | omega)).trans ((o_4 47 (by first | decide | omega)).trans ((o_3 47 (by first | decide | omega)).trans ((o_2 47 (by first | decide | omega)).trans ((o_1 47 (by first | decide | omega))))))).trans hla
            replace hlaa := ((o_5 48 (by first | decide | omega)).trans ((o_4 48 (by first | decide | omega)).trans ((o_3 48 (by first | decide | omega)).trans ((o_2 48 (by first | decide | omega)).trans ((o_1 48 (by first | decide | omega))))))).trans hlaa
            refine rd_calla (va_runV (As := [.int (nI na)]) (rest := []) ⟨hx, hb, hml, hown, hts⟩ (w_get l G g hg f_5 47 20 lf na hla hlaa (by first | assumption | omega | decide) (by first | assumption | omega | decide) (by first | assumption | omega | decide) (by first | assumption | omega | decide)) (my_cwV hts ok_X6_get w_245 rfl rfl ⟨Nat.le_of_ble_eq_true rfl, Nat.le_of_ble_eq_true rfl⟩) ⟨bP.blind, va_recv hG.1 hP (ci := 6) (q0 := 47) rfl (wl_at (by decide) hla), fun U hU hW => ⟨rfl, by rw [hU]; exact hP, kG.warm hW hG⟩⟩ rfl rfl hl.1 rfl (lv_room (Nat.le_of_ble_eq_true rfl)) dX10_act_126 ⟨Nat.le_of_ble_eq_true rfl, Nat.le_of_ble_eq_true rfl⟩) (fun r hr9 => ?_)
            subst hr9
            refine my_bea (v := .ref (g (3 * na + 52))) (by rw [show 47 + 3 * na + 5 = 3 * na + 52 by omega]) ?_
            replace hL : ∀ i, i < 20 → ltx G g f_1 (3 * i + 52) (LL i) (LG i) (i < na) := fun z hz => ltx_fr (hL z hz) (o_1 _ (by omega)) (o_1 _ (by omega)) (o_1 _ (by omega))
            replace hL : ∀ i, i < 20 → ltx G g f_2 (3 * i + 52) (LL i) (LG i) (i < na) := fun z hz => ltx_fr (hL z hz) (o_2 _ (by omega)) (o_2 _ (by omega)) (o_2 _ (by omega))
            replace hL : ∀ i, i < 20 → ltx G g f_3 (3 * i + 52) (LL i) (LG i) (i < na) := fun z hz => ltx_fr (hL z hz) (o_3 _ (by omega)) (o_3 _ (by omega)) (o_3 _ (by omega))
            replace hL : ∀ i, i < 20 → ltx G g f_4 (3 * i + 52) (LL i) (LG i) (i < na) := fun z hz => ltx_fr (hL z hz) (o_4 _ (by omega)) (o_4 _ (by omega)) (o_4 _ (by omega))
            replace hL : ∀ i, i < 20 → ltx G g f_5 (3 * i + 52) (LL i) (LG i) (i < na) := fun z hz => ltx_fr (hL z hz) (o_5 _ (by omega)) (o_5 _ (by omega)) (o_5 _ (by omega))
            obtain ⟨sc8, sp8, ⟨htx8, hsx8, hpx8, hln8, hsc8⟩, hlw8⟩ := hL na (by omega)
            refine lv_aload hx hb dX10_act_129 (lv_at hl 1 rfl) ?_
            replace htx7 : f_5 (3 * xn + 117) = eO 7 [.ref (g ((3 * xn + 117) + 1)), .ref (g ((3 * xn + 117) + 2)), .int (nI (TL xn)), .int (nI sc97)] := ((o_5 (3 * xn + 117) (by omega)).trans ((o_4 (3 * xn + 117) (by omega)).trans ((o_3 (3 * xn + 117) (by omega)).trans ((o_2 (3 * xn + 117) (by omega)))))).trans htx7
            replace hsx7 : f_5 (3 * xn + 118) = eI G 50 (TG xn) := ((o_5 (3 * xn + 118) (by omega)).trans ((o_4 (3 * xn + 118) (by omega)).trans ((o_3 (3 * xn + 118) (by omega)).trans ((o_2 (3 * xn + 118) (by omega)))))).trans hsx7
            replace hpx7 : f_5 (3 * xn + 119) = eI G 50 sp98 := ((o_5 (3 * xn + 119) (by omega)).trans ((o_4 (3 * xn + 119) (by omega)).trans ((o_3 (3 * xn + 119) (by omega)).trans ((o_2 (3 * xn + 119) (by omega)))))).trans hpx7
            refine b_callv (va_runV (As := [.ref (g (3 * xn + 117))]) (rest := []) ⟨hx, hb, hml, hown, hts⟩ (t_copy l G g hg f_5 (3 * na + 52) (LL na) sc8 (LG na) sp8 (3 * xn + 117) (TL xn) sc97 (TG xn) sp98 htx8 hsx8 hpx8 htx7 hsx7 hpx7 (by first | assumption | omega | decide) (by first | assumption | omega | decide) (by first | assumption | omega | decide) (by first | assumption | omega | decide) (by first | assumption | omega | decide)) (my_cwV hts ok_X8_copy w_594 rfl rfl ⟨Nat.le_of_ble_eq_true rfl, Nat.le_of_ble_eq_true rfl⟩) ⟨bP.blind, va_recv hG.1 hP (ci := 7) (q0 := (3 * na + 52)) rfl (wl_at (by omega) htx8), fun U hU hW => ⟨rfl, by rw [hU]; exact hP, kG.warm hW hG⟩⟩ rfl rfl hl.1 rfl (lv_room (Nat.le_of_ble_eq_true rfl)) dX10_act_131 ⟨Nat.le_of_ble_eq_true rfl, Nat.le_of_ble_eq_true rfl⟩) hS (fun f_6 H locs hq9 hP hS => ?_)
            obtain ⟨s910, p911, hq_6_0, hq_6_1, hq_6_2, hx_6_0, o_6⟩ := hq9
            have htx8 : f_6 (3 * na + 52) = eO 7 [.ref (g ((3 * na + 52) + 1)), .ref (g ((3 * na + 52) + 2)), .int (nI (TL xn)), .int (nI sc97)] := hq_6_0
            have hsx8 : f_6 (3 * na + 53) = eI G 50 s910 := hq_6_1
            have hpx8 : f_6 (3 * na + 54) = eI G 50 p911 := hq_6_2
            have hLn : ∀ i, i < 20 → ltx G g f_6 (3 * i + 52) (upN LL na (TL xn) i) (upN LG na s910 i) (i < na + 1) := fun z hz => if e9 : z = na then (by rw [e9, upN_s, upN_s]; exact ⟨_, _, ⟨hq_6_0, hq_6_1, hq_6_2, by omega, by omega⟩, fun _ => ltx_cp (by omega) (by omega) hx_6_0 ⟨c_47, hx_1_2 c_47⟩⟩) else (by rw [upN_o e9, upN_o e9]; exact ltx_im (ltx_fr (hL z hz) (o_6 _ (by omega)) (o_6 _ (by omega)) (o_6 _ (by omega))) (fun q => by omega))
            refine lv_aload_n hx hb dX10_act_134 rfl (lv_at hl 2 rfl) ?_
            replace hx0 := ((o_6 0 (by first | decide | omega))).trans hx0
            refine va_get (D := G.1) (ci := 9) (v := .ref (g 1)) (C := RX10) (T := TX10) (N := 7) hx hb hts inlX10 hown hG.1 hP 0 (wl_at (by decide) hx0) rfl 0 (by decide) (hts (.fieldLink RX10 12 "SwornLists" "court" "LSwornLists$Court;") w_15) (fun _ h9 => h9) rfl dX10_act_135 ?_
            refine lv_iconst (v := 0) hx hb dX10_act_138 (by decide) ?_
            replace hctc := ((o_6 1 (by first | decide | omega)).trans ((o_5 1 (by first | decide | omega)).trans ((o_4 1 (by first | decide | omega)).trans ((o_3 1 (by first | decide | omega)).trans ((o_2 1 (by first | decide | omega)).trans ((o_1 1 (by first | decide | omega)))))))).trans hctc
            refine b_callv (va_runV (As := [.int 0]) (rest := []) ⟨hx, hb, hml, hown, hts⟩ (u_unsettle l G g hg f_6 se 0 hctc (by first | assumption | omega | decide) (by first | assumption | omega | decide)) (my_cwV hts ok_X1_unsettle w_146 rfl rfl ⟨Nat.le_of_ble_eq_true rfl, Nat.le_of_ble_eq_true rfl⟩) ⟨bP.blind, va_recv hG.1 hP (ci := 1) (q0 := 1) rfl (wl_at (by decide) hctc), fun U hU hW => ⟨rfl, by rw [hU]; exact hP, kG.warm hW hG⟩⟩ rfl rfl hl.1 rfl (lv_room (Nat.le_of_ble_eq_true rfl)) dX10_act_139 ⟨Nat.le_of_ble_eq_true rfl, Nat.le_of_ble_eq_true rfl⟩) hS (fun f_7 H locs hq9 hP hS => ?_)
            obtain ⟨hq_7_0, o_7⟩ := hq9
            have hctc : f_7 1 = eO 1 [.ref (g 36), .ref (g 12), .ref (g 13), .ref (g 15), .int (nI (min se 0))] := hq_7_0
            refine lv_iload hx hb dX10_act_142 (lv_at hl 0 rfl) ?_
            refine W_q9 hQ9 ?_
            replace hx0 := ((o_7 0 (by first | decide | omega))).trans hx0
            replace hhs := ((o_7 12 (by first | decide | omega)).trans ((o_6 12 (by first | decide | omega)).trans ((o_5 12 (by first | decide | omega)).trans ((o_4 12 (by first | decide | omega)).trans ((o_3 12 (by first | decide | omega)).trans ((o_2 12 (by first | decide | omega)).trans ((o_1 12 (by first | decide | omega))))))))).trans hhs
            replace him := ((o_7 2 (by first | decide | omega)).trans ((o_6 2 (by first | decide | omega)).trans ((o_5 2 (by first | decide | omega)).trans ((o_4 2 (by first | decide | omega)).trans ((o_3 2 (by first | decide | omega)).trans ((o_2 2 (by first | decide | omega)).trans ((o_1 2 (by first | decide | omega))))))))).trans him
            replace hkp := ((o_7 3 (by first | decide | omega)).trans ((o_6 3 (by first | decide | omega)).trans ((o_5 3 (by first | decide | omega)).trans ((o_4 3 (by first | decide | omega)).trans ((o_3 3 (by first | decide | omega)).trans ((o_2 3 (by first | decide | omega)).trans ((o_1 3 (by first | decide | omega))))))))).trans hkp
            replace hrd := ((o_7 4 (by first | decide | omega)).trans ((o_6 4 (by first | decide | omega)).trans ((o_5 4 (by first | decide | omega)).trans ((o_4 4 (by first | decide | omega)).trans ((o_3 4 (by first | decide | omega)).trans ((o_2 4 (by first | decide | omega)))))))).trans hrd
            replace hmk := ((o_7 5 (by first | decide | omega)).trans ((o_6 5 (by first | decide | omega)).trans ((o_5 5 (by first | decide | omega)).trans ((o_4 5 (by first | decide | omega)).trans ((o_3 5 (by first | decide | omega)).trans ((o_2 5 (by first | decide | omega)))))))).trans hmk
            replace hfc6 := ((o_7 6 (by first | decide | omega)).trans ((o_6 6 (by first | decide | omega)).trans ((o_5 6 (by first | decide | omega)).trans ((o_4 6 (by first | decide | omega)).trans ((o_3 6 (by first | decide | omega)).trans ((o_2 6 (by first | decide | omega)).trans ((o_1 6 (by first | decide | omega))))))))).trans hfc6
            replace hwt := ((o_7 7 (by first | decide | omega)).trans ((o_6 7 (by first | decide | omega)).trans ((o_5 7 (by first | decide | omega)).trans ((o_4 7 (by first | decide | omega)).trans ((o_3 7 (by first | decide | omega)).trans ((o_2 7 (by first | decide | omega)).trans ((o_1 7 (by first | decide | omega))))))))).trans hwt
            replace hw8 := ((o_7 8 (by first | decide | omega)).trans ((o_6 8 (by first | decide | omega)).trans ((o_5 8 (by first | decide | omega)).trans ((o_4 8 (by first | decide | omega)).trans ((o_3 8 (by first | decide | omega)).trans ((o_2 8 (by first | decide | omega)).trans ((o_1 8 (by first | decide | omega))))))))).trans hw8
            replace hw9 := ((o_7 9 (by first | decide | omega)).trans ((o_6 9 (by first | decide | omega)).trans ((o_5 9 (by first | decide | omega)).trans ((o_4 9 (by first | decide | omega)).trans ((o_3 9 (by first | decide | omega)).trans ((o_2 9 (by first | decide | omega)).trans ((o_1 9 (by first | decide | omega))))))))).trans hw9
            replace hw10 := ((o_7 10 (by first | decide | omega)).trans ((o_6 10 (by first | decide | omega)).trans ((o_5 10 (by first | decide | omega)).trans ((o_4 10 (by first | decide | omega)).trans ((o_3 10 (by first | decide | omega)).trans ((o_2 10 (by first | decide | omega)).trans ((o_1 10 (by first | decide | omega))))))))).trans hw10
            replace hw11 := ((o_7 11 (by first | decide | omega)).trans ((o_6 11 (by first | decide | omega)).trans ((o_5 11 (by first | decide | omega)).trans ((o_4 11 (by first | decide | omega)).trans ((o_3 11 (by first | decide | omega)).trans ((o_2 11 (by first | decide | omega)).trans ((o_1 11 (by first | decide | omega))))))))).trans hw11
            replace hvl := ((o_7 15 (by first | decide | omega)).trans ((o_6 15 (by first | decide | omega)).trans ((o_5 15 (by first | decide | omega)).trans ((o_4 15 (by first | decide | omega)).trans ((o_3 15 (by first | decide | omega)).trans ((o_2 15 (by first | decide | omega)).trans ((o_1 15 (by first | decide | omega))))))))).trans hvl
            replace hbk := ((o_7 36 (by first | decide | omega)).trans ((o_6 36 (by first | decide | omega)))).trans hbk
            replace hpr := ((o_7 37 (by first | decide | omega)).trans ((o_6 37 (by first | decide | omega)).trans ((o_5 37 (by first | decide | omega)).trans ((o_4 37 (by first | decide | omega)).trans ((o_3 37 (by first | decide | omega)).trans ((o_2 37 (by first | decide | omega)).trans ((o_1 37 (by first | decide | omega))))))))).trans hpr
            replace hpd := ((o_7 38 (by first | decide | omega)).trans ((o_6 38 (by first | decide | omega)).trans ((o_5 38 (by first | decide | omega)).trans ((o_4 38 (by first | decide | omega)).trans ((o_3 38 (by first | decide | omega)).trans ((o_2 38 (by first | decide | omega)).trans ((o_1 38 (by first | decide | omega))))))))).trans hpd
            replace hfr := ((o_7 39 (by first | decide | omega)).trans ((o_6 39 (by first | decide | omega)).trans ((o_5 39 (by first | decide | omega)).trans ((o_4 39 (by first | decide | omega)).trans ((o_3 39 (by first | decide | omega)).trans ((o_2 39 (by first | decide | omega)).trans ((o_1 39 (by first | decide | omega))))))))).trans hfr
            replace hfd := ((o_7 40 (by first | decide | omega)).trans ((o_6 40 (by first | decide | omega)).trans ((o_5 40 (by first | decide | omega)).trans ((o_4 40 (by first | decide | omega)).trans ((o_3 40 (by first | decide | omega)).trans ((o_2 40 (by first | decide | omega)).trans ((o_1 40 (by first | decide | omega))))))))).trans hfd
            replace hor := ((o_7 41 (by first | decide | omega)).trans ((o_6 41 (by first | decide | omega)).trans ((o_5 41 (by first | decide | omega)).trans ((o_4 41 (by first | decide | omega)).trans ((o_3 41 (by first | decide | omega)).trans ((o_2 41 (by first | decide | omega)).trans ((o_1 41 (by first | decide | omega))))))))).trans hor
            replace hod := ((o_7 42 (by first | decide | omega)).trans ((o_6 42 (by first | decide | omega)).trans ((o_5 42 (by first | decide | omega)).trans ((o_4 42 (by first | decide | omega)).trans ((o_3 42 (by first | decide | omega)).trans ((o_2 42 (by first | decide | omega)).trans ((o_1 42 (by first | decide | omega))))))))).trans hod
            replace har := ((o_7 43 (by first | decide | omega)).trans ((o_6 43 (by first | decide | omega)).trans ((o_5 43 (by first | decide | omega))))).trans har
            replace had := ((o_7 44 (by first | decide | omega)).trans ((o_6 44 (by first | decide | omega)))).trans had
            replace htr := ((o_7 45 (by first | decide | omega)).trans ((o_6 45 (by first | decide | omega)).trans ((o_5 45 (by first | decide | omega)).trans ((o_4 45 (by first | decide | omega)).trans ((o_3 45 (by first | decide | omega)).trans ((o_2 45 (by first | decide | omega)).trans ((o_1 45 (by first | decide | omega))))))))).trans htr
            replace hct := ((o_7 46 (by first | decide | omega)).trans ((o_6 46 (by first | decide | omega)).trans ((o_5 46 (by first | decide | omega)).trans ((o_4 46 (by first | decide | omega)).trans ((o_3 46 (by first | decide | omega)).trans ((o_2 46 (by first | decide | omega)).trans ((o_1 46 (by first | decide | omega))))))))).trans hct
            replace hla := ((o_7 47 (by first | decide | omega)).trans ((o_6 47 (by first | decide | omega)))).trans hla
            replace hlaa := ((o_7 48 (by first | decide | omega)).trans ((o_6 48 (by first | decide | omega)))).trans hlaa
            replace hts0 := ((o_7 112 (by first | decide | omega)).trans ((o_6 112 (by first | decide | omega)).trans ((o_5 112 (by first | decide | omega)).trans ((o_4 112 (by first | decide | omega)).trans ((o_3 112 (by first | decide | omega)).trans ((o_2 112 (by first | decide | omega)).trans ((o_1 112 (by first | decide | omega))))))))).trans hts0
            replace htsa := ((o_7 113 (by first | decide | omega)).trans ((o_6 113 (by first | decide | omega)).trans ((o_5 113 (by first | decide | omega)).trans ((o_4 113 (by first | decide | omega)).trans ((o_3 113 (by first | decide | omega)).trans ((o_2 113 (by first | decide | omega)).trans ((o_1 113 (by first | decide | omega))))))))).trans htsa
            replace hH : ∀ i, i < 10 → okH G g f_1 (2 * i + 16) := fun z hz => okH_fr (hH z hz) (o_1 _ (by omega)) (o_1 _ (by omega))
            replace hH : ∀ i, i < 10 → okH G g f_2 (2 * i + 16) := fun z hz => okH_fr (hH z hz) (o_2 _ (by omega)) (o_2 _ (by omega))
            replace hH : ∀ i, i < 10 → okH G g f_3 (2 * i + 16) := fun z hz => okH_fr (hH z hz) (o_3 _ (by omega)) (o_3 _ (by omega))
            replace hH : ∀ i, i < 10 → okH G g f_4 (2 * i + 16) := fun z hz => okH_fr (hH z hz) (o_4 _ (by omega)) (o_4 _ (by omega))
            replace hH : ∀ i, i < 10 → okH G g f_5 (2 * i + 16) := fun z hz => okH_fr (hH z hz) (o_5 _ (by omega)) (o_5 _ (by omega))
            replace hH : ∀ i, i < 10 → okH G g f_6 (2 * i + 16) := fun z hz => okH_fr (hH z hz) (o_6 _ (by omega)) (o_6 _ (by omega))
            replace hH : ∀ i, i < 10 → okH G g f_7 (2 * i + 16) := fun z hz => okH_fr (hH z hz) (o_7 _ (by omega)) (o_7 _ (by omega))
            replace hSp : okH G g f_1 13 := okH_fr hSp (o_1 _ (by omega)) (o_1 _ (by omega))
            replace hSp : okH G g f_2 13 := okH_fr hSp (o_2 _ (by omega)) (o_2 _ (by omega))
            replace hSp : okH G g f_3 13 := okH_fr hSp (o_3 _ (by omega)) (o_3 _ (by omega))
            replace hSp : okH G g f_4 13 := okH_fr hSp (o_4 _ (by omega)) (o_4 _ (by omega))
            replace hSp : okH G g f_5 13 := okH_fr hSp (o_5 _ (by omega)) (o_5 _ (by omega))
            replace hSp : okH G g f_6 13 := okH_fr hSp (o_6 _ (by omega)) (o_6 _ (by omega))
            replace hSp : okH G g f_7 13 := okH_fr hSp (o_7 _ (by omega)) (o_7 _ (by omega))
            replace hT : ∀ i, i < 4 → txt G g f_2 (3 * i + 117) (TL i) (TG i) := fun z hz => txt_fr (hT z hz) (o_2 _ (by omega)) (o_2 _ (by omega)) (o_2 _ (by omega))
            replace hT : ∀ i, i < 4 → txt G g f_3 (3 * i + 117) (TL i) (TG i) := fun z hz => txt_fr (hT z hz) (o_3 _ (by omega)) (o_3 _ (by omega)) (o_3 _ (by omega))
            replace hT : ∀ i, i < 4 → txt G g f_4 (3 * i + 117) (TL i) (TG i) := fun z hz => txt_fr (hT z hz) (o_4 _ (by omega)) (o_4 _ (by omega)) (o_4 _ (by omega))
            replace hT : ∀ i, i < 4 → txt G g f_5 (3 * i + 117) (TL i) (TG i) := fun z hz => txt_fr (hT z hz) (o_5 _ (by omega)) (o_5 _ (by omega)) (o_5 _ (by omega))
            replace hT : ∀ i, i < 4 → txt G g f_6 (3 * i + 117) (TL i) (TG i) := fun z hz => txt_fr (hT z hz) (o_6 _ (by omega)) (o_6 _ (by omega)) (o_6 _ (by omega))
            replace hT : ∀ i, i < 4 → txt G g f_7 (3 * i + 117) (TL i) (TG i) := fun z hz => txt_fr (hT z hz) (o_7 _ (by omega)) (o_7 _ (by omega)) (o_7 _ (by omega))
            replace hB1 : bkD G g f_1 129 N1 E1 P1 L1 S1 W1 X1 := bkD_fr hB1 (fun j _ _ => o_1 j (by omega))
            replace hB1 : bkD G g f_2 129 N1 E1 P1 L1 S1 W1 X1 := bkD_fr hB1 (fun j _ _ => o_2 j (by omega))
            replace hB1 : bkD G g f_3 129 N1 E1 P1 L1 S1 W1 X1 := bkD_fr hB1 (fun j _ _ => o_3 j (by omega))
            replace hB1 : bkD G g f_4 129 N1 E1 P1 L1 S1 W1 X1 := bkD_fr hB1 (fun j _ _ => o_4 j (by omega))
            replace hB1 : bkD G g f_5 129 N1 E1 P1 L1 S1 W1 X1 := bkD_fr hB1 (fun j _ _ => o_5 j (by omega))
            replace hB1 : bkD G g f_6 129 N1 E1 P1 L1 S1 W1 X1 := bkD_fr hB1 (fun j _ _ => o_6 j (by omega))
            replace hB1 : bkD G g f_7 129 N1 E1 P1 L1 S1 W1 X1 := bkD_fr hB1 (fun j _ _ => o_7 j (by omega))
            replace hB2 : bkD G g f_1 222 N2 E2 P2 L2 S2 W2 X2 := bkD_fr hB2 (fun j _ _ => o_1 j (by omega))
            replace hB2 : bkD G g f_2 222 N2 E2 P2 L2 S2 W2 X2 := bkD_fr hB2 (fun j _ _ => o_2 j (by omega))
            replace hB2 : bkD G g f_3 222 N2 E2 P2 L2 S2 W2 X2 := bkD_fr hB2 (fun j _ _ => o_3 j (by omega))
            replace hB2 : bkD G g f_4 222 N2 E2 P2 L2 S2 W2 X2 := bkD_fr hB2 (fun j _ _ => o_4 j (by omega))
            replace hB2 : bkD G g f_5 222 N2 E2 P2 L2 S2 W2 X2 := bkD_fr hB2 (fun j _ _ => o_5 j (by omega))
            replace hB2 : bkD G g f_6 222 N2 E2 P2 L2 S2 W2 X2 := bkD_fr hB2 (fun j _ _ => o_6 j (by omega))
            replace hB2 : bkD G g f_7 222 N2 E2 P2 L2 S2 W2 X2 := bkD_fr hB2 (fun j _ _ => o_7 j (by omega))
            replace hLn : ∀ i, i < 20 → ltx G g f_7 (3 * i + 52) (upN LL na (TL xn) i) (upN LG na s910 i) (i < na + 1) := fun z hz => ltx_fr (hLn z hz) (o_7 _ (by omega)) (o_7 _ (by omega)) (o_7 _ (by omega))
            exact W.iret (v := nI na) hx hb hr (fun _ hT9 _ => ⟨⟨_, f_7, rfl, (⟨(na + 1), (upd (upd (upd da (Int32.toNatClampNeg ((nI na) * nI 3 + 0)) a2) (Int32.toNatClampNeg ((nI na) * nI 3 + 1)) a3) (Int32.toNatClampNeg ((nI na) * nI 3 + 2)) (-1)), (upN LL na (TL xn)), (upN LG na s910), cJ_mk ((min se 0)) (hf) (imf) (mc92) (op93) (cm94) (wu95) (mk96) (ab) (be) (mn) (le) (wt) (ww) (wb) (wf) (vv) (lf) (tf) (hx0) (hctc) (hhs) (him) (hkp) (hrd) (hmk) (hfc6) (hwt) (hw8) (hw9) (hw10) (hw11) (hvl) (hbk) (hpr) (hpd) (hfr) (hfd) (hor) (hod) (har) (had) (htr) (hct) (hla) (hlaa) (hts0) (htsa) (by omega) (hhf) (him0) (him1) (by omega) (by omega) (by omega) (by omega) (by omega) (by omega) (by omega) (hlf) (htf) (by omega) (hH) (hSp) (hLn) (hT) (hB1) (hB2) ((fun z hz => absurd hz (by omega))), (Or.inr ⟨⟨c_4, c_11, c_18⟩, xn, hxn, rfl, Or.inr (Or.inr ⟨c_47, hlt, rfl, rfl, rfl, rfl, _, rfl, fun i hi => (hx_6_0 i hi).1⟩)⟩), fun j hj => (((((((o_7 j (by omega))).trans (o_6 j (by omega))).trans (o_5 j (by omega))).trans (o_4 j (by omega))).trans (o_3 j (by omega))).trans (o_2 j (by omega))).trans (o_1 j (by omega))⟩), by rw [hT9]; exact hP⟩, hS.F hT9⟩) hS.2.2 dX10_act_144
          · replace har := ((o_1 43 (by first | decide | omega))).trans har
            refine rd_calli (va_runV (As := []) (rest := []) ⟨hx, hb, hml, hown, hts⟩ (r_growF l G g hg f_1 43 20 3 na har (by first | assumption | omega | decide) (by first | assumption | omega | decide) (by first | assumption | omega | decide) (by first | assumption | omega | decide) (by first | assumption | omega | decide)) (my_cwV hts ok_X5_grow w_137 rfl rfl ⟨Nat.le_of_ble_eq_true rfl, Nat.le_of_ble_eq_true rfl⟩) ⟨bP.blind, va_recv hG.1 hP (ci := 5) (q0 := 43) rfl (wl_at (by decide) har), fun U hU hW => ⟨rfl, by rw [hU]; exact hP, kG.warm hW hG⟩⟩ rfl rfl hl.1 rfl (lv_room (Nat.le_of_ble_eq_true rfl)) dX10_act_60 ⟨Nat.le_of_ble_eq_true rfl, Nat.le_of_ble_eq_true rfl⟩) (fun r hr9 => ?_)
            subst hr9
            refine lv_istore (lv' := [(5, .int (-4)), (4, .ref (g (3 * xn + 117))), (0, .ref (g 0)), (1, .int (nI xn)), (2, .int a2), (3, .int a3)]) hx hb dX10_act_63 hl (by decide) rfl (fun ls hl => ?_)
            refine lv_iload hx hb dX10_act_65 (lv_at hl 0 rfl) ?_
            refine lv_bipush (v := (-4)) hx hb dX10_act_67 (by decide) ?_
            refine lv_icmp_ne (tgt := 75) hx hb dX10_act_69 (by decide) (fun c_69 => absurd (by decide) c_69) (fun c_69 => ?_)
            refine lv_bipush (v := (-4)) hx hb dX10_act_72 (by decide) ?_
            refine W_q9 hQ9 ?_
            replace hctc := ((o_1 1 (by first | decide | omega))).trans hctc
            replace hhs := ((o_1 12 (by first | decide | omega))).trans hhs
            replace him := ((o_1 2 (by first | decide | omega))).trans him
            replace hkp := ((o_1 3 (by first | decide | omega))).trans hkp
            replace hfc6 := ((o_1 6 (by first | decide | omega))).trans hfc6
            replace hwt := ((o_1 7 (by first | decide | omega))).trans hwt
            replace hw8 := ((o_1 8 (by first | decide | omega))).trans hw8
            replace hw9 := ((o_1 9 (by first | decide | omega))).trans hw9
            replace hw10 := ((o_1 10 (by first | decide | omega))).trans hw10
            replace hw11 := ((o_1 11 (by first | decide | omega))).trans hw11
            replace hvl := ((o_1 15 (by first | decide | omega))).trans hvl
            replace hpr := ((o_1 37 (by first | decide | omega))).trans hpr
            replace hpd := ((o_1 38 (by first | decide | omega))).trans hpd
            replace hfr := ((o_1 39 (by first | decide | omega))).trans hfr
            replace hfd := ((o_1 40 (by first | decide | omega))).trans hfd
            replace hor := ((o_1 41 (by first | decide | omega))).trans hor
            replace hod := ((o_1 42 (by first | decide | omega))).trans hod
            replace had := ((o_1 44 (by first | decide | omega))).trans had
            replace htr := ((o_1 45 (by first | decide | omega))).trans htr
            replace hct := ((o_1 46 (by first | decide | omega))).trans hct
            replace hla := ((o_1 47 (by first | decide | omega))).trans hla
            replace hlaa := ((o_1 48 (by first | decide | omega))).trans hlaa
            replace hts0 := ((o_1 112 (by first | decide | omega))).trans hts0
            replace htsa := ((o_1 113 (by first | decide | omega))).trans htsa
            replace hH : ∀ i, i < 10 → okH G g f_1 (2 * i + 16) := fun z hz => okH_fr (hH z hz) (o_1 _ (by omega)) (o_1 _ (by omega))
            replace hSp : okH G g f_1 13 := okH_fr hSp (o_1 _ (by omega)) (o_1 _ (by omega))
            replace hL : ∀ i, i < 20 → ltx G g f_1 (3 * i + 52) (LL i) (LG i) (i < na) := fun z hz => ltx_fr (hL z hz) (o_1 _ (by omega)) (o_1 _ (by omega)) (o_1 _ (by omega))
            replace hB1 : bkD G g f_1 129 N1 E1 P1 L1 S1 W1 X1 := bkD_fr hB1 (fun j _ _ => o_1 j (by omega))
            replace hB2 : bkD G g f_1 222 N2 E2 P2 L2 S2 W2 X2 := bkD_fr hB2 (fun j _ _ => o_1 j (by omega))
            replace hQ : ∀ z, z < se → cHz G g f_1 np nf nr na dp df dr da ct LL LG z := fun z hz => okQ_fr (hQ z hz) (o_1 _ (by omega)) (o_1 _ (by omega))
            exact W.iret (v := (-4)) hx hb hr (fun _ hT9 _ => ⟨⟨_, f_1, rfl, (⟨na, da, LL, LG, cJ_mk (se) (hf) (imf) (mc92) (op93) (cm94) (wu95) (mk96) (ab) (be) (mn) (le) (wt) (ww) (wb) (wf) (vv) (lf) (tf) (hx0) (hctc) (hhs) (him) (hkp) (hrd) (hmk) (hfc6) (hwt) (hw8) (hw9) (hw10) (hw11) (hvl) (hbk) (hpr) (hpd) (hfr) (hfd) (hor) (hod) (har) (had) (htr) (hct) (hla) (hlaa) (hts0) (htsa) (by omega) (hhf) (him0) (him1) (by omega) (by omega) (by omega) (by omega) (by omega) (by omega) (by omega) (hlf) (htf) (by omega) (hH) (hSp) (hL) (hT) (hB1) (hB2) (hQ), (Or.inr ⟨⟨c_4, c_11, c_18⟩, xn, hxn, rfl, Or.inr (Or.inl ⟨c_47, hlt, rfl, rfl, rfl, rfl, rfl⟩)⟩), fun j hj => (o_1 j (by omega))⟩), by rw [hT9]; exact hP⟩, hS.F hT9⟩) hS.2.2 dX10_act_74
        · refine lv_bipush (v := (-3)) hx hb dX10_act_50 (by decide) ?_
          refine W_q9 hQ9 ?_
          replace hx0 := ((o_1 0 (by first | decide | omega))).trans hx0
          replace hctc := ((o_1 1 (by first | decide | omega))).trans hctc
          replace hhs := ((o_1 12 (by first | decide | omega))).trans hhs
          replace him := ((o_1 2 (by first | decide | omega))).trans him
          replace hkp := ((o_1 3 (by first | decide | omega))).trans hkp
          replace hfc6 := ((o_1 6 (by first | decide | omega))).trans hfc6
          replace hwt := ((o_1 7 (by first | decide | omega))).trans hwt
          replace hw8 := ((o_1 8 (by first | decide | omega))).trans hw8
          replace hw9 := ((o_1 9 (by first | decide | omega))).trans hw9
          replace hw10 := ((o_1 10 (by first | decide | omega))).trans hw10
          replace hw11 := ((o_1 11 (by first | decide | omega))).trans hw11
          replace hvl := ((o_1 15 (by first | decide | omega))).trans hvl
          replace hbk := ((o_1 36 (by first | decide | omega))).trans hbk
          replace hpr := ((o_1 37 (by first | decide | omega))).trans hpr
          replace hpd := ((o_1 38 (by first | decide | omega))).trans hpd
          replace hfr := ((o_1 39 (by first | decide | omega))).trans hfr
          replace hfd := ((o_1 40 (by first | decide | omega))).trans hfd
          replace hor := ((o_1 41 (by first | decide | omega))).trans hor
          replace hod := ((o_1 42 (by first | decide | omega))).trans hod
          replace har := ((o_1 43 (by first | decide | omega))).trans har
          replace had := ((o_1 44 (by first | decide | omega))).trans had
          replace htr := ((o_1 45 (by first | decide | omega))).trans htr
          replace hct := ((o_1 46 (by first | decide | omega))).trans hct
          replace hla := ((o_1 47 (by first | decide | omega))).trans hla
          replace hlaa := ((o_1 48 (by first | decide | omega))).trans hlaa
          replace hts0 := ((o_1 112 (by first | decide | omega))).trans hts0
          replace htsa := ((o_1 113 (by first | decide | omega))).trans htsa
          replace hH : ∀ i, i < 10 → okH G g f_1 (2 * i + 16) := fun z hz => okH_fr (hH z hz) (o_1 _ (by omega)) (o_1 _ (by omega))
          replace hSp : okH G g f_1 13 := okH_fr hSp (o_1 _ (by omega)) (o_1 _ (by omega))
          replace hL : ∀ i, i < 20 → ltx G g f_1 (3 * i + 52) (LL i) (LG i) (i < na) := fun z hz => ltx_fr (hL z hz) (o_1 _ (by omega)) (o_1 _ (by omega)) (o_1 _ (by omega))
          replace hB1 : bkD G g f_1 129 N1 E1 P1 L1 S1 W1 X1 := bkD_fr hB1 (fun j _ _ => o_1 j (by omega))
          replace hB2 : bkD G g f_1 222 N2 E2 P2 L2 S2 W2 X2 := bkD_fr hB2 (fun j _ _ => o_1 j (by omega))
          replace hQ : ∀ z, z < se → cHz G g f_1 np nf nr na dp df dr da ct LL LG z := fun z hz => okQ_fr (hQ z hz) (o_1 _ (by omega)) (o_1 _ (by omega))
          exact W.iret (v := (-3)) hx hb hr (fun _ hT9 _ => ⟨⟨_, f_1, rfl, (⟨na, da, LL, LG, cJ_mk (se) (hf) (imf) (mc92) (op93) (cm94) (wu95) (mk96) (ab) (be) (mn) (le) (wt) (ww) (wb) (wf) (vv) (lf) (tf) (hx0) (hctc) (hhs) (him) (hkp) (hrd) (hmk) (hfc6) (hwt) (hw8) (hw9) (hw10) (hw11) (hvl) (hbk) (hpr) (hpd) (hfr) (hfd) (hor) (hod) (har) (had) (htr) (hct) (hla) (hlaa) (hts0) (htsa) (by omega) (hhf) (him0) (him1) (by omega) (by omega) (by omega) (by omega) (by omega) (by omega) (by omega) (hlf) (htf) (by omega) (hH) (hSp) (hL) (hT) (hB1) (hB2) (hQ), (Or.inr ⟨⟨c_4, c_11, c_18⟩, xn, hxn, rfl, Or.inl ⟨c_47, rfl, rfl, rfl, rfl, rfl⟩⟩), fun j hj => (o_1 j (by omega))⟩), by rw [hT9]; exact hP⟩, hS.F hT9⟩) hS.2.2 dX10_act_52
      · refine lv_bipush (v := (-2)) hx hb dX10_act_21 (by decide) ?_
        refine W_q9 hQ9 ?_
        exact W.iret (v := (-2)) hx hb hr (fun _ hT9 _ => ⟨⟨_, f, rfl, (⟨na, da, LL, LG, cJ_mk (se) (hf) (imf) (mc) (op) (cm) (wu) (mk) (ab) (be) (mn) (le) (wt) (ww) (wb) (wf) (vv) (lf) (tf) (hx0) (hctc) (hhs) (him) (hkp) (hrd) (hmk) (hfc6) (hwt) (hw8) (hw9) (hw10) (hw11) (hvl) (hbk) (hpr) (hpd) (hfr) (hfd) (hor) (hod) (har) (had) (htr) (hct) (hla) (hlaa) (hts0) (htsa) (by omega) (hhf) (him0) (him1) (by omega) (by omega) (by omega) (by omega) (by omega) (by omega) (by omega) (hlf) (htf) (by omega) (hH) (hSp) (hL) (hT) (hB1) (hB2) (hQ), (Or.inl ⟨fun z => c_18 z.2.2, rfl, rfl, rfl, rfl, rfl⟩), fun j hj => rfl⟩), by rw [hT9]; exact hP⟩, hS.F hT9⟩) hS.2.2 dX10_act_23
theorem j_act (l : Launch) (G : gW) (g : Nat → Nat) (hg : gOK g) (f : Nat → va_E) (np : Nat) (dp : Nat → Int32) (nf : Nat) (df : Nat → Int32) (nr : Nat) (dr : Nat → Int32) (nt : Nat) (ct : Nat → Int32) (pay : Int32) (fine : Int32) (kf : Nat → Int32) (na : Nat) (da : Nat → Int32) (TL : Nat → Nat) (TG : Nat → Nat → Int32) (LL : Nat → Nat) (LG : Nat → Nat → Int32) (N1 : Nat → Nat) (E1 : Nat → Nat → Int32) (P1 : Nat → Int32) (L1 : Nat → Nat) (S1 : Nat → Nat → Int32) (W1 : Nat → Nat) (X1 : Nat → Nat → Int32) (N2 : Nat → Nat) (E2 : Nat → Nat → Int32) (P2 : Nat → Int32) (L2 : Nat → Nat) (S2 : Nat → Nat → Int32) (W2 : Nat → Nat) (X2 : Nat → Nat → Int32) (a1 : Int32) (a2 : Int32) (a3 : Int32) (hI : cJ G g f np dp nf df nr dr nt ct pay fine kf na da TL TG LL LG N1 E1 P1 L1 S1 W1 X1 N2 E2 P2 L2 S2 W2 X2) (hTr : trC ct nt) : Met l yX10_act (wsT yX10_act cX10_act 6 (some .int)) ({ frames := 5, cells := 0, slots := 0, locals := 112 }) (bP G g f [.ref (g 0), .int a1, .int a2, .int a3]) (bQi G g (fun (z9 : Int32) (f' : Nat → va_E) => ∃ na9 : Nat, ∃ da9 : Nat → Int32, ∃ LL9 : Nat → Nat, ∃ LG9 : Nat → Nat → Int32, (cJ G g f' np dp nf df nr dr nt ct pay fine kf na9 da9 TL TG LL9 LG9 N1 E1 P1 L1 S1 W1 X1 N2 E2 P2 L2 S2 W2 X2) ∧ ((¬ (inB 0 a1 3 = true ∧ inB 0 a2 1 = true ∧ inB 0 a3 9999 = true) ∧ z9 = -2 ∧ na9 = na ∧ da9 = da ∧ LL9 = LL ∧ LG9 = LG) ∨ ((inB 0 a1 3 = true ∧ inB 0 a2 1 = true ∧ inB 0 a3 9999 = true) ∧ ∃ x, x ≤ 3 ∧ a1 = nI x ∧ ((¬ rdA (TL x) (TG x) = -1 ∧ z9 = -3 ∧ na9 = na ∧ da9 = da ∧ LL9 = LL ∧ LG9 = LG) ∨ (rdA (TL x) (TG x) = -1 ∧ ¬ na < 20 ∧ z9 = -4 ∧ na9 = na ∧ da9 = da ∧ LL9 = LL ∧ LG9 = LG) ∨ (rdA (TL x) (TG x) = -1 ∧ na < 20 ∧ z9 = nI na ∧ na9 = na + 1 ∧ da9 = upd (upd (upd da (Int32.toNatClampNeg (nI na * nI 3 + 0)) a2) (Int32.toNatClampNeg (nI na * nI 3 + 1)) a3) (Int32.toNatClampNeg (nI na * nI 3 + 2)) (-1) ∧ LL9 = upN LL na (TL x) ∧ ∃ s, LG9 = upN LG na s ∧ ∀ i, i < 50 → s i = TG x i)))) ∧ ∀ j, 315 ≤ j → f' j = f j)) 0 0 (gA g) := cJ_elim hI (fun se hf imf mc op cm wu mk ab be mn le wt ww wb wf vv lf tf hx0 hctc hhs him hkp hrd hmk hfc6 hwt hw8 hw9 hw10 hw11 hvl hbk hpr hpd hfr hfd hor hod har had htr hct hla hlaa hts0 htsa hse hhf him0 him1 hmc hmn hnp hnf hnr hna hnt hlf htf hsn hH hSp hL hT hB1 hB2 hQ => jn_act l G g hg f se hf imf kf mc op cm wu mk ab be mn le wt ww wb wf vv pay fine np dp nf df nr dr na da nt ct lf tf TL TG LL LG N1 E1 P1 L1 S1 W1 X1 N2 E2 P2 L2 S2 W2 X2 a1 a2 a3 hx0 hctc hhs him hkp hrd hmk hfc6 hwt hw8 hw9 hw10 hw11 hvl hbk hpr hpd hfr hfd hor hod har had htr hct hla hlaa hts0 htsa hse hhf him0 him1 hmc hmn hnp hnf hnr hna hnt hlf htf hsn hTr hH hSp hL hT hB1 hB2 hQ)


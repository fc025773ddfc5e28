def imA (a : Int32) : Int32 := if inB 0 a 1 = true then 1 else -2
set_option maxHeartbeats 4000000 in
set_option maxRecDepth 100000 in
theorem n_imageE (l : Launch) (G : gW) (g : Nat → Nat) (hg : gOK g) (f : Nat → va_E) (se : Nat) (hf : Nat → Option Nat) (imf : Nat → Option Nat) (kf : Nat → Int32) (mc : Nat) (op : Int32) (cm : Int32) (wu : Int32) (mk : Nat → Int32) (ab : Int64) (be : Int64) (mn : Nat) (le : Int32) (wt : Nat → Int32) (ww : Nat → Int32) (wb : Nat → Int32) (wf : Nat → Int32) (vv : Nat → Int64) (pay : Int32) (fine : Int32) (np : Nat) (dp : Nat → Int32) (nf : Nat) (df : Nat → Int32) (nr : Nat) (dr : Nat → Int32) (na : Nat) (da : Nat → Int32) (nt : Nat) (ct : Nat → Int32) (lf : Nat → Option Nat) (tf : Nat → Option Nat) (a1 : Int32) (hx0 : f 0 = eO 9 [.ref (g 1), .ref (g 36), .ref (g 2), .ref (g 3), .ref (g 4), .ref (g 6), .ref (g 7)]) (hctc : f 1 = eO 1 [.ref (g 36), .ref (g 12), .ref (g 13), .ref (g 15), .int (nI se)]) (hhs : f 12 = eA G 4 10 hf) (him : f 2 = eA G 3 2 imf) (hkp : f 3 = eZ G 2 kf) (hrd : f 4 = eO 4 [.ref (g 5), .int (nI mc), .int op, .int cm, .int wu]) (hmk : f 5 = eI G 50 mk) (hfc6 : f 6 = eO 2 [.long ab, .long be]) (hwt : f 7 = eO 8 [.ref (g 8), .ref (g 9), .ref (g 10), .ref (g 11), .int (nI mn), .int le]) (hw8 : f 8 = eI G 6 wt) (hw9 : f 9 = eI G 6 ww) (hw10 : f 10 = eI G 6 wb) (hw11 : f 11 = eI G 6 wf) (hvl : f 15 = eJ G 50 vv) (hbk : f 36 = eO 0 [.ref (g 37), .ref (g 39), .ref (g 41), .ref (g 43), .ref (g 45), .ref (g 47), .ref (g 112), .int pay, .int fine]) (hpr : f 37 = eO 5 [.int (nI 30), .int (nI 4), .ref (g 38), .int (nI np)]) (hpd : f 38 = eI G (30 * 4) dp) (hfr : f 39 = eO 5 [.int (nI 40), .int (nI 3), .ref (g 40), .int (nI nf)]) (hfd : f 40 = eI G (40 * 3) df) (hor : f 41 = eO 5 [.int (nI 4), .int (nI 3), .ref (g 42), .int (nI nr)]) (hod : f 42 = eI G (4 * 3) dr) (har : f 43 = eO 5 [.int (nI 20), .int (nI 3), .ref (g 44), .int (nI na)]) (had : f 44 = eI G (20 * 3) da) (htr : f 45 = eO 5 [.int (nI 10), .int (nI 70), .ref (g 46), .int (nI nt)]) (hct : f 46 = eI G (10 * 70) ct) (hla : f 47 = eO 6 [.ref (g 48), .ref (g 49)]) (hlaa : f 48 = eA G 5 20 lf) (hts0 : f 112 = eO 6 [.ref (g 113), .ref (g 114)]) (htsa : f 113 = eA G 5 4 tf) (hse : se ≤ 10) (hhf : ∀ i, i < 10 → hf i = some (g (2 * i + 16))) (him0 : imf 0 = some (g 129)) (him1 : imf 1 = some (g 222)) (hmc : mc ≤ 50) (hmn : mn ≤ 6) (hnp : np ≤ 30) (hnf : nf ≤ 40) (hnr : nr ≤ 4) (hna : na ≤ 20) (hnt : nt ≤ 10) (hlf : ∀ z, z < 20 → lf z = some (g (47 + 3 * z + 5))) (htf : ∀ z, z < 4 → tf z = some (g (112 + 3 * z + 5))) (hH : ∀ i, i < 10 → okH G g f (2 * i + 16)) (hSp : okH G g f 13) (hL : ∀ i, i < 20 → okT G g f (3 * i + 52)) (hT : ∀ i, i < 4 → okT G g f (3 * i + 117)) (hB1 : okB G g f 129) (hB2 : okB G g f 222) : Met l yX10_image (wsT yX10_image cX10_image 2 (some .int)) ({ frames := 4, cells := 0, slots := 0, locals := 82 }) (bP G g f [.ref (g 0), .int a1]) (bQi G g (fun (z9 : Int32) (f' : Nat → va_E) => z9 = imA a1 ∧ (cI G g f') ∧ ∀ j, 315 ≤ j → f' j = f j)) 0 0 (gA g) := by
  refine Met.ofW (cc := cX10_image) (maxL := 2) (ret := (some .int)) (by decide) rfl ?_
  intro p e s m args below meth c s₁ B hml hv
  obtain ⟨rfl, hP, hG⟩ := hv
  have hx := B.exec
  have hb := B.bytes
  have hr := B.returns
  have hts := my_hts (atoms_spec (ws := wsT yX10_image cX10_image 2 (some .int)) B.pre)
  have hown : s.vm.findClass RX10 = some m.cls := findClass_of_methodNamed B.named
  have hlocks := B.notSynchronized
  have hS : va_S (gA g) s.heap s.heap [] := va_S.rf
  have hl := lv_entry ([.ref (g 0), .int a1]) (n := 2) (Nat.le_of_ble_eq_true rfl)
  rw [lg_entry_eq]
  generalize (lg_sl ([.ref (g 0), .int a1]) ++ List.replicate (2 - (lg_sl ([.ref (g 0), .int a1])).length) Slot.unset).toArray = ls at hl ⊢
  have hl : lv_has ls 2 [(0, .ref (g 0)), (1, .int a1)] := hl
  refine lv_iload_n hx hb dX10_image_0 rfl (lv_at hl 1 rfl) ?_
  refine lv_iconst (v := 0) hx hb dX10_image_1 (by decide) ?_
  refine lv_iconst (v := 1) hx hb dX10_image_2 (by decide) ?_
  refine rd_calli (va_runS (As := [.int a1, .int 0, .int 1]) (rest := []) ⟨hx, hb, hml, hown, hts⟩ (s_within l G g hg f a1 0 1  ) (my_cwS hts ok_X10_within w_134 rfl rfl ⟨Nat.le_of_ble_eq_true rfl, Nat.le_of_ble_eq_true rfl⟩) ⟨bP.blind, fun U hU hW => ⟨rfl, by rw [hU]; exact hP, kG.warm hW hG⟩⟩ rfl rfl hl.1 rfl (lv_room (Nat.le_of_ble_eq_true rfl)) dX10_image_3 ⟨Nat.le_of_ble_eq_true rfl, Nat.le_of_ble_eq_true rfl⟩) (fun r hr9 => ?_)
  subst hr9
  refine my_ifne (tgt := 12) hx hb dX10_image_6 (by decide) (fun c_6 => ?_) (fun c_6 => ?_)
  · rcases inB_01.mp c_6 with e9 | e9
    · subst e9
      obtain ⟨pay1, fine1, np1, dp1, nf1, df1, nr1, dr1, na1, da1, nt1, dt1, lf1, tf1, hbk1, hp1r, hp1d, hf1r, hf1d, hr1r, hr1d, ha1r, ha1d, ht1r, ht1d, hsl1, hal1, hsw1, haw1, hnp1, hnf1, hnr1, hna1, hnt1, hlf1, htf1, hKl1, hKw1⟩ := id hB1
      refine lv_aload_n hx hb dX10_image_12 rfl (lv_at hl 0 rfl) ?_
      refine va_get (D := G.1) (ci := 9) (v := .ref (g 2)) (C := RX10) (T := TX10) (N := 7) hx hb hts inlX10 hown hG.1 hP 0 (wl_at (by decide) hx0) rfl 2 (by decide) (hts (.fieldLink RX10 23 "SwornLists" "images" "[LSwornLists$Book;") w_18) (fun _ h9 => h9) rfl dX10_image_13 ?_
      refine lv_iload_n hx hb dX10_image_16 rfl (lv_at hl 1 rfl) ?_
      refine va_aldq hx hb hG.1 hP 2 3 (wl_at (by decide) him) rfl (by unfold vp_in; decide) dX10_image_17 ?_
      refine my_bea (v := .ref (g 129)) (by rw [show Int32.toNatClampNeg 0 = 0 from rfl, him0]; rfl) ?_
      refine lv_aload_n hx hb dX10_image_18 rfl (lv_at hl 0 rfl) ?_
      refine va_get (D := G.1) (ci := 9) (v := .ref (g 36)) (C := RX10) (T := TX10) (N := 7) hx hb hts inlX10 hown hG.1 hP 0 (wl_at (by decide) hx0) rfl 1 (by decide) (hts (.fieldLink RX10 20 "SwornLists" "book" "LSwornLists$Book;") w_16) (fun _ h9 => h9) rfl dX10_image_19 ?_
      obtain ⟨ll, cl, gl, sl, hKl2⟩ := okT_sk (P := fun z => 3 * z + 52) hL
      obtain ⟨lw, cw, gw, sw, hKw2⟩ := okT_sk (P := fun z => 3 * z + 117) hT
      refine b_callv (va_runV (As := [.ref (g 36)]) (rest := []) ⟨hx, hb, hml, hown, hts⟩ (k_copy l G g hg f 129 36 pay1 fine1 np1 dp1 nf1 df1 nr1 dr1 na1 da1 nt1 dt1 lf1 tf1 pay fine np dp nf df nr dr na da nt ct lf tf ll cl gl sl lw cw gw sw hbk1 hp1r hp1d hf1r hf1d hr1r hr1d ha1r ha1d ht1r ht1d hsl1 hal1 hsw1 haw1 hbk hpr hpd hfr hfd hor hod har had htr hct hla hlaa hts0 htsa (by first | assumption | omega | decide) (by first | assumption | omega | decide) (by first | assumption | omega | decide) (by first | assumption | omega | decide) (by first | assumption | omega | decide) (hlf1) (htf1) (by first | assumption | omega | decide) (by first | assumption | omega | decide) (by first | assumption | omega | decide) (by first | assumption | omega | decide) (by first | assumption | omega | decide) (hlf) (htf) (by first | assumption | omega | decide) (by first | assumption | omega | decide) (by first | assumption | omega | decide) (hKl1) (hKw1) (hKl2) (hKw2)) (my_cwV hts ok_X0_copy w_894 rfl rfl ⟨Nat.le_of_ble_eq_true rfl, Nat.le_of_ble_eq_true rfl⟩) ⟨bP.blind, va_recv hG.1 hP (ci := 0) (q0 := 129) rfl (wl_at (by decide) hbk1), fun U hU hW => ⟨rfl, by rw [hU]; exact hP, kG.warm hW hG⟩⟩ rfl rfl hl.1 rfl (lv_room (Nat.le_of_ble_eq_true rfl)) dX10_image_22 ⟨Nat.le_of_ble_eq_true rfl, Nat.le_of_ble_eq_true rfl⟩) hS (fun f_1 H locs hq9 hP hS => ?_)
      obtain ⟨dp91, df92, dr93, da94, dt95, gl96, sl97, gw98, sw99, hq_1_0, hq_1_1, hq_1_2, hq_1_3, hq_1_4, hq_1_5, hq_1_6, hq_1_7, hq_1_8, hq_1_9, hq_1_10, hq_1_11, hq_1_12, hq_1_13, hq_1_14, hx_1_0, hx_1_1, hx_1_2, hx_1_3, hx_1_4, hx_1_5, hx_1_6, hx_1_7, hx_1_8, o_1⟩ := hq9
      have hbk1 : f_1 129 = eO 0 [.ref (g (129 + 1)), .ref (g (129 + 3)), .ref (g (129 + 5)), .ref (g (129 + 7)), .ref (g (129 + 9)), .ref (g (129 + 11)), .ref (g (129 + 76)), .int pay, .int fine] := hq_1_0
      have hp1r : f_1 130 = eO 5 [.int (nI 30), .int (nI 4), .ref (g (129 + 2)), .int (nI np)] := hq_1_1
      have hp1d : f_1 131 = eI G (30 * 4) dp91 := hq_1_2
      have hf1r : f_1 132 = eO 5 [.int (nI 40), .int (nI 3), .ref (g (129 + 4)), .int (nI nf)] := hq_1_3
      have hf1d : f_1 133 = eI G (40 * 3) df92 := hq_1_4
      have hr1r : f_1 134 = eO 5 [.int (nI 4), .int (nI 3), .ref (g (129 + 6)), .int (nI nr)] := hq_1_5
      have hr1d : f_1 135 = eI G (4 * 3) dr93 := hq_1_6
      have ha1r : f_1 136 = eO 5 [.int (nI 20), .int (nI 3), .ref (g (129 + 8)), .int (nI na)] := hq_1_7
      have ha1d : f_1 137 = eI G (20 * 3) da94 := hq_1_8
      have ht1r : f_1 138 = eO 5 [.int (nI 10), .int (nI 70), .ref (g (129 + 10)), .int (nI nt)] := hq_1_9
      have ht1d : f_1 139 = eI G (10 * 70) dt95 := hq_1_10
      have hsl1 : f_1 140 = eO 6 [.ref (g (129 + 12)), .ref (g (129 + 13))] := hq_1_11
      have hal1 : f_1 141 = eA G 5 20 lf1 := hq_1_12
      have hsw1 : f_1 205 = eO 6 [.ref (g (129 + 77)), .ref (g (129 + 78))] := hq_1_13
      have haw1 : f_1 206 = eA G 5 4 tf1 := hq_1_14
      have hB1 : okB G g f_1 129 := ⟨pay, fine, np, dp91, nf, df92, nr, dr93, na, da94, nt, dt95, lf1, tf1, hbk1, hp1r, hp1d, hf1r, hf1d, hr1r, hr1d, ha1r, ha1d, ht1r, ht1d, hsl1, hal1, hsw1, haw1, by omega, by omega, by omega, by omega, by omega, hlf1, htf1, fun z hz => (hx_1_5 z hz).ok, fun z hz => (hx_1_7 z hz).ok⟩
      refine lv_aload_n hx hb dX10_image_25 rfl (lv_at hl 0 rfl) ?_
      have hx0 : f_1 0 = eO 9 [.ref (g 1), .ref (g 36), .ref (g 2), .ref (g 3), .ref (g 4), .ref (g 6), .ref (g 7)] := ((o_1 0 (by first | decide | omega))).trans hx0
      refine va_get (D := G.1) (ci := 9) (v := .ref (g 3)) (C := RX10) (T := TX10) (N := 7) hx hb hts inlX10 hown hG.1 hP 0 (wl_at (by decide) hx0) rfl 3 (by decide) (hts (.fieldLink RX10 27 "SwornLists" "kept" "[Z") w_20) (fun _ h9 => h9) rfl dX10_image_26 ?_
      refine lv_iload_n hx hb dX10_image_29 rfl (lv_at hl 1 rfl) ?_
      refine lv_iconst (v := 1) hx hb dX10_image_30 (by decide) ?_
      have hkp : f_1 3 = eZ G 2 kf := ((o_1 3 (by first | decide | omega))).trans hkp
      refine va_zast hx hb hG.1 hP (wl_D hg f_1) hS 3 2 (wl_at (by decide) hkp) rfl (by unfold vp_in; decide) dX10_image_31 (fun H locs hP _ hS => ?_)
      obtain ⟨f_2, hP, e_2, o_2⟩ := b_put (by decide) hP
      have hkp : f_2 3 = eZ G 2 (upd kf (Int32.toNatClampNeg 0) (vp_nar .boolean 1)) := e_2
      refine lv_iconst (v := 1) hx hb dX10_image_32 (by decide) ?_
      have hx0 : f_2 0 = eO 9 [.ref (g 1), .ref (g 36), .ref (g 2), .ref (g 3), .ref (g 4), .ref (g 6), .ref (g 7)] := ((o_2 0 (by decide))).trans hx0
      have hctc : f_2 1 = eO 1 [.ref (g 36), .ref (g 12), .ref (g 13), .ref (g 15), .int (nI se)] := ((o_2 1 (by decide)).trans ((o_1 1 (by first | decide | omega)))).trans hctc
      have hhs : f_2 12 = eA G 4 10 hf := ((o_2 12 (by decide)).trans ((o_1 12 (by first | decide | omega)))).trans hhs
      have him : f_2 2 = eA G 3 2 imf := ((o_2 2 (by decide)).trans ((o_1 2 (by first | decide | omega)))).trans him
      have hrd : f_2 4 = eO 4 [.ref (g 5), .int (nI mc), .int op, .int cm, .int wu] := ((o_2 4 (by decide)).trans ((o_1 4 (by first | decide | omega)))).trans hrd
      have hmk : f_2 5 = eI G 50 mk := ((o_2 5 (by decide)).trans ((o_1 5 (by first | decide | omega)))).trans hmk
      have hfc6 : f_2 6 = eO 2 [.long ab, .long be] := ((o_2 6 (by decide)).trans ((o_1 6 (by first | decide | omega)))).trans hfc6
      have hwt : f_2 7 = eO 8 [.ref (g 8), .ref (g 9), .ref (g 10), .ref (g 11), .int (nI mn), .int le] := ((o_2 7 (by decide)).trans ((o_1 7 (by first | decide | omega)))).trans hwt
      have hw8 : f_2 8 = eI G 6 wt := ((o_2 8 (by decide)).trans ((o_1 8 (by first | decide | omega)))).trans hw8
      have hw9 : f_2 9 = eI G 6 ww := ((o_2 9 (by decide)).trans ((o_1 9 (by first | decide | omega)))).trans hw9
      have hw10 : f_2 10 = eI G 6 wb := ((o_2 10 (by decide)).trans ((o_1 10 (by first | decide | omega)))).trans hw10
      have hw11 : f_2 11 = eI G 6 wf := ((o_2 11 (by decide)).trans ((o_1 11 (by first | decide | omega)))).trans hw11
      have hvl : f_2 15 = eJ G 50 vv := ((o_2 15 (by decide)).trans ((o_1 15 (by first | decide | omega)))).trans hvl
      have hbk : f_2 36 = eO 0 [.ref (g 37), .ref (g 39), .ref (g 41), .ref (g 43), .ref (g 45), .ref (g 47), .ref (g 112), .int pay, .int fine] := ((o_2 36 (by decide)).trans ((o_1 36 (by first | decide | omega)))).trans hbk
      have hpr : f_2 37 = eO 5 [.int (nI 30), .int (nI 4), .ref (g 38), .int (nI np)] := ((o_2 37 (by decide)).trans ((o_1 37 (by first | decide | omega)))).trans hpr
      have hpd : f_2 38 = eI G (30 * 4) dp := ((o_2 38 (by decide)).trans ((o_1 38 (by first | decide | omega)))).trans hpd
      have hfr : f_2 39 = eO 5 [.int (nI 40), .int (nI 3), .ref (g 40), .int (nI nf)] := ((o_2 39 (by decide)).trans ((o_1 39 (by first | decide | omega)))).trans hfr
      have hfd : f_2 40 = eI G (40 * 3) df := ((o_2 40 (by decide)).trans ((o_1 40 (by first | decide | omega)))).trans hfd
      have hor : f_2 41 = eO 5 [.int (nI 4), .int (nI 3), .ref (g 42), .int (nI nr)] := ((o_2 41 (by decide)).trans ((o_1 41 (by first | decide | omega)))).trans hor
      have hod : f_2 42 = eI G (4 * 3) dr := ((o_2 42 (by decide)).trans ((o_1 42 (by first | decide | omega)))).trans hod
      have har : f_2 43 = eO 5 [.int (nI 20), .int (nI 3), .ref (g 44), .int (nI na)] := ((o_2 43 (by decide)).trans ((o_1 43 (by first | decide | omega)))).trans har
      have had : f_2 44 = eI G (20 * 3) da := ((o_2 44 (by decide)).trans ((o_1 44 (by first | decide | omega)))).trans had
      have htr : f_2 45 = eO 5 [.int (nI 10), .int (nI 70), .ref (g 46), .int (nI nt)] := ((o_2 45 (by decide)).trans ((o_1 45 (by first | decide | omega)))).trans htr
      have hct : f_2 46 = eI G (10 * 70) ct := ((o_2 46 (by decide)).trans ((o_1 46 (by first | decide | omega)))).trans hct
      have hla : f_2 47 = eO 6 [.ref (g 48), .ref (g 49)] := ((o_2 47 (by decide)).trans ((o_1 47 (by first | decide | omega)))).trans hla
      have hlaa : f_2 48 = eA G 5 20 lf := ((o_2 48 (by decide)).trans ((o_1 48 (by first | decide | omega)))).trans hlaa
      have hts0 : f_2 112 = eO 6 [.ref (g 113), .ref (g 114)] := ((o_2 112 (by decide)).trans ((o_1 112 (by first | decide | omega)))).trans hts0
      have htsa : f_2 113 = eA G 5 4 tf := ((o_2 113 (by decide)).trans ((o_1 113 (by first | decide | omega)))).trans htsa
      have hH : ∀ i, i < 10 → okH G g f_1 (2 * i + 16) := fun z hz => okH_fr (hH z hz) (o_1 _ (by omega)) (o_1 _ (by omega))
      have hH : ∀ i, i < 10 → okH G g f_2 (2 * i + 16) := fun z hz => okH_fr (hH z hz) (o_2 _ (by omega)) (o_2 _ (by omega))
      have hSp : okH G g f_1 13 := okH_fr hSp (o_1 _ (by omega)) (o_1 _ (by omega))
      have hSp : okH G g f_2 13 := okH_fr hSp (o_2 _ (by omega)) (o_2 _ (by omega))
      have hL : ∀ i, i < 20 → okT G g f_1 (3 * i + 52) := fun z hz => okT_fr (hL z hz) (o_1 _ (by omega)) (o_1 _ (by omega)) (o_1 _ (by omega))
      have hL : ∀ i, i < 20 → okT G g f_2 (3 * i + 52) := fun z hz => okT_fr (hL z hz) (o_2 _ (by omega)) (o_2 _ (by omega)) (o_2 _ (by omega))
      have hT : ∀ i, i < 4 → okT G g f_1 (3 * i + 117) := fun z hz => okT_fr (hT z hz) (o_1 _ (by omega)) (o_1 _ (by omega)) (o_1 _ (by omega))
      have hT : ∀ i, i < 4 → okT G g f_2 (3 * i + 117) := fun z hz => okT_fr (hT z hz) (o_2 _ (by omega)) (o_2 _ (by omega)) (o_2 _ (by omega))
      have hB1 : okB G g f_2 129 := okB_fr hB1 (fun j _ _ => o_2 j (by omega))
      have hB2 : okB G g f_1 222 := okB_fr hB2 (fun j _ _ => o_1 j (by omega))
      have hB2 : okB G g f_2 222 := okB_fr hB2 (fun j _ _ => o_2 j (by omega))
      exact W.iret (v := 1) hx hb hr (fun t ht hW => ⟨⟨_, f_2, rfl, (⟨(show imA 0 = 1 from by decide).symm, ⟨se, hf, imf, (upd kf (Int32.toNatClampNeg 0) (vp_nar .boolean 1)), mc, op, cm, wu, mk, ab, be, mn, le, wt, ww, wb, wf, vv, pay, fine, np, dp, nf, df, nr, dr, na, da, nt, ct, lf, tf, hx0, hctc, hhs, him, hkp, hrd, hmk, hfc6, hwt, hw8, hw9, hw10, hw11, hvl, hbk, hpr, hpd, hfr, hfd, hor, hod, har, had, htr, hct, hla, hlaa, hts0, htsa, by omega, hhf, him0, him1, by omega, by omega, by omega, by omega, by omega, by omega, by omega, hlf, htf, hH, hSp, hL, hT, hB1, hB2⟩, fun j hj => ((o_2 j (by omega))).trans (o_1 j (by omega))⟩), by rw [ht]; exact hP⟩, hS.F ht⟩) hS.2.2 dX10_image_33
    · subst e9
      obtain ⟨pay1, fine1, np1, dp1, nf1, df1, nr1, dr1, na1, da1, nt1, dt1, lf1, tf1, hbk1, hp1r, hp1d, hf1r, hf1d, hr1r, hr1d, ha1r, ha1d, ht1r, ht1d, hsl1, hal1, hsw1, haw1, hnp1, hnf1, hnr1, hna1, hnt1, hlf1, htf1, hKl1, hKw1⟩ := id hB2
      refine lv_aload_n hx hb dX10_image_12 rfl (lv_at hl 0 rfl) ?_
      refine va_get (D := G.1) (ci := 9) (v := .ref (g 2)) (C := RX10) (T := TX10) (N := 7) hx hb hts inlX10 hown hG.1 hP 0 (wl_at (by decide) hx0) rfl 2 (by decide) (hts (.fieldLink RX10 23 "SwornLists" "images" "[LSwornLists$Book;") w_18) (fun _ h9 => h9) rfl dX10_image_13 ?_
      refine lv_iload_n hx hb dX10_image_16 rfl (lv_at hl 1 rfl) ?_
      refine va_aldq hx hb hG.1 hP 2 3 (wl_at (by decide) him) rfl (by unfold vp_in; decide) dX10_image_17 ?_
      refine my_bea (v := .ref (g 222)) (by rw [show Int32.toNatClampNeg 1 = 1 from rfl, him1]; rfl) ?_
      refine lv_aload_n hx hb dX10_image_18 rfl (lv_at hl 0 rfl) ?_
      refine va_get (D := G.1) (ci := 9) (v := .ref (g 36)) (C := RX10) (T := TX10) (N := 7) hx hb hts inlX10 hown hG.1 hP 0 (wl_at (by decide) hx0) rfl 1 (by decide) (hts (.fieldLink RX10 20 "SwornLists" "book" "LSwornLists$Book;") w_16) (fun _ h9 => h9) rfl dX10_image_19 ?_
      obtain ⟨ll, cl, gl, sl, hKl2⟩ := okT_sk (P := fun z => 3 * z + 52) hL
      obtain ⟨lw, cw, gw, sw, hKw2⟩ := okT_sk (P := fun z => 3 * z + 117) hT
      refine b_callv (va_runV (As := [.ref (g 36)]) (rest := []) ⟨hx, hb, hml, hown, hts⟩ (k_copy l G g hg f 222 36 pay1 fine1 np1 dp1 nf1 df1 nr1 dr1 na1 da1 nt1 dt1 lf1 tf1 pay fine np dp nf df nr dr na da nt ct lf tf ll cl gl sl lw cw gw sw hbk1 hp1r hp1d hf1r hf1d hr1r hr1d ha1r ha1d ht1r ht1d hsl1 hal1 hsw1 haw1 hbk hpr hpd hfr hfd hor hod har had htr hct hla hlaa hts0 htsa (by first | assumption | omega | decide) (by first | assumption | omega | decide) (by first | assumption | omega | decide) (by first | assumption | omega | decide) (by first | assumption | omega | decide) (hlf1) (htf1) (by first | assumption | omega | decide) (by first | assumption | omega | decide) (by first | assumption | omega | decide) (by first | assumption | omega | decide) (by first | assumption | omega | decide) (hlf) (htf) (by first | assumption | omega | decide) (by first | assumption | omega | decide) (by first | assumption | omega | decide) (hKl1) (hKw1) (hKl2) (hKw2)) (my_cwV hts ok_X0_copy w_894 rfl rfl ⟨Nat.le_of_ble_eq_true rfl, Nat.le_of_ble_eq_true rfl⟩) ⟨bP.blind, va_recv hG.1 hP (ci := 0) (q0 := 222) rfl (wl_at (by decide) hbk1), fun U hU hW => ⟨rfl, by rw [hU]; exact hP, kG.warm hW hG⟩⟩ rfl rfl hl.1 rfl (lv_room (Nat.le_of_ble_eq_true rfl)) dX10_image_22 ⟨Nat.le_of_ble_eq_true rfl, Nat.le_of_ble_eq_true rfl⟩) hS (fun f_3 H locs hq9 hP hS => ?_)
      obtain ⟨dp910, df911, dr912, da913, dt914, gl915, sl916, gw917, sw918, hq_3_0, hq_3_1, hq_3_2, hq_3_3, hq_3_4, hq_3_5, hq_3_6, hq_3_7, hq_3_8, hq_3_9, hq_3_10, hq_3_11, hq_3_12, hq_3_13, hq_3_14, hx_3_0, hx_3_1, hx_3_2, hx_3_3, hx_3_4, hx_3_5, hx_3_6, hx_3_7, hx_3_8, o_3⟩ := hq9
      have hbk1 : f_3 222 = eO 0 [.ref (g (222 + 1)), .ref (g (222 + 3)), .ref (g (222 + 5)), .ref (g (222 + 7)), .ref (g (222 + 9)), .ref (g (222 + 11)), .ref (g (222 + 76)), .int pay, .int fine] := hq_3_0
      have hp1r : f_3 223 = eO 5 [.int (nI 30), .int (nI 4), .ref (g (222 + 2)), .int (nI np)] := hq_3_1
      have hp1d : f_3 224 = eI G (30 * 4) dp910 := hq_3_2
      have hf1r : f_3 225 = eO 5 [.int (nI 40), .int (nI 3), .ref (g (222 + 4)), .int (nI nf)] := hq_3_3
      have hf1d : f_3 226 = eI G (40 * 3) df911 := hq_3_4
      have hr1r : f_3 227 = eO 5 [.int (nI 4), .int (nI 3), .ref (g (222 + 6)), .int (nI nr)] := hq_3_5
      have hr1d : f_3 228 = eI G (4 * 3) dr912 := hq_3_6
      have ha1r : f_3 229 = eO 5 [.int (nI 20), .int (nI 3), .ref (g (222 + 8)), .int (nI na)] := hq_3_7
      have ha1d : f_3 230 = eI G (20 * 3) da913 := hq_3_8
      have ht1r : f_3 231 = eO 5 [.int (nI 10), .int (nI 70), .ref (g (222 + 10)), .int (nI nt)] := hq_3_9
      have ht1d : f_3 232 = eI G (10 * 70) dt914 := hq_3_10
      have hsl1 : f_3 233 = eO 6 [.ref (g (222 + 12)), .ref (g (222 + 13))] := hq_3_11
      have hal1 : f_3 234 = eA G 5 20 lf1 := hq_3_12
      have hsw1 : f_3 298 = eO 6 [.ref (g (222 + 77)), .ref (g (222 + 78))] := hq_3_13
      have haw1 : f_3 299 = eA G 5 4 tf1 := hq_3_14
      have hB2 : okB G g f_3 222 := ⟨pay, fine, np, dp910, nf, df911, nr, dr912, na, da913, nt, dt914, lf1, tf1, hbk1, hp1r, hp1d, hf1r, hf1d, hr1r, hr1d, ha1r, ha1d, ht1r, ht1d, hsl1, hal1, hsw1, haw1, by omega, by omega, by omega, by omega, by omega, hlf1, htf1, fun z hz => (hx_3_5 z hz).ok, fun z hz => (hx_3_7 z hz).ok⟩
      refine lv_aload_n hx hb dX10_image_25 rfl (lv_at hl 0 rfl) ?_
      have hx0 : f_3 0 = eO 9 [.ref (g 1), .ref (g 36), .ref (g 2), .ref (g 3), .ref (g 4), .ref (g 6), .ref (g 7)] := ((o_3 0 (by first | decide | omega))).trans hx0
      refine va_get (D := G.1) (ci := 9) (v := .ref (g 3)) (C := RX10) (T := TX10) (N := 7) hx hb hts inlX10 hown hG.1 hP 0 (wl_at (by decide) hx0) rfl 3 (by decide) (hts (.fieldLink RX10 27 "SwornLists" "kept" "[Z") w_20) (fun _ h9 => h9) rfl dX10_image_26 ?_
      refine lv_iload_n hx hb dX10_image_29 rfl (lv_at hl 1 rfl) ?_
      refine lv_iconst (v := 1) hx hb dX10_image_30 (by decide) ?_
      have hkp : f_3 3 = eZ G 2 kf := ((o_3 3 (by first | decide | omega))).trans hkp
      refine va_zast hx hb hG.1 hP (wl_D hg f_3) hS 3 2 (wl_at (by decide) hkp) rfl (by unfold vp_in; decide) dX10_image_31 (fun H locs hP _ hS => ?_)
      obtain ⟨f_4, hP, e_4, o_4⟩ := b_put (by decide) hP
      have hkp : f_4 3 = eZ G 2 (upd kf (Int32.toNatClampNeg 1) (vp_nar .boolean 1)) := e_4
      refine lv_iconst (v := 1) hx hb dX10_image_32 (by decide) ?_
      have hx0 : f_4 0 = eO 9 [.ref (g 1), .ref (g 36), .ref (g 2), .ref (g 3), .ref (g 4), .ref (g 6), .ref (g 7)] := ((o_4 0 (by decide))).trans hx0
      have hctc : f_4 1 = eO 1 [.ref (g 36), .ref (g 12), .ref (g 13), .ref (g 15), .int (nI se)] := ((o_4 1 (by decide)).trans ((o_3 1 (by first | decide | omega)))).trans hctc
      have hhs : f_4 12 = eA G 4 10 hf := ((o_4 12 (by decide)).trans ((o_3 12 (by first | decide | omega)))).trans hhs
      have him : f_4 2 = eA G 3 2 imf := ((o_4 2 (by decide)).trans ((o_3 2 (by first | decide | omega)))).trans him
      have hrd : f_4 4 = eO 4 [.ref (g 5), .int (nI mc), .int op, .int cm, .int wu] := ((o_4 4 (by decide)).trans ((o_3 4 (by first | decide | omega)))).trans hrd
      have hmk : f_4 5 = eI G 50 mk := ((o_4 5 (by decide)).trans ((o_3 5 (by first | decide | omega)))).trans hmk
      have hfc6 : f_4 6 = eO 2 [.long ab, .long be] := ((o_4 6 (by decide)).trans ((o_3 6 (by first | decide | omega)))).trans hfc6
      have hwt : f_4 7 = eO 8 [.ref (g 8), .ref (g 9), .ref (g 10), .ref (g 11), .int (nI mn), .int le] := ((o_4 7 (by decide)).trans ((o_3 7 (by first | decide | omega)))).trans hwt
      have hw8 : f_4 8 = eI G 6 wt := ((o_4 8 (by decide)).trans ((o_3 8 (by first | decide | omega)))).trans hw8
      have hw9 : f_4 9 = eI G 6 ww := ((o_4 9 (by decide)).trans ((o_3 9 (by first | decide | omega)))).trans hw9
      have hw10 : f_4 10 = eI G 6 wb := ((o_4 10 (by decide)).trans ((o_3 10 (by first | decide | omega)))).trans hw10
      have hw11 : f_4 11 = eI G 6 wf := ((o_4 11 (by decide)).trans ((o_3 11 (by first | decide | omega)))).trans hw11
      have hvl : f_4 15 = eJ G 50 vv := ((o_4 15 (by decide)).trans ((o_3 15 (by first | decide | omega)))).trans hvl
      have hbk : f_4 36 = eO 0 [.ref (g 37), .ref (g 39), .ref (g 41), .ref (g 43), .ref (g 45), .ref (g 47), .ref (g 112), .int pay, .int fine] := ((o_4 36 (by decide)).trans ((o_3 36 (by first | decide | omega)))).trans hbk
      have hpr : f_4 37 = eO 5 [.int (nI 30), .int (nI 4), .ref (g 38), .int (nI np)] := ((o_4 37 (by decide)).trans ((o_3 37 (by first | decide | omega)))).trans hpr
      have hpd : f_4 38 = eI G (30 * 4) dp := ((o_4 38 (by decide)).trans ((o_3 38 (by first | decide | omega)))).trans hpd
      have hfr : f_4 39 = eO 5 [.int (nI 40), .int (nI 3), .ref (g 40), .int (nI nf)] := ((o_4 39 (by decide)).trans ((o_3 39 (by first | decide | omega)))).trans hfr
      have hfd : f_4 40 = eI G (40 * 3) df := ((o_4 40 (by decide)).trans ((o_3 40 (by first | decide | omega)))).trans hfd
      have hor : f_4 41 = eO 5 [.int (nI 4), .int (nI 3), .ref (g 42), .int (nI nr)] := ((o_4 41 (by decide)).trans ((o_3 41 (by first | decide | omega)))).trans hor
      have hod : f_4 42 = eI G (4 * 3) dr := ((o_4 42 (by decide)).trans ((o_3 42 (by first | decide | omega)))).trans hod
      have har : f_4 43 = eO 5 [.int (nI 20), .int (nI 3), .ref (g 44), .int (nI na)] := ((o_4 43 (by decide)).trans ((o_3 43 (by first | decide | omega)))).trans har
      have had : f_4 44 = eI G (20 * 3) da := ((o_4 44 (by decide)).trans ((o_3 44 (by first | decide | omega)))).trans had
      have htr : f_4 45 = eO 5 [.int (nI 10), .int (nI 70), .ref (g 46), .int (nI nt)] := ((o_4 45 (by decide)).trans ((o_3 45 (by first | decide | omega)))).trans htr
      have hct : f_4 46 = eI G (10 * 70) ct := ((o_4 46 (by decide)).trans ((o_3 46 (by first | decide | omega)))).trans hct
      have hla : f_4 47 = eO 6 [.ref (g 48), .ref (g 49)] := ((o_4 47 (by decide)).trans ((o_3 47 (by first | decide | omega)))).trans hla
      have hlaa : f_4 48 = eA G 5 20 lf := ((o_4 48 (by decide)).trans ((o_3 48 (by first | decide | omega)))).trans hlaa
      have hts0 : f_4 112 = eO 6 [.ref (g 113), .ref (g 114)] := ((o_4 112 (by decide)).trans ((o_3 112 (by first | decide | omega)))).trans hts0
      have htsa : f_4 113 = eA G 5 4 tf := ((o_4 113 (by decide)).trans ((o_3 113 (by first | decide | omega)))).trans htsa
      have hH : ∀ i, i < 10 → okH G g f_3 (2 * i + 16) := fun z hz => okH_fr (hH z hz) (o_3 _ (by omega)) (o_3 _ (by omega))
      have hH : ∀ i, i < 10 → okH G g f_4 (2 * i + 16) := fun z hz => okH_fr (hH z hz) (o_4 _ (by omega)) (o_4 _ (by omega))
      have hSp : okH G g f_3 13 := okH_fr hSp (o_3 _ (by omega)) (o_3 _ (by omega))
      have hSp : okH G g f_4 13 := okH_fr hSp (o_4 _ (by omega)) (o_4 _ (by omega))
      have hL : ∀ i, i < 20 → okT G g f_3 (3 * i + 52) := fun z hz => okT_fr (hL z hz) (o_3 _ (by omega)) (o_3 _ (by omega)) (o_3 _ (by omega))
      have hL : ∀ i, i < 20 → okT G g f_4 (3 * i + 52) := fun z hz => okT_fr (hL z hz) (o_4 _ (by omega)) (o_4 _ (by omega)) (o_4 _ (by omega))
      have hT : ∀ i, i < 4 → okT G g f_3 (3 * i + 117) := fun z hz => okT_fr (hT z hz) (o_3 _ (by omega)) (o_3 _ (by omega)) (o_3 _ (by omega))
      have hT : ∀ i, i < 4 → okT G g f_4 (3 * i + 117) := fun z hz => okT_fr (hT z hz) (o_4 _ (by omega)) (o_4 _ (by omega)) (o_4 _ (by omega))
      have hB1 : okB G g f_3 129 := okB_fr hB1 (fun j _ _ => o_3 j (by omega))
      have hB1 : okB G g f_4 129 := okB_fr hB1 (fun j _ _ => o_4 j (by omega))
      have hB2 : okB G g f_4 222 := okB_fr hB2 (fun j _ _ => o_4 j (by omega))
      exact W.iret (v := 1) hx hb hr (fun t ht hW => ⟨⟨_, f_4, rfl, (⟨(show imA 1 = 1 from by decide).symm, ⟨se, hf, imf, (upd kf (Int32.toNatClampNeg 1) (vp_nar .boolean 1)), mc, op, cm, wu, mk, ab, be, mn, le, wt, ww, wb, wf, vv, pay, fine, np, dp, nf, df, nr, dr, na, da, nt, ct, lf, tf, hx0, hctc, hhs, him, hkp, hrd, hmk, hfc6, hwt, hw8, hw9, hw10, hw11, hvl, hbk, hpr, hpd, hfr, hfd, hor, hod, har, had, htr, hct, hla, hlaa, hts0, htsa, by omega, hhf, him0, him1, by omega, by omega, by omega, by omega, by omega, by omega, by omega, hlf, htf, hH, hSp, hL, hT, hB1, hB2⟩, fun j hj => ((o_4 j (by omega))).trans (o_3 j (by omega))⟩), by rw [ht]; exact hP⟩, hS.F ht⟩) hS.2.2 dX10_image_33
  · refine lv_bipush (v := (-2)) hx hb dX10_image_9 (by decide) ?_
    exact W.iret (v := (-2)) hx hb hr (fun t ht hW => ⟨⟨_, f, rfl, (⟨(show imA a1 = -2 from if_neg (c_6)).symm, ⟨se, hf, imf, kf, mc, op, cm, wu, mk, ab, be, mn, le, wt, ww, wb, wf, vv, pay, fine, np, dp, nf, df, nr, dr, na, da, nt, ct, lf, tf, hx0, hctc, hhs, him, hkp, hrd, hmk, hfc6, hwt, hw8, hw9, hw10, hw11, hvl, hbk, hpr, hpd, hfr, hfd, hor, hod, har, had, htr, hct, hla, hlaa, hts0, htsa, by omega, hhf, him0, him1, by omega, by omega, by omega, by omega, by omega, by omega, by omega, hlf, htf, hH, hSp, hL, hT, hB1, hB2⟩, fun j hj => rfl⟩), by rw [ht]; exact hP⟩, hS.F ht⟩) hS.2.2 dX10_image_11
theorem m_imageE (l : Launch) (G : gW) (g : Nat → Nat) (hg : gOK g) (f : Nat → va_E) (a1 : Int32) (hI : cI G g f) : Met l yX10_image (wsT yX10_image cX10_image 2 (some .int)) ({ frames := 4, cells := 0, slots := 0, locals := 82 }) (bP G g f [.ref (g 0), .int a1]) (bQi G g (fun (z9 : Int32) (f' : Nat → va_E) => z9 = imA a1 ∧ (cI G g f') ∧ ∀ j, 315 ≤ j → f' j = f j)) 0 0 (gA g) := cI_elim hI (fun se hf imf kf mc op cm wu mk ab be mn le wt ww wb wf vv pay fine np dp nf df nr dr na da nt ct lf tf hx0 hctc hhs him hkp hrd hmk hfc6 hwt hw8 hw9 hw10 hw11 hvl hbk hpr hpd hfr hfd hor hod har had htr hct hla hlaa hts0 htsa hse hhf him0 him1 hmc hmn hnp hnf hnr hna hnt hlf htf hH hSp hL hT hB1 hB2 => n_imageE l G g hg f se hf imf kf mc op cm wu mk ab be mn le wt ww wb wf vv pay fine np dp nf df nr dr na da nt ct lf tf a1 hx0 hctc hhs him hkp hrd hmk hfc6 hwt hw8 hw9 hw10 hw11 hvl hbk hpr hpd hfr hfd hor hod har had htr hct hla hlaa hts0 htsa hse hhf him0 him1 hmc hmn hnp hnf hnr hna hnt hlf htf hH hSp hL hT hB1 hB2)
set_option maxHeartbeats 4000000 in
set_option maxRecDepth 100000 in
theorem n2_imageE (l : Launch) (G : gW) (g : Nat → Nat) (hg : gOK g) (f : Nat → va_E) (ab2 : Int64) (be2 : Int64) (sn : Int32) (wn : Int32) (sa : Int32) (ly : Int32) (rdy : Int32) (fd : Nat) (ss : Nat → Int32) (np : Nat) (nf : Nat) (nr : Nat) (na : Nat) (nt : Nat) (im : Nat → Int32) (kq : Nat → Int32) (sp : Nat → Int32) (wi : Nat → Int32) (wa : Nat → Int32) (va : Nat → Int64) (bo : Nat → Int32) (ju : Nat → Int32) (dr : Nat → Int32) (dn : Nat → Int32) (sl : Nat → Int32) (ax : Nat → Int32) (lf : Nat → Int32) (wh : Nat → Int32) (w6 : Nat → Int32) (b6 : Nat → Int32) (a1 : Int32) (hmo : f 315 = eO 10 [.ref (g 316), .ref (g 317), .ref (g 318), .long ab2, .long be2, .int sn, .ref (g 319), .ref (g 320), .int wn, .ref (g 321), .ref (g 322), .int sa, .int ly, .int rdy, .int (nI fd), .ref (g 323), .ref (g 324), .ref (g 325), .ref (g 326), .ref (g 327), .ref (g 328), .ref (g 329), .ref (g 330), .ref (g 331), .ref (g 332)]) (hss_ : f 316 = eI G 2246 ss) (him_ : f 317 = eI G 4492 im) (hkq_ : f 318 = eZ G 2 kq) (hsp_ : f 319 = eI G 70 sp) (hwi_ : f 320 = eI G 70 wi) (hwa_ : f 321 = eI G 70 wa) (hva_ : f 322 = eJ G 70 va) (hbo_ : f 323 = eI G 11 bo) (hju_ : f 324 = eI G 11 ju) (hdr_ : f 325 = eI G 264 dr) (hdn_ : f 326 = eI G 11 dn) (hsl_ : f 327 = eI G 330 sl) (hax_ : f 328 = eI G 44 ax) (hlf_ : f 329 = eI G 30 lf) (hwh_ : f 330 = eI G 6 wh) (hw6_ : f 331 = eI G 6 w6) (hb6_ : f 332 = eI G 6 b6) (hst : stOK ss np nf nr na nt) (hfo : fd ≤ 10) (hdn : ∀ k, k < 11 → ∃ d, d ≤ 24 ∧ dn k = nI d) (hi0 : stI im 0) (hi1 : stI im 2246) : Met l yX11_image (wsT yX11_image cX11_image 3 (some .int)) ({ frames := 1, cells := 0, slots := 0, locals := 25 }) (bP G g f [.ref (g 315), .int a1]) (bQi G g (fun (z9 : Int32) (f' : Nat → va_E) => z9 = imA a1 ∧ (mI G g f') ∧ ∀ j, j < 315 → f' j = f j)) 0 0 (gA g) := by
  refine Met.ofW (cc := cX11_image) (maxL := 3) (ret := (some .int)) (by decide) rfl ?_
  intro p e s m args below meth c s₁ B hml hv
  obtain ⟨rfl, hP, hG⟩ := hv
  have hx := B.exec
  have hb := B.bytes
  have hr := B.returns
  have hts := my_hts (atoms_spec (ws := wsT yX11_image cX11_image 3 (some .int)) B.pre)
  have hown : s.vm.findClass RX11 = some m.cls := findClass_of_methodNamed B.named
  have hlocks := B.notSynchronized
  have hS : va_S (gA g) s.heap s.heap [] := va_S.rf
  have hl := lv_entry ([.ref (g 315), .int a1]) (n := 3) (Nat.le_of_ble_eq_true rfl)
  rw [lg_entry_eq]
  generalize (lg_sl ([.ref (g 315), .int a1]) ++ List.replicate (3 - (lg_sl ([.ref (g 315), .int a1])).length) Slot.unset).toArray = ls at hl ⊢
  have hl : lv_has ls 3 [(0, .ref (g 315)), (1, .int a1)] := hl
  have hc0 := hst.c0
  have hc1 := hst.c1
  have hc2 := hst.c2
  have hc3 := hst.c3
  have hc4 := hst.c4
  refine lv_iload_n hx hb dX11_image_0 rfl (lv_at hl 1 rfl) ?_
  refine lv_i2l hx hb dX11_image_1 rfl ?_
  refine lv_lconst (v := 0) hx hb dX11_image_2 (by decide) ?_
  refine my_bel (v := Int32.toInt64 0) (by decide) ?_
  refine lv_lconst (v := 1) hx hb dX11_image_3 (by decide) ?_
  refine my_bel (v := Int32.toInt64 1) (by decide) ?_
  refine rd_calli (va_runS (As := [.long (Int32.toInt64 a1), .long (Int32.toInt64 0), .long (Int32.toInt64 1)]) (rest := []) ⟨hx, hb, hml, hown, hts⟩ (r_in l G g hg f a1 0 1  ) (my_cwS hts ok_X11_in w_162 rfl rfl ⟨Nat.le_of_ble_eq_true rfl, Nat.le_of_ble_eq_true rfl⟩) ⟨bP.blind, fun U hU hW => ⟨rfl, by rw [hU]; exact hP, kG.warm hW hG⟩⟩ rfl rfl hl.1 rfl (lv_room (Nat.le_of_ble_eq_true rfl)) dX11_image_4 ⟨Nat.le_of_ble_eq_true rfl, Nat.le_of_ble_eq_true rfl⟩) (fun r hr9 => ?_)
  subst hr9
  refine my_ifne (tgt := 13) hx hb dX11_image_7 (by decide) (fun c_7 => ?_) (fun c_7 => ?_)
  · rcases inB_01.mp c_7 with e9 | e9
    · subst e9
      refine lv_aload_n hx hb dX11_image_13 rfl (lv_at hl 0 rfl) ?_
      refine va_get (D := G.1) (ci := 10) (v := .ref (g 318)) (C := RX11) (T := TX11) (N := 25) hx hb hts inlX11 hown hG.1 hP 315 (wl_at (by decide) hmo) rfl 2 (by decide) (hts (.fieldLink RX11 16 "SwornListsModel" "isKept" "[Z") w_114) (fun _ h9 => h9) rfl dX11_image_14 ?_
      refine lv_iload_n hx hb dX11_image_17 rfl (lv_at hl 1 rfl) ?_
      refine lv_iconst (v := 1) hx hb dX11_image_18 (by decide) ?_
      refine va_zast hx hb hG.1 hP (wl_D hg f) hS 318 2 (wl_at (by decide) hkq_) rfl (by unfold vp_in; decide) dX11_image_19 (fun H locs hP _ hS => ?_)
      have hP := (congrArg (fun z9 => va_P G.1 vwCl ((wl g f).set 318 (g 318, eZ G 2 ((upd kq z9 (vp_nar .boolean 1))))) H) (show Int32.toNatClampNeg 0 = 0 from rfl)).mp hP
      obtain ⟨f_1, hP, e_1, o_1⟩ := b_put (by decide) hP
      have hkq_ : f_1 318 = eZ G 2 (upd kq 0 (vp_nar .boolean 1)) := e_1
      refine lv_iconst (v := 0) hx hb dX11_image_20 (by decide) ?_
      refine lv_istore_n (lv' := [(2, .int 0), (0, .ref (g 315)), (1, .int 0)]) hx hb dX11_image_21 rfl hl (by decide) rfl (fun ls hl => ?_)
      have hmo : f_1 315 = eO 10 [.ref (g 316), .ref (g 317), .ref (g 318), .long ab2, .long be2, .int sn, .ref (g 319), .ref (g 320), .int wn, .ref (g 321), .ref (g 322), .int sa, .int ly, .int rdy, .int (nI fd), .ref (g 323), .ref (g 324), .ref (g 325), .ref (g 326), .ref (g 327), .ref (g 328), .ref (g 329), .ref (g 330), .ref (g 331), .ref (g 332)] := ((o_1 315 (by decide))).trans hmo
      have hss_ : f_1 316 = eI G 2246 ss := ((o_1 316 (by decide))).trans hss_
      have him_ : f_1 317 = eI G 4492 im := ((o_1 317 (by decide))).trans him_
      have hsp_ : f_1 319 = eI G 70 sp := ((o_1 319 (by decide))).trans hsp_
      have hwi_ : f_1 320 = eI G 70 wi := ((o_1 320 (by decide))).trans hwi_
      have hwa_ : f_1 321 = eI G 70 wa := ((o_1 321 (by decide))).trans hwa_
      have hva_ : f_1 322 = eJ G 70 va := ((o_1 322 (by decide))).trans hva_
      have hbo_ : f_1 323 = eI G 11 bo := ((o_1 323 (by decide))).trans hbo_
      have hju_ : f_1 324 = eI G 11 ju := ((o_1 324 (by decide))).trans hju_
      have hdr_ : f_1 325 = eI G 264 dr := ((o_1 325 (by decide))).trans hdr_
      have hdn_ : f_1 326 = eI G 11 dn := ((o_1 326 (by decide))).trans hdn_
      have hsl_ : f_1 327 = eI G 330 sl := ((o_1 327 (by decide))).trans hsl_
      have hax_ : f_1 328 = eI G 44 ax := ((o_1 328 (by decide))).trans hax_
      have hlf_ : f_1 329 = eI G 30 lf := ((o_1 329 (by decide))).trans hlf_
      have hwh_ : f_1 330 = eI G 6 wh := ((o_1 330 (by decide))).trans hwh_
      have hw6_ : f_1 331 = eI G 6 w6 := ((o_1 331 (by decide))).trans hw6_
      have hb6_ : f_1 332 = eI G 6 b6 := ((o_1 332 (by decide))).trans hb6_
      have key1 : ∀ (n9_1 : Nat) (i : Nat) (im4 : Nat → Int32) (f_2 : Nat → va_E) (H : Heap) (locs : List Loc) (ls : Array Slot), (i ≤ 2246) → (∀ j, (∀ q, q < i → j ≠ (fun q => q) q) → im4 j = im j) → (∀ q, q < i → im4 ((fun q => q) q) = ss q) → 2246 - i < n9_1 → f_2 315 = eO 10 [.ref (g 316), .ref (g 317), .ref (g 318), .long ab2, .long be2, .int sn, .ref (g 319), .ref (g 320), .int wn, .ref (g 321), .ref (g 322), .int sa, .int ly, .int rdy, .int (nI fd), .ref (g 323), .ref (g 324), .ref (g 325), .ref (g 326), .ref (g 327), .ref (g 328), .ref (g 329), .ref (g 330), .ref (g 331), .ref (g 332)] → f_2 316 = eI G 2246 ss → f_2 317 = eI G 4492 im4 → f_2 318 = eZ G 2 (upd kq 0 (vp_nar .boolean 1)) → f_2 319 = eI G 70 sp → f_2 320 = eI G 70 wi → f_2 321 = eI G 70 wa → f_2 322 = eJ G 70 va → f_2 323 = eI G 11 bo → f_2 324 = eI G 11 ju → f_2 325 = eI G 264 dr → f_2 326 = eI G 11 dn → f_2 327 = eI G 330 sl → f_2 328 = eI G 44 ax → f_2 329 = eI G 30 lf → f_2 330 = eI G 6 wh → f_2 331 = eI G 6 w6 → f_2 332 = eI G 6 b6 → (∀ j, j ≠ 317 → f_2 j = f_1 j) → va_P G.1 vwCl (wl g f_2) H → va_S (gA g) s.heap H locs → lv_has ls 3 [(0, .ref (g 315)), (1, .int 0), (2, .int (nI i))] → W p l e (headSpec (wsT yX11_image cX11_image 3 (some .int)) ({ frames := 1, cells := 0, slots := 0, locals := 25 })).room s m ([.ref (g 315), .int 0] : List Value).toArray below meth c H locs 0 0 (MQ below (bQi G g (fun (z9 : Int32) (f' : Nat → va_E) => z9 = imA 0 ∧ (mI G g f') ∧ ∀ j, j < 315 → f' j = f j)) ([.ref (g 315), .int 0] : List Value).toArray s 0 0 (gA g)) (F0 m 22 ls []) := by
        intro n9_1
        induction n9_1 with
        | zero => intro i im4 f_2 H locs ls hi ha4 hb4 hn9_1; exact absurd hn9_1 (Nat.not_lt_zero _)
        | succ n9_1 ih_1 =>
          intro i im4 f_2 H locs ls hi ha4 hb4 hn9_1 hmo hss_ him_ hkq_ hsp_ hwi_ hwa_ hva_ hbo_ hju_ hdr_ hdn_ hsl_ hax_ hlf_ hwh_ hw6_ hb6_ o_2 hP hS hl
          refine lv_iload_n hx hb dX11_image_22 rfl (lv_at hl 2 rfl) ?_
          refine lv_sipush (v := 2246) hx hb dX11_image_23 (by decide) ?_
          refine lv_icmp_ge (tgt := 53) hx hb dX11_image_26 (by decide) (fun c_26 => ?_) (fun c_26 => ?_)
          · have k_26 : 2246 ≤ i := (nI_leI (a := 2246) (b := i) (by omega) (by omega)).mp c_26
            refine lv_iconst (v := 1) hx hb dX11_image_53 (by decide) ?_
            exact W.iret (v := 1) hx hb hr (fun t ht hW => ⟨⟨_, f_2, rfl, (⟨(show imA 0 = 1 from by decide).symm, ⟨ab2, be2, sn, wn, sa, ly, rdy, fd, ss, np, nf, nr, na, nt, im4, (upd kq 0 (vp_nar .boolean 1)), sp, wi, wa, va, bo, ju, dr, dn, sl, ax, lf, wh, w6, b6, hmo, hss_, him_, hkq_, hsp_, hwi_, hwa_, hva_, hbo_, hju_, hdr_, hdn_, hsl_, hax_, hlf_, hwh_, hw6_, hb6_, hst, by omega, hdn, stI_new hst (fun k hk => hb4 k (by omega)), stI_of hi1 (fun k hk => ha4 _ (fun q hq => by show _ ≠ q; omega))⟩, fun j hj => ((o_2 j (by omega))).trans (o_1 j (by omega))⟩), by rw [ht]; exact hP⟩, hS.F ht⟩) hS.2.2 dX11_image_54
          · have k_26 : ¬ 2246 ≤ i := fun z9 => c_26 ((nI_leI (a := 2246) (b := i) (by omega) (by omega)).mpr z9)
            refine lv_aload_n hx hb dX11_image_29 rfl (lv_at hl 0 rfl) ?_
            refine va_get (D := G.1) (ci := 10) (v := .ref (g 317)) (C := RX11) (T := TX11) (N := 25) hx hb hts inlX11 hown hG.1 hP 315 (wl_at (by decide) hmo) rfl 1 (by decide) (hts (.fieldLink RX11 13 "SwornListsModel" "images" "[I") w_113) (fun _ h9 => h9) rfl dX11_image_30 ?_
            refine lv_sipush (v := 2246) hx hb dX11_image_33 (by decide) ?_
            refine lv_iload_n hx hb dX11_image_36 rfl (lv_at hl 1 rfl) ?_
            refine lv_imul hx hb dX11_image_37 ?_
            refine my_bei (v := 0) (by decide) ?_
            refine lv_iload_n hx hb dX11_image_38 rfl (lv_at hl 2 rfl) ?_
            refine lv_iadd hx hb dX11_image_39 ?_
            refine my_bei (v := nI i) ((nI_add 0 i).trans (congrArg nI (show 0 + i = i by omega))) ?_
            refine lv_aload_n hx hb dX11_image_40 rfl (lv_at hl 0 rfl) ?_
            refine va_get (D := G.1) (ci := 10) (v := .ref (g 316)) (C := RX11) (T := TX11) (N := 25) hx hb hts inlX11 hown hG.1 hP 315 (wl_at (by decide) hmo) rfl 0 (by decide) (hts (.fieldLink RX11 7 "SwornListsModel" "st" "[I") w_112) (fun _ h9 => h9) rfl dX11_image_41 ?_
            refine lv_iload_n hx hb dX11_image_44 rfl (lv_at hl 2 rfl) ?_
            refine va_iald hx hb hG.1 hP 316 0 (wl_at (by decide) hss_) rfl (vp_in_nI (by omega) (by decide)) dX11_image_45 ?_
            refine my_bei (v := ss i) (congrArg ss (nI_clamp (n := i) (by omega))) ?_
            refine va_iast hx hb hG.1 hP (wl_D hg f_2) hS 317 0 (wl_at (by decide) him_) rfl (vp_in_nI (by omega) (by decide)) dX11_image_46 (fun H locs hP _ hS => ?_)
            have hP := (congrArg (fun z9 => va_P G.1 vwCl ((wl g f_2).set 317 (g 317, eI G 4492 ((upd im4 z9 (ss i))))) H) (show Int32.toNatClampNeg (nI i) = i from nI_clamp (by omega))).mp hP
            obtain ⟨f_3, hP, e_3, o_3⟩ := b_put (by decide) hP
            have him_ : f_3 317 = eI G 4492 (upd im4 i (ss i)) := e_3
            refine lv_iinc (v := nI (i + 1)) (lv' := [(2, .int (nI (i + 1))), (0, .ref (g 315)), (1, .int 0)]) hx hb dX11_image_47 hl (k := 2) rfl (nI_add i 1) (by decide) rfl (fun ls hl => ?_)
            refine lv_goto (tgt := 22) hx hb dX11_image_50 (by decide) ?_
            have hmo : f_3 315 = eO 10 [.ref (g 316), .ref (g 317), .ref (g 318), .long ab2, .long be2, .int sn, .ref (g 319), .ref (g 320), .int wn, .ref (g 321), .ref (g 322), .int sa, .int ly, .int rdy, .int (nI fd), .ref (g 323), .ref (g 324), .ref (g 325), .ref (g 326), .ref (g 327), .ref (g 328), .ref (g 329), .ref (g 330), .ref (g 331), .ref (g 332)] := ((o_3 315 (by decide))).trans hmo
            have hss_ : f_3 316 = eI G 2246 ss := ((o_3 316 (by decide))).trans hss_
            have hkq_ : f_3 318 = eZ G 2 (upd kq 0 (vp_nar .boolean 1)) := ((o_3 318 (by decide))).trans hkq_
            have hsp_ : f_3 319 = eI G 70 sp := ((o_3 319 (by decide))).trans hsp_
            have hwi_ : f_3 320 = eI G 70 wi := ((o_3 320 (by decide))).trans hwi_
            have hwa_ : f_3 321 = eI G 70 wa := ((o_3 321 (by decide))).trans hwa_
            have hva_ : f_3 322 = eJ G 70 va := ((o_3 322 (by decide))).trans hva_
            have hbo_ : f_3 323 = eI G 11 bo := ((o_3 323 (by decide))).trans hbo_
            have hju_ : f_3 324 = eI G 11 ju := ((o_3 324 (by decide))).trans hju_
            have hdr_ : f_3 325 = eI G 264 dr := ((o_3 325 (by decide))).trans hdr_
            have hdn_ : f_3 326 = eI G 11 dn := ((o_3 326 (by decide))).trans hdn_
            have hsl_ : f_3 327 = eI G 330 sl := ((o_3 327 (by decide))).trans hsl_
            have hax_ : f_3 328 = eI G 44 ax := ((o_3 328 (by decide))).trans hax_
            have hlf_ : f_3 329 = eI G 30 lf := ((o_3 329 (by decide))).trans hlf_
            have hwh_ : f_3 330 = eI G 6 wh := ((o_3 330 (by decide))).trans hwh_
            have hw6_ : f_3 331 = eI G 6 w6 := ((o_3 331 (by decide))).trans hw6_
            have hb6_ : f_3 332 = eI G 6 b6 := ((o_3 332 (by decide))).trans hb6_
            exact ih_1 (i + 1) (upd im4 i (ss i)) f_3 _ _ _ (by omega) (fill_a (P := (fun q => q)) ha4) (fill_b (P := (fun q => q)) (v := ss) (fun i j h => by have h : i = j := h; omega) hb4 rfl) (by omega) (hmo) (hss_) (him_) (hkq_) (hsp_) (hwi_) (hwa_) (hva_) (hbo_) (hju_) (hdr_) (hdn_) (hsl_) (hax_) (hlf_) (hwh_) (hw6_) (hb6_) (fun j hj => ((o_3 j (by omega))).trans (o_2 j (by omega))) hP hS (lv_sub hl [1, 2, 0] rfl)
      exact key1 (2246 + 1) 0 im f_1 _ _ _ (by omega) (fun _ _ => rfl) (fun q hq => absurd hq (Nat.not_lt_zero _)) (by omega) (hmo) (hss_) (him_) (hkq_) (hsp_) (hwi_) (hwa_) (hva_) (hbo_) (hju_) (hdr_) (hdn_) (hsl_) (hax_) (hlf_) (hwh_) (hw6_) (hb6_) (fun j _ => rfl) hP hS (lv_sub hl [1, 2, 0] rfl)
    · subst e9
      refine lv_aload_n hx hb dX11_image_13 rfl (lv_at hl 0 rfl) ?_
      refine va_get (D := G.1) (ci := 10) (v := .ref (g 318)) (C := RX11) (T := TX11) (N := 25) hx hb hts inlX11 hown hG.1 hP 315 (wl_at (by decide) hmo) rfl 2 (by decide) (hts (.fieldLink RX11 16 "SwornListsModel" "isKept" "[Z") w_114) (fun _ h9 => h9) rfl dX11_image_14 ?_
      refine lv_iload_n hx hb dX11_image_17 rfl (lv_at hl 1 rfl) ?_
      refine lv_iconst (v := 1) hx hb dX11_image_18 (by decide) ?_
      refine va_zast hx hb hG.1 hP (wl_D hg f) hS 318 2 (wl_at (by decide) hkq_) rfl (by unfold vp_in; decide) dX11_image_19 (fun H locs hP _ hS => ?_)
      have hP := (congrArg (fun z9 => va_P G.1 vwCl ((wl g f).set 318 (g 318, eZ G 2 ((upd kq z9 (vp_nar .boolean 1))))) H) (show Int32.toNatClampNeg 1 = 1 from rfl)).mp hP
      obtain ⟨f_4, hP, e_4, o_4⟩ := b_put (by decide) hP
      have hkq_ : f_4 318 = eZ G 2 (upd kq 1 (vp_nar .boolean 1)) := e_4
      refine lv_iconst (v := 0) hx hb dX11_image_20 (by decide) ?_
      refine lv_istore_n (lv' := [(2, .int 0), (0, .ref (g 315)), (1, .int 1)]) hx hb dX11_image_21 rfl hl (by decide) rfl (fun ls hl => ?_)
      have hmo : f_4 315 = eO 10 [.ref (g 316), .ref (g 317), .ref (g 318), .long ab2, .long be2, .int sn, .ref (g 319), .ref (g 320), .int wn, .ref (g 321), .ref (g 322), .int sa, .int ly, .int rdy, .int (nI fd), .ref (g 323), .ref (g 324), .ref (g 325), .ref (g 326), .ref (g 327), .ref (g 328), .ref (g 329), .ref (g 330), .ref (g 331), .ref (g 332)] := ((o_4 315 (by decide))).trans hmo
      have hss_ : f_4 316 = eI G 2246 ss := ((o_4 316 (by decide))).trans hss_
      have him_ : f_4 317 = eI G 4492 im := ((o_4 317 (by decide))).trans him_
      have hsp_ : f_4 319 = eI G 70 sp := ((o_4 319 (by decide))).trans hsp_
      have hwi_ : f_4 320 = eI G 70 wi := ((o_4 320 (by decide))).trans hwi_
      have hwa_ : f_4 321 = eI G 70 wa := ((o_4 321 (by decide))).trans hwa_
      have hva_ : f_4 322 = eJ G 70 va := ((o_4 322 (by decide))).trans hva_
      have hbo_ : f_4 323 = eI G 11 bo := ((o_4 323 (by decide))).trans hbo_
      have hju_ : f_4 324 = eI G 11 ju := ((o_4 324 (by decide))).trans hju_
      have hdr_ : f_4 325 = eI G 264 dr := ((o_4 325 (by decide))).trans hdr_
      have hdn_ : f_4 326 = eI G 11 dn := ((o_4 326 (by decide))).trans hdn_
      have hsl_ : f_4 327 = eI G 330 sl := ((o_4 327 (by decide))).trans hsl_
      have hax_ : f_4 328 = eI G 44 ax := ((o_4 328 (by decide))).trans hax_
      have hlf_ : f_4 329 = eI G 30 lf := ((o_4 329 (by decide))).trans hlf_
      have hwh_ : f_4 330 = eI G 6 wh := ((o_4 330 (by decide))).trans hwh_
      have hw6_ : f_4 331 = eI G 6 w6 := ((o_4 331 (by decide))).trans hw6_
      have hb6_ : f_4 332 = eI G 6 b6 := ((o_4 332 (by decide))).trans hb6_
      have key2 : ∀ (n9_2 : Nat) (i : Nat) (im4 : Nat → Int32) (f_5 : Nat → va_E) (H : Heap) (locs : List Loc) (ls : Array Slot), (i ≤ 2246) → (∀ j, (∀ q, q < i → j ≠ (fun q => q + 2246) q) → im4 j = im j) → (∀ q, q < i → im4 ((fun q => q + 2246) q) = ss q) → 2246 - i < n9_2 → f_5 315 = eO 10 [.ref (g 316), .ref (g 317), .ref (g 318), .long ab2, .long be2, .int sn, .ref (g 319), .ref (g 320), .int wn, .ref (g 321), .ref (g 322), .int sa, .int ly, .int rdy, .int (nI fd), .ref (g 323), .ref (g 324), .ref (g 325), .ref (g 326), .ref (g 327), .ref (g 328), .ref (g 329), .ref (g 330), .ref (g 331), .ref (g 332)] → f_5 316 = eI G 2246 ss → f_5 317 = eI G 4492 im4 → f_5 318 = eZ G 2 (upd kq 1 (vp_nar .boolean 1)) → f_5 319 = eI G 70 sp → f_5 320 = eI G 70 wi → f_5 321 = eI G 70 wa → f_5 322 = eJ G 70 va → f_5 323 = eI G 11 bo → f_5 324 = eI G 11 ju → f_5 325 = eI G 264 dr → f_5 326 = eI G 11 dn → f_5 327 = eI G 330 sl → f_5 328 = eI G 44 ax → f_5 329 = eI G 30 lf → f_5 330 = eI G 6 wh → f_5 331 = eI G 6 w6 → f_5 332 = eI G 6 b6 → (∀ j, j ≠ 317 → f_5 j = f_4 j) → va_P G.1 vwCl (wl g f_5) H → va_S (gA g) s.heap H locs → lv_has ls 3 [(0, .ref (g 315)), (1, .int 1), (2, .int (nI i))] → W p l e (headSpec (wsT yX11_image cX11_image 3 (some .int)) ({ frames := 1, cells := 0, slots := 0, locals := 25 })).room s m ([.ref (g 315), .int 1] : List Value).toArray below meth c H locs 0 0 (MQ below (bQi G g (fun (z9 : Int32) (f' : Nat → va_E) => z9 = imA 1 ∧ (mI G g f') ∧ ∀ j, j < 315 → f' j = f j)) ([.ref (g 315), .int 1] : List Value).toArray s 0 0 (gA g)) (F0 m 22 ls []) := by
        intro n9_2
        induction n9_2 with
        | zero => intro i im4 f_5 H locs ls hi ha4 hb4 hn9_2; exact absurd hn9_2 (Nat.not_lt_zero _)
        | succ n9_2 ih_2 =>
          intro i im4 f_5 H locs ls hi ha4 hb4 hn9_2 hmo hss_ him_ hkq_ hsp_ hwi_ hwa_ hva_ hbo_ hju_ hdr_ hdn_ hsl_ hax_ hlf_ hwh_ hw6_ hb6_ o_5 hP hS hl
          refine lv_iload_n hx hb dX11_image_22 rfl (lv_at hl 2 rfl) ?_
          refine lv_sipush (v := 2246) hx hb dX11_image_23 (by decide) ?_
          refine lv_icmp_ge (tgt := 53) hx hb dX11_image_26 (by decide) (fun c_26 => ?_) (fun c_26 => ?_)
          · have k_26 : 2246 ≤ i := (nI_leI (a := 2246) (b := i) (by omega) (by omega)).mp c_26
            refine lv_iconst (v := 1) hx hb dX11_image_53 (by decide) ?_
            exact W.iret (v := 1) hx hb hr (fun t ht hW => ⟨⟨_, f_5, rfl, (⟨(show imA 1 = 1 from by decide).symm, ⟨ab2, be2, sn, wn, sa, ly, rdy, fd, ss, np, nf, nr, na, nt, im4, (upd kq 1 (vp_nar .boolean 1)), sp, wi, wa, va, bo, ju, dr, dn, sl, ax, lf, wh, w6, b6, hmo, hss_, him_, hkq_, hsp_, hwi_, hwa_, hva_, hbo_, hju_, hdr_, hdn_, hsl_, hax_, hlf_, hwh_, hw6_, hb6_, hst, by omega, hdn, stI_of hi0 (fun k hk => ha4 _ (fun q hq => by show _ ≠ q + 2246; omega)), stI_new hst (fun k hk => hb4 k (by omega))⟩, fun j hj => ((o_5 j (by omega))).trans (o_4 j (by omega))⟩), by rw [ht]; exact hP⟩, hS.F ht⟩) hS.2.2 dX11_image_54
          · have k_26 : ¬ 2246 ≤ i := fun z9 => c_26 ((nI_leI (a := 2246) (b := i) (by omega) (by omega)).mpr z9)
            refine lv_aload_n hx hb dX11_image_29 rfl (lv_at hl 0 rfl) ?_
            refine va_get (D := G.1) (ci := 10) (v := .ref (g 317)) (C := RX11) (T := TX11) (N := 25) hx hb hts inlX11 hown hG.1 hP 315 (wl_at (by decide) hmo) rfl 1 (by decide) (hts (.fieldLink RX11 13 "SwornListsModel" "images" "[I") w_113) (fun _ h9 => h9) rfl dX11_image_30 ?_
            refine lv_sipush (v := 2246) hx hb dX11_image_33 (by decide) ?_
            refine lv_iload_n hx hb dX11_image_36 rfl (lv_at hl 1 rfl) ?_
            refine lv_imul hx hb dX11_image_37 ?_
            refine my_bei (v := 2246) (by decide) ?_
            refine lv_iload_n hx hb dX11_image_38 rfl (lv_at hl 2 rfl) ?_
            refine lv_iadd hx hb dX11_image_39 ?_
            refine my_bei (v := nI (i + 2246)) ((nI_add 2246 i).trans (congrArg nI (show 2246 + i = i + 2246 by omega))) ?_
            refine lv_aload_n hx hb dX11_image_40 rfl (lv_at hl 0 rfl) ?_
            refine va_get (D := G.1) (ci := 10) (v := .ref (g 316)) (C := RX11) (T := TX11) (N := 25) hx hb hts inlX11 hown hG.1 hP 315 (wl_at (by decide) hmo) rfl 0 (by decide) (hts (.fieldLink RX11 7 "SwornListsModel" "st" "[I") w_112) (fun _ h9 => h9) rfl dX11_image_41 ?_
            refine lv_iload_n hx hb dX11_image_44 rfl (lv_at hl 2 rfl) ?_
            refine va_iald hx hb hG.1 hP 316 0 (wl_at (by decide) hss_) rfl (vp_in_nI (by omega) (by decide)) dX11_image_45 ?_
            refine my_bei (v := ss i) (congrArg ss (nI_clamp (n := i) (by omega))) ?_
            refine va_iast hx hb hG.1 hP (wl_D hg f_5) hS 317 0 (wl_at (by decide) him_) rfl (vp_in_nI (by omega) (by decide)) dX11_image_46 (fun H locs hP _ hS => ?_)
            have hP := (congrArg (fun z9 => va_P G.1 vwCl ((wl g f_5).set 317 (g 317, eI G 4492 ((upd im4 z9 (ss i))))) H) (show Int32.toNatClampNeg (nI (i + 2246)) = i + 2246 from nI_clamp (by omega))).mp hP
            obtain ⟨f_6, hP, e_6, o_6⟩ := b_put (by decide) hP
            have him_ : f_6 317 = eI G 4492 (upd im4 (i + 2246) (ss i)) := e_6
            refine lv_iinc (v := nI (i + 1)) (lv' := [(2, .int (nI (i + 1))), (0, .ref (g 315)), (1, .int 1)]) hx hb dX11_image_47 hl (k := 2) rfl (nI_add i 1) (by decide) rfl (fun ls hl => ?_)
            refine lv_goto (tgt := 22) hx hb dX11_image_50 (by decide) ?_
            have hmo : f_6 315 = eO 10 [.ref (g 316), .ref (g 317), .ref (g 318), .long ab2, .long be2, .int sn, .ref (g 319), .ref (g 320), .int wn, .ref (g 321), .ref (g 322), .int sa, .int ly, .int rdy, .int (nI fd), .ref (g 323), .ref (g 324), .ref (g 325), .ref (g 326), .ref (g 327), .ref (g 328), .ref (g 329), .ref (g 330), .ref (g 331), .ref (g 332)] := ((o_6 315 (by decide))).trans hmo
            have hss_ : f_6 316 = eI G 2246 ss := ((o_6 316 (by decide))).trans hss_
            have hkq_ : f_6 318 = eZ G 2 (upd kq 1 (vp_nar .boolean 1)) := ((o_6 318 (by decide))).trans hkq_
            have hsp_ : f_6 319 = eI G 70 sp := ((o_6 319 (by decide))).trans hsp_
            have hwi_ : f_6 320 = eI G 70 wi := ((o_6 320 (by decide))).trans hwi_
            have hwa_ : f_6 321 = eI G 70 wa := ((o_6 321 (by decide))).trans hwa_
            have hva_ : f_6 322 = eJ G 70 va := ((o_6 322 (by decide))).trans hva_
            have hbo_ : f_6 323 = eI G 11 bo := ((o_6 323 (by decide))).trans hbo_
            have hju_ : f_6 324 = eI G 11 ju := ((o_6 324 (by decide))).trans hju_
            have hdr_ : f_6 325 = eI G 264 dr := ((o_6 325 (by decide))).trans hdr_
            have hdn_ : f_6 326 = eI G 11 dn := ((o_6 326 (by decide))).trans hdn_
            have hsl_ : f_6 327 = eI G 330 sl := ((o_6 327 (by decide))).trans hsl_
            have hax_ : f_6 328 = eI G 44 ax := ((o_6 328 (by decide))).trans hax_
            have hlf_ : f_6 329 = eI G 30 lf := ((o_6 329 (by decide))).trans hlf_
            have hwh_ : f_6 330 = eI G 6 wh := ((o_6 330 (by decide))).trans hwh_
            have hw6_ : f_6 331 = eI G 6 w6 := ((o_6 331 (by decide))).trans hw6_
            have hb6_ : f_6 332 = eI G 6 b6 := ((o_6 332 (by decide))).trans hb6_
            exact ih_2 (i + 1) (upd im4 (i + 2246) (ss i)) f_6 _ _ _ (by omega) (fill_a (P := (fun q => q + 2246)) ha4) (fill_b (P := (fun q => q + 2246)) (v := ss) (fun i j h => by have h : i + 2246 = j + 2246 := h; omega) hb4 rfl) (by omega) (hmo) (hss_) (him_) (hkq_) (hsp_) (hwi_) (hwa_) (hva_) (hbo_) (hju_) (hdr_) (hdn_) (hsl_) (hax_) (hlf_) (hwh_) (hw6_) (hb6_) (fun j hj => ((o_6 j (by omega))).trans (o_5 j (by omega))) hP hS (lv_sub hl [1, 2, 0] rfl)
      exact key2 (2246 + 1) 0 im f_4 _ _ _ (by omega) (fun _ _ => rfl) (fun q hq => absurd hq (Nat.not_lt_zero _)) (by omega) (hmo) (hss_) (him_) (hkq_) (hsp_) (hwi_) (hwa_) (hva_) (hbo_) (hju_) (hdr_) (hdn_) (hsl_) (hax_) (hlf_) (hwh_) (hw6_) (hb6_) (fun j _ => rfl) hP hS (lv_sub hl [1, 2, 0] rfl)
  · refine lv_bipush (v := (-2)) hx hb dX11_image_10 (by decide) ?_
    exact W.iret (v := (-2)) hx hb hr (fun t ht hW => ⟨⟨_, f, rfl, (⟨(show imA a1 = -2 from if_neg (c_7)).symm, ⟨ab2, be2, sn, wn, sa, ly, rdy, fd, ss, np, nf, nr, na, nt, im, kq, sp, wi, wa, va, bo, ju, dr, dn, sl, ax, lf, wh, w6, b6, hmo, hss_, him_, hkq_, hsp_, hwi_, hwa_, hva_, hbo_, hju_, hdr_, hdn_, hsl_, hax_, hlf_, hwh_, hw6_, hb6_, hst, by omega, hdn, hi0, hi1⟩, fun j hj => rfl⟩), by rw [ht]; exact hP⟩, hS.F ht⟩) hS.2.2 dX11_image_12
theorem m2_imageE (l : Launch) (G : gW) (g : Nat → Nat) (hg : gOK g) (f : Nat → va_E) (a1 : Int32) (hI : mI G g f) : Met l yX11_image (wsT yX11_image cX11_image 3 (some .int)) ({ frames := 1, cells := 0, slots := 0, locals := 25 }) (bP G g f [.ref (g 315), .int a1]) (bQi G g (fun (z9 : Int32) (f' : Nat → va_E) => z9 = imA a1 ∧ (mI G g f') ∧ ∀ j, j < 315 → f' j = f j)) 0 0 (gA g) := mI_elim hI (fun ab2 be2 sn wn sa ly rdy fd ss np nf nr na nt im kq sp wi wa va bo ju dr dn sl ax lf wh w6 b6 hmo hss_ him_ hkq_ hsp_ hwi_ hwa_ hva_ hbo_ hju_ hdr_ hdn_ hsl_ hax_ hlf_ hwh_ hw6_ hb6_ hst hfo hdn hi0 hi1 => n2_imageE l G g hg f ab2 be2 sn wn sa ly rdy fd ss np nf nr na nt im kq sp wi wa va bo ju dr dn sl ax lf wh w6 b6 a1 hmo hss_ him_ hkq_ hsp_ hwi_ hwa_ hva_ hbo_ hju_ hdr_ hdn_ hsl_ hax_ hlf_ hwh_ hw6_ hb6_ hst hfo hdn hi0 hi1)

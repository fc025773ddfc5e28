def smA (a b : Int32) : Int32 := if inB 0 a 100 = true ∧ inB 0 b 1000 = true then 1 else -2
set_option maxHeartbeats 4000000 in
set_option maxRecDepth 100000 in
theorem n_sumsE (l : Launch) (G : gW) (g : Nat → Nat) (hg : gOK g) (f : Nat → va_E) (se : Nat) (hf : Nat → Option Nat) (imf : Nat → Option Nat) (kf : Nat → Int32) (mc : Nat) (op : Int32) (cm : Int32) (wu : Int32) (mk : Nat → Int32) (ab : Int64) (be : Int64) (mn : Nat) (le : Int32) (wt : Nat → Int32) (ww : Nat → Int32) (wb : Nat → Int32) (wf : Nat → Int32) (vv : Nat → Int64) (pay : Int32) (fine : Int32) (np : Nat) (dp : Nat → Int32) (nf : Nat) (df : Nat → Int32) (nr : Nat) (dr : Nat → Int32) (na : Nat) (da : Nat → Int32) (nt : Nat) (ct : Nat → Int32) (lf : Nat → Option Nat) (tf : Nat → Option Nat) (a1 : Int32) (a2 : Int32) (hx0 : f 0 = eO 9 [.ref (g 1), .ref (g 36), .ref (g 2), .ref (g 3), .ref (g 4), .ref (g 6), .ref (g 7)]) (hctc : f 1 = eO 1 [.ref (g 36), .ref (g 12), .ref (g 13), .ref (g 15), .int (nI se)]) (hhs : f 12 = eA G 4 10 hf) (him : f 2 = eA G 3 2 imf) (hkp : f 3 = eZ G 2 kf) (hrd : f 4 = eO 4 [.ref (g 5), .int (nI mc), .int op, .int cm, .int wu]) (hmk : f 5 = eI G 50 mk) (hfc6 : f 6 = eO 2 [.long ab, .long be]) (hwt : f 7 = eO 8 [.ref (g 8), .ref (g 9), .ref (g 10), .ref (g 11), .int (nI mn), .int le]) (hw8 : f 8 = eI G 6 wt) (hw9 : f 9 = eI G 6 ww) (hw10 : f 10 = eI G 6 wb) (hw11 : f 11 = eI G 6 wf) (hvl : f 15 = eJ G 50 vv) (hbk : f 36 = eO 0 [.ref (g 37), .ref (g 39), .ref (g 41), .ref (g 43), .ref (g 45), .ref (g 47), .ref (g 112), .int pay, .int fine]) (hpr : f 37 = eO 5 [.int (nI 30), .int (nI 4), .ref (g 38), .int (nI np)]) (hpd : f 38 = eI G (30 * 4) dp) (hfr : f 39 = eO 5 [.int (nI 40), .int (nI 3), .ref (g 40), .int (nI nf)]) (hfd : f 40 = eI G (40 * 3) df) (hor : f 41 = eO 5 [.int (nI 4), .int (nI 3), .ref (g 42), .int (nI nr)]) (hod : f 42 = eI G (4 * 3) dr) (har : f 43 = eO 5 [.int (nI 20), .int (nI 3), .ref (g 44), .int (nI na)]) (had : f 44 = eI G (20 * 3) da) (htr : f 45 = eO 5 [.int (nI 10), .int (nI 70), .ref (g 46), .int (nI nt)]) (hct : f 46 = eI G (10 * 70) ct) (hla : f 47 = eO 6 [.ref (g 48), .ref (g 49)]) (hlaa : f 48 = eA G 5 20 lf) (hts0 : f 112 = eO 6 [.ref (g 113), .ref (g 114)]) (htsa : f 113 = eA G 5 4 tf) (hse : se ≤ 10) (hhf : ∀ i, i < 10 → hf i = some (g (2 * i + 16))) (him0 : imf 0 = some (g 129)) (him1 : imf 1 = some (g 222)) (hmc : mc ≤ 50) (hmn : mn ≤ 6) (hnp : np ≤ 30) (hnf : nf ≤ 40) (hnr : nr ≤ 4) (hna : na ≤ 20) (hnt : nt ≤ 10) (hlf : ∀ z, z < 20 → lf z = some (g (47 + 3 * z + 5))) (htf : ∀ z, z < 4 → tf z = some (g (112 + 3 * z + 5))) (hH : ∀ i, i < 10 → okH G g f (2 * i + 16)) (hSp : okH G g f 13) (hL : ∀ i, i < 20 → okT G g f (3 * i + 52)) (hT : ∀ i, i < 4 → okT G g f (3 * i + 117)) (hB1 : okB G g f 129) (hB2 : okB G g f 222) : Met l yX10_sums (wsT yX10_sums cX10_sums 3 (some .int)) ({ frames := 1, cells := 0, slots := 0, locals := 22 }) (bP G g f [.ref (g 0), .int a1, .int a2]) (bQi G g (fun (z9 : Int32) (f' : Nat → va_E) => z9 = smA a1 a2 ∧ (cI G g f') ∧ ∀ j, 315 ≤ j → f' j = f j)) 0 0 (gA g) := by
  refine Met.ofW (cc := cX10_sums) (maxL := 3) (ret := (some .int)) (by decide) rfl ?_
  intro p e s m args below meth c s₁ B hml hv
  obtain ⟨rfl, hP, hG⟩ := hv
  have hx := B.exec
  have hb := B.bytes
  have hr := B.returns
  have hts := my_hts (atoms_spec (ws := wsT yX10_sums cX10_sums 3 (some .int)) B.pre)
  have hown : s.vm.findClass RX10 = some m.cls := findClass_of_methodNamed B.named
  have hlocks := B.notSynchronized
  have hS : va_S (gA g) s.heap s.heap [] := va_S.rf
  have hl := lv_entry ([.ref (g 0), .int a1, .int a2]) (n := 3) (Nat.le_of_ble_eq_true rfl)
  rw [lg_entry_eq]
  generalize (lg_sl ([.ref (g 0), .int a1, .int a2]) ++ List.replicate (3 - (lg_sl ([.ref (g 0), .int a1, .int a2])).length) Slot.unset).toArray = ls at hl ⊢
  have hl : lv_has ls 3 [(0, .ref (g 0)), (1, .int a1), (2, .int a2)] := hl
  refine lv_iload_n hx hb dX10_sums_0 rfl (lv_at hl 1 rfl) ?_
  refine lv_iconst (v := 0) hx hb dX10_sums_1 (by decide) ?_
  refine lv_bipush (v := 100) hx hb dX10_sums_2 (by decide) ?_
  refine rd_calli (va_runS (As := [.int a1, .int 0, .int 100]) (rest := []) ⟨hx, hb, hml, hown, hts⟩ (s_within l G g hg f a1 0 100  ) (my_cwS hts ok_X10_within w_134 rfl rfl ⟨Nat.le_of_ble_eq_true rfl, Nat.le_of_ble_eq_true rfl⟩) ⟨bP.blind, fun U hU hW => ⟨rfl, by rw [hU]; exact hP, kG.warm hW hG⟩⟩ rfl rfl hl.1 rfl (lv_room (Nat.le_of_ble_eq_true rfl)) dX10_sums_4 ⟨Nat.le_of_ble_eq_true rfl, Nat.le_of_ble_eq_true rfl⟩) (fun r hr9 => ?_)
  subst hr9
  refine my_ifeq (tgt := 21) hx hb dX10_sums_7 (by decide) (fun c_7 => ?_) (fun c_7 => ?_)
  · refine lv_bipush (v := (-2)) hx hb dX10_sums_21 (by decide) ?_
    exact W.iret (v := (-2)) hx hb hr (fun t ht hW => ⟨⟨_, f, rfl, (⟨(show smA a1 a2 = -2 from if_neg (fun z => c_7 z.1)).symm, ⟨se, hf, imf, kf, mc, op, cm, wu, mk, ab, be, mn, le, wt, ww, wb, wf, vv, pay, fine, np, dp, nf, df, nr, dr, na, da, nt, ct, lf, tf, hx0, hctc, hhs, him, hkp, hrd, hmk, hfc6, hwt, hw8, hw9, hw10, hw11, hvl, hbk, hpr, hpd, hfr, hfd, hor, hod, har, had, htr, hct, hla, hlaa, hts0, htsa, by omega, hhf, him0, him1, by omega, by omega, by omega, by omega, by omega, by omega, by omega, hlf, htf, hH, hSp, hL, hT, hB1, hB2⟩, fun j hj => rfl⟩), by rw [ht]; exact hP⟩, hS.F ht⟩) hS.2.2 dX10_sums_23
  · refine lv_iload_n hx hb dX10_sums_10 rfl (lv_at hl 2 rfl) ?_
    refine lv_iconst (v := 0) hx hb dX10_sums_11 (by decide) ?_
    refine lv_sipush (v := 1000) hx hb dX10_sums_12 (by decide) ?_
    refine rd_calli (va_runS (As := [.int a2, .int 0, .int 1000]) (rest := []) ⟨hx, hb, hml, hown, hts⟩ (s_within l G g hg f a2 0 1000  ) (my_cwS hts ok_X10_within w_134 rfl rfl ⟨Nat.le_of_ble_eq_true rfl, Nat.le_of_ble_eq_true rfl⟩) ⟨bP.blind, fun U hU hW => ⟨rfl, by rw [hU]; exact hP, kG.warm hW hG⟩⟩ rfl rfl hl.1 rfl (lv_room (Nat.le_of_ble_eq_true rfl)) dX10_sums_15 ⟨Nat.le_of_ble_eq_true rfl, Nat.le_of_ble_eq_true rfl⟩) (fun r hr9 => ?_)
    subst hr9
    refine my_ifne (tgt := 24) hx hb dX10_sums_18 (by decide) (fun c_18 => ?_) (fun c_18 => ?_)
    · refine lv_aload_n hx hb dX10_sums_24 rfl (lv_at hl 0 rfl) ?_
      refine va_get (D := G.1) (ci := 9) (v := .ref (g 36)) (C := RX10) (T := TX10) (N := 7) hx hb hts inlX10 hown hG.1 hP 0 (wl_at (by decide) hx0) rfl 1 (by decide) (hts (.fieldLink RX10 20 "SwornLists" "book" "LSwornLists$Book;") w_16) (fun _ h9 => h9) rfl dX10_sums_25 ?_
      refine lv_iload_n hx hb dX10_sums_28 rfl (lv_at hl 1 rfl) ?_
      refine va_putN (D := G.1) (ci := 0) (v := .int a1) (ty := .int) (C := RX0) (T := TX0) (N := 9) (host := RX10) hx hb hts inlX0 tyX0 tyX0_ok nmX0 hown hG.1 hP (wl_D hg f) hS 36 (wl_at (by decide) hbk) rfl 7 (by decide) (va_Nw.use rfl (hG.2.1 (.fieldLinkNest RX10 201 RX0 "pay" "I" RX10) (List.mem_of_getElem? (i := 10) rfl))) (fun _ h9 => h9) rfl (by decide +kernel) rfl rfl (Nat.le_of_ble_eq_true rfl) dX10_sums_29 (fun H locs hP _ hS => ?_)
      obtain ⟨f_1, hP, e_1, o_1⟩ := b_put (by decide) hP
      have hbk : f_1 36 = eO 0 [.ref (g 37), .ref (g 39), .ref (g 41), .ref (g 43), .ref (g 45), .ref (g 47), .ref (g 112), .int a1, .int fine] := e_1
      refine lv_aload_n hx hb dX10_sums_32 rfl (lv_at hl 0 rfl) ?_
      have hx0 : f_1 0 = eO 9 [.ref (g 1), .ref (g 36), .ref (g 2), .ref (g 3), .ref (g 4), .ref (g 6), .ref (g 7)] := ((o_1 0 (by decide))).trans hx0
      refine va_get (D := G.1) (ci := 9) (v := .ref (g 36)) (C := RX10) (T := TX10) (N := 7) hx hb hts inlX10 hown hG.1 hP 0 (wl_at (by decide) hx0) rfl 1 (by decide) (hts (.fieldLink RX10 20 "SwornLists" "book" "LSwornLists$Book;") w_16) (fun _ h9 => h9) rfl dX10_sums_33 ?_
      refine lv_iload_n hx hb dX10_sums_36 rfl (lv_at hl 2 rfl) ?_
      refine va_putN (D := G.1) (ci := 0) (v := .int a2) (ty := .int) (C := RX0) (T := TX0) (N := 9) (host := RX10) hx hb hts inlX0 tyX0 tyX0_ok nmX0 hown hG.1 hP (wl_D hg f_1) hS 36 (wl_at (by decide) hbk) rfl 8 (by decide) (va_Nw.use rfl (hG.2.1 (.fieldLinkNest RX10 204 RX0 "fine" "I" RX10) (List.mem_of_getElem? (i := 11) rfl))) (fun _ h9 => h9) rfl (by decide +kernel) rfl rfl (Nat.le_of_ble_eq_true rfl) dX10_sums_37 (fun H locs hP _ hS => ?_)
      obtain ⟨f_2, hP, e_2, o_2⟩ := b_put (by decide) hP
      have hbk : f_2 36 = eO 0 [.ref (g 37), .ref (g 39), .ref (g 41), .ref (g 43), .ref (g 45), .ref (g 47), .ref (g 112), .int a1, .int a2] := e_2
      refine lv_iconst (v := 1) hx hb dX10_sums_40 (by decide) ?_
      have hx0 : f_2 0 = eO 9 [.ref (g 1), .ref (g 36), .ref (g 2), .ref (g 3), .ref (g 4), .ref (g 6), .ref (g 7)] := ((o_2 0 (by decide))).trans hx0
      have hctc : f_2 1 = eO 1 [.ref (g 36), .ref (g 12), .ref (g 13), .ref (g 15), .int (nI se)] := ((o_2 1 (by decide)).trans ((o_1 1 (by decide)))).trans hctc
      have hhs : f_2 12 = eA G 4 10 hf := ((o_2 12 (by decide)).trans ((o_1 12 (by decide)))).trans hhs
      have him : f_2 2 = eA G 3 2 imf := ((o_2 2 (by decide)).trans ((o_1 2 (by decide)))).trans him
      have hkp : f_2 3 = eZ G 2 kf := ((o_2 3 (by decide)).trans ((o_1 3 (by decide)))).trans hkp
      have hrd : f_2 4 = eO 4 [.ref (g 5), .int (nI mc), .int op, .int cm, .int wu] := ((o_2 4 (by decide)).trans ((o_1 4 (by decide)))).trans hrd
      have hmk : f_2 5 = eI G 50 mk := ((o_2 5 (by decide)).trans ((o_1 5 (by decide)))).trans hmk
      have hfc6 : f_2 6 = eO 2 [.long ab, .long be] := ((o_2 6 (by decide)).trans ((o_1 6 (by decide)))).trans hfc6
      have hwt : f_2 7 = eO 8 [.ref (g 8), .ref (g 9), .ref (g 10), .ref (g 11), .int (nI mn), .int le] := ((o_2 7 (by decide)).trans ((o_1 7 (by decide)))).trans hwt
      have hw8 : f_2 8 = eI G 6 wt := ((o_2 8 (by decide)).trans ((o_1 8 (by decide)))).trans hw8
      have hw9 : f_2 9 = eI G 6 ww := ((o_2 9 (by decide)).trans ((o_1 9 (by decide)))).trans hw9
      have hw10 : f_2 10 = eI G 6 wb := ((o_2 10 (by decide)).trans ((o_1 10 (by decide)))).trans hw10
      have hw11 : f_2 11 = eI G 6 wf := ((o_2 11 (by decide)).trans ((o_1 11 (by decide)))).trans hw11
      have hvl : f_2 15 = eJ G 50 vv := ((o_2 15 (by decide)).trans ((o_1 15 (by decide)))).trans hvl
      have hpr : f_2 37 = eO 5 [.int (nI 30), .int (nI 4), .ref (g 38), .int (nI np)] := ((o_2 37 (by decide)).trans ((o_1 37 (by decide)))).trans hpr
      have hpd : f_2 38 = eI G (30 * 4) dp := ((o_2 38 (by decide)).trans ((o_1 38 (by decide)))).trans hpd
      have hfr : f_2 39 = eO 5 [.int (nI 40), .int (nI 3), .ref (g 40), .int (nI nf)] := ((o_2 39 (by decide)).trans ((o_1 39 (by decide)))).trans hfr
      have hfd : f_2 40 = eI G (40 * 3) df := ((o_2 40 (by decide)).trans ((o_1 40 (by decide)))).trans hfd
      have hor : f_2 41 = eO 5 [.int (nI 4), .int (nI 3), .ref (g 42), .int (nI nr)] := ((o_2 41 (by decide)).trans ((o_1 41 (by decide)))).trans hor
      have hod : f_2 42 = eI G (4 * 3) dr := ((o_2 42 (by decide)).trans ((o_1 42 (by decide)))).trans hod
      have har : f_2 43 = eO 5 [.int (nI 20), .int (nI 3), .ref (g 44), .int (nI na)] := ((o_2 43 (by decide)).trans ((o_1 43 (by decide)))).trans har
      have had : f_2 44 = eI G (20 * 3) da := ((o_2 44 (by decide)).trans ((o_1 44 (by decide)))).trans had
      have htr : f_2 45 = eO 5 [.int (nI 10), .int (nI 70), .ref (g 46), .int (nI nt)] := ((o_2 45 (by decide)).trans ((o_1 45 (by decide)))).trans htr
      have hct : f_2 46 = eI G (10 * 70) ct := ((o_2 46 (by decide)).trans ((o_1 46 (by decide)))).trans hct
      have hla : f_2 47 = eO 6 [.ref (g 48), .ref (g 49)] := ((o_2 47 (by decide)).trans ((o_1 47 (by decide)))).trans hla
      have hlaa : f_2 48 = eA G 5 20 lf := ((o_2 48 (by decide)).trans ((o_1 48 (by decide)))).trans hlaa
      have hts0 : f_2 112 = eO 6 [.ref (g 113), .ref (g 114)] := ((o_2 112 (by decide)).trans ((o_1 112 (by decide)))).trans hts0
      have htsa : f_2 113 = eA G 5 4 tf := ((o_2 113 (by decide)).trans ((o_1 113 (by decide)))).trans htsa
      have hH : ∀ i, i < 10 → okH G g f_1 (2 * i + 16) := fun z hz => okH_fr (hH z hz) (o_1 _ (by omega)) (o_1 _ (by omega))
      have hH : ∀ i, i < 10 → okH G g f_2 (2 * i + 16) := fun z hz => okH_fr (hH z hz) (o_2 _ (by omega)) (o_2 _ (by omega))
      have hSp : okH G g f_1 13 := okH_fr hSp (o_1 _ (by omega)) (o_1 _ (by omega))
      have hSp : okH G g f_2 13 := okH_fr hSp (o_2 _ (by omega)) (o_2 _ (by omega))
      have hL : ∀ i, i < 20 → okT G g f_1 (3 * i + 52) := fun z hz => okT_fr (hL z hz) (o_1 _ (by omega)) (o_1 _ (by omega)) (o_1 _ (by omega))
      have hL : ∀ i, i < 20 → okT G g f_2 (3 * i + 52) := fun z hz => okT_fr (hL z hz) (o_2 _ (by omega)) (o_2 _ (by omega)) (o_2 _ (by omega))
      have hT : ∀ i, i < 4 → okT G g f_1 (3 * i + 117) := fun z hz => okT_fr (hT z hz) (o_1 _ (by omega)) (o_1 _ (by omega)) (o_1 _ (by omega))
      have hT : ∀ i, i < 4 → okT G g f_2 (3 * i + 117) := fun z hz => okT_fr (hT z hz) (o_2 _ (by omega)) (o_2 _ (by omega)) (o_2 _ (by omega))
      have hB1 : okB G g f_1 129 := okB_fr hB1 (fun j _ _ => o_1 j (by omega))
      have hB1 : okB G g f_2 129 := okB_fr hB1 (fun j _ _ => o_2 j (by omega))
      have hB2 : okB G g f_1 222 := okB_fr hB2 (fun j _ _ => o_1 j (by omega))
      have hB2 : okB G g f_2 222 := okB_fr hB2 (fun j _ _ => o_2 j (by omega))
      exact W.iret (v := 1) hx hb hr (fun t ht hW => ⟨⟨_, f_2, rfl, (⟨(show smA a1 a2 = 1 from if_pos ⟨c_7, c_18⟩).symm, ⟨se, hf, imf, kf, mc, op, cm, wu, mk, ab, be, mn, le, wt, ww, wb, wf, vv, a1, a2, np, dp, nf, df, nr, dr, na, da, nt, ct, lf, tf, hx0, hctc, hhs, him, hkp, hrd, hmk, hfc6, hwt, hw8, hw9, hw10, hw11, hvl, hbk, hpr, hpd, hfr, hfd, hor, hod, har, had, htr, hct, hla, hlaa, hts0, htsa, by omega, hhf, him0, him1, by omega, by omega, by omega, by omega, by omega, by omega, by omega, hlf, htf, hH, hSp, hL, hT, hB1, hB2⟩, fun j hj => ((o_2 j (by omega))).trans (o_1 j (by omega))⟩), by rw [ht]; exact hP⟩, hS.F ht⟩) hS.2.2 dX10_sums_41
    · refine lv_bipush (v := (-2)) hx hb dX10_sums_21 (by decide) ?_
      exact W.iret (v := (-2)) hx hb hr (fun t ht hW => ⟨⟨_, f, rfl, (⟨(show smA a1 a2 = -2 from if_neg (fun z => c_18 z.2)).symm, ⟨se, hf, imf, kf, mc, op, cm, wu, mk, ab, be, mn, le, wt, ww, wb, wf, vv, pay, fine, np, dp, nf, df, nr, dr, na, da, nt, ct, lf, tf, hx0, hctc, hhs, him, hkp, hrd, hmk, hfc6, hwt, hw8, hw9, hw10, hw11, hvl, hbk, hpr, hpd, hfr, hfd, hor, hod, har, had, htr, hct, hla, hlaa, hts0, htsa, by omega, hhf, him0, him1, by omega, by omega, by omega, by omega, by omega, by omega, by omega, hlf, htf, hH, hSp, hL, hT, hB1, hB2⟩, fun j hj => rfl⟩), by rw [ht]; exact hP⟩, hS.F ht⟩) hS.2.2 dX10_sums_23
theorem m_sumsE (l : Launch) (G : gW) (g : Nat → Nat) (hg : gOK g) (f : Nat → va_E) (a1 : Int32) (a2 : Int32) (hI : cI G g f) : Met l yX10_sums (wsT yX10_sums cX10_sums 3 (some .int)) ({ frames := 1, cells := 0, slots := 0, locals := 22 }) (bP G g f [.ref (g 0), .int a1, .int a2]) (bQi G g (fun (z9 : Int32) (f' : Nat → va_E) => z9 = smA a1 a2 ∧ (cI G g f') ∧ ∀ j, 315 ≤ j → f' j = f j)) 0 0 (gA g) := cI_elim hI (fun se hf imf kf mc op cm wu mk ab be mn le wt ww wb wf vv pay fine np dp nf df nr dr na da nt ct lf tf hx0 hctc hhs him hkp hrd hmk hfc6 hwt hw8 hw9 hw10 hw11 hvl hbk hpr hpd hfr hfd hor hod har had htr hct hla hlaa hts0 htsa hse hhf him0 him1 hmc hmn hnp hnf hnr hna hnt hlf htf hH hSp hL hT hB1 hB2 => n_sumsE l G g hg f se hf imf kf mc op cm wu mk ab be mn le wt ww wb wf vv pay fine np dp nf df nr dr na da nt ct lf tf a1 a2 hx0 hctc hhs him hkp hrd hmk hfc6 hwt hw8 hw9 hw10 hw11 hvl hbk hpr hpd hfr hfd hor hod har had htr hct hla hlaa hts0 htsa hse hhf him0 him1 hmc hmn hnp hnf hnr hna hnt hlf htf hH hSp hL hT hB1 hB2)
set_option maxHeartbeats 4000000 in
set_option maxRecDepth 100000 in
theorem n2_sumsE (l : Launch) (G : gW) (g : Nat → Nat) (hg : gOK g) (f : Nat → va_E) (ab2 : Int64) (be2 : Int64) (sn : Int32) (wn : Int32) (sa : Int32) (ly : Int32) (rdy : Int32) (fd : Nat) (ss : Nat → Int32) (np : Nat) (nf : Nat) (nr : Nat) (na : Nat) (nt : Nat) (im : Nat → Int32) (kq : Nat → Int32) (sp : Nat → Int32) (wi : Nat → Int32) (wa : Nat → Int32) (va : Nat → Int64) (bo : Nat → Int32) (ju : Nat → Int32) (dr : Nat → Int32) (dn : Nat → Int32) (sl : Nat → Int32) (ax : Nat → Int32) (lf : Nat → Int32) (wh : Nat → Int32) (w6 : Nat → Int32) (b6 : Nat → Int32) (a1 : Int32) (a2 : Int32) (hmo : f 315 = eO 10 [.ref (g 316), .ref (g 317), .ref (g 318), .long ab2, .long be2, .int sn, .ref (g 319), .ref (g 320), .int wn, .ref (g 321), .ref (g 322), .int sa, .int ly, .int rdy, .int (nI fd), .ref (g 323), .ref (g 324), .ref (g 325), .ref (g 326), .ref (g 327), .ref (g 328), .ref (g 329), .ref (g 330), .ref (g 331), .ref (g 332)]) (hss_ : f 316 = eI G 2246 ss) (him_ : f 317 = eI G 4492 im) (hkq_ : f 318 = eZ G 2 kq) (hsp_ : f 319 = eI G 70 sp) (hwi_ : f 320 = eI G 70 wi) (hwa_ : f 321 = eI G 70 wa) (hva_ : f 322 = eJ G 70 va) (hbo_ : f 323 = eI G 11 bo) (hju_ : f 324 = eI G 11 ju) (hdr_ : f 325 = eI G 264 dr) (hdn_ : f 326 = eI G 11 dn) (hsl_ : f 327 = eI G 330 sl) (hax_ : f 328 = eI G 44 ax) (hlf_ : f 329 = eI G 30 lf) (hwh_ : f 330 = eI G 6 wh) (hw6_ : f 331 = eI G 6 w6) (hb6_ : f 332 = eI G 6 b6) (hst : stOK ss np nf nr na nt) (hfo : fd ≤ 10) (hdn : ∀ k, k < 11 → ∃ d, d ≤ 24 ∧ dn k = nI d) (hi0 : stI im 0) (hi1 : stI im 2246) : Met l yX11_sums (wsT yX11_sums cX11_sums 3 (some .int)) ({ frames := 1, cells := 0, slots := 0, locals := 25 }) (bP G g f [.ref (g 315), .int a1, .int a2]) (bQi G g (fun (z9 : Int32) (f' : Nat → va_E) => z9 = smA a1 a2 ∧ (mI G g f') ∧ ∀ j, j < 315 → f' j = f j)) 0 0 (gA g) := by
  refine Met.ofW (cc := cX11_sums) (maxL := 3) (ret := (some .int)) (by decide) rfl ?_
  intro p e s m args below meth c s₁ B hml hv
  obtain ⟨rfl, hP, hG⟩ := hv
  have hx := B.exec
  have hb := B.bytes
  have hr := B.returns
  have hts := my_hts (atoms_spec (ws := wsT yX11_sums cX11_sums 3 (some .int)) B.pre)
  have hown : s.vm.findClass RX11 = some m.cls := findClass_of_methodNamed B.named
  have hlocks := B.notSynchronized
  have hS : va_S (gA g) s.heap s.heap [] := va_S.rf
  have hl := lv_entry ([.ref (g 315), .int a1, .int a2]) (n := 3) (Nat.le_of_ble_eq_true rfl)
  rw [lg_entry_eq]
  generalize (lg_sl ([.ref (g 315), .int a1, .int a2]) ++ List.replicate (3 - (lg_sl ([.ref (g 315), .int a1, .int a2])).length) Slot.unset).toArray = ls at hl ⊢
  have hl : lv_has ls 3 [(0, .ref (g 315)), (1, .int a1), (2, .int a2)] := hl
  have hc0 := hst.c0
  have hc1 := hst.c1
  have hc2 := hst.c2
  have hc3 := hst.c3
  have hc4 := hst.c4
  refine lv_iload_n hx hb dX11_sums_0 rfl (lv_at hl 1 rfl) ?_
  refine lv_i2l hx hb dX11_sums_1 rfl ?_
  refine lv_lconst (v := 0) hx hb dX11_sums_2 (by decide) ?_
  refine my_bel (v := Int32.toInt64 0) (by decide) ?_
  refine lv_ldc2 (v := 100) hx hb hown (hts (.constantLong RX11 202 (100)) w_670) dX11_sums_3 ?_
  refine my_bel (v := Int32.toInt64 100) (by decide) ?_
  refine rd_calli (va_runS (As := [.long (Int32.toInt64 a1), .long (Int32.toInt64 0), .long (Int32.toInt64 100)]) (rest := []) ⟨hx, hb, hml, hown, hts⟩ (r_in l G g hg f a1 0 100  ) (my_cwS hts ok_X11_in w_162 rfl rfl ⟨Nat.le_of_ble_eq_true rfl, Nat.le_of_ble_eq_true rfl⟩) ⟨bP.blind, fun U hU hW => ⟨rfl, by rw [hU]; exact hP, kG.warm hW hG⟩⟩ rfl rfl hl.1 rfl (lv_room (Nat.le_of_ble_eq_true rfl)) dX11_sums_6 ⟨Nat.le_of_ble_eq_true rfl, Nat.le_of_ble_eq_true rfl⟩) (fun r hr9 => ?_)
  subst hr9
  refine my_ifeq (tgt := 24) hx hb dX11_sums_9 (by decide) (fun c_9 => ?_) (fun c_9 => ?_)
  · refine lv_bipush (v := (-2)) hx hb dX11_sums_24 (by decide) ?_
    exact W.iret (v := (-2)) hx hb hr (fun t ht hW => ⟨⟨_, f, rfl, (⟨(show smA a1 a2 = -2 from if_neg (fun z => c_9 z.1)).symm, ⟨ab2, be2, sn, wn, sa, ly, rdy, fd, ss, np, nf, nr, na, nt, im, kq, sp, wi, wa, va, bo, ju, dr, dn, sl, ax, lf, wh, w6, b6, hmo, hss_, him_, hkq_, hsp_, hwi_, hwa_, hva_, hbo_, hju_, hdr_, hdn_, hsl_, hax_, hlf_, hwh_, hw6_, hb6_, hst, by omega, hdn, hi0, hi1⟩, fun j hj => rfl⟩), by rw [ht]; exact hP⟩, hS.F ht⟩) hS.2.2 dX11_sums_26
  · refine lv_iload_n hx hb dX11_sums_12 rfl (lv_at hl 2 rfl) ?_
    refine lv_i2l hx hb dX11_sums_13 rfl ?_
    refine lv_lconst (v := 0) hx hb dX11_sums_14 (by decide) ?_
    refine my_bel (v := Int32.toInt64 0) (by decide) ?_
    refine lv_ldc2 (v := 1000) hx hb hown (hts (.constantLong RX11 79 (1000)) w_160) dX11_sums_15 ?_
    refine my_bel (v := Int32.toInt64 1000) (by decide) ?_
    refine rd_calli (va_runS (As := [.long (Int32.toInt64 a2), .long (Int32.toInt64 0), .long (Int32.toInt64 1000)]) (rest := []) ⟨hx, hb, hml, hown, hts⟩ (r_in l G g hg f a2 0 1000  ) (my_cwS hts ok_X11_in w_162 rfl rfl ⟨Nat.le_of_ble_eq_true rfl, Nat.le_of_ble_eq_true rfl⟩) ⟨bP.blind, fun U hU hW => ⟨rfl, by rw [hU]; exact hP, kG.warm hW hG⟩⟩ rfl rfl hl.1 rfl (lv_room (Nat.le_of_ble_eq_true rfl)) dX11_sums_18 ⟨Nat.le_of_ble_eq_true rfl, Nat.le_of_ble_eq_true rfl⟩) (fun r hr9 => ?_)
    subst hr9
    refine my_ifne (tgt := 27) hx hb dX11_sums_21 (by decide) (fun c_21 => ?_) (fun c_21 => ?_)
    · refine lv_aload_n hx hb dX11_sums_27 rfl (lv_at hl 0 rfl) ?_
      refine va_get (D := G.1) (ci := 10) (v := .ref (g 316)) (C := RX11) (T := TX11) (N := 25) hx hb hts inlX11 hown hG.1 hP 315 (wl_at (by decide) hmo) rfl 0 (by decide) (hts (.fieldLink RX11 7 "SwornListsModel" "st" "[I") w_112) (fun _ h9 => h9) rfl dX11_sums_28 ?_
      refine lv_iconst (v := 5) hx hb dX11_sums_31 (by decide) ?_
      refine lv_iload_n hx hb dX11_sums_32 rfl (lv_at hl 1 rfl) ?_
      refine va_iast hx hb hG.1 hP (wl_D hg f) hS 316 0 (wl_at (by decide) hss_) rfl (by unfold vp_in; decide) dX11_sums_33 (fun H locs hP _ hS => ?_)
      have hP := (congrArg (fun z9 => va_P G.1 vwCl ((wl g f).set 316 (g 316, eI G 2246 ((upd ss z9 a1)))) H) (show Int32.toNatClampNeg 5 = 5 from rfl)).mp hP
      obtain ⟨f_1, hP, e_1, o_1⟩ := b_put (by decide) hP
      have hss_ : f_1 316 = eI G 2246 (upd ss 5 a1) := e_1
      refine lv_aload_n hx hb dX11_sums_34 rfl (lv_at hl 0 rfl) ?_
      have hmo : f_1 315 = eO 10 [.ref (g 316), .ref (g 317), .ref (g 318), .long ab2, .long be2, .int sn, .ref (g 319), .ref (g 320), .int wn, .ref (g 321), .ref (g 322), .int sa, .int ly, .int rdy, .int (nI fd), .ref (g 323), .ref (g 324), .ref (g 325), .ref (g 326), .ref (g 327), .ref (g 328), .ref (g 329), .ref (g 330), .ref (g 331), .ref (g 332)] := ((o_1 315 (by decide))).trans hmo
      refine va_get (D := G.1) (ci := 10) (v := .ref (g 316)) (C := RX11) (T := TX11) (N := 25) hx hb hts inlX11 hown hG.1 hP 315 (wl_at (by decide) hmo) rfl 0 (by decide) (hts (.fieldLink RX11 7 "SwornListsModel" "st" "[I") w_112) (fun _ h9 => h9) rfl dX11_sums_35 ?_
      refine lv_bipush (v := 6) hx hb dX11_sums_38 (by decide) ?_
      refine lv_iload_n hx hb dX11_sums_40 rfl (lv_at hl 2 rfl) ?_
      refine va_iast hx hb hG.1 hP (wl_D hg f_1) hS 316 0 (wl_at (by decide) hss_) rfl (by unfold vp_in; decide) dX11_sums_41 (fun H locs hP _ hS => ?_)
      have hP := (congrArg (fun z9 => va_P G.1 vwCl ((wl g f_1).set 316 (g 316, eI G 2246 ((upd (upd ss 5 a1) z9 a2)))) H) (show Int32.toNatClampNeg 6 = 6 from rfl)).mp hP
      obtain ⟨f_2, hP, e_2, o_2⟩ := b_put (by decide) hP
      have hss_ : f_2 316 = eI G 2246 (upd (upd ss 5 a1) 6 a2) := e_2
      refine lv_iconst (v := 1) hx hb dX11_sums_42 (by decide) ?_
      have hmo : f_2 315 = eO 10 [.ref (g 316), .ref (g 317), .ref (g 318), .long ab2, .long be2, .int sn, .ref (g 319), .ref (g 320), .int wn, .ref (g 321), .ref (g 322), .int sa, .int ly, .int rdy, .int (nI fd), .ref (g 323), .ref (g 324), .ref (g 325), .ref (g 326), .ref (g 327), .ref (g 328), .ref (g 329), .ref (g 330), .ref (g 331), .ref (g 332)] := ((o_2 315 (by decide))).trans hmo
      have him_ : f_2 317 = eI G 4492 im := ((o_2 317 (by decide)).trans ((o_1 317 (by decide)))).trans him_
      have hkq_ : f_2 318 = eZ G 2 kq := ((o_2 318 (by decide)).trans ((o_1 318 (by decide)))).trans hkq_
      have hsp_ : f_2 319 = eI G 70 sp := ((o_2 319 (by decide)).trans ((o_1 319 (by decide)))).trans hsp_
      have hwi_ : f_2 320 = eI G 70 wi := ((o_2 320 (by decide)).trans ((o_1 320 (by decide)))).trans hwi_
      have hwa_ : f_2 321 = eI G 70 wa := ((o_2 321 (by decide)).trans ((o_1 321 (by decide)))).trans hwa_
      have hva_ : f_2 322 = eJ G 70 va := ((o_2 322 (by decide)).trans ((o_1 322 (by decide)))).trans hva_
      have hbo_ : f_2 323 = eI G 11 bo := ((o_2 323 (by decide)).trans ((o_1 323 (by decide)))).trans hbo_
      have hju_ : f_2 324 = eI G 11 ju := ((o_2 324 (by decide)).trans ((o_1 324 (by decide)))).trans hju_
      have hdr_ : f_2 325 = eI G 264 dr := ((o_2 325 (by decide)).trans ((o_1 325 (by decide)))).trans hdr_
      have hdn_ : f_2 326 = eI G 11 dn := ((o_2 326 (by decide)).trans ((o_1 326 (by decide)))).trans hdn_
      have hsl_ : f_2 327 = eI G 330 sl := ((o_2 327 (by decide)).trans ((o_1 327 (by decide)))).trans hsl_
      have hax_ : f_2 328 = eI G 44 ax := ((o_2 328 (by decide)).trans ((o_1 328 (by decide)))).trans hax_
      have hlf_ : f_2 329 = eI G 30 lf := ((o_2 329 (by decide)).trans ((o_1 329 (by decide)))).trans hlf_
      have hwh_ : f_2 330 = eI G 6 wh := ((o_2 330 (by decide)).trans ((o_1 330 (by decide)))).trans hwh_
      have hw6_ : f_2 331 = eI G 6 w6 := ((o_2 331 (by decide)).trans ((o_1 331 (by decide)))).trans hw6_
      have hb6_ : f_2 332 = eI G 6 b6 := ((o_2 332 (by decide)).trans ((o_1 332 (by decide)))).trans hb6_
      exact W.iret (v := 1) hx hb hr (fun t ht hW => ⟨⟨_, f_2, rfl, (⟨(show smA a1 a2 = 1 from if_pos ⟨c_9, c_21⟩).symm, ⟨ab2, be2, sn, wn, sa, ly, rdy, fd, (upd (upd ss 5 a1) 6 a2), np, nf, nr, na, nt, im, kq, sp, wi, wa, va, bo, ju, dr, dn, sl, ax, lf, wh, w6, b6, hmo, hss_, him_, hkq_, hsp_, hwi_, hwa_, hva_, hbo_, hju_, hdr_, hdn_, hsl_, hax_, hlf_, hwh_, hw6_, hb6_, (stOK.upd1 (stOK.upd1 hst (by omega) (fun t h => by omega) (fun a j h1 h2 => by omega) (fun t h => by omega)) (by omega) (fun t h => by omega) (fun a j h1 h2 => by omega) (fun t h => by omega)), by omega, hdn, hi0, hi1⟩, fun j hj => ((o_2 j (by omega))).trans (o_1 j (by omega))⟩), by rw [ht]; exact hP⟩, hS.F ht⟩) hS.2.2 dX11_sums_43
    · refine lv_bipush (v := (-2)) hx hb dX11_sums_24 (by decide) ?_
      exact W.iret (v := (-2)) hx hb hr (fun t ht hW => ⟨⟨_, f, rfl, (⟨(show smA a1 a2 = -2 from if_neg (fun z => c_21 z.2)).symm, ⟨ab2, be2, sn, wn, sa, ly, rdy, fd, ss, np, nf, nr, na, nt, im, kq, sp, wi, wa, va, bo, ju, dr, dn, sl, ax, lf, wh, w6, b6, hmo, hss_, him_, hkq_, hsp_, hwi_, hwa_, hva_, hbo_, hju_, hdr_, hdn_, hsl_, hax_, hlf_, hwh_, hw6_, hb6_, hst, by omega, hdn, hi0, hi1⟩, fun j hj => rfl⟩), by rw [ht]; exact hP⟩, hS.F ht⟩) hS.2.2 dX11_sums_26
theorem m2_sumsE (l : Launch) (G : gW) (g : Nat → Nat) (hg : gOK g) (f : Nat → va_E) (a1 : Int32) (a2 : Int32) (hI : mI G g f) : Met l yX11_sums (wsT yX11_sums cX11_sums 3 (some .int)) ({ frames := 1, cells := 0, slots := 0, locals := 25 }) (bP G g f [.ref (g 315), .int a1, .int a2]) (bQi G g (fun (z9 : Int32) (f' : Nat → va_E) => z9 = smA a1 a2 ∧ (mI G g f') ∧ ∀ j, j < 315 → f' j = f j)) 0 0 (gA g) := mI_elim hI (fun ab2 be2 sn wn sa ly rdy fd ss np nf nr na nt im kq sp wi wa va bo ju dr dn sl ax lf wh w6 b6 hmo hss_ him_ hkq_ hsp_ hwi_ hwa_ hva_ hbo_ hju_ hdr_ hdn_ hsl_ hax_ hlf_ hwh_ hw6_ hb6_ hst hfo hdn hi0 hi1 => n2_sumsE l G g hg f ab2 be2 sn wn sa ly rdy fd ss np nf nr na nt im kq sp wi wa va bo ju dr dn sl ax lf wh w6 b6 a1 a2 hmo hss_ him_ hkq_ hsp_ hwi_ hwa_ hva_ hbo_ hju_ hdr_ hdn_ hsl_ hax_ hlf_ hwh_ hw6_ hb6_ hst hfo hdn hi0 hi1)

set_option maxHeartbeats 4000000 in
set_option maxRecDepth 100000 in
theorem jn_chance (l : Launch) (G : gW) (g : Nat → Nat) (hg : gOK g) (f : Nat → va_E) (se : Nat) (hf : Nat → Option Nat) (imf : Nat → Option Nat) (kf : Nat → Int32) (mc : Nat) (op : Int32) (cm : Int32) (wu : Int32) (mk : Nat → Int32) (ab : Int64) (be : Int64) (mn : Nat) (le : Int32) (wt : Nat → Int32) (ww : Nat → Int32) (wb : Nat → Int32) (wf : Nat → Int32) (vv : Nat → Int64) (pay : Int32) (fine : Int32) (np : Nat) (dp : Nat → Int32) (nf : Nat) (df : Nat → Int32) (nr : Nat) (dr : Nat → Int32) (na : Nat) (da : Nat → Int32) (nt : Nat) (ct : Nat → Int32) (lf : Nat → Option Nat) (tf : Nat → Option Nat) (TL : Nat → Nat) (TG : Nat → Nat → Int32) (LL : Nat → Nat) (LG : Nat → Nat → Int32) (N1 : Nat → Nat) (E1 : Nat → Nat → Int32) (P1 : Nat → Int32) (L1 : Nat → Nat) (S1 : Nat → Nat → Int32) (W1 : Nat → Nat) (X1 : Nat → Nat → Int32) (N2 : Nat → Nat) (E2 : Nat → Nat → Int32) (P2 : Nat → Int32) (L2 : Nat → Nat) (S2 : Nat → Nat → Int32) (W2 : Nat → Nat) (X2 : Nat → Nat → Int32) (a1 : Int32) (a2 : Int32) (a3 : Int32) (a4 : Int32) (hx0 : f 0 = eO 9 [.ref (g 1), .ref (g 36), .ref (g 2), .ref (g 3), .ref (g 4), .ref (g 6), .ref (g 7)]) (hctc : f 1 = eO 1 [.ref (g 36), .ref (g 12), .ref (g 13), .ref (g 15), .int (nI se)]) (hhs : f 12 = eA G 4 10 hf) (him : f 2 = eA G 3 2 imf) (hkp : f 3 = eZ G 2 kf) (hrd : f 4 = eO 4 [.ref (g 5), .int (nI mc), .int op, .int cm, .int wu]) (hmk : f 5 = eI G 50 mk) (hfc6 : f 6 = eO 2 [.long ab, .long be]) (hwt : f 7 = eO 8 [.ref (g 8), .ref (g 9), .ref (g 10), .ref (g 11), .int (nI mn), .int le]) (hw8 : f 8 = eI G 6 wt) (hw9 : f 9 = eI G 6 ww) (hw10 : f 10 = eI G 6 wb) (hw11 : f 11 = eI G 6 wf) (hvl : f 15 = eJ G 50 vv) (hbk : f 36 = eO 0 [.ref (g 37), .ref (g 39), .ref (g 41), .ref (g 43), .ref (g 45), .ref (g 47), .ref (g 112), .int pay, .int fine]) (hpr : f 37 = eO 5 [.int (nI 30), .int (nI 4), .ref (g 38), .int (nI np)]) (hpd : f 38 = eI G (30 * 4) dp) (hfr : f 39 = eO 5 [.int (nI 40), .int (nI 3), .ref (g 40), .int (nI nf)]) (hfd : f 40 = eI G (40 * 3) df) (hor : f 41 = eO 5 [.int (nI 4), .int (nI 3), .ref (g 42), .int (nI nr)]) (hod : f 42 = eI G (4 * 3) dr) (har : f 43 = eO 5 [.int (nI 20), .int (nI 3), .ref (g 44), .int (nI na)]) (had : f 44 = eI G (20 * 3) da) (htr : f 45 = eO 5 [.int (nI 10), .int (nI 70), .ref (g 46), .int (nI nt)]) (hct : f 46 = eI G (10 * 70) ct) (hla : f 47 = eO 6 [.ref (g 48), .ref (g 49)]) (hlaa : f 48 = eA G 5 20 lf) (hts0 : f 112 = eO 6 [.ref (g 113), .ref (g 114)]) (htsa : f 113 = eA G 5 4 tf) (hse : se ≤ 10) (hhf : ∀ i, i < 10 → hf i = some (g (2 * i + 16))) (him0 : imf 0 = some (g 129)) (him1 : imf 1 = some (g 222)) (hmc : mc ≤ 50) (hmn : mn ≤ 6) (hnp : np ≤ 30) (hnf : nf ≤ 40) (hnr : nr ≤ 4) (hna : na ≤ 20) (hnt : nt ≤ 10) (hlf : ∀ z, z < 20 → lf z = some (g (47 + 3 * z + 5))) (htf : ∀ z, z < 4 → tf z = some (g (112 + 3 * z + 5))) (hsn : se ≤ nt) (hTr : trC ct nt) (hH : ∀ i, i < 10 → okH G g f (2 * i + 16)) (hSp : okH G g f 13) (hL : ∀ i, i < 20 → ltx G g f (3 * i + 52) (LL i) (LG i) (i < na)) (hT : ∀ i, i < 4 → txt G g f (3 * i + 117) (TL i) (TG i)) (hB1 : bkD G g f 129 N1 E1 P1 L1 S1 W1 X1) (hB2 : bkD G g f 222 N2 E2 P2 L2 S2 W2 X2) (hQ : ∀ z, z < se → cHz G g f np nf nr na dp df dr da ct LL LG z) : Met l yX10_chance (wsT yX10_chance cX10_chance 8 (some .int)) ({ frames := 2, cells := 0, slots := 0, locals := 56 }) (bP G g f [.ref (g 0), .int a1, .int a2, .int a3, .int a4]) (bQi G g (fun (z9 : Int32) (f' : Nat → va_E) => (cJ G g f' np dp nf df nr dr nt ct pay fine kf na da TL TG LL LG N1 E1 P1 L1 S1 W1 X1 N2 E2 P2 L2 S2 W2 X2) ∧ ∀ j, 315 ≤ j → f' j = f j)) 0 0 (gA g) := by
  refine Met.ofW (cc := cX10_chance) (maxL := 8) (ret := (some .int)) (by decide) rfl ?_
  intro p e s m args below meth c s₁ B hml hv
  obtain ⟨rfl, hP, hG⟩ := hv
  have hx := B.exec
  have hb := B.bytes
  have hr := B.returns
  have hts := my_hts (atoms_spec (ws := wsT yX10_chance cX10_chance 8 (some .int)) B.pre)
  have hown : s.vm.findClass RX10 = some m.cls := findClass_of_methodNamed B.named
  have hlocks := B.notSynchronized
  have hS : va_S (gA g) s.heap s.heap [] := va_S.rf
  have hl := lv_entry ([.ref (g 0), .int a1, .int a2, .int a3, .int a4]) (n := 8) (Nat.le_of_ble_eq_true rfl)
  rw [lg_entry_eq]
  generalize (lg_sl ([.ref (g 0), .int a1, .int a2, .int a3, .int a4]) ++ List.replicate (8 - (lg_sl ([.ref (g 0), .int a1, .int a2, .int a3, .int a4])).length) Slot.unset).toArray = ls at hl ⊢
  have hl : lv_has ls 8 [(0, .ref (g 0)), (1, .int a1), (2, .int a2), (3, .int a3), (4, .int a4)] := hl
  refine W_q8 (fun Q9 hQ9 => ?_)
  refine lv_iload_n hx hb dX10_chance_0 rfl (lv_at hl 1 rfl) ?_
  refine lv_iconst (v := 0) hx hb dX10_chance_1 (by decide) ?_
  refine lv_bipush (v := 40) hx hb dX10_chance_2 (by decide) ?_
  refine rd_calli (va_runS (As := [.int a1, .int 0, .int 40]) (rest := []) ⟨hx, hb, hml, hown, hts⟩ (s_within l G g hg f a1 0 40  ) (my_cwS hts ok_X10_within w_134 rfl rfl ⟨Nat.le_of_ble_eq_true rfl, Nat.le_of_ble_eq_true rfl⟩) ⟨bP.blind, fun U hU hW => ⟨rfl, by rw [hU]; exact hP, kG.warm hW hG⟩⟩ rfl rfl hl.1 rfl (lv_room (Nat.le_of_ble_eq_true rfl)) dX10_chance_4 ⟨Nat.le_of_ble_eq_true rfl, Nat.le_of_ble_eq_true rfl⟩) (fun r hr9 => ?_)
  subst hr9
  refine my_ifeq (tgt := 39) hx hb dX10_chance_7 (by decide) (fun c_7 => ?_) (fun c_7 => ?_)
  · refine lv_bipush (v := (-2)) hx hb dX10_chance_39 (by decide) ?_
    refine W_q9 hQ9 ?_
    exact W.iret (v := (-2)) hx hb hr (fun _ hT9 _ => ⟨⟨_, f, rfl, (⟨cJ_mk (se) (hf) (imf) (mc) (op) (cm) (wu) (mk) (ab) (be) (mn) (le) (wt) (ww) (wb) (wf) (vv) (lf) (tf) (hx0) (hctc) (hhs) (him) (hkp) (hrd) (hmk) (hfc6) (hwt) (hw8) (hw9) (hw10) (hw11) (hvl) (hbk) (hpr) (hpd) (hfr) (hfd) (hor) (hod) (har) (had) (htr) (hct) (hla) (hlaa) (hts0) (htsa) (by omega) (hhf) (him0) (him1) (by omega) (by omega) (by omega) (by omega) (by omega) (by omega) (by omega) (hlf) (htf) (by omega) (hH) (hSp) (hL) (hT) (hB1) (hB2) (hQ), fun j hj => rfl⟩), by rw [hT9]; exact hP⟩, hS.F hT9⟩) hS.2.2 dX10_chance_41
  · refine lv_iload_n hx hb dX10_chance_10 rfl (lv_at hl 2 rfl) ?_
    refine lv_iconst (v := 0) hx hb dX10_chance_11 (by decide) ?_
    refine lv_iload_n hx hb dX10_chance_12 rfl (lv_at hl 1 rfl) ?_
    refine rd_calli (va_runS (As := [.int a2, .int 0, .int a1]) (rest := []) ⟨hx, hb, hml, hown, hts⟩ (s_within l G g hg f a2 0 a1  ) (my_cwS hts ok_X10_within w_134 rfl rfl ⟨Nat.le_of_ble_eq_true rfl, Nat.le_of_ble_eq_true rfl⟩) ⟨bP.blind, fun U hU hW => ⟨rfl, by rw [hU]; exact hP, kG.warm hW hG⟩⟩ rfl rfl hl.1 rfl (lv_room (Nat.le_of_ble_eq_true rfl)) dX10_chance_13 ⟨Nat.le_of_ble_eq_true rfl, Nat.le_of_ble_eq_true rfl⟩) (fun r hr9 => ?_)
    subst hr9
    refine my_ifeq (tgt := 39) hx hb dX10_chance_16 (by decide) (fun c_16 => ?_) (fun c_16 => ?_)
    · refine lv_bipush (v := (-2)) hx hb dX10_chance_39 (by decide) ?_
      refine W_q9 hQ9 ?_
      exact W.iret (v := (-2)) hx hb hr (fun _ hT9 _ => ⟨⟨_, f, rfl, (⟨cJ_mk (se) (hf) (imf) (mc) (op) (cm) (wu) (mk) (ab) (be) (mn) (le) (wt) (ww) (wb) (wf) (vv) (lf) (tf) (hx0) (hctc) (hhs) (him) (hkp) (hrd) (hmk) (hfc6) (hwt) (hw8) (hw9) (hw10) (hw11) (hvl) (hbk) (hpr) (hpd) (hfr) (hfd) (hor) (hod) (har) (had) (htr) (hct) (hla) (hlaa) (hts0) (htsa) (by omega) (hhf) (him0) (him1) (by omega) (by omega) (by omega) (by omega) (by omega) (by omega) (by omega) (hlf) (htf) (by omega) (hH) (hSp) (hL) (hT) (hB1) (hB2) (hQ), fun j hj => rfl⟩), by rw [hT9]; exact hP⟩, hS.F hT9⟩) hS.2.2 dX10_chance_41
    · refine lv_iload_n hx hb dX10_chance_19 rfl (lv_at hl 3 rfl) ?_
      refine lv_iconst (v := 0) hx hb dX10_chance_20 (by decide) ?_
      refine lv_iload_n hx hb dX10_chance_21 rfl (lv_at hl 1 rfl) ?_
      refine rd_calli (va_runS (As := [.int a3, .int 0, .int a1]) (rest := []) ⟨hx, hb, hml, hown, hts⟩ (s_within l G g hg f a3 0 a1  ) (my_cwS hts ok_X10_within w_134 rfl rfl ⟨Nat.le_of_ble_eq_true rfl, Nat.le_of_ble_eq_true rfl⟩) ⟨bP.blind, fun U hU hW => ⟨rfl, by rw [hU]; exact hP, kG.warm hW hG⟩⟩ rfl rfl hl.1 rfl (lv_room (Nat.le_of_ble_eq_true rfl)) dX10_chance_22 ⟨Nat.le_of_ble_eq_true rfl, Nat.le_of_ble_eq_true rfl⟩) (fun r hr9 => ?_)
      subst hr9
      refine my_ifeq (tgt := 39) hx hb dX10_chance_25 (by decide) (fun c_25 => ?_) (fun c_25 => ?_)
      · refine lv_bipush (v := (-2)) hx hb dX10_chance_39 (by decide) ?_
        refine W_q9 hQ9 ?_
        exact W.iret (v := (-2)) hx hb hr (fun _ hT9 _ => ⟨⟨_, f, rfl, (⟨cJ_mk (se) (hf) (imf) (mc) (op) (cm) (wu) (mk) (ab) (be) (mn) (le) (wt) (ww) (wb) (wf) (vv) (lf) (tf) (hx0) (hctc) (hhs) (him) (hkp) (hrd) (hmk) (hfc6) (hwt) (hw8) (hw9) (hw10) (hw11) (hvl) (hbk) (hpr) (hpd) (hfr) (hfd) (hor) (hod) (har) (had) (htr) (hct) (hla) (hlaa) (hts0) (htsa) (by omega) (hhf) (him0) (him1) (by omega) (by omega) (by omega) (by omega) (by omega) (by omega) (by omega) (hlf) (htf) (by omega) (hH) (hSp) (hL) (hT) (hB1) (hB2) (hQ), fun j hj => rfl⟩), by rw [hT9]; exact hP⟩, hS.F hT9⟩) hS.2.2 dX10_chance_41
      · refine lv_iload hx hb dX10_chance_28 (lv_at hl 4 rfl) ?_
        refine lv_iconst (v := 0) hx hb dX10_chance_30 (by decide) ?_
        refine lv_bipush (v := 40) hx hb dX10_chance_31 (by decide) ?_
        refine rd_calli (va_runS (As := [.int a4, .int 0, .int 40]) (rest := []) ⟨hx, hb, hml, hown, hts⟩ (s_within l G g hg f a4 0 40  ) (my_cwS hts ok_X10_within w_134 rfl rfl ⟨Nat.le_of_ble_eq_true rfl, Nat.le_of_ble_eq_true rfl⟩) ⟨bP.blind, fun U hU hW => ⟨rfl, by rw [hU]; exact hP, kG.warm hW hG⟩⟩ rfl rfl hl.1 rfl (lv_room (Nat.le_of_ble_eq_true rfl)) dX10_chance_33 ⟨Nat.le_of_ble_eq_true rfl, Nat.le_of_ble_eq_true rfl⟩) (fun r hr9 => ?_)
        subst hr9
        refine my_ifne (tgt := 42) hx hb dX10_chance_36 (by decide) (fun c_36 => ?_) (fun c_36 => ?_)
        · obtain ⟨n1, hn1, rfl⟩ := inB_n (b := 40) (by omega) c_7
          obtain ⟨n2, hn2, rfl⟩ := inB_n (b := n1) (by omega) c_16
          obtain ⟨n3, hn3, rfl⟩ := inB_n (b := n1) (by omega) c_25
          obtain ⟨n4, hn4, rfl⟩ := inB_n (b := 40) (by omega) c_36
          refine lv_lconst (v := 0) hx hb dX10_chance_42 (by decide) ?_
          refine lv_lstore (lv' := [(5, .long 0), (0, .ref (g 0)), (1, .int (nI n1)), (2, .int (nI n2)), (3, .int (nI n3)), (4, .int (nI n4))]) hx hb dX10_chance_43 hl (by decide) rfl (fun ls hl => ?_)
          refine lv_iload hx hb dX10_chance_45 (lv_at hl 5 rfl) ?_
          refine lv_istore (lv' := [(7, .int (nI n4)), (5, .long 0), (0, .ref (g 0)), (1, .int (nI n1)), (2, .int (nI n2)), (3, .int (nI n3)), (4, .int (nI n4))]) hx hb dX10_chance_47 hl (by decide) rfl (fun ls hl => ?_)
          have key1 : ∀ (n9_1 : Nat) (i : Nat) (u : Int64) (f_1 : Nat → va_E) (H : Heap) (locs : List Loc) (ls : Array Slot), (i ≤ 41) → (∀ i, i < 10 → okH G g f_1 (2 * i + 16)) → (okH G g f_1 13) → (∀ i, i < 20 → ltx G g f_1 (3 * i + 52) (LL i) (LG i) (i < na)) → (∀ i, i < 4 → txt G g f_1 (3 * i + 117) (TL i) (TG i)) → (bkD G g f_1 129 N1 E1 P1 L1 S1 W1 X1) → (bkD G g f_1 222 N2 E2 P2 L2 S2 W2 X2) → (∀ z, z < se → cHz G g f_1 np nf nr na dp df dr da ct LL LG z) → 41 - i < n9_1 → f_1 0 = eO 9 [.ref (g 1), .ref (g 36), .ref (g 2), .ref (g 3), .ref (g 4), .ref (g 6), .ref (g 7)] → f_1 1 = eO 1 [.ref (g 36), .ref (g 12), .ref (g 13), .ref (g 15), .int (nI se)] → f_1 12 = eA G 4 10 hf → f_1 2 = eA G 3 2 imf → f_1 3 = eZ G 2 kf → f_1 4 = eO 4 [.ref (g 5), .int (nI mc), .int op, .int cm, .int wu] → f_1 5 = eI G 50 mk → f_1 6 = eO 2 [.long ab, .long be] → f_1 7 = eO 8 [.ref (g 8), .ref (g 9), .ref (g 10), .ref (g 11), .int (nI mn), .int le] → f_1 8 = eI G 6 wt → f_1 9 = eI G 6 ww → f_1 10 = eI G 6 wb → f_1 11 = eI G 6 wf → f_1 15 = eJ G 50 vv → f_1 36 = eO 0 [.ref (g 37), .ref (g 39), .ref (g 41), .ref (g 43), .ref (g 45), .ref (g 47), .ref (g 112), .int pay, .int fine] → f_1 37 = eO 5 [.int (nI 30), .int (nI 4), .ref (g 38), .int (nI np)] → f_1 38 = eI G (30 * 4) dp → f_1 39 = eO 5 [.int (nI 40), .int (nI 3), .ref (g 40), .int (nI nf)] → f_1 40 = eI G (40 * 3) df → f_1 41 = eO 5 [.int (nI 4), .int (nI 3), .ref (g 42), .int (nI nr)] → f_1 42 = eI G (4 * 3) dr → f_1 43 = eO 5 [.int (nI 20), .int (nI 3), .ref (g 44), .int (nI na)] → f_1 44 = eI G (20 * 3) da → f_1 45 = eO 5 [.int (nI 10), .int (nI 70), .ref (g 46), .int (nI nt)] → f_1 46 = eI G (10 * 70) ct → f_1 47 = eO 6 [.ref (g 48), .ref (g 49)] → f_1 48 = eA G 5 20 lf → f_1 112 = eO 6 [.ref (g 113), .ref (g 114)] → f_1 113 = eA G 5 4 tf → (∀ j, (j < 333 ∨ 333 ≤ j) → f_1 j = f j) → va_P G.1 vwCl (wl g f_1) H → va_S (gA g) s.heap H locs → lv_has ls 8 [(0, .ref (g 0)), (1, .int (nI n1)), (2, .int (nI n2)), (3, .int (nI n3)), (5, .long u), (7, .int (nI i))] → W p l e (headSpec (wsT yX10_chance cX10_chance 8 (some .int)) ({ frames := 2, cells := 0, slots := 0, locals := 56 })).room s m ([.ref (g 0), .int (nI n1), .int (nI n2), .int (nI n3), .int (nI n4)] : List Value).toArray below meth c H locs 0 0 Q9 (F0 m 49 ls []) := by
            intro n9_1
            induction n9_1 with
            | zero => intro i u f_1 H locs ls hi hH hSp hL hT hB1 hB2 hQ hn9_1; exact absurd hn9_1 (Nat.not_lt_zero _)
            | succ n9_1 ih_1 =>
              intro i u f_1 H locs ls hi hH hSp hL hT hB1 hB2 hQ hn9_1 hx0 hctc hhs him hkp hrd hmk hfc6 hwt hw8 hw9 hw10 hw11 hvl hbk hpr hpd hfr hfd hor hod har had htr hct hla hlaa hts0 htsa o_1 hP hS hl
              refine lv_iload hx hb dX10_chance_49 (lv_at hl 5 rfl) ?_
              refine lv_iload_n hx hb dX10_chance_51 rfl (lv_at hl 3 rfl) ?_
              refine lv_icmp_gt (tgt := 83) hx hb dX10_chance_52 (by decide) (fun c_52 => ?_) (fun c_52 => ?_)
              · refine lv_aload_n hx hb dX10_chance_83 rfl (lv_at hl 0 rfl) ?_
                refine va_get (D := G.1) (ci := 9) (v := .ref (g 6)) (C := RX10) (T := TX10) (N := 7) hx hb hts inlX10 hown hG.1 hP 0 (wl_at (by decide) hx0) rfl 5 (by decide) (hts (.fieldLink RX10 41 "SwornLists" "fraction" "LSwornLists$Fraction;") w_28) (fun _ h9 => h9) rfl dX10_chance_84 ?_
                refine lv_lload hx hb dX10_chance_87 (lv_at hl 4 rfl) ?_
                refine lv_iload_n hx hb dX10_chance_89 rfl (lv_at hl 1 rfl) ?_
                refine lv_iload_n hx hb dX10_chance_90 rfl (lv_at hl 3 rfl) ?_
                refine rd_calll (va_runS (As := [.int (nI n1), .int (nI n3)]) (rest := [.long u, .ref (g 6)]) ⟨hx, hb, hml, hown, hts⟩ (s_ways l G g hg f_1 (nI n1) (nI n3)  (by rw [nI_toInt (by omega)]; omega)) (my_cwS hts ok_X10_ways w_761 rfl rfl ⟨Nat.le_of_ble_eq_true rfl, Nat.le_of_ble_eq_true rfl⟩) ⟨bP.blind, fun U hU hW => ⟨rfl, by rw [hU]; exact hP, kG.warm hW hG⟩⟩ rfl rfl hl.1 rfl (lv_room (Nat.le_of_ble_eq_true rfl)) dX10_chance_91 ⟨Nat.le_of_ble_eq_true rfl, Nat.le_of_ble_eq_true rfl⟩) (fun v2 _ => ?_)
                refine b_calli (va_runV (As := [.long u, .long v2]) (rest := []) ⟨hx, hb, hml, hown, hts⟩ (f_become l G g hg f_1 ab be u v2 hfc6 ) (my_cwV hts ok_X2_become w_764 rfl rfl ⟨Nat.le_of_ble_eq_true rfl, Nat.le_of_ble_eq_true rfl⟩) ⟨bP.blind, va_recv hG.1 hP (ci := 2) (q0 := 6) rfl (wl_at (by decide) hfc6), fun U hU hW => ⟨rfl, by rw [hU]; exact hP, kG.warm hW hG⟩⟩ rfl rfl hl.1 rfl (lv_room (Nat.le_of_ble_eq_true rfl)) dX10_chance_94 ⟨Nat.le_of_ble_eq_true rfl, Nat.le_of_ble_eq_true rfl⟩) hS (fun v3 f_2 H locs hq9 hP hS => ?_)
                obtain ⟨ab94, be95, hq_2_0, o_2⟩ := hq9
                have hfc6 : f_2 6 = eO 2 [.long ab94, .long be95] := hq_2_0
                refine W_q9 hQ9 ?_
                replace hx0 := ((o_2 0 (by first | decide | omega))).trans hx0
                replace hctc := ((o_2 1 (by first | decide | omega))).trans hctc
                replace hhs := ((o_2 12 (by first | decide | omega))).trans hhs
                replace him := ((o_2 2 (by first | decide | omega))).trans him
                replace hkp := ((o_2 3 (by first | decide | omega))).trans hkp
                replace hrd := ((o_2 4 (by first | decide | omega))).trans hrd
                replace hmk := ((o_2 5 (by first | decide | omega))).trans hmk
                replace hwt := ((o_2 7 (by first | decide | omega))).trans hwt
                replace hw8 := ((o_2 8 (by first | decide | omega))).trans hw8
                replace hw9 := ((o_2 9 (by first | decide | omega))).trans hw9
                replace hw10 := ((o_2 10 (by first | decide | omega))).trans hw10
                replace hw11 := ((o_2 11 (by first | decide | omega))).trans hw11
                replace hvl := ((o_2 15 (by first | decide | omega))).trans hvl
                replace hbk := ((o_2 36 (by first | decide | omega))).trans hbk
                replace hpr := ((o_2 37 (by first | decide | omega))).trans hpr
                replace hpd := ((o_2 38 (by first | decide | omega))).trans hpd
                replace hfr := ((o_2 39 (by first | decide | omega))).trans hfr
                replace hfd := ((o_2 40 (by first | decide | omega))).trans hfd
                replace hor := ((o_2 41 (by first | decide | omega))).trans hor
                replace hod := ((o_2 42 (by first | decide | omega))).trans hod
                replace har := ((o_2 43 (by first | decide | omega))).trans har
                replace had := ((o_2 44 (by first | decide | omega))).trans had
                replace htr := ((o_2 45 (by first | decide | omega))).trans htr
                replace hct := ((o_2 46 (by first | decide | omega))).trans hct
                replace hla := ((o_2 47 (by first | decide | omega))).trans hla
                replace hlaa := ((o_2 48 (by first | decide | omega))).trans hlaa
                replace hts0 := ((o_2 112 (by first | decide | omega))).trans hts0
                replace htsa := ((o_2 113 (by first | decide | omega))).trans htsa
                replace hH : ∀ i, i < 10 → okH G g f_2 (2 * i + 16) := fun z hz => okH_fr (hH z hz) (o_2 _ (by omega)) (o_2 _ (by omega))
                replace hSp : okH G g f_2 13 := okH_fr hSp (o_2 _ (by omega)) (o_2 _ (by omega))
                replace hL : ∀ i, i < 20 → ltx G g f_2 (3 * i + 52) (LL i) (LG i) (i < na) := fun z hz => ltx_fr (hL z hz) (o_2 _ (by omega)) (o_2 _ (by omega)) (o_2 _ (by omega))
                replace hT : ∀ i, i < 4 → txt G g f_2 (3 * i + 117) (TL i) (TG i) := fun z hz => txt_fr (hT z hz) (o_2 _ (by omega)) (o_2 _ (by omega)) (o_2 _ (by omega))
                replace hB1 : bkD G g f_2 129 N1 E1 P1 L1 S1 W1 X1 := bkD_fr hB1 (fun j _ _ => o_2 j (by omega))
                replace hB2 : bkD G g f_2 222 N2 E2 P2 L2 S2 W2 X2 := bkD_fr hB2 (fun j _ _ => o_2 j (by omega))
                replace hQ : ∀ z, z < se → cHz G g f_2 np nf nr na dp df dr da ct LL LG z := fun z hz => okQ_fr (hQ z hz) (o_2 _ (by omega)) (o_2 _ (by omega))
                exact W.iret (v := v3) hx hb hr (fun _ hT9 _ => ⟨⟨_, f_2, rfl, (⟨cJ_mk (se) (hf) (imf) (mc) (op) (cm) (wu) (mk) (ab94) (be95) (mn) (le) (wt) (ww) (wb) (wf) (vv) (lf) (tf) (hx0) (hctc) (hhs) (him) (hkp) (hrd) (hmk) (hfc6) (hwt) (hw8) (hw9) (hw10) (hw11) (hvl) (hbk) (hpr) (hpd) (hfr) (hfd) (hor) (hod) (har) (had) (htr) (hct) (hla) (hlaa) (hts0) (htsa) (by omega) (hhf) (him0) (him1) (by omega) (by omega) (by omega) (by omega) (by omega) (by omega) (by omega) (hlf) (htf) (by omega) (hH) (hSp) (hL) (hT) (hB1) (hB2) (hQ), fun j hj => ((o_2 j (by omega))).trans (o_1 j (by omega))⟩), by rw [hT9]; exact hP⟩, hS.F hT9⟩) hS.2.2 dX10_chance_97
              · have hi3 : i ≤ n3 := Nat.not_lt.mp (fun z => c_52 (nI_lt z (by omega)))
                refine lv_lload hx hb dX10_chance_55 (lv_at hl 4 rfl) ?_
                refine lv_iload_n hx hb dX10_chance_57 rfl (lv_at hl 2 rfl) ?_
                refine lv_iload hx hb dX10_chance_58 (lv_at hl 5 rfl) ?_
                refine rd_calll (va_runS (As := [.int (nI n2), .int (nI i)]) (rest := [.long u]) ⟨hx, hb, hml, hown, hts⟩ (s_ways l G g hg f_1 (nI n2) (nI i)  (by rw [nI_toInt (by omega)]; omega)) (my_cwS hts ok_X10_ways w_761 rfl rfl ⟨Nat.le_of_ble_eq_true rfl, Nat.le_of_ble_eq_true rfl⟩) ⟨bP.blind, fun U hU hW => ⟨rfl, by rw [hU]; exact hP, kG.warm hW hG⟩⟩ rfl rfl hl.1 rfl (lv_room (Nat.le_of_ble_eq_true rfl)) dX10_chance_60 ⟨Nat.le_of_ble_eq_true rfl, Nat.le_of_ble_eq_true rfl⟩) (fun v6 _ => ?_)
                refine lv_iload_n hx hb dX10_chance_63 rfl (lv_at hl 1 rfl) ?_
                refine lv_iload_n hx hb dX10_chance_64 rfl (lv_at hl 2 rfl) ?_
                refine lv_isub hx hb dX10_chance_65 ?_
                refine my_bei (v := nI (n1 - n2)) (pk_sub hn2) ?_
                refine lv_iload_n hx hb dX10_chance_66 rfl (lv_at hl 3 rfl) ?_
                refine lv_iload hx hb dX10_chance_67 (lv_at hl 5 rfl) ?_
                refine lv_isub hx hb dX10_chance_69 ?_
                refine my_bei (v := nI (n3 - i)) (pk_sub hi3) ?_
                refine rd_calll (va_runS (As := [.int (nI (n1 - n2)), .int (nI (n3 - i))]) (rest := [.long v6, .long u]) ⟨hx, hb, hml, hown, hts⟩ (s_ways l G g hg f_1 (nI (n1 - n2)) (nI (n3 - i))  (by rw [nI_toInt (by omega)]; omega)) (my_cwS hts ok_X10_ways w_761 rfl rfl ⟨Nat.le_of_ble_eq_true rfl, Nat.le_of_ble_eq_true rfl⟩) ⟨bP.blind, fun U hU hW => ⟨rfl, by rw [hU]; exact hP, kG.warm hW hG⟩⟩ rfl rfl hl.1 rfl (lv_room (Nat.le_of_ble_eq_true rfl)) dX10_chance_70 ⟨Nat.le_of_ble_eq_true rfl, Nat.le_of_ble_eq_true rfl⟩) (fun v7 _ => ?_)
                refine lv_lmul hx hb dX10_chance_73 ?_
                refine lv_ladd hx hb dX10_chance_74 ?_
                refine lv_lstore (lv' := [(5, .long (u + (v6 * v7))), (0, .ref (g 0)), (1, .int (nI n1)), (2, .int (nI n2)), (3, .int (nI n3)), (7, .int (nI i))]) hx hb dX10_chance_75 hl (by decide) rfl (fun ls hl => ?_)
                refine lv_iinc (v := nI (i + 1)) (lv' := [(7, .int (nI (i + 1))), (5, .long (u + (v6 * v7))), (0, .ref (g 0)), (1, .int (nI n1)), (2, .int (nI n2)), (3, .int (nI n3))]) hx hb dX10_chance_77 hl (k := 5) rfl (nI_1 i) (by decide) rfl (fun ls hl => ?_)
                refine lv_goto (tgt := 49) hx hb dX10_chance_80 (by decide) ?_
                exact ih_1 (i + 1) (u + (v6 * v7)) f_1 _ _ _ (by omega) (hH) (hSp) (hL) (hT) (hB1) (hB2) (hQ) (by omega) (hx0) (hctc) (hhs) (him) (hkp) (hrd) (hmk) (hfc6) (hwt) (hw8) (hw9) (hw10) (hw11) (hvl) (hbk) (hpr) (hpd) (hfr) (hfd) (hor) (hod) (har) (had) (htr) (hct) (hla) (hlaa) (hts0) (htsa) (fun j hj => (o_1 j (by omega))) hP hS (lv_sub hl [2, 3, 4, 5, 1, 0] rfl)
          exact key1 (41 + 1) n4 0 f _ _ _ (by omega) (hH) (hSp) (hL) (hT) (hB1) (hB2) (hQ) (by omega) (hx0) (hctc) (hhs) (him) (hkp) (hrd) (hmk) (hfc6) (hwt) (hw8) (hw9) (hw10) (hw11) (hvl) (hbk) (hpr) (hpd) (hfr) (hfd) (hor) (hod) (har) (had) (htr) (hct) (hla) (hlaa) (hts0) (htsa) (fun j _ => rfl) hP hS (lv_sub hl [2, 3, 4, 5, 1, 0] rfl)
        · refine lv_bipush (v := (-2)) hx hb dX10_chance_39 (by decide) ?_
          refine W_q9 hQ9 ?_
          exact W.iret (v := (-2)) hx hb hr (fun _ hT9 _ => ⟨⟨_, f, rfl, (⟨cJ_mk (se) (hf) (imf) (mc) (op) (cm) (wu) (mk) (ab) (be) (mn) (le) (wt) (ww) (wb) (wf) (vv) (lf) (tf) (hx0) (hctc) (hhs) (him) (hkp) (hrd) (hmk) (hfc6) (hwt) (hw8) (hw9) (hw10) (hw11) (hvl) (hbk) (hpr) (hpd) (hfr) (hfd) (hor) (hod) (har) (had) (htr) (hct) (hla) (hlaa) (hts0) (htsa) (by omega) (hhf) (him0) (him1) (by omega) (by omega) (by omega) (by omega) (by omega) (by omega) (by omega) (hlf) (htf) (by omega) (hH) (hSp) (hL) (hT) (hB1) (hB2) (hQ), fun j hj => rfl⟩), by rw [hT9]; exact hP⟩, hS.F hT9⟩) hS.2.2 dX10_chance_41
theorem j_chance (l : Launch) (G : gW) (g : Nat → Nat) (hg : gOK g) (f : Nat → va_E) (np : Nat) (dp : Nat → Int32) (nf : Nat) (df : Nat → Int32) (nr : Nat) (dr : Nat → Int32) (nt : Nat) (ct : Nat → Int32) (pay : Int32) (fine : Int32) (kf : Nat → Int32) (na : Nat) (da : Nat → Int32) (TL : Nat → Nat) (TG : Nat → Nat → Int32) (LL : Nat → Nat) (LG : Nat → Nat → Int32) (N1 : Nat → Nat) (E1 : Nat → Nat → Int32) (P1 : Nat → Int32) (L1 : Nat → Nat) (S1 : Nat → Nat → Int32) (W1 : Nat → Nat) (X1 : Nat → Nat → Int32) (N2 : Nat → Nat) (E2 : Nat → Nat → Int32) (P2 : Nat → Int32) (L2 : Nat → Nat) (S2 : Nat → Nat → Int32) (W2 : Nat → Nat) (X2 : Nat → Nat → Int32) (a1 : Int32) (a2 : Int32) (a3 : Int32) (a4 : Int32) (hI : cJ G g f np dp nf df nr dr nt ct pay fine kf na da TL TG LL LG N1 E1 P1 L1 S1 W1 X1 N2 E2 P2 L2 S2 W2 X2) (hTr : trC ct nt) : Met l yX10_chance (wsT yX10_chance cX10_chance 8 (some .int)) ({ frames := 2, cells := 0, slots := 0, locals := 56 }) (bP G g f [.ref (g 0), .int a1, .int a2, .int a3, .int a4]) (bQi G g (fun (z9 : Int32) (f' : Nat → va_E) => (cJ G g f' np dp nf df nr dr nt ct pay fine kf na da TL TG LL LG N1 E1 P1 L1 S1 W1 X1 N2 E2 P2 L2 S2 W2 X2) ∧ ∀ j, 315 ≤ j → f' j = f j)) 0 0 (gA g) := cJ_elim hI (fun se hf imf mc op cm wu mk ab be mn le wt ww wb wf vv lf tf hx0 hctc hhs him hkp hrd hmk hfc6 hwt hw8 hw9 hw10 hw11 hvl hbk hpr hpd hfr hfd hor hod har had htr hct hla hlaa hts0 htsa hse hhf him0 him1 hmc hmn hnp hnf hnr hna hnt hlf htf hsn hH hSp hL hT hB1 hB2 hQ => jn_chance l G g hg f se hf imf kf mc op cm wu mk ab be mn le wt ww wb wf vv pay fine np dp nf df nr dr na da nt ct lf tf TL TG LL LG N1 E1 P1 L1 S1 W1 X1 N2 E2 P2 L2 S2 W2 X2 a1 a2 a3 a4 hx0 hctc hhs him hkp hrd hmk hfc6 hwt hw8 hw9 hw10 hw11 hvl hbk hpr hpd hfr hfd hor hod har had htr hct hla hlaa hts0 htsa hse hhf him0 him1 hmc hmn hnp hnf hnr hna hnt hlf htf hsn hTr hH hSp hL hT hB1 hB2 hQ)
set_option maxHeartbeats 4000000 in
set_option maxRecDepth 100000 in
theorem jn_twelve (l : Launch) (G : gW) (g : Nat → Nat) (hg : gOK g) (f : Nat → va_E) (se : Nat) (hf : Nat → Option Nat) (imf : Nat → Option Nat) (kf : Nat → Int32) (mc : Nat) (op : Int32) (cm : Int32) (wu : Int32) (mk : Nat → Int32) (ab : Int64) (be : Int64) (mn : Nat) (le : Int32) (wt : Nat → Int32) (ww : Nat → Int32) (wb : Nat → Int32) (wf : Nat → Int32) (vv : Nat → Int64) (pay : Int32) (fine : Int32) (np : Nat) (dp : Nat → Int32) (nf : Nat) (df : Nat → Int32) (nr : Nat) (dr : Nat → Int32) (na : Nat) (da : Nat → Int32) (nt : Nat) (ct : Nat → Int32) (lf : Nat → Option Nat) (tf : Nat → Option Nat) (TL : Nat → Nat) (TG : Nat → Nat → Int32) (LL : Nat → Nat) (LG : Nat → Nat → Int32) (N1 : Nat → Nat) (E1 : Nat → Nat → Int32) (P1 : Nat → Int32) (L1 : Nat → Nat) (S1 : Nat → Nat → Int32) (W1 : Nat → Nat) (X1 : Nat → Nat → Int32) (N2 : Nat → Nat) (E2 : Nat → Nat → Int32) (P2 : Nat → Int32) (L2 : Nat → Nat) (S2 : Nat → Nat → Int32) (W2 : Nat → Nat) (X2 : Nat → Nat → Int32) (a1 : Int32) (a2 : Int32) (hx0 : f 0 = eO 9 [.ref (g 1), .ref (g 36), .ref (g 2), .ref (g 3), .ref (g 4), .ref (g 6), .ref (g 7)]) (hctc : f 1 = eO 1 [.ref (g 36), .ref (g 12), .ref (g 13), .ref (g 15), .int (nI se)]) (hhs : f 12 = eA G 4 10 hf) (him : f 2 = eA G 3 2 imf) (hkp : f 3 = eZ G 2 kf) (hrd : f 4 = eO 4 [.ref (g 5), .int (nI mc), .int op, .int cm, .int wu]) (hmk : f 5 = eI G 50 mk) (hfc6 : f 6 = eO 2 [.long ab, .long be]) (hwt : f 7 = eO 8 [.ref (g 8), .ref (g 9), .ref (g 10), .ref (g 11), .int (nI mn), .int le]) (hw8 : f 8 = eI G 6 wt) (hw9 : f 9 = eI G 6 ww) (hw10 : f 10 = eI G 6 wb) (hw11 : f 11 = eI G 6 wf) (hvl : f 15 = eJ G 50 vv) (hbk : f 36 = eO 0 [.ref (g 37), .ref (g 39), .ref (g 41), .ref (g 43), .ref (g 45), .ref (g 47), .ref (g 112), .int pay, .int fine]) (hpr : f 37 = eO 5 [.int (nI 30), .int (nI 4), .ref (g 38), .int (nI np)]) (hpd : f 38 = eI G (30 * 4) dp) (hfr : f 39 = eO 5 [.int (nI 40), .int (nI 3), .ref (g 40), .int (nI nf)]) (hfd : f 40 = eI G (40 * 3) df) (hor : f 41 = eO 5 [.int (nI 4), .int (nI 3), .ref (g 42), .int (nI nr)]) (hod : f 42 = eI G (4 * 3) dr) (har : f 43 = eO 5 [.int (nI 20), .int (nI 3), .ref (g 44), .int (nI na)]) (had : f 44 = eI G (20 * 3) da) (htr : f 45 = eO 5 [.int (nI 10), .int (nI 70), .ref (g 46), .int (nI nt)]) (hct : f 46 = eI G (10 * 70) ct) (hla : f 47 = eO 6 [.ref (g 48), .ref (g 49)]) (hlaa : f 48 = eA G 5 20 lf) (hts0 : f 112 = eO 6 [.ref (g 113), .ref (g 114)]) (htsa : f 113 = eA G 5 4 tf) (hse : se ≤ 10) (hhf : ∀ i, i < 10 → hf i = some (g (2 * i + 16))) (him0 : imf 0 = some (g 129)) (him1 : imf 1 = some (g 222)) (hmc : mc ≤ 50) (hmn : mn ≤ 6) (hnp : np ≤ 30) (hnf : nf ≤ 40) (hnr : nr ≤ 4) (hna : na ≤ 20) (hnt : nt ≤ 10) (hlf : ∀ z, z < 20 → lf z = some (g (47 + 3 * z + 5))) (htf : ∀ z, z < 4 → tf z = some (g (112 + 3 * z + 5))) (hsn : se ≤ nt) (hTr : trC ct nt) (hH : ∀ i, i < 10 → okH G g f (2 * i + 16)) (hSp : okH G g f 13) (hL : ∀ i, i < 20 → ltx G g f (3 * i + 52) (LL i) (LG i) (i < na)) (hT : ∀ i, i < 4 → txt G g f (3 * i + 117) (TL i) (TG i)) (hB1 : bkD G g f 129 N1 E1 P1 L1 S1 W1 X1) (hB2 : bkD G g f 222 N2 E2 P2 L2 S2 W2 X2) (hQ : ∀ z, z < se → cHz G g f np nf nr na dp df dr da ct LL LG z) : Met l yX10_twelve (wsT yX10_twelve cX10_twelve 9 (some .int)) ({ frames := 7, cells := 0, slots := 0, locals := 176 }) (bP G g f [.ref (g 0), .int a1, .int a2]) (bQi G g (fun (z9 : Int32) (f' : Nat → va_E) => (cJ G g f' np dp nf df nr dr nt ct pay fine kf na da TL TG LL LG N1 E1 P1 L1 S1 W1 X1 N2 E2 P2 L2 S2 W2 X2) ∧ ((¬ (inN a1 nt = true ∧ inB 0 a2 1 = true) ∧ z9 = -2) ∨ (∃ x k, x < nt ∧ a1 = nI x ∧ k ≤ 1 ∧ a2 = nI k ∧ z9 = twA (fun i c => dp (4 * i + c)) np (if k = 0 then cBx np nf nr na dp df dr da ct LL LG x else tvP np (nvF (fun i c => dp (4 * i + c)) (fun t c => ct (70 * t + c)) (cJr np nf nr na dp df dr da ct LL LG) (ct (70 * x + 0)) nt) ((fcB (fun i c => da (3 * i + c)) 0 (ct (70 * x + 0)) na).map (fun z => rdO (LL z) (LG z)))) (ct (70 * x + 2)))) ∧ ∀ j, 315 ≤ j → f' j = f j)) 0 0 (gA g) := by
  refine Met.ofW (cc := cX10_twelve) (maxL := 9) (ret := (some .int)) (by decide) rfl ?_
  intro p e s m args below meth c s₁ B hml hv
  obtain ⟨rfl, hP, hG⟩ := hv
  have hx := B.exec
  have hb := B.bytes
  have hr := B.returns
  have hts := my_hts (atoms_spec (ws := wsT yX10_twelve cX10_twelve 9 (some .int)) B.pre)
  have hown : s.vm.findClass RX10 = some m.cls := findClass_of_methodNamed B.named
  have hlocks := B.notSynchronized
  have hS : va_S (gA g) s.heap s.heap [] := va_S.rf
  have hl := lv_entry ([.ref (g 0), .int a1, .int a2]) (n := 9) (Nat.le_of_ble_eq_true rfl)
  rw [lg_entry_eq]
  generalize (lg_sl ([.ref (g 0), .int a1, .int a2]) ++ List.replicate (9 - (lg_sl ([.ref (g 0), .int a1, .int a2])).length) Slot.unset).toArray = ls at hl ⊢
  have hl : lv_has ls 9 [(0, .ref (g 0)), (1, .int a1), (2, .int a2)] := hl
  refine W_q8 (fun Q9 hQ9 => ?_)
  refine lv_aload_n hx hb dX10_twelve_0 rfl (lv_at hl 0 rfl) ?_
  refine va_get (D := G.1) (ci := 9) (v := .ref (g 36)) (C := RX10) (T := TX10) (N := 7) hx hb hts inlX10 hown hG.1 hP 0 (wl_at (by decide) hx0) rfl 1 (by decide) (hts (.fieldLink RX10 20 "SwornLists" "book" "LSwornLists$Book;") w_16) (fun _ h9 => h9) rfl dX10_twelve_1 ?_
  refine va_getN (D := G.1) (ci := 0) (v := .ref (g 45)) (C := RX0) (T := TX0) (N := 9) (host := RX10) hx hb hts inlX0 hown hG.1 hP 36 (wl_at (by decide) hbk) rfl 4 (by decide) (va_Nw.use rfl (hG.2.1 (.fieldLinkNest RX10 162 RX0 "trials" "LSwornLists$Rows;" RX10) (List.mem_of_getElem? (i := 7) rfl))) (fun _ h9 => h9) rfl dX10_twelve_4 ?_
  refine lv_iload_n hx hb dX10_twelve_7 rfl (lv_at hl 1 rfl) ?_
  refine rd_calli (va_runV (As := [.int a1]) (rest := []) ⟨hx, hb, hml, hown, hts⟩ (r_has l G g hg f 45 10 70 nt a1 htr (by first | assumption | omega | decide) (by first | assumption | omega | decide) (by first | assumption | omega | decide) (by first | assumption | omega | decide)) (my_cwV hts ok_X5_has w_174 rfl rfl ⟨Nat.le_of_ble_eq_true rfl, Nat.le_of_ble_eq_true rfl⟩) ⟨bP.blind, va_recv hG.1 hP (ci := 5) (q0 := 45) rfl (wl_at (by decide) htr), fun U hU hW => ⟨rfl, by rw [hU]; exact hP, kG.warm hW hG⟩⟩ rfl rfl hl.1 rfl (lv_room (Nat.le_of_ble_eq_true rfl)) dX10_twelve_8 ⟨Nat.le_of_ble_eq_true rfl, Nat.le_of_ble_eq_true rfl⟩) (fun r hr9 => ?_)
  subst hr9
  refine my_ifeq (tgt := 23) hx hb dX10_twelve_11 (by decide) (fun c_11 => ?_) (fun c_11 => ?_)
  · refine lv_bipush (v := (-2)) hx hb dX10_twelve_23 (by decide) ?_
    refine W_q9 hQ9 ?_
    exact W.iret (v := (-2)) hx hb hr (fun _ hT9 _ => ⟨⟨_, f, rfl, (⟨cJ_mk (se) (hf) (imf) (mc) (op) (cm) (wu) (mk) (ab) (be) (mn) (le) (wt) (ww) (wb) (wf) (vv) (lf) (tf) (hx0) (hctc) (hhs) (him) (hkp) (hrd) (hmk) (hfc6) (hwt) (hw8) (hw9) (hw10) (hw11) (hvl) (hbk) (hpr) (hpd) (hfr) (hfd) (hor) (hod) (har) (had) (htr) (hct) (hla) (hlaa) (hts0) (htsa) (by omega) (hhf) (him0) (him1) (by omega) (by omega) (by omega) (by omega) (by omega) (by omega) (by omega) (hlf) (htf) (by omega) (hH) (hSp) (hL) (hT) (hB1) (hB2) (hQ), (Or.inl ⟨fun z => c_11 z.1, rfl⟩), fun j hj => rfl⟩), by rw [hT9]; exact hP⟩, hS.F hT9⟩) hS.2.2 dX10_twelve_25
  · refine lv_iload_n hx hb dX10_twelve_14 rfl (lv_at hl 2 rfl) ?_
    refine lv_iconst (v := 0) hx hb dX10_twelve_15 (by decide) ?_
    refine lv_iconst (v := 1) hx hb dX10_twelve_16 (by decide) ?_
    refine rd_calli (va_runS (As := [.int a2, .int 0, .int 1]) (rest := []) ⟨hx, hb, hml, hown, hts⟩ (s_within l G g hg f a2 0 1  ) (my_cwS hts ok_X10_within w_134 rfl rfl ⟨Nat.le_of_ble_eq_true rfl, Nat.le_of_ble_eq_true rfl⟩) ⟨bP.blind, fun U hU hW => ⟨rfl, by rw [hU]; exact hP, kG.warm hW hG⟩⟩ rfl rfl hl.1 rfl (lv_room (Nat.le_of_ble_eq_true rfl)) dX10_twelve_17 ⟨Nat.le_of_ble_eq_true rfl, Nat.le_of_ble_eq_true rfl⟩) (fun r hr9 => ?_)
    subst hr9
    refine my_ifne (tgt := 26) hx hb dX10_twelve_20 (by decide) (fun c_20 => ?_) (fun c_20 => ?_)
    · rcases inB_01.mp c_20 with e9 | e9
      · subst e9
        obtain ⟨tn, htn, rfl⟩ := inN_nat (by omega) c_11
        refine lv_aload_n hx hb dX10_twelve_26 rfl (lv_at hl 0 rfl) ?_
        refine va_get (D := G.1) (ci := 9) (v := .ref (g 1)) (C := RX10) (T := TX10) (N := 7) hx hb hts inlX10 hown hG.1 hP 0 (wl_at (by decide) hx0) rfl 0 (by decide) (hts (.fieldLink RX10 12 "SwornLists" "court" "LSwornLists$Court;") w_15) (fun _ h9 => h9) rfl dX10_twelve_27 ?_
        refine b_callv (va_runV (As := []) (rest := []) ⟨hx, hb, hml, hown, hts⟩ (u_settleE l G g hg f se hf pay fine nt ct np dp nf df nr dr na da lf vv LL LG hctc hhs hbk htr hct hpr hpd hfr hfd hor hod har had hla hlaa hvl (by first | assumption | omega | decide) (by first | assumption | omega | decide) (by first | assumption | omega | decide) (by first | assumption | omega | decide) (by first | assumption | omega | decide) (by first | assumption | omega | decide) (by first | assumption | omega | decide) (by first | assumption | omega | decide) (hTr.1) (hTr.2.1) (hTr.2.2.1) (by first | assumption | omega | decide) (hQ) (by first | assumption | omega | decide) (hL)) (my_cwV hts ok_X1_settle w_384 rfl rfl ⟨Nat.le_of_ble_eq_true rfl, Nat.le_of_ble_eq_true rfl⟩) ⟨bP.blind, va_recv hG.1 hP (ci := 1) (q0 := 1) rfl (wl_at (by decide) hctc), fun U hU hW => ⟨rfl, by rw [hU]; exact hP, kG.warm hW hG⟩⟩ rfl rfl hl.1 rfl (lv_room (Nat.le_of_ble_eq_true rfl)) dX10_twelve_30 ⟨Nat.le_of_ble_eq_true rfl, Nat.le_of_ble_eq_true rfl⟩) hS (fun f_1 H locs hq9 hP hS => ?_)
        obtain ⟨vv91, hq_1_0, hq_1_1, hx_1_0, hx_1_1, o_1⟩ := hq9
        have hctc : f_1 1 = eO 1 [.ref (g 36), .ref (g 12), .ref (g 13), .ref (g 15), .int (nI nt)] := hq_1_0
        have hvl : f_1 15 = eJ G 50 vv91 := hq_1_1
        have hH : ∀ i, i < 10 → okH G g f_1 (2 * i + 16) := hx_1_0
        have hQn : ∀ z, z < nt → cHz G g f_1 np nf nr na dp df dr da ct LL LG z := hx_1_1
        obtain ⟨od7, hh7, ho7, hd7⟩ := id (hQn tn (by omega))
        have hm7 : hM (cBx np nf nr na dp df dr da ct LL LG tn) (fun c => ct (70 * tn + c)) ≤ 24 := by
          have h9 := hTr.2.2.1 tn (by omega)
          exact Nat.le_trans (Nat.min_le_left _ _) h9
        refine lv_aload_n hx hb dX10_twelve_33 rfl (lv_at hl 0 rfl) ?_
        replace hx0 := ((o_1 0 (by first | decide | omega))).trans hx0
        refine va_get (D := G.1) (ci := 9) (v := .ref (g 36)) (C := RX10) (T := TX10) (N := 7) hx hb hts inlX10 hown hG.1 hP 0 (wl_at (by decide) hx0) rfl 1 (by decide) (hts (.fieldLink RX10 20 "SwornLists" "book" "LSwornLists$Book;") w_16) (fun _ h9 => h9) rfl dX10_twelve_34 ?_
        replace hbk := ((o_1 36 (by first | decide | omega))).trans hbk
        refine va_getN (D := G.1) (ci := 0) (v := .ref (g 45)) (C := RX0) (T := TX0) (N := 9) (host := RX10) hx hb hts inlX0 hown hG.1 hP 36 (wl_at (by decide) hbk) rfl 4 (by decide) (va_Nw.use rfl (hG.2.1 (.fieldLinkNest RX10 162 RX0 "trials" "LSwornLists$Rows;" RX10) (List.mem_of_getElem? (i := 7) rfl))) (fun _ h9 => h9) rfl dX10_twelve_37 ?_
        refine lv_iload_n hx hb dX10_twelve_40 rfl (lv_at hl 1 rfl) ?_
        refine lv_iconst (v := 0) hx hb dX10_twelve_41 (by decide) ?_
        replace htr := ((o_1 45 (by first | decide | omega))).trans htr
        replace hct := ((o_1 46 (by first | decide | omega))).trans hct
        refine rd_calli (va_runV (As := [.int (nI tn), .int 0]) (rest := []) ⟨hx, hb, hml, hown, hts⟩ (r_at l G g hg f_1 45 10 70 nt ct (nI tn) 0 htr hct (by first | assumption | omega | decide) (by first | assumption | omega | decide) (by first | assumption | omega | decide) (by first | assumption | omega | decide)) (my_cwV hts ok_X5_at w_610 rfl rfl ⟨Nat.le_of_ble_eq_true rfl, Nat.le_of_ble_eq_true rfl⟩) ⟨bP.blind, va_recv hG.1 hP (ci := 5) (q0 := 45) rfl (wl_at (by decide) htr), fun U hU hW => ⟨rfl, by rw [hU]; exact hP, kG.warm hW hG⟩⟩ rfl rfl hl.1 rfl (lv_room (Nat.le_of_ble_eq_true rfl)) dX10_twelve_42 ⟨Nat.le_of_ble_eq_true rfl, Nat.le_of_ble_eq_true rfl⟩) (fun r hr9 => ?_)
        subst hr9
        refine my_bei (v := ct (70 * tn + 0)) (atQ (d := ct) (w := 70) (i := tn) (c := 0) htn (by omega) (by omega) (by omega)) ?_
        refine lv_istore_n (lv' := [(3, .int (ct (70 * tn + 0))), (0, .ref (g 0)), (1, .int (nI tn)), (2, .int 0)]) hx hb dX10_twelve_45 rfl hl (by decide) rfl (fun ls hl => ?_)
        refine lv_aload_n hx hb dX10_twelve_46 rfl (lv_at hl 1 rfl) ?_
        refine va_get (D := G.1) (ci := 9) (v := .ref (g 36)) (C := RX10) (T := TX10) (N := 7) hx hb hts inlX10 hown hG.1 hP 0 (wl_at (by decide) hx0) rfl 1 (by decide) (hts (.fieldLink RX10 20 "SwornLists" "book" "LSwornLists$Book;") w_16) (fun _ h9 => h9) rfl dX10_twelve_47 ?_
        refine va_getN (D := G.1) (ci := 0) (v := .ref (g 45)) (C := RX0) (T := TX0) (N := 9) (host := RX10) hx hb hts inlX0 hown hG.1 hP 36 (wl_at (by decide) hbk) rfl 4 (by decide) (va_Nw.use rfl (hG.2.1 (.fieldLinkNest RX10 162 RX0 "trials" "LSwornLists$Rows;" RX10) (List.mem_of_getElem? (i := 7) rfl))) (fun _ h9 => h9) rfl dX10_twelve_50 ?_
        refine lv_iload_n hx hb dX10_twelve_53 rfl (lv_at hl 2 rfl) ?_
        refine lv_iconst (v := 2) hx hb dX10_twelve_54 (by decide) ?_
        obtain ⟨q8, q6, ks, hq8, hq88, hq6, hq64, hq2, hks⟩ := hTr.1 tn htn
        refine rd_calli (va_runV (As := [.int (nI tn), .int 2]) (rest := []) ⟨hx, hb, hml, hown, hts⟩ (r_at l G g hg f_1 45 10 70 nt ct (nI tn) 2 htr hct (by first | assumption | omega | decide) (by first | assumption | omega | decide) (by first | assumption | omega | decide) (by first | assumption | omega | decide)) (my_cwV hts ok_X5_at w_610 rfl rfl ⟨Nat.le_of_ble_eq_true rfl, Nat.le_of_ble_eq_true rfl⟩) ⟨bP.blind, va_recv hG.1 hP (ci := 5) (q0 := 45) rfl (wl_at (by decide) htr), fun U hU hW => ⟨rfl, by rw [hU]; exact hP, kG.warm hW hG⟩⟩ rfl rfl hl.1 rfl (lv_room (Nat.le_of_ble_eq_true rfl)) dX10_twelve_55 ⟨Nat.le_of_ble_eq_true rfl, Nat.le_of_ble_eq_true rfl⟩) (fun r hr9 => ?_)
        subst hr9
        refine my_bei (v := nI ks) ((atQ (d := ct) (w := 70) (i := tn) (c := 2) htn (by omega) (by omega) (by omega)).trans hq2) ?_
        refine lv_istore (lv' := [(4, .int (nI ks)), (3, .int (ct (70 * tn + 0))), (0, .ref (g 0)), (1, .int (nI tn)), (2, .int 0)]) hx hb dX10_twelve_58 hl (by decide) rfl (fun ls hl => ?_)
        refine lv_iload_n hx hb dX10_twelve_60 rfl (lv_at hl 4 rfl) ?_
        refine lv_if_ne (tgt := 78) hx hb dX10_twelve_61 (by decide) (fun c_61 => absurd (by decide) c_61) (fun c_61 => ?_)
        refine lv_aload_n hx hb dX10_twelve_64 rfl (lv_at hl 2 rfl) ?_
        refine va_get (D := G.1) (ci := 9) (v := .ref (g 1)) (C := RX10) (T := TX10) (N := 7) hx hb hts inlX10 hown hG.1 hP 0 (wl_at (by decide) hx0) rfl 0 (by decide) (hts (.fieldLink RX10 12 "SwornLists" "court" "LSwornLists$Court;") w_15) (fun _ h9 => h9) rfl dX10_twelve_65 ?_
        refine lv_iload_n hx hb dX10_twelve_68 rfl (lv_at hl 3 rfl) ?_
        replace hhs := ((o_1 12 (by first | decide | omega))).trans hhs
        refine rd_calla (va_runV (As := [.int (nI tn)]) (rest := []) ⟨hx, hb, hml, hown, hts⟩ (u_hearing l G g hg f_1 nt hf tn hctc hhs (by first | assumption | omega | decide) (by first | assumption | omega | decide) (by first | assumption | omega | decide)) (my_cwV hts ok_X1_hearing w_675 rfl rfl ⟨Nat.le_of_ble_eq_true rfl, Nat.le_of_ble_eq_true rfl⟩) ⟨bP.blind, va_recv hG.1 hP (ci := 1) (q0 := 1) rfl (wl_at (by decide) hctc), fun U hU hW => ⟨rfl, by rw [hU]; exact hP, kG.warm hW hG⟩⟩ rfl rfl hl.1 rfl (lv_room (Nat.le_of_ble_eq_true rfl)) dX10_twelve_69 ⟨Nat.le_of_ble_eq_true rfl, Nat.le_of_ble_eq_true rfl⟩) (fun r hr9 => ?_)
        subst hr9
        obtain ⟨pl, hpl⟩ : ∃ x9, (cBx np nf nr na dp df dr da ct LL LG tn) = x9 := ⟨_, rfl⟩
        have hpb : ∀ k, 30 ≤ k → bt pl k = false := by rw [← hpl]; exact cBx_hi hnp
        refine va_getN (D := G.1) (ci := 3) (v := .int (cBx np nf nr na dp df dr da ct LL LG tn)) (C := RX3) (T := TX3) (N := 9) (host := RX10) hx hb hts inlX3 hown hG.1 hP (2 * tn + 16) (wl_at (by omega) hh7) rfl 3 (by decide) (va_Nw.use rfl (hG.2.1 (.fieldLinkNest RX10 176 RX3 "inBox" "I" RX10) (List.mem_of_getElem? (i := 13) rfl))) (fun _ h9 => h9) rfl dX10_twelve_72 ?_
        refine my_bei (v := pl) (hpl) ?_
        refine lv_goto (tgt := 103) hx hb dX10_twelve_75 (by decide) ?_
        refine lv_istore (lv' := [(5, .int pl), (4, .int (nI ks)), (3, .int (ct (70 * tn + 0))), (0, .ref (g 0)), (1, .int (nI tn)), (2, .int 0)]) hx hb dX10_twelve_103 hl (by decide) rfl (fun ls hl => ?_)
        refine lv_lconst (v := 0) hx hb dX10_twelve_105 (by decide) ?_
        refine my_bel (v := lN 0) (rfl) ?_
        refine lv_lstore (lv' := [(6, .long (lN 0)), (5, .int pl), (4, .int (nI ks)), (3, .int (ct (70 * tn + 0))), (0, .ref (g 0)), (1, .int (nI tn)), (2, .int 0)]) hx hb dX10_twelve_106 hl (by decide) rfl (fun ls hl => ?_)
        refine lv_iconst (v := 0) hx hb dX10_twelve_108 (by decide) ?_
        refine lv_istore (lv' := [(8, .int 0), (6, .long (lN 0)), (5, .int pl), (4, .int (nI ks)), (3, .int (ct (70 * tn + 0))), (0, .ref (g 0)), (1, .int (nI tn)), (2, .int 0)]) hx hb dX10_twelve_109 hl (by decide) rfl (fun ls hl => ?_)
        replace hSp : okH G g f_1 13 := okH_fr hSp (o_1 _ (by omega)) (o_1 _ (by omega))
        replace hL : ∀ i, i < 20 → ltx G g f_1 (3 * i + 52) (LL i) (LG i) (i < na) := fun z hz => ltx_fr (hL z hz) (o_1 _ (by omega)) (o_1 _ (by omega)) (o_1 _ (by omega))
        replace hT : ∀ i, i < 4 → txt G g f_1 (3 * i + 117) (TL i) (TG i) := fun z hz => txt_fr (hT z hz) (o_1 _ (by omega)) (o_1 _ (by omega)) (o_1 _ (by omega))
        replace hB1 : bkD G g f_1 129 N1 E1 P1 L1 S1 W1 X1 := bkD_fr hB1 (fun j _ _ => o_1 j (by omega))
        replace hB2 : bkD G g f_1 222 N2 E2 P2 L2 S2 W2 X2 := bkD_fr hB2 (fun j _ _ => o_1 j (by omega))
        replace him := ((o_1 2 (by first | decide | omega))).trans him
        replace hkp := ((o_1 3 (by first | decide | omega))).trans hkp
        replace hrd := ((o_1 4 (by first | decide | omega))).trans hrd
        replace hmk := ((o_1 5 (by first | decide | omega))).trans hmk
        replace hfc6 := ((o_1 6 (by first | decide | omega))).trans hfc6
        replace hwt := ((o_1 7 (by first | decide | omega))).trans hwt
        replace hw8 := ((o_1 8 (by first | decide | omega))).trans hw8
        replace hw9 := ((o_1 9 (by first | decide | omega))).trans hw9
        replace hw10 := ((o_1 10 (by first | decide | omega))).trans hw10
        replace hw11 := ((o_1 11 (by first | decide | omega))).trans hw11
        replace hpr := ((o_1 37 (by first | decide | omega))).trans hpr
        replace hpd := ((o_1 38 (by first | decide | omega))).trans hpd
        replace hfr := ((o_1 39 (by first | decide | omega))).trans hfr
        replace hfd := ((o_1 40 (by first | decide | omega))).trans hfd
        replace hor := ((o_1 41 (by first | decide | omega))).trans hor
        replace hod := ((o_1 42 (by first | decide | omega))).trans hod
        replace har := ((o_1 43 (by first | decide | omega))).trans har
        replace had := ((o_1 44 (by first | decide | omega))).trans had
        replace hla := ((o_1 47 (by first | decide | omega))).trans hla
        replace hlaa := ((o_1 48 (by first | decide | omega))).trans hlaa
        replace hts0 := ((o_1 112 (by first | decide | omega))).trans hts0
        replace htsa := ((o_1 113 (by first | decide | omega))).trans htsa
        have key2 : ∀ (n9_2 : Nat) (pa : Nat) (z : Nat) (f_2 : Nat → va_E) (H : Heap) (locs : List Loc) (ls : Array Slot), (pa ≤ 4) → (z = twS (fun i c => dp (4 * i + c)) np pl ks pa) → (∀ i, i < 10 → okH G g f_2 (2 * i + 16)) → (okH G g f_2 13) → (∀ i, i < 20 → ltx G g f_2 (3 * i + 52) (LL i) (LG i) (i < na)) → (∀ i, i < 4 → txt G g f_2 (3 * i + 117) (TL i) (TG i)) → (bkD G g f_2 129 N1 E1 P1 L1 S1 W1 X1) → (bkD G g f_2 222 N2 E2 P2 L2 S2 W2 X2) → (∀ z, z < nt → cHz G g f_2 np nf nr na dp df dr da ct LL LG z) → 4 - pa < n9_2 → f_2 0 = eO 9 [.ref (g 1), .ref (g 36), .ref (g 2), .ref (g 3), .ref (g 4), .ref (g 6), .ref (g 7)] → f_2 1 = eO 1 [.ref (g 36), .ref (g 12), .ref (g 13), .ref (g 15), .int (nI nt)] → f_2 12 = eA G 4 10 hf → f_2 2 = eA G 3 2 imf → f_2 3 = eZ G 2 kf → f_2 4 = eO 4 [.ref (g 5), .int (nI mc), .int op, .int cm, .int wu] → f_2 5 = eI G 50 mk → f_2 6 = eO 2 [.long ab, .long be] → f_2 7 = eO 8 [.ref (g 8), .ref (g 9), .ref (g 10), .ref (g 11), .int (nI mn), .int le] → f_2 8 = eI G 6 wt → f_2 9 = eI G 6 ww → f_2 10 = eI G 6 wb → f_2 11 = eI G 6 wf → f_2 15 = eJ G 50 vv91 → f_2 36 = eO 0 [.ref (g 37), .ref (g 39), .ref (g 41), .ref (g 43), .ref (g 45), .ref (g 47), .ref (g 112), .int pay, .int fine] → f_2 37 = eO 5 [.int (nI 30), .int (nI 4), .ref (g 38), .int (nI np)] → f_2 38 = eI G (30 * 4) dp → f_2 39 = eO 5 [.int (nI 40), .int (nI 3), .ref (g 40), .int (nI nf)] → f_2 40 = eI G (40 * 3) df → f_2 41 = eO 5 [.int (nI 4), .int (nI 3), .ref (g 42), .int (nI nr)] → f_2 42 = eI G (4 * 3) dr → f_2 43 = eO 5 [.int (nI 20), .int (nI 3), .ref (g 44), .int (nI na)] → f_2 44 = eI G (20 * 3) da → f_2 45 = eO 5 [.int (nI 10), .int (nI 70), .ref (g 46), .int (nI nt)] → f_2 46 = eI G (10 * 70) ct → f_2 47 = eO 6 [.ref (g 48), .ref (g 49)] → f_2 48 = eA G 5 20 lf → f_2 112 = eO 6 [.ref (g 113), .ref (g 114)] → f_2 113 = eA G 5 4 tf → f_2 (2 * tn + 16) = eO 3 [.ref (g (2 * tn + 17)), .int (nI (hM (cBx np nf nr na dp df dr da ct LL LG tn) (fun c => ct (70 * tn + c)))), .int (lotF (ct (70 * tn + 7)) (hM (cBx np nf nr na dp df dr da ct LL LG tn) (fun c => ct (70 * tn + c)))), .int (cBx np nf nr na dp df dr da ct LL LG tn), .int (hCa (cBx np nf nr na dp df dr da ct LL LG tn) (fun c => ct (70 * tn + c))), .int (hMi (cBx np nf nr na dp df dr da ct LL LG tn) (fun c => ct (70 * tn + c))), .int ((hX (cBx np nf nr na dp df dr da ct LL LG tn) (fun c => ct (70 * tn + c))).1), .int ((hX (cBx np nf nr na dp df dr da ct LL LG tn) (fun c => ct (70 * tn + c))).2), .int (hSw (cBx np nf nr na dp df dr da ct LL LG tn) (pasV (cFt np nf nr na dp df dr da ct LL LG tn) (cBx np nf nr na dp df dr da ct LL LG tn)) (fun c => ct (70 * tn + c)))] → f_2 (2 * tn + 17) = eI G 24 od7 → (∀ j, (j < 333 ∨ 333 ≤ j) → f_2 j = f_1 j) → va_P G.1 vwCl (wl g f_2) H → va_S (gA g) s.heap H locs → lv_has ls 9 [(0, .ref (g 0)), (4, .int (nI ks)), (5, .int pl), (6, .long (lN z)), (8, .int (nI pa))] → W p l e (headSpec (wsT yX10_twelve cX10_twelve 9 (some .int)) ({ frames := 7, cells := 0, slots := 0, locals := 176 })).room s m ([.ref (g 0), .int (nI tn), .int 0] : List Value).toArray below meth c H locs 0 0 Q9 (F0 m 111 ls []) := by
          intro n9_2
          induction n9_2 with
          | zero => intro pa z f_2 H locs ls hi hz hH hSp hL hT hB1 hB2 hQn hn9_2; exact absurd hn9_2 (Nat.not_lt_zero _)
          | succ n9_2 ih_2 =>
            intro pa z f_2 H locs ls hi hz hH hSp hL hT hB1 hB2 hQn hn9_2 hx0 hctc hhs him hkp hrd hmk hfc6 hwt hw8 hw9 hw10 hw11 hvl hbk hpr hpd hfr hfd hor hod har had htr hct hla hlaa hts0 htsa hh7 ho7 o_2 hP hS hl
            refine lv_iload hx hb dX10_twelve_111 (lv_at hl 4 rfl) ?_
            refine lv_iconst (v := 3) hx hb dX10_twelve_113 (by decide) ?_
            refine lv_icmp_gt (tgt := 149) hx hb dX10_twelve_114 (by decide) (fun c_114 => ?_) (fun c_114 => ?_)
            · have hpa4 : pa = 4 := by
                have h9 := (nI_ltI (a := 3) (by omega) (by omega)).mp c_114
                omega
              have hzb : z ≤ 4 * 1099511627776 := by
                have h9 := twS_b (P := (fun i c => dp (4 * i + c))) (np := np) (ks := ks) hpb 4
                rw [hz, hpa4]
                exact h9
              have hcP : cnt pl 32 ≤ 30 := cnt_hi hpb
              have hwb : wz (cnt pl 32) ks ≤ 1099511627776 := wz_s (by omega)
              refine lv_aload_n hx hb dX10_twelve_149 rfl (lv_at hl 0 rfl) ?_
              refine va_get (D := G.1) (ci := 9) (v := .ref (g 6)) (C := RX10) (T := TX10) (N := 7) hx hb hts inlX10 hown hG.1 hP 0 (wl_at (by decide) hx0) rfl 5 (by decide) (hts (.fieldLink RX10 41 "SwornLists" "fraction" "LSwornLists$Fraction;") w_28) (fun _ h9 => h9) rfl dX10_twelve_150 ?_
              refine lv_lload hx hb dX10_twelve_153 (lv_at hl 3 rfl) ?_
              refine lv_iload hx hb dX10_twelve_155 (lv_at hl 2 rfl) ?_
              refine rd_calli (va_runS (As := [.int pl]) (rest := [.long (lN z), .ref (g 6)]) ⟨hx, hb, hml, hown, hts⟩ (s_bitCountE l G g hg f_2 pl  ) (my_cwS hts ok_J6_bitCount_0f7a4 w_792 rfl rfl ⟨Nat.le_of_ble_eq_true rfl, Nat.le_of_ble_eq_true rfl⟩) ⟨bP.blind, fun U hU hW => ⟨rfl, by rw [hU]; exact hP, kG.warm hW hG⟩⟩ rfl rfl hl.1 rfl (lv_room (Nat.le_of_ble_eq_true rfl)) dX10_twelve_157 ⟨Nat.le_of_ble_eq_true rfl, Nat.le_of_ble_eq_true rfl⟩) (fun r hr9 => ?_)
              subst hr9
              refine lv_iload hx hb dX10_twelve_160 (lv_at hl 1 rfl) ?_
              refine rd_calll (va_runS (As := [.int (nI (cnt pl 32)), .int (nI ks)]) (rest := [.long (lN z), .ref (g 6)]) ⟨hx, hb, hml, hown, hts⟩ (e_ways l G g hg f_2 (cnt pl 32) ks  (by first | assumption | omega | decide) (by first | assumption | omega | decide)) (my_cwS hts ok_X10_ways w_761 rfl rfl ⟨Nat.le_of_ble_eq_true rfl, Nat.le_of_ble_eq_true rfl⟩) ⟨bP.blind, fun U hU hW => ⟨rfl, by rw [hU]; exact hP, kG.warm hW hG⟩⟩ rfl rfl hl.1 rfl (lv_room (Nat.le_of_ble_eq_true rfl)) dX10_twelve_162 ⟨Nat.le_of_ble_eq_true rfl, Nat.le_of_ble_eq_true rfl⟩) (fun r hr9 => ?_)
              subst hr9
              refine b_calli (va_runV (As := [.long (lN z), .long (lN (wz (cnt pl 32) ks))]) (rest := []) ⟨hx, hb, hml, hown, hts⟩ (e_become2 l G g hg f_2 ab be z (wz (cnt pl 32) ks) hfc6 (by first | assumption | omega | decide) (by first | assumption | omega | decide)) (my_cwV hts ok_X2_become w_764 rfl rfl ⟨Nat.le_of_ble_eq_true rfl, Nat.le_of_ble_eq_true rfl⟩) ⟨bP.blind, va_recv hG.1 hP (ci := 2) (q0 := 6) rfl (wl_at (by decide) hfc6), fun U hU hW => ⟨rfl, by rw [hU]; exact hP, kG.warm hW hG⟩⟩ rfl rfl hl.1 rfl (lv_room (Nat.le_of_ble_eq_true rfl)) dX10_twelve_165 ⟨Nat.le_of_ble_eq_true rfl, Nat.le_of_ble_eq_true rfl⟩) hS (fun v3 f_3 H locs hq9 hP hS => ?_)
              obtain ⟨ab94, be95, rfl, hq_3_0, o_3⟩ := hq9
              have hfc6 : f_3 6 = eO 2 [.long ab94, .long be95] := hq_3_0
              refine W_q9 hQ9 ?_
              replace hx0 := ((o_3 0 (by first | decide | omega))).trans hx0
              replace hctc := ((o_3 1 (by first | decide | omega))).trans hctc
              replace hhs := ((o_3 12 (by first | decide | omega))).trans hhs
              replace him := ((o_3 2 (by first | decide | omega))).trans him
              replace hkp := ((o_3 3 (by first | decide | omega))).trans hkp
              replace hrd := ((o_3 4 (by first | decide | omega))).trans hrd
              replace hmk := ((o_3 5 (by first | decide | omega))).trans hmk
              replace hwt := ((o_3 7 (by first | decide | omega))).trans hwt
              replace hw8 := ((o_3 8 (by first | decide | omega))).trans hw8
              replace hw9 := ((o_3 9 (by first | decide | omega))).trans hw9
              replace hw10 := ((o_3 10 (by first | decide | omega))).trans hw10
              replace hw11 := ((o_3 11 (by first | decide | omega))).trans hw11
              replace hvl := ((o_3 15 (by first | decide | omega))).trans hvl
              replace hbk := ((o_3 36 (by first | decide | omega))).trans hbk
              replace hpr := ((o_3 37 (by first | decide | omega))).trans hpr
              replace hpd := ((o_3 38 (by first | decide | omega))).trans hpd
              replace hfr := ((o_3 39 (by first | decide | omega))).trans hfr
              replace hfd := ((o_3 40 (by first | decide | omega))).trans hfd
              replace hor := ((o_3 41 (by first | decide | omega))).trans hor
              replace hod := ((o_3 42 (by first | decide | omega))).trans hod
              replace har := ((o_3 43 (by first | decide | omega))).trans har
              replace had := ((o_3 44 (by first | decide | omega))).trans had
              replace htr := ((o_3 45 (by first | decide | omega))).trans htr
              replace hct := ((o_3 46 (by first | decide | omega))).trans hct
              replace hla := ((o_3 47 (by first | decide | omega))).trans hla
              replace hlaa := ((o_3 48 (by first | decide | omega))).trans hlaa
              replace hts0 := ((o_3 112 (by first | decide | omega))).trans hts0
              replace htsa := ((o_3 113 (by first | decide | omega))).trans htsa
              replace hH : ∀ i, i < 10 → okH G g f_3 (2 * i + 16) := fun z hz => okH_fr (hH z hz) (o_3 _ (by omega)) (o_3 _ (by omega))
              replace hSp : okH G g f_3 13 := okH_fr hSp (o_3 _ (by omega)) (o_3 _ (by omega))
              replace hL : ∀ i, i < 20 → ltx G g f_3 (3 * i + 52) (LL i) (LG i) (i < na) := fun z hz => ltx_fr (hL z hz) (o_3 _ (by omega)) (o_3 _ (by omega)) (o_3 _ (by omega))
              replace hT : ∀ i, i < 4 → txt G g f_3 (3 * i + 117) (TL i) (TG i) := fun z hz => txt_fr (hT z hz) (o_3 _ (by omega)) (o_3 _ (by omega)) (o_3 _ (by omega))
              replace hB1 : bkD G g f_3 129 N1 E1 P1 L1 S1 W1 X1 := bkD_fr hB1 (fun j _ _ => o_3 j (by omega))
              replace hB2 : bkD G g f_3 222 N2 E2 P2 L2 S2 W2 X2 := bkD_fr hB2 (fun j _ _ => o_3 j (by omega))
              replace hQn : ∀ z, z < nt → cHz G g f_3 np nf nr na dp df dr da ct LL LG z := fun z hz => okQ_fr (hQn z hz) (o_3 _ (by omega)) (o_3 _ (by omega))
              exact W.iret (v := zo2 z (wz (cnt pl 32) ks)) hx hb hr (fun _ hT9 _ => ⟨⟨_, f_3, rfl, (⟨cJ_mk (nt) (hf) (imf) (mc) (op) (cm) (wu) (mk) (ab94) (be95) (mn) (le) (wt) (ww) (wb) (wf) (vv91) (lf) (tf) (hx0) (hctc) (hhs) (him) (hkp) (hrd) (hmk) (hfc6) (hwt) (hw8) (hw9) (hw10) (hw11) (hvl) (hbk) (hpr) (hpd) (hfr) (hfd) (hor) (hod) (har) (had) (htr) (hct) (hla) (hlaa) (hts0) (htsa) (by omega) (hhf) (him0) (him1) (by omega) (by omega) (by omega) (by omega) (by omega) (by omega) (by omega) (hlf) (htf) (by omega) (hH) (hSp) (hL) (hT) (hB1) (hB2) (hQn), (Or.inr ⟨tn, 0, htn, rfl, by decide, rfl, tw_end hz hpa4 rfl hq2 hks (hpl.symm.trans (if_pos rfl).symm)⟩), fun j hj => (((o_3 j (by omega))).trans (o_2 j (by omega))).trans (o_1 j (by omega))⟩), by rw [hT9]; exact hP⟩, hS.F hT9⟩) hS.2.2 dX10_twelve_168
            · have hi3 : pa ≤ 3 := Nat.not_lt.mp (fun z => c_114 (nI_lt (a := 3) z (by omega)))
              have hcA : cnt (twP (fun i c => dp (4 * i + c)) np pl pa) 32 ≤ 30 := cnt_hi (tw_hi hpb)
              refine lv_lload hx hb dX10_twelve_117 (lv_at hl 3 rfl) ?_
              refine lv_iload hx hb dX10_twelve_119 (lv_at hl 2 rfl) ?_
              refine lv_aload_n hx hb dX10_twelve_121 rfl (lv_at hl 0 rfl) ?_
              refine va_get (D := G.1) (ci := 9) (v := .ref (g 36)) (C := RX10) (T := TX10) (N := 7) hx hb hts inlX10 hown hG.1 hP 0 (wl_at (by decide) hx0) rfl 1 (by decide) (hts (.fieldLink RX10 20 "SwornLists" "book" "LSwornLists$Book;") w_16) (fun _ h9 => h9) rfl dX10_twelve_122 ?_
              refine lv_iconst (v := 0) hx hb dX10_twelve_125 (by decide) ?_
              refine lv_iload hx hb dX10_twelve_126 (lv_at hl 4 rfl) ?_
              refine rd_calli (va_runV (As := [.int 0, .int (nI pa)]) (rest := [.int pl, .long (lN z)]) ⟨hx, hb, hml, hown, hts⟩ (k_peopleWithE l G g hg f_2 pay fine np dp 0 (nI pa) hbk hpr hpd (by first | assumption | omega | decide) (by first | assumption | omega | decide)) (my_cwV hts ok_X0_peopleWith w_791 rfl rfl ⟨Nat.le_of_ble_eq_true rfl, Nat.le_of_ble_eq_true rfl⟩) ⟨bP.blind, va_recv hG.1 hP (ci := 0) (q0 := 36) rfl (wl_at (by decide) hbk), fun U hU hW => ⟨rfl, by rw [hU]; exact hP, kG.warm hW hG⟩⟩ rfl rfl hl.1 rfl (lv_room (Nat.le_of_ble_eq_true rfl)) dX10_twelve_128 ⟨Nat.le_of_ble_eq_true rfl, Nat.le_of_ble_eq_true rfl⟩) (fun r hr9 => ?_)
              subst hr9
              refine lv_iand hx hb dX10_twelve_131 ?_
              refine rd_calli (va_runS (As := [.int (pl &&& (sO (fun i => decide (dp (4 * i + 0) = (nI pa))) np))]) (rest := [.long (lN z)]) ⟨hx, hb, hml, hown, hts⟩ (s_bitCountE l G g hg f_2 (pl &&& (sO (fun i => decide (dp (4 * i + 0) = (nI pa))) np))  ) (my_cwS hts ok_J6_bitCount_0f7a4 w_792 rfl rfl ⟨Nat.le_of_ble_eq_true rfl, Nat.le_of_ble_eq_true rfl⟩) ⟨bP.blind, fun U hU hW => ⟨rfl, by rw [hU]; exact hP, kG.warm hW hG⟩⟩ rfl rfl hl.1 rfl (lv_room (Nat.le_of_ble_eq_true rfl)) dX10_twelve_132 ⟨Nat.le_of_ble_eq_true rfl, Nat.le_of_ble_eq_true rfl⟩) (fun r hr9 => ?_)
              subst hr9
              refine my_bei (v := nI (cnt (twP (fun i c => dp (4 * i + c)) np pl pa) 32)) (rfl) ?_
              refine lv_iload hx hb dX10_twelve_135 (lv_at hl 1 rfl) ?_
              refine rd_calll (va_runS (As := [.int (nI (cnt (twP (fun i c => dp (4 * i + c)) np pl pa) 32)), .int (nI ks)]) (rest := [.long (lN z)]) ⟨hx, hb, hml, hown, hts⟩ (e_ways l G g hg f_2 (cnt (twP (fun i c => dp (4 * i + c)) np pl pa) 32) ks  (by first | assumption | omega | decide) (by first | assumption | omega | decide)) (my_cwS hts ok_X10_ways w_761 rfl rfl ⟨Nat.le_of_ble_eq_true rfl, Nat.le_of_ble_eq_true rfl⟩) ⟨bP.blind, fun U hU hW => ⟨rfl, by rw [hU]; exact hP, kG.warm hW hG⟩⟩ rfl rfl hl.1 rfl (lv_room (Nat.le_of_ble_eq_true rfl)) dX10_twelve_137 ⟨Nat.le_of_ble_eq_true rfl, Nat.le_of_ble_eq_true rfl⟩) (fun r hr9 => ?_)
              subst hr9
              refine lv_ladd hx hb dX10_twelve_140 ?_
              refine my_bel (v := lN (z + wz (cnt (twP (fun i c => dp (4 * i + c)) np pl pa) 32) ks)) (lN_add _ _) ?_
              refine lv_lstore (lv' := [(6, .long (lN (z + wz (cnt (twP (fun i c => dp (4 * i + c)) np pl pa) 32) ks))), (0, .ref (g 0)), (4, .int (nI ks)), (5, .int pl), (8, .int (nI pa))]) hx hb dX10_twelve_141 hl (by decide) rfl (fun ls hl => ?_)
              refine lv_iinc (v := nI (pa + 1)) (lv' := [(8, .int (nI (pa + 1))), (6, .long (lN (z + wz (cnt (twP (fun i c => dp (4 * i + c)) np pl pa) 32) ks))), (0, .ref (g 0)), (4, .int (nI ks)), (5, .int pl)]) hx hb dX10_twelve_143 hl (k := 4) rfl (nI_1 pa) (by decide) rfl (fun ls hl => ?_)
              refine lv_goto (tgt := 111) hx hb dX10_twelve_146 (by decide) ?_
              exact ih_2 (pa + 1) (z + wz (cnt (twP (fun i c => dp (4 * i + c)) np pl pa) 32) ks) f_2 _ _ _ (by omega) (by rw [hz]; rfl) (hH) (hSp) (hL) (hT) (hB1) (hB2) (hQn) (by omega) (hx0) (hctc) (hhs) (him) (hkp) (hrd) (hmk) (hfc6) (hwt) (hw8) (hw9) (hw10) (hw11) (hvl) (hbk) (hpr) (hpd) (hfr) (hfd) (hor) (hod) (har) (had) (htr) (hct) (hla) (hlaa) (hts0) (htsa) (hh7) (ho7) (fun j hj => (o_2 j (by omega))) hP hS (lv_sub hl [2, 3, 4, 1, 0] rfl)
        exact key2 (4 + 1) 0 0 f_1 _ _ _ (by omega) (rfl) (hH) (hSp) (hL) (hT) (hB1) (hB2) (hQn) (by omega) (hx0) (hctc) (hhs) (him) (hkp) (hrd) (hmk) (hfc6) (hwt) (hw8) (hw9) (hw10) (hw11) (hvl) (hbk) (hpr) (hpd) (hfr) (hfd) (hor) (hod) (har) (had) (htr) (hct) (hla) (hlaa) (hts0) (htsa) (hh7) (ho7) (fun j _ => rfl) hP hS (lv_sub hl [5, 3, 2, 1, 0] rfl)
      · subst e9
        obtain ⟨tn, htn, rfl⟩ := inN_nat (by omega) c_11
        refine lv_aload_n hx hb dX10_twelve_26 rfl (lv_at hl 0 rfl) ?_
        refine va_get (D := G.1) (ci := 9) (v := .ref (g 1)) (C := RX10) (T := TX10) (N := 7) hx hb hts inlX10 hown hG.1 hP 0 (wl_at (by decide) hx0) rfl 0 (by decide) (hts (.fieldLink RX10 12 "SwornLists" "court" "LSwornLists$Court;") w_15) (fun _ h9 => h9) rfl dX10_twelve_27 ?_
        refine b_callv (va_runV (As := []) (rest := []) ⟨hx, hb, hml, hown, hts⟩ (u_settleE l G g hg f se hf pay fine nt ct np dp nf df nr dr na da lf vv LL LG hctc hhs hbk htr hct hpr hpd hfr hfd hor hod har had hla hlaa hvl (by first | assumption | omega | decide) (by first | assumption | omega | decide) (by first | assumption | omega | decide) (by first | assumption | omega | decide) (by first | assumption | omega | decide) (by first | assumption | omega | decide) (by first | assumption | omega | decide) (by first | assumption | omega | decide) (hTr.1) (hTr.2.1) (hTr.2.2.1) (by first | assumption | omega | decide) (hQ) (by first | assumption | omega | decide) (hL)) (my_cwV hts ok_X1_settle w_384 rfl rfl ⟨Nat.le_of_ble_eq_true rfl, Nat.le_of_ble_eq_true rfl⟩) ⟨bP.blind, va_recv hG.1 hP (ci := 1) (q0 := 1) rfl (wl_at (by decide) hctc), fun U hU hW => ⟨rfl, by rw [hU]; exact hP, kG.warm hW hG⟩⟩ rfl rfl hl.1 rfl (lv_room (Nat.le_of_ble_eq_true rfl)) dX10_twelve_30 ⟨Nat.le_of_ble_eq_true rfl, Nat.le_of_ble_eq_true rfl⟩) hS (fun f_4 H locs hq9 hP hS => ?_)
        obtain ⟨vv96, hq_4_0, hq_4_1, hx_4_0, hx_4_1, o_4⟩ := hq9
        have hctc : f_4 1 = eO 1 [.ref (g 36), .ref (g 12), .ref (g 13), .ref (g 15), .int (nI nt)] := hq_4_0
        have hvl : f_4 15 = eJ G 50 vv96 := hq_4_1
        have hH : ∀ i, i < 10 → okH G g f_4 (2 * i + 16) := hx_4_0
        have hQn : ∀ z, z < nt → cHz G g f_4 np nf nr na dp df dr da ct LL LG z := hx_4_1
        obtain ⟨od7, hh7, ho7, hd7⟩ := id (hQn tn (by omega))
        have hm7 : hM (cBx np nf nr na dp df dr da ct LL LG tn) (fun c => ct (70 * tn + c)) ≤ 24 := by
          have h9 := hTr.2.2.1 tn (by omega)
          exact Nat.le_trans (Nat.min_le_left _ _) h9
        refine lv_aload_n hx hb dX10_twelve_33 rfl (lv_at hl 0 rfl) ?_
        replace hx0 := ((o_4 0 (by first | decide | omega))).trans hx0
        refine va_get (D := G.1) (ci := 9) (v := .ref (g 36)) (C := RX10) (T := TX10) (N := 7) hx hb hts inlX10 hown hG.1 hP 0 (wl_at (by decide) hx0) rfl 1 (by decide) (hts (.fieldLink RX10 20 "SwornLists" "book" "LSwornLists$Book;") w_16) (fun _ h9 => h9) rfl dX10_twelve_34 ?_
        replace hbk := ((o_4 36 (by first | decide | omega))).trans hbk
        refine va_getN (D := G.1) (ci := 0) (v := .ref (g 45)) (C := RX0) (T := TX0) (N := 9) (host := RX10) hx hb hts inlX0 hown hG.1 hP 36 (wl_at (by decide) hbk) rfl 4 (by decide) (va_Nw.use rfl (hG.2.1 (.fieldLinkNest RX10 162 RX0 "trials" "LSwornLists$Rows;" RX10) (List.mem_of_getElem? (i := 7) rfl))) (fun _ h9 => h9) rfl dX10_twelve_37 ?_
        refine lv_iload_n hx hb dX10_twelve_40 rfl (lv_at hl 1 rfl) ?_
        refine lv_iconst (v := 0) hx hb dX10_twelve_41 (by decide) ?_
        replace htr := ((o_4 45 (by first | decide | omega))).trans htr
        replace hct := ((o_4 46 (by first | decide | omega))).trans hct
        refine rd_calli (va_runV (As := [.int (nI tn), .int 0]) (rest := []) ⟨hx, hb, hml, hown, hts⟩ (r_at l G g hg f_4 45 10 70 nt ct (nI tn) 0 htr hct (by first | assumption | omega | decide) (by first | assumption | omega | decide) (by first | assumption | omega | decide) (by first | assumption | omega | decide)) (my_cwV hts ok_X5_at w_610 rfl rfl ⟨Nat.le_of_ble_eq_true rfl, Nat.le_of_ble_eq_true rfl⟩) ⟨bP.blind, va_recv hG.1 hP (ci := 5) (q0 := 45) rfl (wl_at (by decide) htr), fun U hU hW => ⟨rfl, by rw [hU]; exact hP, kG.warm hW hG⟩⟩ rfl rfl hl.1 rfl (lv_room (Nat.le_of_ble_eq_true rfl)) dX10_twelve_42 ⟨Nat.le_of_ble_eq_true rfl, Nat.le_of_ble_eq_true rfl⟩) (fun r hr9 => ?_)
        subst hr9
        refine my_bei (v := ct (70 * tn + 0)) (atQ (d := ct) (w := 70) (i := tn) (c := 0) htn (by omega) (by omega) (by omega)) ?_
        refine lv_istore_n (lv' := [(3, .int (ct (70 * tn + 0))), (0, .ref (g 0)), (1, .int (nI tn)), (2, .int 1)]) hx hb dX10_twelve_45 rfl hl (by decide) rfl (fun ls hl => ?_)
        refine lv_aload_n hx hb dX10_twelve_46 rfl (lv_at hl 1 rfl) ?_
        refine va_get (D := G.1) (ci := 9) (v := .ref (g 36)) (C := RX10) (T := TX10) (N := 7) hx hb hts inlX10 hown hG.1 hP 0 (wl_at (by decide) hx0) rfl 1 (by decide) (hts (.fieldLink RX10 20 "SwornLists" "book" "LSwornLists$Book;") w_16) (fun _ h9 => h9) rfl dX10_twelve_47 ?_
        refine va_getN (D := G.1) (ci := 0) (v := .ref (g 45)) (C := RX0) (T := TX0) (N := 9) (host := RX10) hx hb hts inlX0 hown hG.1 hP 36 (wl_at (by decide) hbk) rfl 4 (by decide) (va_Nw.use rfl (hG.2.1 (.fieldLinkNest RX10 162 RX0 "trials" "LSwornLists$Rows;" RX10) (List.mem_of_getElem? (i := 7) rfl))) (fun _ h9 => h9) rfl dX10_twelve_50 ?_
        refine lv_iload_n hx hb dX10_twelve_53 rfl (lv_at hl 2 rfl) ?_
        refine lv_iconst (v := 2) hx hb dX10_twelve_54 (by decide) ?_
        obtain ⟨q8, q6, ks, hq8, hq88, hq6, hq64, hq2, hks⟩ := hTr.1 tn htn
        refine rd_calli (va_runV (As := [.int (nI tn), .int 2]) (rest := []) ⟨hx, hb, hml, hown, hts⟩ (r_at l G g hg f_4 45 10 70 nt ct (nI tn) 2 htr hct (by first | assumption | omega | decide) (by first | assumption | omega | decide) (by first | assumption | omega | decide) (by first | assumption | omega | decide)) (my_cwV hts ok_X5_at w_610 rfl rfl ⟨Nat.le_of_ble_eq_true rfl, Nat.le_of_ble_eq_true rfl⟩) ⟨bP.blind, va_recv hG.1 hP (ci := 5) (q0 := 45) rfl (wl_at (by decide) htr), fun U hU hW => ⟨rfl, by rw [hU]; exact hP, kG.warm hW hG⟩⟩ rfl rfl hl.1 rfl (lv_room (Nat.le_of_ble_eq_true rfl)) dX10_twelve_55 ⟨Nat.le_of_ble_eq_true rfl, Nat.le_of_ble_eq_true rfl⟩) (fun r hr9 => ?_)
        subst hr9
        refine my_bei (v := nI ks) ((atQ (d := ct) (w := 70) (i := tn) (c := 2) htn (by omega) (by omega) (by omega)).trans hq2) ?_
        refine lv_istore (lv' := [(4, .int (nI ks)), (3, .int (ct (70 * tn + 0))), (0, .ref (g 0)), (1, .int (nI tn)), (2, .int 1)]) hx hb dX10_twelve_58 hl (by decide) rfl (fun ls hl => ?_)
        refine lv_iload_n hx hb dX10_twelve_60 rfl (lv_at hl 4 rfl) ?_
        refine lv_if_ne (tgt := 78) hx hb dX10_twelve_61 (by decide) (fun c_61 => ?_) (fun c_61 => absurd c_61 (by decide))
        refine lv_aload_n hx hb dX10_twelve_78 rfl (lv_at hl 2 rfl) ?_
        refine va_get (D := G.1) (ci := 9) (v := .ref (g 1)) (C := RX10) (T := TX10) (N := 7) hx hb hts inlX10 hown hG.1 hP 0 (wl_at (by decide) hx0) rfl 0 (by decide) (hts (.fieldLink RX10 12 "SwornLists" "court" "LSwornLists$Court;") w_15) (fun _ h9 => h9) rfl dX10_twelve_79 ?_
        refine lv_aload_n hx hb dX10_twelve_82 rfl (lv_at hl 2 rfl) ?_
        refine va_get (D := G.1) (ci := 9) (v := .ref (g 36)) (C := RX10) (T := TX10) (N := 7) hx hb hts inlX10 hown hG.1 hP 0 (wl_at (by decide) hx0) rfl 1 (by decide) (hts (.fieldLink RX10 20 "SwornLists" "book" "LSwornLists$Book;") w_16) (fun _ h9 => h9) rfl dX10_twelve_83 ?_
        refine lv_iconst (v := 0) hx hb dX10_twelve_86 (by decide) ?_
        refine lv_iload_n hx hb dX10_twelve_87 rfl (lv_at hl 1 rfl) ?_
        replace har := ((o_4 43 (by first | decide | omega))).trans har
        replace had := ((o_4 44 (by first | decide | omega))).trans had
        replace hla := ((o_4 47 (by first | decide | omega))).trans hla
        replace hlaa := ((o_4 48 (by first | decide | omega))).trans hlaa
        refine rd_calla (va_runV (As := [.int 0, .int (ct (70 * tn + 0))]) (rest := [.ref (g 1)]) ⟨hx, hb, hml, hown, hts⟩ (k_lawOfE l G g hg f_4 pay fine na da lf 0 (ct (70 * tn + 0)) hbk har had hla hlaa (by first | assumption | omega | decide) (by first | assumption | omega | decide)) (my_cwV hts ok_X0_lawOf w_628 rfl rfl ⟨Nat.le_of_ble_eq_true rfl, Nat.le_of_ble_eq_true rfl⟩) ⟨bP.blind, va_recv hG.1 hP (ci := 0) (q0 := 36) rfl (wl_at (by decide) hbk), fun U hU hW => ⟨rfl, by rw [hU]; exact hP, kG.warm hW hG⟩⟩ rfl rfl hl.1 rfl (lv_room (Nat.le_of_ble_eq_true rfl)) dX10_twelve_88 ⟨Nat.le_of_ble_eq_true rfl, Nat.le_of_ble_eq_true rfl⟩) (fun r hr9 => ?_)
        obtain ⟨o97, rfl, hx_5_0, hx_5_1⟩ := hr9
        replace hL : ∀ i, i < 20 → ltx G g f_4 (3 * i + 52) (LL i) (LG i) (i < na) := fun z hz => ltx_fr (hL z hz) (o_4 _ (by omega)) (o_4 _ (by omega)) (o_4 _ (by omega))
        rcases o97 with _ | i8
        · refine my_bea (v := .null) rfl ?_
          refine lv_iconst (v := 0) hx hb dX10_twelve_91 (by decide) ?_
          refine lv_iload_n hx hb dX10_twelve_92 rfl (lv_at hl 1 rfl) ?_
          refine lv_aload_n hx hb dX10_twelve_93 rfl (lv_at hl 2 rfl) ?_
          refine va_get (D := G.1) (ci := 9) (v := .ref (g 36)) (C := RX10) (T := TX10) (N := 7) hx hb hts inlX10 hown hG.1 hP 0 (wl_at (by decide) hx0) rfl 1 (by decide) (hts (.fieldLink RX10 20 "SwornLists" "book" "LSwornLists$Book;") w_16) (fun _ h9 => h9) rfl dX10_twelve_94 ?_
          replace hpr := ((o_4 37 (by first | decide | omega))).trans hpr
          replace hpd := ((o_4 38 (by first | decide | omega))).trans hpd
          refine rd_calli (va_runV (As := []) (rest := [.int (ct (70 * tn + 0)), .int 0, .null, .ref (g 1)]) ⟨hx, hb, hml, hown, hts⟩ (k_everyoneE l G g hg f_4 pay fine np dp hbk hpr hpd (by first | assumption | omega | decide)) (my_cwV hts ok_X0_everyone w_198 rfl rfl ⟨Nat.le_of_ble_eq_true rfl, Nat.le_of_ble_eq_true rfl⟩) ⟨bP.blind, va_recv hG.1 hP (ci := 0) (q0 := 36) rfl (wl_at (by decide) hbk), fun U hU hW => ⟨rfl, by rw [hU]; exact hP, kG.warm hW hG⟩⟩ rfl rfl hl.1 rfl (lv_room (Nat.le_of_ble_eq_true rfl)) dX10_twelve_97 ⟨Nat.le_of_ble_eq_true rfl, Nat.le_of_ble_eq_true rfl⟩) (fun r hr9 => ?_)
          subst hr9
          obtain ⟨sw, hZ, hJ9⟩ := okZ_J (Nat.le_refl nt) hH hQn hTr.2.2.1
          obtain ⟨pl, hpl⟩ : ∃ x9, tvP np (nvF (fun i c => dp (4 * i + c)) (fun t c => ct (70 * t + c)) sw (ct (70 * tn + 0)) nt) none = x9 := ⟨_, rfl⟩
          have hpb : ∀ k, 30 ≤ k → bt pl k = false := by rw [← hpl]; exact tv_hi hnp
          refine rd_calli (va_runV (As := [.null, .int 0, .int (ct (70 * tn + 0)), .int ((1 <<< (nI np &&& 31)) - 1)]) (rest := []) ⟨hx, hb, hml, hown, hts⟩ (u_truthsN0 l G g hg f_4 (ct (70 * tn + 0)) ((1 <<< (nI np &&& 31)) - 1)  ) (my_cwV hts ok_X1_truths w_629 rfl rfl ⟨Nat.le_of_ble_eq_true rfl, Nat.le_of_ble_eq_true rfl⟩) ⟨bP.blind, va_recv hG.1 hP (ci := 1) (q0 := 1) rfl (wl_at (by decide) hctc), fun U hU hW => ⟨rfl, by rw [hU]; exact hP, kG.warm hW hG⟩⟩ rfl rfl hl.1 rfl (lv_room (Nat.le_of_ble_eq_true rfl)) dX10_twelve_100 ⟨Nat.le_of_ble_eq_true rfl, Nat.le_of_ble_eq_true rfl⟩) (fun r hr9 => ?_)
          subst hr9
          refine my_bei (v := pl) (hpl) ?_
          refine lv_istore (lv' := [(5, .int pl), (4, .int (nI ks)), (3, .int (ct (70 * tn + 0))), (0, .ref (g 0)), (1, .int (nI tn)), (2, .int 1)]) hx hb dX10_twelve_103 hl (by decide) rfl (fun ls hl => ?_)
          refine lv_lconst (v := 0) hx hb dX10_twelve_105 (by decide) ?_
          refine my_bel (v := lN 0) (rfl) ?_
          refine lv_lstore (lv' := [(6, .long (lN 0)), (5, .int pl), (4, .int (nI ks)), (3, .int (ct (70 * tn + 0))), (0, .ref (g 0)), (1, .int (nI tn)), (2, .int 1)]) hx hb dX10_twelve_106 hl (by decide) rfl (fun ls hl => ?_)
          refine lv_iconst (v := 0) hx hb dX10_twelve_108 (by decide) ?_
          refine lv_istore (lv' := [(8, .int 0), (6, .long (lN 0)), (5, .int pl), (4, .int (nI ks)), (3, .int (ct (70 * tn + 0))), (0, .ref (g 0)), (1, .int (nI tn)), (2, .int 1)]) hx hb dX10_twelve_109 hl (by decide) rfl (fun ls hl => ?_)
          replace hSp : okH G g f_4 13 := okH_fr hSp (o_4 _ (by omega)) (o_4 _ (by omega))
          replace hT : ∀ i, i < 4 → txt G g f_4 (3 * i + 117) (TL i) (TG i) := fun z hz => txt_fr (hT z hz) (o_4 _ (by omega)) (o_4 _ (by omega)) (o_4 _ (by omega))
          replace hB1 : bkD G g f_4 129 N1 E1 P1 L1 S1 W1 X1 := bkD_fr hB1 (fun j _ _ => o_4 j (by omega))
          replace hB2 : bkD G g f_4 222 N2 E2 P2 L2 S2 W2 X2 := bkD_fr hB2 (fun j _ _ => o_4 j (by omega))
          replace hhs := ((o_4 12 (by first | decide | omega))).trans hhs
          replace him := ((o_4 2 (by first | decide | omega))).trans him
          replace hkp := ((o_4 3 (by first | decide | omega))).trans hkp
          replace hrd := ((o_4 4 (by first | decide | omega))).trans hrd
          replace hmk := ((o_4 5 (by first | decide | omega))).trans hmk
          replace hfc6 := ((o_4 6 (by first | decide | omega))).trans hfc6
          replace hwt := ((o_4 7 (by first | decide | omega))).trans hwt
          replace hw8 := ((o_4 8 (by first | decide | omega))).trans hw8
          replace hw9 := ((o_4 9 (by first | decide | omega))).trans hw9
          replace hw10 := ((o_4 10 (by first | decide | omega))).trans hw10
          replace hw11 := ((o_4 11 (by first | decide | omega))).trans hw11
          replace hfr := ((o_4 39 (by first | decide | omega))).trans hfr
          replace hfd := ((o_4 40 (by first | decide | omega))).trans hfd
          replace hor := ((o_4 41 (by first | decide | omega))).trans hor
          replace hod := ((o_4 42 (by first | decide | omega))).trans hod
          replace hts0 := ((o_4 112 (by first | decide | omega))).trans hts0
          replace htsa := ((o_4 113 (by first | decide | omega))).trans htsa
          have key9 : ∀ (n9_9 : Nat) (pa : Nat) (z : Nat) (f_6 : Nat → va_E) (H : Heap) (locs : List Loc) (ls : Array Slot), (pa ≤ 4) → (z = twS (fun i c => dp (4 * i + c)) np pl ks pa) → (∀ i, i < 10 → okH G g f_6 (2 * i + 16)) → (okH G g f_6 13) → (∀ i, i < 20 → ltx G g f_6 (3 * i + 52) (LL i) (LG i) (i < na)) → (∀ i, i < 4 → txt G g f_6 (3 * i + 117) (TL i) (TG i)) → (bkD G g f_6 129 N1 E1 P1 L1 S1 W1 X1) → (bkD G g f_6 222 N2 E2 P2 L2 S2 W2 X2) → (∀ z, z < nt → cHz G g f_6 np nf nr na dp df dr da ct LL LG z) → 4 - pa < n9_9 → f_6 0 = eO 9 [.ref (g 1), .ref (g 36), .ref (g 2), .ref (g 3), .ref (g 4), .ref (g 6), .ref (g 7)] → f_6 1 = eO 1 [.ref (g 36), .ref (g 12), .ref (g 13), .ref (g 15), .int (nI nt)] → f_6 12 = eA G 4 10 hf → f_6 2 = eA G 3 2 imf → f_6 3 = eZ G 2 kf → f_6 4 = eO 4 [.ref (g 5), .int (nI mc), .int op, .int cm, .int wu] → f_6 5 = eI G 50 mk → f_6 6 = eO 2 [.long ab, .long be] → f_6 7 = eO 8 [.ref (g 8), .ref (g 9), .ref (g 10), .ref (g 11), .int (nI mn), .int le] → f_6 8 = eI G 6 wt → f_6 9 = eI G 6 ww → f_6 10 = eI G 6 wb → f_6 11 = eI G 6 wf → f_6 15 = eJ G 50 vv96 → f_6 36 = eO 0 [.ref (g 37), .ref (g 39), .ref (g 41), .ref (g 43), .ref (g 45), .ref (g 47), .ref (g 112), .int pay, .int fine] → f_6 37 = eO 5 [.int (nI 30), .int (nI 4), .ref (g 38), .int (nI np)] → f_6 38 = eI G (30 * 4) dp → f_6 39 = eO 5 [.int (nI 40), .int (nI 3), .ref (g 40), .int (nI nf)] → f_6 40 = eI G (40 * 3) df → f_6 41 = eO 5 [.int (nI 4), .int (nI 3), .ref (g 42), .int (nI nr)] → f_6 42 = eI G (4 * 3) dr → f_6 43 = eO 5 [.int (nI 20), .int (nI 3), .ref (g 44), .int (nI na)] → f_6 44 = eI G (20 * 3) da → f_6 45 = eO 5 [.int (nI 10), .int (nI 70), .ref (g 46), .int (nI nt)] → f_6 46 = eI G (10 * 70) ct → f_6 47 = eO 6 [.ref (g 48), .ref (g 49)] → f_6 48 = eA G 5 20 lf → f_6 112 = eO 6 [.ref (g 113), .ref (g 114)] → f_6 113 = eA G 5 4 tf → f_6 (2 * tn + 16) = eO 3 [.ref (g (2 * tn + 17)), .int (nI (hM (cBx np nf nr na dp df dr da ct LL LG tn) (fun c => ct (70 * tn + c)))), .int (lotF (ct (70 * tn + 7)) (hM (cBx np nf nr na dp df dr da ct LL LG tn) (fun c => ct (70 * tn + c)))), .int (cBx np nf nr na dp df dr da ct LL LG tn), .int (hCa (cBx np nf nr na dp df dr da ct LL LG tn) (fun c => ct (70 * tn + c))), .int (hMi (cBx np nf nr na dp df dr da ct LL LG tn) (fun c => ct (70 * tn + c))), .int ((hX (cBx np nf nr na dp df dr da ct LL LG tn) (fun c => ct (70 * tn + c))).1), .int ((hX (cBx np nf nr na dp df dr da ct LL LG tn) (fun c => ct (70 * tn + c))).2), .int (hSw (cBx np nf nr na dp df dr da ct LL LG tn) (pasV (cFt np nf nr na dp df dr da ct LL LG tn) (cBx np nf nr na dp df dr da ct LL LG tn)) (fun c => ct (70 * tn + c)))] → f_6 (2 * tn + 17) = eI G 24 od7 → (∀ j, (j < 333 ∨ 333 ≤ j) → f_6 j = f_4 j) → va_P G.1 vwCl (wl g f_6) H → va_S (gA g) s.heap H locs → lv_has ls 9 [(0, .ref (g 0)), (4, .int (nI ks)), (5, .int pl), (6, .long (lN z)), (8, .int (nI pa))] → W p l e (headSpec (wsT yX10_twelve cX10_twelve 9 (some .int)) ({ frames := 7, cells := 0, slots := 0, locals := 176 })).room s m ([.ref (g 0), .int (nI tn), .int 1] : List Value).toArray below meth c H locs 0 0 Q9 (F0 m 111 ls []) := by
            intro n9_9
            induction n9_9 with
            | zero => intro pa z f_6 H locs ls hi hz hH hSp hL hT hB1 hB2 hQn hn9_9; exact absurd hn9_9 (Nat.not_lt_zero _)
            | succ n9_9 ih_9 =>
              intro pa z f_6 H locs ls hi hz hH hSp hL hT hB1 hB2 hQn hn9_9 hx0 hctc hhs him hkp hrd hmk hfc6 hwt hw8 hw9 hw10 hw11 hvl hbk hpr hpd hfr hfd hor hod har had htr hct hla hlaa hts0 htsa hh7 ho7 o_6 hP hS hl
              refine lv_iload hx hb dX10_twelve_111 (lv_at hl 4 rfl) ?_
              refine lv_iconst (v := 3) hx hb dX10_twelve_113 (by decide) ?_
              refine lv_icmp_gt (tgt := 149) hx hb dX10_twelve_114 (by decide) (fun c_114 => ?_) (fun c_114 => ?_)
              · have hpa4 : pa = 4 := by
                  have h9 := (nI_ltI (a := 3) (by omega) (by omega)).mp c_114
                  omega
                have hzb : z ≤ 4 * 1099511627776 := by
                  have h9 := twS_b (P := (fun i c => dp (4 * i + c))) (np := np) (ks := ks) hpb 4
                  rw [hz, hpa4]
                  exact h9
                have hcP : cnt pl 32 ≤ 30 := cnt_hi hpb
                have hwb : wz (cnt pl 32) ks ≤ 1099511627776 := wz_s (by omega)
                refine lv_aload_n hx hb dX10_twelve_149 rfl (lv_at hl 0 rfl) ?_
                refine va_get (D := G.1) (ci := 9) (v := .ref (g 6)) (C := RX10) (T := TX10) (N := 7) hx hb hts inlX10 hown hG.1 hP 0 (wl_at (by decide) hx0) rfl 5 (by decide) (hts (.fieldLink RX10 41 "SwornLists" "fraction" "LSwornLists$Fraction;") w_28) (fun _ h9 => h9) rfl dX10_twelve_150 ?_
                refine lv_lload hx hb dX10_twelve_153 (lv_at hl 3 rfl) ?_
                refine lv_iload hx hb dX10_twelve_155 (lv_at hl 2 rfl) ?_
                refine rd_calli (va_runS (As := [.int pl]) (rest := [.long (lN z), .ref (g 6)]) ⟨hx, hb, hml, hown, hts⟩ (s_bitCountE l G g hg f_6 pl  ) (my_cwS hts ok_J6_bitCount_0f7a4 w_792 rfl rfl ⟨Nat.le_of_ble_eq_true rfl, Nat.le_of_ble_eq_true rfl⟩) ⟨bP.blind, fun U hU hW => ⟨rfl, by rw [hU]; exact hP, kG.warm hW hG⟩⟩ rfl rfl hl.1 rfl (lv_room (Nat.le_of_ble_eq_true rfl)) dX10_twelve_157 ⟨Nat.le_of_ble_eq_true rfl, Nat.le_of_ble_eq_true rfl⟩) (fun r hr9 => ?_)
                subst hr9
                refine lv_iload hx hb dX10_twelve_160 (lv_at hl 1 rfl) ?_
                refine rd_calll (va_runS (As := [.int (nI (cnt pl 32)), .int (nI ks)]) (rest := [.long (lN z), .ref (g 6)]) ⟨hx, hb, hml, hown, hts⟩ (e_ways l G g hg f_6 (cnt pl 32) ks  (by first | assumption | omega | decide) (by first | assumption | omega | decide)) (my_cwS hts ok_X10_ways w_761 rfl rfl ⟨Nat.le_of_ble_eq_true rfl, Nat.le_of_ble_eq_true rfl⟩) ⟨bP.blind, fun U hU hW => ⟨rfl, by rw [hU]; exact hP, kG.warm hW hG⟩⟩ rfl rfl hl.1 rfl (lv_room (Nat.le_of_ble_eq_true rfl)) dX10_twelve_162 ⟨Nat.le_of_ble_eq_true rfl, Nat.le_of_ble_eq_true rfl⟩) (fun r hr9 => ?_)
                subst hr9
                refine b_calli (va_runV (As := [.long (lN z), .long (lN (wz (cnt pl 32) ks))]) (rest := []) ⟨hx, hb, hml, hown, hts⟩ (e_become2 l G g hg f_6 ab be z (wz (cnt pl 32) ks) hfc6 (by first | assumption | omega | decide) (by first | assumption | omega | decide)) (my_cwV hts ok_X2_become w_764 rfl rfl ⟨Nat.le_of_ble_eq_true rfl, Nat.le_of_ble_eq_true rfl⟩) ⟨bP.blind, va_recv hG.1 hP (ci := 2) (q0 := 6) rfl (wl_at (by decide) hfc6), fun U hU hW => ⟨rfl, by rw [hU]; exact hP, kG.warm hW hG⟩⟩ rfl rfl hl.1 rfl (lv_room (Nat.le_of_ble_eq_true rfl)) dX10_twelve_165 ⟨Nat.le_of_ble_eq_true rfl, Nat.le_of_ble_eq_true rfl⟩) hS (fun v10 f_7 H locs hq9 hP hS => ?_)
                obtain ⟨ab911, be912, rfl, hq_7_0, o_7⟩ := hq9
                have hfc6 : f_7 6 = eO 2 [.long ab911, .long be912] := hq_7_0
                refine W_q9 hQ9 ?_
                replace hx0 := ((o_7 0 (by first | decide | omega))).trans hx0
                replace hctc := ((o_7 1 (by first | decide | omega))).trans hctc
                replace hhs := ((o_7 12 (by first | decide | omega))).trans hhs
                replace him := ((o_7 2 (by first | decide | omega))).trans him
                replace hkp := ((o_7 3 (by first | decide | omega))).trans hkp
                replace hrd := ((o_7 4 (by first | decide | omega))).trans hrd
                replace hmk := ((o_7 5 (by first | decide | omega))).trans hmk
                replace hwt := ((o_7 7 (by first | decide | omega))).trans hwt
                replace hw8 := ((o_7 8 (by first | decide | omega))).trans hw8
                replace hw9 := ((o_7 9 (by first | decide | omega))).trans hw9
                replace hw10 := ((o_7 10 (by first | decide | omega))).trans hw10
                replace hw11 := ((o_7 11 (by first | decide | omega))).trans hw11
                replace hvl := ((o_7 15 (by first | decide | omega))).trans hvl
                replace hbk := ((o_7 36 (by first | decide | omega))).trans hbk
                replace hpr := ((o_7 37 (by first | decide | omega))).trans hpr
                replace hpd := ((o_7 38 (by first | decide | omega))).trans hpd
                replace hfr := ((o_7 39 (by first | decide | omega))).trans hfr
                replace hfd := ((o_7 40 (by first | decide | omega))).trans hfd
                replace hor := ((o_7 41 (by first | decide | omega))).trans hor
                replace hod := ((o_7 42 (by first | decide | omega))).trans hod
                replace har := ((o_7 43 (by first | decide | omega))).trans har
                replace had := ((o_7 44 (by first | decide | omega))).trans had
                replace htr := ((o_7 45 (by first | decide | omega))).trans htr
                replace hct := ((o_7 46 (by first | decide | omega))).trans hct
                replace hla := ((o_7 47 (by first | decide | omega))).trans hla
                replace hlaa := ((o_7 48 (by first | decide | omega))).trans hlaa
                replace hts0 := ((o_7 112 (by first | decide | omega))).trans hts0
                replace htsa := ((o_7 113 (by first | decide | omega))).trans htsa
                replace hH : ∀ i, i < 10 → okH G g f_7 (2 * i + 16) := fun z hz => okH_fr (hH z hz) (o_7 _ (by omega)) (o_7 _ (by omega))
                replace hSp : okH G g f_7 13 := okH_fr hSp (o_7 _ (by omega)) (o_7 _ (by omega))
                replace hL : ∀ i, i < 20 → ltx G g f_7 (3 * i + 52) (LL i) (LG i) (i < na) := fun z hz => ltx_fr (hL z hz) (o_7 _ (by omega)) (o_7 _ (by omega)) (o_7 _ (by omega))
                replace hT : ∀ i, i < 4 → txt G g f_7 (3 * i + 117) (TL i) (TG i) := fun z hz => txt_fr (hT z hz) (o_7 _ (by omega)) (o_7 _ (by omega)) (o_7 _ (by omega))
                replace hB1 : bkD G g f_7 129 N1 E1 P1 L1 S1 W1 X1 := bkD_fr hB1 (fun j _ _ => o_7 j (by omega))
                replace hB2 : bkD G g f_7 222 N2 E2 P2 L2 S2 W2 X2 := bkD_fr hB2 (fun j _ _ => o_7 j (by omega))
                replace hQn : ∀ z, z < nt → cHz G g f_7 np nf nr na dp df dr da ct LL LG z := fun z hz => okQ_fr (hQn z hz) (o_7 _ (by omega)) (o_7 _ (by omega))
                exact W.iret (v := zo2 z (wz (cnt pl 32) ks)) hx hb hr (fun _ hT9 _ => ⟨⟨_, f_7, rfl, (⟨cJ_mk (nt) (hf) (imf) (mc) (op) (cm) (wu) (mk) (ab911) (be912) (mn) (le) (wt) (ww) (wb) (wf) (vv96) (lf) (tf) (hx0) (hctc) (hhs) (him) (hkp) (hrd) (hmk) (hfc6) (hwt) (hw8) (hw9) (hw10) (hw11) (hvl) (hbk) (hpr) (hpd) (hfr) (hfd) (hor) (hod) (har) (had) (htr) (hct) (hla) (hlaa) (hts0) (htsa) (by omega) (hhf) (him0) (him1) (by omega) (by omega) (by omega) (by omega) (by omega) (by omega) (by omega) (hlf) (htf) (by omega) (hH) (hSp) (hL) (hT) (hB1) (hB2) (hQn), (Or.inr ⟨tn, 1, htn, rfl, by decide, rfl, tw_end hz hpa4 rfl hq2 hks (hpl.symm.trans ((tvP_congr (fun p _ => nvF_congr (fun _ _ => rfl) (fun _ _ => rfl) hJ9)).trans ((congrArg (fun o9 => tvP np (nvF (fun i c => dp (4 * i + c)) (fun t c => ct (70 * t + c)) (cJr np nf nr na dp df dr da ct LL LG) (ct (70 * tn + 0)) nt) (Option.map (fun z => rdO (LL z) (LG z)) o9)) hx_5_1).symm.trans (if_neg (by decide)).symm)))⟩), fun j hj => (((o_7 j (by omega))).trans (o_6 j (by omega))).trans (o_4 j (by omega))⟩), by rw [hT9]; exact hP⟩, hS.F hT9⟩) hS.2.2 dX10_twelve_168
              · have hi3 : pa ≤ 3 := Nat.not_lt.mp (fun z => c_114 (nI_lt (a := 3) z (by omega)))
                have hcA : cnt (twP (fun i c => dp (4 * i + c)) np pl pa) 32 ≤ 30 := cnt_hi (tw_hi hpb)
                refine lv_lload hx hb dX10_twelve_117 (lv_at hl 3 rfl) ?_
                refine lv_iload hx hb dX10_twelve_119 (lv_at hl 2 rfl) ?_
                refine lv_aload_n hx hb dX10_twelve_121 rfl (lv_at hl 0 rfl) ?_
                refine va_get (D := G.1) (ci := 9) (v := .ref (g 36)) (C := RX10) (T := TX10) (N := 7) hx hb hts inlX10 hown hG.1 hP 0 (wl_at (by decide) hx0) rfl 1 (by decide) (hts (.fieldLink RX10 20 "SwornLists" "book" "LSwornLists$Book;") w_16) (fun _ h9 => h9) rfl dX10_twelve_122 ?_
                refine lv_iconst (v := 0) hx hb dX10_twelve_125 (by decide) ?_
                refine lv_iload hx hb dX10_twelve_126 (lv_at hl 4 rfl) ?_
                refine rd_calli (va_runV (As := [.int 0, .int (nI pa)]) (rest := [.int pl, .long (lN z)]) ⟨hx, hb, hml, hown, hts⟩ (k_peopleWithE l G g hg f_6 pay fine np dp 0 (nI pa) hbk hpr hpd (by first | assumption | omega | decide) (by first | assumption | omega | decide)) (my_cwV hts ok_X0_peopleWith w_791 rfl rfl ⟨Nat.le_of_ble_eq_true rfl, Nat.le_of_ble_eq_true rfl⟩) ⟨bP.blind, va_recv hG.1 hP (ci := 0) (q0 := 36) rfl (wl_at (by decide) hbk), fun U hU hW => ⟨rfl, by rw [hU]; exact hP, kG.warm hW hG⟩⟩ rfl rfl hl.1 rfl (lv_room (Nat.le_of_ble_eq_true rfl)) dX10_twelve_128 ⟨Nat.le_of_ble_eq_true rfl, Nat.le_of_ble_eq_true rfl⟩) (fun r hr9 => ?_)
                subst hr9
                refine lv_iand hx hb dX10_twelve_131 ?_
                refine rd_calli (va_runS (As := [.int (pl &&& (sO (fun i => decide (dp (4 * i + 0) = (nI pa))) np))]) (rest := [.long (lN z)]) ⟨hx, hb, hml, hown, hts⟩ (s_bitCountE l G g hg f_6 (pl &&& (sO (fun i => decide (dp (4 * i + 0) = (nI pa))) np))  ) (my_cwS hts ok_J6_bitCount_0f7a4 w_792 rfl rfl ⟨Nat.le_of_ble_eq_true rfl, Nat.le_of_ble_eq_true rfl⟩) ⟨bP.blind, fun U hU hW => ⟨rfl, by rw [hU]; exact hP, kG.warm hW hG⟩⟩ rfl rfl hl.1 rfl (lv_room (Nat.le_of_ble_eq_true rfl)) dX10_twelve_132 ⟨Nat.le_of_ble_eq_true rfl, Nat.le_of_ble_eq_true rfl⟩) (fun r hr9 => ?_)
                subst hr9
                refine my_bei (v := nI (cnt (twP (fun i c => dp (4 * i + c)) np pl pa) 32)) (rfl) ?_
                refine lv_iload hx hb dX10_twelve_135 (lv_at hl 1 rfl) ?_
                refine rd_calll (va_runS (As := [.int (nI (cnt (twP (fun i c => dp (4 * i + c)) np pl pa) 32)), .int (nI ks)]) (rest := [.long (lN z)]) ⟨hx, hb, hml, hown, hts⟩ (e_ways l G g hg f_6 (cnt (twP (fun i c => dp (4 * i + c)) np pl pa) 32) ks  (by first | assumption | omega | decide) (by first | assumption | omega | decide)) (my_cwS hts ok_X10_ways w_761 rfl rfl ⟨Nat.le_of_ble_eq_true rfl, Nat.le_of_ble_eq_true rfl⟩) ⟨bP.blind, fun U hU hW => ⟨rfl, by rw [hU]; exact hP, kG.warm hW hG⟩⟩ rfl rfl hl.1 rfl (lv_room (Nat.le_of_ble_eq_true rfl)) dX10_twelve_137 ⟨Nat.le_of_ble_eq_true rfl, Nat.le_of_ble_eq_true rfl⟩) (fun r hr9 => ?_)
                subst hr9
                refine lv_ladd hx hb dX10_twelve_140 ?_
                refine my_bel (v := lN (z + wz (cnt (twP (fun i c => dp (4 * i + c)) np pl pa) 32) ks)) (lN_add _ _) ?_
                refine lv_lstore (lv' := [(6, .long (lN (z + wz (cnt (twP (fun i c => dp (4 * i + c)) np pl pa) 32) ks))), (0, .ref (g 0)), (4, .int (nI ks)), (5, .int pl), (8, .int (nI pa))]) hx hb dX10_twelve_141 hl (by decide) rfl (fun ls hl => ?_)
                refine lv_iinc (v := nI (pa + 1)) (lv' := [(8, .int (nI (pa + 1))), (6, .long (lN (z + wz (cnt (twP (fun i c => dp (4 * i + c)) np pl pa) 32) ks))), (0, .ref (g 0)), (4, .int (nI ks)), (5, .int pl)]) hx hb dX10_twelve_143 hl (k := 4) rfl (nI_1 pa) (by decide) rfl (fun ls hl => ?_)
                refine lv_goto (tgt := 111) hx hb dX10_twelve_146 (by decide) ?_
                exact ih_9 (pa + 1) (z + wz (cnt (twP (fun i c => dp (4 * i + c)) np pl pa) 32) ks) f_6 _ _ _ (by omega) (by rw [hz]; rfl) (hH) (hSp) (hL) (hT) (hB1) (hB2) (hQn) (by omega) (hx0) (hctc) (hhs) (him) (hkp) (hrd) (hmk) (hfc6) (hwt) (hw8) (hw9) (hw10) (hw11) (hvl) (hbk) (hpr) (hpd) (hfr) (hfd) (hor) (hod) (har) (had) (htr) (hct) (hla) (hlaa) (hts0) (htsa) (hh7) (ho7) (fun j hj => (o_6 j (by omega))) hP hS (lv_sub hl [2, 3, 4, 1, 0] rfl)
          exact key9 (4 + 1) 0 0 f_4 _ _ _ (by omega) (rfl) (hH) (hSp) (hL) (hT) (hB1) (hB2) (hQn) (by omega) (hx0) (hctc) (hhs) (him) (hkp) (hrd) (hmk) (hfc6) (hwt) (hw8) (hw9) (hw10) (hw11) (hvl) (hbk) (hpr) (hpd) (hfr) (hfd) (hor) (hod) (har) (had) (htr) (hct) (hla) (hlaa) (hts0) (htsa) (hh7) (ho7) (fun j _ => rfl) hP hS (lv_sub hl [5, 3, 2, 1, 0] rfl)
        · have hiL8 := hx_5_0 i8 rfl
          obtain ⟨sc8, sp8, ⟨htx8, hsx8, hpx8, hln8, hsc8⟩, hls8, hlen8, hdl8, hol8⟩ := ltx_go (hL i8 (by omega)) (by omega)
          refine my_bea (v := .ref (g (3 * i8 + 52))) rfl ?_
          refine lv_iconst (v := 0) hx hb dX10_twelve_91 (by decide) ?_
          refine lv_iload_n hx hb dX10_twelve_92 rfl (lv_at hl 1 rfl) ?_
          refine lv_aload_n hx hb dX10_twelve_93 rfl (lv_at hl 2 rfl) ?_
          refine va_get (D := G.1) (ci := 9) (v := .ref (g 36)) (C := RX10) (T := TX10) (N := 7) hx hb hts inlX10 hown hG.1 hP 0 (wl_at (by decide) hx0) rfl 1 (by decide) (hts (.fieldLink RX10 20 "SwornLists" "book" "LSwornLists$Book;") w_16) (fun _ h9 => h9) rfl dX10_twelve_94 ?_
          replace hpr := ((o_4 37 (by first | decide | omega))).trans hpr
          replace hpd := ((o_4 38 (by first | decide | omega))).trans hpd
          refine rd_calli (va_runV (As := []) (rest := [.int (ct (70 * tn + 0)), .int 0, .ref (g (3 * i8 + 52)), .ref (g 1)]) ⟨hx, hb, hml, hown, hts⟩ (k_everyoneE l G g hg f_4 pay fine np dp hbk hpr hpd (by first | assumption | omega | decide)) (my_cwV hts ok_X0_everyone w_198 rfl rfl ⟨Nat.le_of_ble_eq_true rfl, Nat.le_of_ble_eq_true rfl⟩) ⟨bP.blind, va_recv hG.1 hP (ci := 0) (q0 := 36) rfl (wl_at (by decide) hbk), fun U hU hW => ⟨rfl, by rw [hU]; exact hP, kG.warm hW hG⟩⟩ rfl rfl hl.1 rfl (lv_room (Nat.le_of_ble_eq_true rfl)) dX10_twelve_97 ⟨Nat.le_of_ble_eq_true rfl, Nat.le_of_ble_eq_true rfl⟩) (fun r hr9 => ?_)
          subst hr9
          obtain ⟨sw, hZ, hJ9⟩ := okZ_J (Nat.le_refl nt) hH hQn hTr.2.2.1
          obtain ⟨pl, hpl⟩ : ∃ x9, tvP np (nvF (fun i c => dp (4 * i + c)) (fun t c => ct (70 * t + c)) sw (ct (70 * tn + 0)) nt) (some (rdO (LL i8) (LG i8))) = x9 := ⟨_, rfl⟩
          have hpb : ∀ k, 30 ≤ k → bt pl k = false := by rw [← hpl]; exact tv_hi hnp
          replace hhs := ((o_4 12 (by first | decide | omega))).trans hhs
          refine b_calli (va_runV (As := [.ref (g (3 * i8 + 52)), .int 0, .int (ct (70 * tn + 0)), .int ((1 <<< (nI np &&& 31)) - 1)]) (rest := []) ⟨hx, hb, hml, hown, hts⟩ (u_truthsTE l G g hg f_4 nt hf pay fine nt ct np dp (3 * i8 + 52) (LL i8) sc8 sp8 vv96 sw (rdO (LL i8) (LG i8)) 0 (ct (70 * tn + 0)) ((1 <<< (nI np &&& 31)) - 1) hctc hhs hbk htr hct hpr hpd htx8 hpx8 hvl (by first | assumption | omega | decide) (by first | assumption | omega | decide) (by first | assumption | omega | decide) (by first | assumption | omega | decide) (by first | assumption | omega | decide) (hln8) (hsc8) (by first | assumption | omega | decide) (hls8) (hlen8) (hdl8) (hol8) (hZ)) (my_cwV hts ok_X1_truths w_629 rfl rfl ⟨Nat.le_of_ble_eq_true rfl, Nat.le_of_ble_eq_true rfl⟩) ⟨bP.blind, va_recv hG.1 hP (ci := 1) (q0 := 1) rfl (wl_at (by decide) hctc), fun U hU hW => ⟨rfl, by rw [hU]; exact hP, kG.warm hW hG⟩⟩ rfl rfl hl.1 rfl (lv_room (Nat.le_of_ble_eq_true rfl)) dX10_twelve_100 ⟨Nat.le_of_ble_eq_true rfl, Nat.le_of_ble_eq_true rfl⟩) hS (fun v13 f_8 H locs hq9 hP hS => ?_)
          obtain ⟨vv914, rfl, hq_8_0, o_8⟩ := hq9
          have hvl : f_8 15 = eJ G 50 vv914 := hq_8_0
          refine my_bei (v := pl) (hpl) ?_
          refine lv_istore (lv' := [(5, .int pl), (4, .int (nI ks)), (3, .int (ct (70 * tn + 0))), (0, .ref (g 0)), (1, .int (nI tn)), (2, .int 1)]) hx hb dX10_twelve_103 hl (by decide) rfl (fun ls hl => ?_)
          refine lv_lconst (v := 0) hx hb dX10_twelve_105 (by decide) ?_
          refine my_bel (v := lN 0) (rfl) ?_
          refine lv_lstore (lv' := [(6, .long (lN 0)), (5, .int pl), (4, .int (nI ks)), (3, .int (ct (70 * tn + 0))), (0, .ref (g 0)), (1, .int (nI tn)), (2, .int 1)]) hx hb dX10_twelve_106 hl (by decide) rfl (fun ls hl => ?_)
          refine lv_iconst (v := 0) hx hb dX10_twelve_108 (by decide) ?_
          refine lv_istore (lv' := [(8, .int 0), (6, .long (lN 0)), (5, .int pl), (4, .int (nI ks)), (3, .int (ct (70 * tn + 0))), (0, .ref (g 0)), (1, .int (nI tn)), (2, .int 1)]) hx hb dX10_twelve_109 hl (by decide) rfl (fun ls hl => ?_)
          replace hH : ∀ i, i < 10 → okH G g f_8 (2 * i + 16) := fun z hz => okH_fr (hH z hz) (o_8 _ (by omega)) (o_8 _ (by omega))
          replace hSp : okH G g f_4 13 := okH_fr hSp (o_4 _ (by omega)) (o_4 _ (by omega))
          replace hSp : okH G g f_8 13 := okH_fr hSp (o_8 _ (by omega)) (o_8 _ (by omega))
          replace hL : ∀ i, i < 20 → ltx G g f_8 (3 * i + 52) (LL i) (LG i) (i < na) := fun z hz => ltx_fr (hL z hz) (o_8 _ (by omega)) (o_8 _ (by omega)) (o_8 _ (by omega))
          replace hT : ∀ i, i < 4 → txt G g f_4 (3 * i + 117) (TL i) (TG i) := fun z hz => txt_fr (hT z hz) (o_4 _ (by omega)) (o_4 _ (by omega)) (o_4 _ (by omega))
          replace hT : ∀ i, i < 4 → txt G g f_8 (3 * i + 117) (TL i) (TG i) := fun z hz => txt_fr (hT z hz) (o_8 _ (by omega)) (o_8 _ (by omega)) (o_8 _ (by omega))
          replace hB1 : bkD G g f_4 129 N1 E1 P1 L1 S1 W1 X1 := bkD_fr hB1 (fun j _ _ => o_4 j (by omega))
          replace hB1 : bkD G g f_8 129 N1 E1 P1 L1 S1 W1 X1 := bkD_fr hB1 (fun j _ _ => o_8 j (by omega))
          replace hB2 : bkD G g f_4 222 N2 E2 P2 L2 S2 W2 X2 := bkD_fr hB2 (fun j _ _ => o_4 j (by omega))
          replace hB2 : bkD G g f_8 222 N2 E2 P2 L2 S2 W2 X2 := bkD_fr hB2 (fun j _ _ => o_8 j (by omega))
          replace hQn : ∀ z, z < nt → cHz G g f_8 np nf nr na dp df dr da ct LL LG z := fun z hz => okQ_fr (hQn z hz) (o_8 _ (by omega)) (o_8 _ (by omega))
          replace hx0 := ((o_8 0 (by first | decide | omega))).trans hx0
          replace hctc := ((o_8 1 (by first | decide | omega))).trans hctc
          replace hhs := ((o_8 12 (by first | decide | omega))).trans hhs
          replace him := ((o_8 2 (by first | decide | omega)).trans ((o_4 2 (by first | decide | omega)))).trans him
          replace hkp := ((o_8 3 (by first | decide | omega)).trans ((o_4 3 (by first | decide | omega)))).trans hkp
          replace hrd := ((o_8 4 (by first | decide | omega)).trans ((o_4 4 (by first | decide | omega)))).trans hrd
          replace hmk := ((o_8 5 (by first | decide | omega)).trans ((o_4 5 (by first | decide | omega)))).trans hmk
          replace hfc6 := ((o_8 6 (by first | decide | omega)).trans ((o_4 6 (by first | decide | omega)))).trans hfc6
          replace hwt := ((o_8 7 (by first | decide | omega)).trans ((o_4 7 (by first | decide | omega)))).trans hwt
          replace hw8 := ((o_8 8 (by first | decide | omega)).trans ((o_4 8 (by first | decide | omega)))).trans hw8
          replace hw9 := ((o_8 9 (by first | decide | omega)).trans ((o_4 9 (by first | decide | omega)))).trans hw9
          replace hw10 := ((o_8 10 (by first | decide | omega)).trans ((o_4 10 (by first | decide | omega)))).trans hw10
          replace hw11 := ((o_8 11 (by first | decide | omega)).trans ((o_4 11 (by first | decide | omega)))).trans hw11
          replace hbk := ((o_8 36 (by first | decide | omega))).trans hbk
          replace hpr := ((o_8 37 (by first | decide | omega))).trans hpr
          replace hpd := ((o_8 38 (by first | decide | omega))).trans hpd
          replace hfr := ((o_8 39 (by first | decide | omega)).trans ((o_4 39 (by first | decide | omega)))).trans hfr
          replace hfd := ((o_8 40 (by first | decide | omega)).trans ((o_4 40 (by first | decide | omega)))).trans hfd
          replace hor := ((o_8 41 (by first | decide | omega)).trans ((o_4 41 (by first | decide | omega)))).trans hor
          replace hod := ((o_8 42 (by first | decide | omega)).trans ((o_4 42 (by first | decide | omega)))).trans hod
          replace har := ((o_8 43 (by first | decide | omega))).trans har
          replace had := ((o_8 44 (by first | decide | omega))).trans had
          replace htr := ((o_8 45 (by first | decide | omega))).trans htr
          replace hct := ((o_8 46 (by first | decide | omega))).trans hct
          replace hla := ((o_8 47 (by first | decide | omega))).trans hla
          replace hlaa := ((o_8 48 (by first | decide | omega))).trans hlaa
          replace hts0 := ((o_8 112 (by first | decide | omega)).trans ((o_4 112 (by first | decide | omega)))).trans hts0
          replace htsa := ((o_8 113 (by first | decide | omega)).trans ((o_4 113 (by first | decide | omega)))).trans htsa
          replace hh7 : f_8 (2 * tn + 16) = eO 3 [.ref (g (2 * tn + 17)), .int (nI (hM (cBx np nf nr na dp df dr da ct LL LG tn) (fun c => ct (70 * tn + c)))), .int (lotF (ct (70 * tn + 7)) (hM (cBx np nf nr na dp df dr da ct LL LG tn) (fun c => ct (70 * tn + c)))), .int (cBx np nf nr na dp df dr da ct LL LG tn), .int (hCa (cBx np nf nr na dp df dr da ct LL LG tn) (fun c => ct (70 * tn + c))), .int (hMi (cBx np nf nr na dp df dr da ct LL LG tn) (fun c => ct (70 * tn + c))), .int ((hX (cBx np nf nr na dp df dr da ct LL LG tn) (fun c => ct (70 * tn + c))).1), .int ((hX (cBx np nf nr na dp df dr da ct LL LG tn) (fun c => ct (70 * tn + c))).2), .int (hSw (cBx np nf nr na dp df dr da ct LL LG tn) (pasV (cFt np nf nr na dp df dr da ct LL LG tn) (cBx np nf nr na dp df dr da ct LL LG tn)) (fun c => ct (70 * tn + c)))] := ((o_8 (2 * tn + 16) (by omega))).trans hh7
          replace ho7 : f_8 (2 * tn + 17) = eI G 24 od7 := ((o_8 (2 * tn + 17) (by omega))).trans ho7
          replace htx8 : f_8 (3 * i8 + 52) = eO 7 [.ref (g (3 * i8 + 53)), .ref (g (3 * i8 + 54)), .int (nI (LL i8)), .int (nI sc8)] := ((o_8 (3 * i8 + 52) (by omega))).trans htx8
          replace hsx8 : f_8 (3 * i8 + 53) = eI G 50 (LG i8) := ((o_8 (3 * i8 + 53) (by omega))).trans hsx8
          replace hpx8 : f_8 (3 * i8 + 54) = eI G 50 sp8 := ((o_8 (3 * i8 + 54) (by omega))).trans hpx8
          have key15 : ∀ (n9_15 : Nat) (pa : Nat) (z : Nat) (f_9 : Nat → va_E) (H : Heap) (locs : List Loc) (ls : Array Slot), (pa ≤ 4) → (z = twS (fun i c => dp (4 * i + c)) np pl ks pa) → (∀ i, i < 10 → okH G g f_9 (2 * i + 16)) → (okH G g f_9 13) → (∀ i, i < 20 → ltx G g f_9 (3 * i + 52) (LL i) (LG i) (i < na)) → (∀ i, i < 4 → txt G g f_9 (3 * i + 117) (TL i) (TG i)) → (bkD G g f_9 129 N1 E1 P1 L1 S1 W1 X1) → (bkD G g f_9 222 N2 E2 P2 L2 S2 W2 X2) → (∀ z, z < nt → cHz G g f_9 np nf nr na dp df dr da ct LL LG z) → 4 - pa < n9_15 → f_9 0 = eO 9 [.ref (g 1), .ref (g 36), .ref (g 2), .ref (g 3), .ref (g 4), .ref (g 6), .ref (g 7)] → f_9 1 = eO 1 [.ref (g 36), .ref (g 12), .ref (g 13), .ref (g 15), .int (nI nt)] → f_9 12 = eA G 4 10 hf → f_9 2 = eA G 3 2 imf → f_9 3 = eZ G 2 kf → f_9 4 = eO 4 [.ref (g 5), .int (nI mc), .int op, .int cm, .int wu] → f_9 5 = eI G 50 mk → f_9 6 = eO 2 [.long ab, .long be] → f_9 7 = eO 8 [.ref (g 8), .ref (g 9), .ref (g 10), .ref (g 11), .int (nI mn), .int le] → f_9 8 = eI G 6 wt → f_9 9 = eI G 6 ww → f_9 10 = eI G 6 wb → f_9 11 = eI G 6 wf → f_9 15 = eJ G 50 vv914 → f_9 36 = eO 0 [.ref (g 37), .ref (g 39), .ref (g 41), .ref (g 43), .ref (g 45), .ref (g 47), .ref (g 112), .int pay, .int fine] → f_9 37 = eO 5 [.int (nI 30), .int (nI 4), .ref (g 38), .int (nI np)] → f_9 38 = eI G (30 * 4) dp → f_9 39 = eO 5 [.int (nI 40), .int (nI 3), .ref (g 40), .int (nI nf)] → f_9 40 = eI G (40 * 3) df → f_9 41 = eO 5 [.int (nI 4), .int (nI 3), .ref (g 42), .int (nI nr)] → f_9 42 = eI G (4 * 3) dr → f_9 43 = eO 5 [.int (nI 20), .int (nI 3), .ref (g 44), .int (nI na)] → f_9 44 = eI G (20 * 3) da → f_9 45 = eO 5 [.int (nI 10), .int (nI 70), .ref (g 46), .int (nI nt)] → f_9 46 = eI G (10 * 70) ct → f_9 47 = eO 6 [.ref (g 48), .ref (g 49)] → f_9 48 = eA G 5 20 lf → f_9 112 = eO 6 [.ref (g 113), .ref (g 114)] → f_9 113 = eA G 5 4 tf → f_9 (2 * tn + 16) = eO 3 [.ref (g (2 * tn + 17)), .int (nI (hM (cBx np nf nr na dp df dr da ct LL LG tn) (fun c => ct (70 * tn + c)))), .int (lotF (ct (70 * tn + 7)) (hM (cBx np nf nr na dp df dr da ct LL LG tn) (fun c => ct (70 * tn + c)))), .int (cBx np nf nr na dp df dr da ct LL LG tn), .int (hCa (cBx np nf nr na dp df dr da ct LL LG tn) (fun c => ct (70 * tn + c))), .int (hMi (cBx np nf nr na dp df dr da ct LL LG tn) (fun c => ct (70 * tn + c))), .int ((hX (cBx np nf nr na dp df dr da ct LL LG tn) (fun c => ct (70 * tn + c))).1), .int ((hX (cBx np nf nr na dp df dr da ct LL LG tn) (fun c => ct (70 * tn + c))).2), .int (hSw (cBx np nf nr na dp df dr da ct LL LG tn) (pasV (cFt np nf nr na dp df dr da ct LL LG tn) (cBx np nf nr na dp df dr da ct LL LG tn)) (fun c => ct (70 * tn + c)))] → f_9 (2 * tn + 17) = eI G 24 od7 → f_9 (3 * i8 + 52) = eO 7 [.ref (g (3 * i8 + 53)), .ref (g (3 * i8 + 54)), .int (nI (LL i8)), .int (nI sc8)] → f_9 (3 * i8 + 53) = eI G 50 (LG i8) → f_9 (3 * i8 + 54) = eI G 50 sp8 → (∀ j, (j < 333 ∨ 333 ≤ j) → f_9 j = f_8 j) → va_P G.1 vwCl (wl g f_9) H → va_S (gA g) s.heap H locs → lv_has ls 9 [(0, .ref (g 0)), (4, .int (nI ks)), (5, .int pl), (6, .long (lN z)), (8, .int (nI pa))] → W p l e (headSpec (wsT yX10_twelve cX10_twelve 9 (some .int)) ({ frames := 7, cells := 0, slots := 0, locals := 176 })).room s m ([.ref (g 0), .int (nI tn), .int 1] : List Value).toArray below meth c H locs 0 0 Q9 (F0 m 111 ls []) := by
            intro n9_15
            induction n9_15 with
            | zero => intro pa z f_9 H locs ls hi hz hH hSp hL hT hB1 hB2 hQn hn9_15; exact absurd hn9_15 (Nat.not_lt_zero _)
            | succ n9_15 ih_15 =>
              intro pa z f_9 H locs ls hi hz hH hSp hL hT hB1 hB2 hQn hn9_15 hx0 hctc hhs him hkp hrd hmk hfc6 hwt hw8 hw9 hw10 hw11 hvl hbk hpr hpd hfr hfd hor hod har had htr hct hla hlaa hts0 htsa hh7 ho7 htx8 hsx8 hpx8 o_9 hP hS hl
              refine lv_iload hx hb dX10_twelve_111 (lv_at hl 4 rfl) ?_
              refine lv_iconst (v := 3) hx hb dX10_twelve_113 (by decide) ?_
              refine lv_icmp_gt (tgt := 149) hx hb dX10_twelve_114 (by decide) (fun c_114 => ?_) (fun c_114 => ?_)
              · have hpa4 : pa = 4 := by
                  have h9 := (nI_ltI (a := 3) (by omega) (by omega)).mp c_114
                  omega
                have hzb : z ≤ 4 * 1099511627776 := by
                  have h9 := twS_b (P := (fun i c => dp (4 * i + c))) (np := np) (ks := ks) hpb 4
                  rw [hz, hpa4]
                  exact h9
                have hcP : cnt pl 32 ≤ 30 := cnt_hi hpb
                have hwb : wz (cnt pl 32) ks ≤ 1099511627776 := wz_s (by omega)
                refine lv_aload_n hx hb dX10_twelve_149 rfl (lv_at hl 0 rfl) ?_
                refine va_get (D := G.1) (ci := 9) (v := .ref (g 6)) (C := RX10) (T := TX10) (N := 7) hx hb hts inlX10 hown hG.1 hP 0 (wl_at (by decide) hx0) rfl 5 (by decide) (hts (.fieldLink RX10 41 "SwornLists" "fraction" "LSwornLists$Fraction;") w_28) (fun _ h9 => h9) rfl dX10_twelve_150 ?_
                refine lv_lload hx hb dX10_twelve_153 (lv_at hl 3 rfl) ?_
                refine lv_iload hx hb dX10_twelve_155 (lv_at hl 2 rfl) ?_
                refine rd_calli (va_runS (As := [.int pl]) (rest := [.long (lN z), .ref (g 6)]) ⟨hx, hb, hml, hown, hts⟩ (s_bitCountE l G g hg f_9 pl  ) (my_cwS hts ok_J6_bitCount_0f7a4 w_792 rfl rfl ⟨Nat.le_of_ble_eq_true rfl, Nat.le_of_ble_eq_true rfl⟩) ⟨bP.blind, fun U hU hW => ⟨rfl, by rw [hU]; exact hP, kG.warm hW hG⟩⟩ rfl rfl hl.1 rfl (lv_room (Nat.le_of_ble_eq_true rfl)) dX10_twelve_157 ⟨Nat.le_of_ble_eq_true rfl, Nat.le_of_ble_eq_true rfl⟩) (fun r hr9 => ?_)
                subst hr9
                refine lv_iload hx hb dX10_twelve_160 (lv_at hl 1 rfl) ?_
                refine rd_calll (va_runS (As := [.int (nI (cnt pl 32)), .int (nI ks)]) (rest := [.long (lN z), .ref (g 6)]) ⟨hx, hb, hml, hown, hts⟩ (e_ways l G g hg f_9 (cnt pl 32) ks  (by first | assumption | omega | decide) (by first | assumption | omega | decide)) (my_cwS hts ok_X10_ways w_761 rfl rfl ⟨Nat.le_of_ble_eq_true rfl, Nat.le_of_ble_eq_true rfl⟩) ⟨bP.blind, fun U hU hW => ⟨rfl, by rw [hU]; exact hP, kG.warm hW hG⟩⟩ rfl rfl hl.1 rfl (lv_room (Nat.le_of_ble_eq_true rfl)) dX10_twelve_162 ⟨Nat.le_of_ble_eq_true rfl, Nat.le_of_ble_eq_true rfl⟩) (fun r hr9 => ?_)
                subst hr9
                refine b_calli (va_runV (As := [.long (lN z), .long (lN (wz (cnt pl 32) ks))]) (rest := []) ⟨hx, hb, hml, hown, hts⟩ (e_become2 l G g hg f_9 ab be z (wz (cnt pl 32) ks) hfc6 (by first | assumption | omega | decide) (by first | assumption | omega | decide)) (my_cwV hts ok_X2_become w_764 rfl rfl ⟨Nat.le_of_ble_eq_true rfl, Nat.le_of_ble_eq_true rfl⟩) ⟨bP.blind, va_recv hG.1 hP (ci := 2) (q0 := 6) rfl (wl_at (by decide) hfc6), fun U hU hW => ⟨rfl, by rw [hU]; exact hP, kG.warm hW hG⟩⟩ rfl rfl hl.1 rfl (lv_room (Nat.le_of_ble_eq_true rfl)) dX10_twelve_165 ⟨Nat.le_of_ble_eq_true rfl, Nat.le_of_ble_eq_true rfl⟩) hS (fun v16 f_10 H locs hq9 hP hS => ?_)
                obtain ⟨ab917, be918, rfl, hq_10_0, o_10⟩ := hq9
                have hfc6 : f_10 6 = eO 2 [.long ab917, .long be918] := hq_10_0
                refine W_q9 hQ9 ?_
                replace hx0 := ((o_10 0 (by first | decide | omega))).trans hx0
                replace hctc := ((o_10 1 (by first | decide | omega))).trans hctc
                replace hhs := ((o_10 12 (by first | decide | omega))).trans hhs
                replace him := ((o_10 2 (by first | decide | omega))).trans him
                replace hkp := ((o_10 3 (by first | decide | omega))).trans hkp
                replace hrd := ((o_10 4 (by first | decide | omega))).trans hrd
                replace hmk := ((o_10 5 (by first | decide | omega))).trans hmk
                replace hwt := ((o_10 7 (by first | decide | omega))).trans hwt
                replace hw8 := ((o_10 8 (by first | decide | omega))).trans hw8
                replace hw9 := ((o_10 9 (by first | decide | omega))).trans hw9
                replace hw10 := ((o_10 10 (by first | decide | omega))).trans hw10
                replace hw11 := ((o_10 11 (by first | decide | omega))).trans hw11
                replace hvl := ((o_10 15 (by first | decide | omega))).trans hvl
                replace hbk := ((o_10 36 (by first | decide | omega))).trans hbk
                replace hpr := ((o_10 37 (by first | decide | omega))).trans hpr
                replace hpd := ((o_10 38 (by first | decide | omega))).trans hpd
                replace hfr := ((o_10 39 (by first | decide | omega))).trans hfr
                replace hfd := ((o_10 40 (by first | decide | omega))).trans hfd
                replace hor := ((o_10 41 (by first | decide | omega))).trans hor
                replace hod := ((o_10 42 (by first | decide | omega))).trans hod
                replace har := ((o_10 43 (by first | decide | omega))).trans har
                replace had := ((o_10 44 (by first | decide | omega))).trans had
                replace htr := ((o_10 45 (by first | decide | omega))).trans htr
                replace hct := ((o_10 46 (by first | decide | omega))).trans hct
                replace hla := ((o_10 47 (by first | decide | omega))).trans hla
                replace hlaa := ((o_10 48 (by first | decide | omega))).trans hlaa
                replace hts0 := ((o_10 112 (by first | decide | omega))).trans hts0
                replace htsa := ((o_10 113 (by first | decide | omega))).trans htsa
                replace hH : ∀ i, i < 10 → okH G g f_10 (2 * i + 16) := fun z hz => okH_fr (hH z hz) (o_10 _ (by omega)) (o_10 _ (by omega))
                replace hSp : okH G g f_10 13 := okH_fr hSp (o_10 _ (by omega)) (o_10 _ (by omega))
                replace hL : ∀ i, i < 20 → ltx G g f_10 (3 * i + 52) (LL i) (LG i) (i < na) := fun z hz => ltx_fr (hL z hz) (o_10 _ (by omega)) (o_10 _ (by omega)) (o_10 _ (by omega))
                replace hT : ∀ i, i < 4 → txt G g f_10 (3 * i + 117) (TL i) (TG i) := fun z hz => txt_fr (hT z hz) (o_10 _ (by omega)) (o_10 _ (by omega)) (o_10 _ (by omega))
                replace hB1 : bkD G g f_10 129 N1 E1 P1 L1 S1 W1 X1 := bkD_fr hB1 (fun j _ _ => o_10 j (by omega))
                replace hB2 : bkD G g f_10 222 N2 E2 P2 L2 S2 W2 X2 := bkD_fr hB2 (fun j _ _ => o_10 j (by omega))
                replace hQn : ∀ z, z < nt → cHz G g f_10 np nf nr na dp df dr da ct LL LG z := fun z hz => okQ_fr (hQn z hz) (o_10 _ (by omega)) (o_10 _ (by omega))
                exact W.iret (v := zo2 z (wz (cnt pl 32) ks)) hx hb hr (fun _ hT9 _ => ⟨⟨_, f_10, rfl, (⟨cJ_mk (nt) (hf) (imf) (mc) (op) (cm) (wu) (mk) (ab917) (be918) (mn) (le) (wt) (ww) (wb) (wf) (vv914) (lf) (tf) (hx0) (hctc) (hhs) (him) (hkp) (hrd) (hmk) (hfc6) (hwt) (hw8) (hw9) (hw10) (hw11) (hvl) (hbk) (hpr) (hpd) (hfr) (hfd) (hor) (hod) (har) (had) (htr) (hct) (hla) (hlaa) (hts0) (htsa) (by omega) (hhf) (him0) (him1) (by omega) (by omega) (by omega) (by omega) (by omega) (by omega) (by omega) (hlf) (htf) (by omega) (hH) (hSp) (hL) (hT) (hB1) (hB2) (hQn), (Or.inr ⟨tn, 1, htn, rfl, by decide, rfl, tw_end hz hpa4 rfl hq2 hks (hpl.symm.trans ((tvP_congr (fun p _ => nvF_congr (fun _ _ => rfl) (fun _ _ => rfl) hJ9)).trans ((congrArg (fun o9 => tvP np (nvF (fun i c => dp (4 * i + c)) (fun t c => ct (70 * t + c)) (cJr np nf nr na dp df dr da ct LL LG) (ct (70 * tn + 0)) nt) (Option.map (fun z => rdO (LL z) (LG z)) o9)) hx_5_1).symm.trans (if_neg (by decide)).symm)))⟩), fun j hj => ((((o_10 j (by omega))).trans (o_9 j (by omega))).trans (o_8 j (by omega))).trans (o_4 j (by omega))⟩), by rw [hT9]; exact hP⟩, hS.F hT9⟩) hS.2.2 dX10_twelve_168
              · have hi3 : pa ≤ 3 := Nat.not_lt.mp (fun z => c_114 (nI_lt (a := 3) z (by omega)))
                have hcA : cnt (twP (fun i c => dp (4 * i + c)) np pl pa) 32 ≤ 30 := cnt_hi (tw_hi hpb)
                refine lv_lload hx hb dX10_twelve_117 (lv_at hl 3 rfl) ?_
                refine lv_iload hx hb dX10_twelve_119 (lv_at hl 2 rfl) ?_
                refine lv_aload_n hx hb dX10_twelve_121 rfl (lv_at hl 0 rfl) ?_
                refine va_get (D := G.1) (ci := 9) (v := .ref (g 36)) (C := RX10) (T := TX10) (N := 7) hx hb hts inlX10 hown hG.1 hP 0 (wl_at (by decide) hx0) rfl 1 (by decide) (hts (.fieldLink RX10 20 "SwornLists" "book" "LSwornLists$Book;") w_16) (fun _ h9 => h9) rfl dX10_twelve_122 ?_
                refine lv_iconst (v := 0) hx hb dX10_twelve_125 (by decide) ?_
                refine lv_iload hx hb dX10_twelve_126 (lv_at hl 4 rfl) ?_
                refine rd_calli (va_runV (As := [.int 0, .int (nI pa)]) (rest := [.int pl, .long (lN z)]) ⟨hx, hb, hml, hown, hts⟩ (k_peopleWithE l G g hg f_9 pay fine np dp 0 (nI pa) hbk hpr hpd (by first | assumption | omega | decide) (by first | assumption | omega | decide)) (my_cwV hts ok_X0_peopleWith w_791 rfl rfl ⟨Nat.le_of_ble_eq_true rfl, Nat.le_of_ble_eq_true rfl⟩) ⟨bP.blind, va_recv hG.1 hP (ci := 0) (q0 := 36) rfl (wl_at (by decide) hbk), fun U hU hW => ⟨rfl, by rw [hU]; exact hP, kG.warm hW hG⟩⟩ rfl rfl hl.1 rfl (lv_room (Nat.le_of_ble_eq_true rfl)) dX10_twelve_128 ⟨Nat.le_of_ble_eq_true rfl, Nat.le_of_ble_eq_true rfl⟩) (fun r hr9 => ?_)
                subst hr9
                refine lv_iand hx hb dX10_twelve_131 ?_
                refine rd_calli (va_runS (As := [.int (pl &&& (sO (fun i => decide (dp (4 * i + 0) = (nI pa))) np))]) (rest := [.long (lN z)]) ⟨hx, hb, hml, hown, hts⟩ (s_bitCountE l G g hg f_9 (pl &&& (sO (fun i => decide (dp (4 * i + 0) = (nI pa))) np))  ) (my_cwS hts ok_J6_bitCount_0f7a4 w_792 rfl rfl ⟨Nat.le_of_ble_eq_true rfl, Nat.le_of_ble_eq_true rfl⟩) ⟨bP.blind, fun U hU hW => ⟨rfl, by rw [hU]; exact hP, kG.warm hW hG⟩⟩ rfl rfl hl.1 rfl (lv_room (Nat.le_of_ble_eq_true rfl)) dX10_twelve_132 ⟨Nat.le_of_ble_eq_true rfl, Nat.le_of_ble_eq_true rfl⟩) (fun r hr9 => ?_)
                subst hr9
                refine my_bei (v := nI (cnt (twP (fun i c => dp (4 * i + c)) np pl pa) 32)) (rfl) ?_
                refine lv_iload hx hb dX10_twelve_135 (lv_at hl 1 rfl) ?_
                refine rd_calll (va_runS (As := [.int (nI (cnt (twP (fun i c => dp (4 * i + c)) np pl pa) 32)), .int (nI ks)]) (rest := [.long (lN z)]) ⟨hx, hb, hml, hown, hts⟩ (e_ways l G g hg f_9 (cnt (twP (fun i c => dp (4 * i + c)) np pl pa) 32) ks  (by first | assumption | omega | decide) (by first | assumption | omega | decide)) (my_cwS hts ok_X10_ways w_761 rfl rfl ⟨Nat.le_of_ble_eq_true rfl, Nat.le_of_ble_eq_true rfl⟩) ⟨bP.blind, fun U hU hW => ⟨rfl, by rw [hU]; exact hP, kG.warm hW hG⟩⟩ rfl rfl hl.1 rfl (lv_room (Nat.le_of_ble_eq_true rfl)) dX10_twelve_137 ⟨Nat.le_of_ble_eq_true rfl, Nat.le_of_ble_eq_true rfl⟩) (fun r hr9 => ?_)
                subst hr9
                refine lv_ladd hx hb dX10_twelve_140 ?_
                refine my_bel (v := lN (z + wz (cnt (twP (fun i c => dp (4 * i + c)) np pl pa) 32) ks)) (lN_add _ _) ?_
                refine lv_lstore (lv' := [(6, .long (lN (z + wz (cnt (twP (fun i c => dp (4 * i + c)) np pl pa) 32) ks))), (0, .ref (g 0)), (4, .int (nI ks)), (5, .int pl), (8, .int (nI pa))]) hx hb dX10_twelve_141 hl (by decide) rfl (fun ls hl => ?_)
                refine lv_iinc (v := nI (pa + 1)) (lv' := [(8, .int (nI (pa + 1))), (6, .long (lN (z + wz (cnt (twP (fun i c => dp (4 * i + c)) np pl pa) 32) ks))), (0, .ref (g 0)), (4, .int (nI ks)), (5, .int pl)]) hx hb dX10_twelve_143 hl (k := 4) rfl (nI_1 pa) (by decide) rfl (fun ls hl => ?_)
                refine lv_goto (tgt := 111) hx hb dX10_twelve_146 (by decide) ?_
                exact ih_15 (pa + 1) (z + wz (cnt (twP (fun i c => dp (4 * i + c)) np pl pa) 32) ks) f_9 _ _ _ (by omega) (by rw [hz]; rfl) (hH) (hSp) (hL) (hT) (hB1) (hB2) (hQn) (by omega) (hx0) (hctc) (hhs) (him) (hkp) (hrd) (hmk) (hfc6) (hwt) (hw8) (hw9) (hw10) (hw11) (hvl) (hbk) (hpr) (hpd) (hfr) (hfd) (hor) (hod) (har) (had) (htr) (hct) (hla) (hlaa) (hts0) (htsa) (hh7) (ho7) (htx8) (hsx8) (hpx8) (fun j hj => (o_9 j (by omega))) hP hS (lv_sub hl [2, 3, 4, 1, 0] rfl)
          exact key15 (4 + 1) 0 0 f_8 _ _ _ (by omega) (rfl) (hH) (hSp) (hL) (hT) (hB1) (hB2) (hQn) (by omega) (hx0) (hctc) (hhs) (him) (hkp) (hrd) (hmk) (hfc6) (hwt) (hw8) (hw9) (hw10) (hw11) (hvl) (hbk) (hpr) (hpd) (hfr) (hfd) (hor) (hod) (har) (had) (htr) (hct) (hla) (hlaa) (hts0) (htsa) (hh7) (ho7) (htx8) (hsx8) (hpx8) (fun j _ => rfl) hP hS (lv_sub hl [5, 3, 2, 1, 0] rfl)
    · refine lv_bipush (v := (-2)) hx hb dX10_twelve_23 (by decide) ?_
      refine W_q9 hQ9 ?_
      exact W.iret (v := (-2)) hx hb hr (fun _ hT9 _ => ⟨⟨_, f, rfl, (⟨cJ_mk (se) (hf) (imf) (mc) (op) (cm) (wu) (mk) (ab) (be) (mn) (le) (wt) (ww) (wb) (wf) (vv) (lf) (tf) (hx0) (hctc) (hhs) (him) (hkp) (hrd) (hmk) (hfc6) (hwt) (hw8) (hw9) (hw10) (hw11) (hvl) (hbk) (hpr) (hpd) (hfr) (hfd) (hor) (hod) (har) (had) (htr) (hct) (hla) (hlaa) (hts0) (htsa) (by omega) (hhf) (him0) (him1) (by omega) (by omega) (by omega) (by omega) (by omega) (by omega) (by omega) (hlf) (htf) (by omega) (hH) (hSp) (hL) (hT) (hB1) (hB2) (hQ), (Or.inl ⟨fun z => c_20 z.2, rfl⟩), fun j hj => rfl⟩), by rw [hT9]; exact hP⟩, hS.F hT9⟩) hS.2.2 dX10_twelve_25
theorem j_twelve (l : Launch) (G : gW) (g : Nat → Nat) (hg : gOK g) (f : Nat → va_E) (np : Nat) (dp : Nat → Int32) (nf : Nat) (df : Nat → Int32) (nr : Nat) (dr : Nat → Int32) (nt : Nat) (ct : Nat → Int32) (pay : Int32) (fine : Int32) (kf : Nat → Int32) (na : Nat) (da : Nat → Int32) (TL : Nat → Nat) (TG : Nat → Nat → Int32) (LL : Nat → Nat) (LG : Nat → Nat → Int32) (N1 : Nat → Nat) (E1 : Nat → Nat → Int32) (P1 : Nat → Int32) (L1 : Nat → Nat) (S1 : Nat → Nat → Int32) (W1 : Nat → Nat) (X1 : Nat → Nat → Int32) (N2 : Nat → Nat) (E2 : Nat → Nat → Int32) (P2 : Nat → Int32) (L2 : Nat → Nat) (S2 : Nat → Nat → Int32) (W2 : Nat → Nat) (X2 : Nat → Nat → Int32) (a1 : Int32) (a2 : Int32) (hI : cJ G g f np dp nf df nr dr nt ct pay fine kf na da TL TG LL LG N1 E1 P1 L1 S1 W1 X1 N2 E2 P2 L2 S2 W2 X2) (hTr : trC ct nt) : Met l yX10_twelve (wsT yX10_twelve cX10_twelve 9 (some .int)) ({ frames := 7, cells := 0, slots := 0, locals := 176 }) (bP G g f [.ref (g 0), .int a1, .int a2]) (bQi G g (fun (z9 : Int32) (f' : Nat → va_E) => (cJ G g f' np dp nf df nr dr nt ct pay fine kf na da TL TG LL LG N1 E1 P1 L1 S1 W1 X1 N2 E2 P2 L2 S2 W2 X2) ∧ ((¬ (inN a1 nt = true ∧ inB 0 a2 1 = true) ∧ z9 = -2) ∨ (∃ x k, x < nt ∧ a1 = nI x ∧ k ≤ 1 ∧ a2 = nI k ∧ z9 = twA (fun i c => dp (4 * i + c)) np (if k = 0 then cBx np nf nr na dp df dr da ct LL LG x else tvP np (nvF (fun i c => dp (4 * i + c)) (fun t c => ct (70 * t + c)) (cJr np nf nr na dp df dr da ct LL LG) (ct (70 * x + 0)) nt) ((fcB (fun i c => da (3 * i + c)) 0 (ct (70 * x + 0)) na).map (fun z => rdO (LL z) (LG z)))) (ct (70 * x + 2)))) ∧ ∀ j, 315 ≤ j → f' j = f j)) 0 0 (gA g) := cJ_elim hI (fun se hf imf mc op cm wu mk ab be mn le wt ww wb wf vv lf tf hx0 hctc hhs him hkp hrd hmk hfc6 hwt hw8 hw9 hw10 hw11 hvl hbk hpr hpd hfr hfd hor hod har had htr hct hla hlaa hts0 htsa hse hhf him0 him1 hmc hmn hnp hnf hnr hna hnt hlf htf hsn hH hSp hL hT hB1 hB2 hQ => jn_twelve l G g hg f se hf imf kf mc op cm wu mk ab be mn le wt ww wb wf vv pay fine np dp nf df nr dr na da nt ct lf tf TL TG LL LG N1 E1 P1 L1 S1 W1 X1 N2 E2 P2 L2 S2 W2 X2 a1 a2 hx0 hctc hhs him hkp hrd hmk hfc6 hwt hw8 hw9 hw10 hw11 hvl hbk hpr hpd hfr hfd hor hod har had htr hct hla hlaa hts0 htsa hse hhf him0 him1 hmc hmn hnp hnf hnr hna hnt hlf htf hsn hTr hH hSp hL hT hB1 hB2 hQ)
set_option maxHeartbeats 4000000 in
set_option maxRecDepth 100000 in
theorem jn_beside (l : Launch) (G : gW) (g : Nat → Nat) (hg : gOK g) (f : Nat → va_E) (se : Nat) (hf : Nat → Option Nat) (imf : Nat → Option Nat) (kf : Nat → Int32) (mc : Nat) (op : Int32) (cm : Int32) (wu : Int32) (mk : Nat → Int32) (ab : Int64) (be : Int64) (mn : Nat) (le : Int32) (wt : Nat → Int32) (ww : Nat → Int32) (wb : Nat → Int32) (wf : Nat → Int32) (vv : Nat → Int64) (pay : Int32) (fine : Int32) (np : Nat) (dp : Nat → Int32) (nf : Nat) (df : Nat → Int32) (nr : Nat) (dr : Nat → Int32) (na : Nat) (da : Nat → Int32) (nt : Nat) (ct : Nat → Int32) (lf : Nat → Option Nat) (tf : Nat → Option Nat) (TL : Nat → Nat) (TG : Nat → Nat → Int32) (LL : Nat → Nat) (LG : Nat → Nat → Int32) (N1 : Nat → Nat) (E1 : Nat → Nat → Int32) (P1 : Nat → Int32) (L1 : Nat → Nat) (S1 : Nat → Nat → Int32) (W1 : Nat → Nat) (X1 : Nat → Nat → Int32) (N2 : Nat → Nat) (E2 : Nat → Nat → Int32) (P2 : Nat → Int32) (L2 : Nat → Nat) (S2 : Nat → Nat → Int32) (W2 : Nat → Nat) (X2 : Nat → Nat → Int32) (a1 : Int32) (a2 : Int32) (a3 : Int32) (hx0 : f 0 = eO 9 [.ref (g 1), .ref (g 36), .ref (g 2), .ref (g 3), .ref (g 4), .ref (g 6), .ref (g 7)]) (hctc : f 1 = eO 1 [.ref (g 36), .ref (g 12), .ref (g 13), .ref (g 15), .int (nI se)]) (hhs : f 12 = eA G 4 10 hf) (him : f 2 = eA G 3 2 imf) (hkp : f 3 = eZ G 2 kf) (hrd : f 4 = eO 4 [.ref (g 5), .int (nI mc), .int op, .int cm, .int wu]) (hmk : f 5 = eI G 50 mk) (hfc6 : f 6 = eO 2 [.long ab, .long be]) (hwt : f 7 = eO 8 [.ref (g 8), .ref (g 9), .ref (g 10), .ref (g 11), .int (nI mn), .int le]) (hw8 : f 8 = eI G 6 wt) (hw9 : f 9 = eI G 6 ww) (hw10 : f 10 = eI G 6 wb) (hw11 : f 11 = eI G 6 wf) (hvl : f 15 = eJ G 50 vv) (hbk : f 36 = eO 0 [.ref (g 37), .ref (g 39), .ref (g 41), .ref (g 43), .ref (g 45), .ref (g 47), .ref (g 112), .int pay, .int fine]) (hpr : f 37 = eO 5 [.int (nI 30), .int (nI 4), .ref (g 38), .int (nI np)]) (hpd : f 38 = eI G (30 * 4) dp) (hfr : f 39 = eO 5 [.int (nI 40), .int (nI 3), .ref (g 40), .int (nI nf)]) (hfd : f 40 = eI G (40 * 3) df) (hor : f 41 = eO 5 [.int (nI 4), .int (nI 3), .ref (g 42), .int (nI nr)]) (hod : f 42 = eI G (4 * 3) dr) (har : f 43 = eO 5 [.int (nI 20), .int (nI 3), .ref (g 44), .int (nI na)]) (had : f 44 = eI G (20 * 3) da) (htr : f 45 = eO 5 [.int (nI 10), .int (nI 70), .ref (g 46), .int (nI nt)]) (hct : f 46 = eI G (10 * 70) ct) (hla : f 47 = eO 6 [.ref (g 48), .ref (g 49)]) (hlaa : f 48 = eA G 5 20 lf) (hts0 : f 112 = eO 6 [.ref (g 113), .ref (g 114)]) (htsa : f 113 = eA G 5 4 tf) (hse : se ≤ 10) (hhf : ∀ i, i < 10 → hf i = some (g (2 * i + 16))) (him0 : imf 0 = some (g 129)) (him1 : imf 1 = some (g 222)) (hmc : mc ≤ 50) (hmn : mn ≤ 6) (hnp : np ≤ 30) (hnf : nf ≤ 40) (hnr : nr ≤ 4) (hna : na ≤ 20) (hnt : nt ≤ 10) (hlf : ∀ z, z < 20 → lf z = some (g (47 + 3 * z + 5))) (htf : ∀ z, z < 4 → tf z = some (g (112 + 3 * z + 5))) (hsn : se ≤ nt) (hTr : trC ct nt) (hH : ∀ i, i < 10 → okH G g f (2 * i + 16)) (hSp : okH G g f 13) (hL : ∀ i, i < 20 → ltx G g f (3 * i + 52) (LL i) (LG i) (i < na)) (hT : ∀ i, i < 4 → txt G g f (3 * i + 117) (TL i) (TG i)) (hB1 : bkD G g f 129 N1 E1 P1 L1 S1 W1 X1) (hB2 : bkD G g f 222 N2 E2 P2 L2 S2 W2 X2) (hQ : ∀ z, z < se → cHz G g f np nf nr na dp df dr da ct LL LG z) : Met l yX10_beside (wsT yX10_beside cX10_beside 6 (some .int)) ({ frames := 7, cells := 0, slots := 0, locals := 176 }) (bP G g f [.ref (g 0), .int a1, .int a2, .int a3]) (bQi G g (fun (z9 : Int32) (f' : Nat → va_E) => (cJ G g f' np dp nf df nr dr nt ct pay fine kf na da TL TG LL LG N1 E1 P1 L1 S1 W1 X1 N2 E2 P2 L2 S2 W2 X2) ∧ ((¬ (inN a1 nt = true ∧ inB 0 a2 3 = true ∧ inB 0 a3 1 = true) ∧ z9 = -2) ∨ (∃ x y k, x < nt ∧ a1 = nI x ∧ y ≤ 3 ∧ a2 = nI y ∧ k ≤ 1 ∧ a3 = nI k ∧ ((¬ rdA (TL y) (TG y) = -1 ∧ z9 = -3) ∨ (rdA (TL y) (TG y) = -1 ∧ z9 = cJr np nf nr na dp df dr da ct LL LG x ^^^ bsV np nf nr (fun i c => dp (4 * i + c)) (fun i c => df (3 * i + c)) (fun i c => dr (3 * i + c)) (fun t c => ct (70 * t + c)) (cJr np nf nr na dp df dr da ct LL LG) x (bsO k 0 (rdO (TL y) (TG y)) ((fcB (fun i c => da (3 * i + c)) 0 (ct (70 * x + 0)) na).map (fun z => rdO (LL z) (LG z)))) (bsO k 1 (rdO (TL y) (TG y)) ((fcB (fun i c => da (3 * i + c)) 1 (ct (70 * x + 0)) na).map (fun z => rdO (LL z) (LG z)))) (fun c => ct (70 * x + c)))))) ∧ ∀ j, 315 ≤ j → f' j = f j)) 0 0 (gA g) := by
  refine Met.ofW (cc := cX10_beside) (maxL := 6) (ret := (some .int)) (by decide) rfl ?_
  intro p e s m args below meth c s₁ B hml hv
  obtain ⟨rfl, hP, hG⟩ := hv
  have hx := B.exec
  have hb := B.bytes
  have hr := B.returns
  have hts := my_hts (atoms_spec (ws := wsT yX10_beside cX10_beside 6 (some .int)) B.pre)
  have hown : s.vm.findClass RX10 = some m.cls := findClass_of_methodNamed B.named
  have hlocks := B.notSynchronized
  have hS : va_S (gA g) s.heap s.heap [] := va_S.rf
  have hl := lv_entry ([.ref (g 0), .int a1, .int a2, .int a3]) (n := 6) (Nat.le_of_ble_eq_true rfl)
  rw [lg_entry_eq]
  generalize (lg_sl ([.ref (g 0), .int a1, .int a2, .int a3]) ++ List.replicate (6 - (lg_sl ([.ref (g 0), .int a1, .int a2, .int a3])).length) Slot.unset).toArray = ls at hl ⊢
  have hl : lv_has ls 6 [(0, .ref (g 0)), (1, .int a1), (2, .int a2), (3, .int a3)] := hl
  refine W_q8 (fun Q9 hQ9 => ?_)
  refine lv_aload_n hx hb dX10_beside_0 rfl (lv_at hl 0 rfl) ?_
  refine va_get (D := G.1) (ci := 9) (v := .ref (g 36)) (C := RX10) (T := TX10) (N := 7) hx hb hts inlX10 hown hG.1 hP 0 (wl_at (by decide) hx0) rfl 1 (by decide) (hts (.fieldLink RX10 20 "SwornLists" "book" "LSwornLists$Book;") w_16) (fun _ h9 => h9) rfl dX10_beside_1 ?_
  refine va_getN (D := G.1) (ci := 0) (v := .ref (g 45)) (C := RX0) (T := TX0) (N := 9) (host := RX10) hx hb hts inlX0 hown hG.1 hP 36 (wl_at (by decide) hbk) rfl 4 (by decide) (va_Nw.use rfl (hG.2.1 (.fieldLinkNest RX10 162 RX0 "trials" "LSwornLists$Rows;" RX10) (List.mem_of_getElem? (i := 7) rfl))) (fun _ h9 => h9) rfl dX10_beside_4 ?_
  refine lv_iload_n hx hb dX10_beside_7 rfl (lv_at hl 1 rfl) ?_
  refine rd_calli (va_runV (As := [.int a1]) (rest := []) ⟨hx, hb, hml, hown, hts⟩ (r_has l G g hg f 45 10 70 nt a1 htr (by first | assumption | omega | decide) (by first | assumption | omega | decide) (by first | assumption | omega | decide) (by first | assumption | omega | decide)) (my_cwV hts ok_X5_has w_174 rfl rfl ⟨Nat.le_of_ble_eq_true rfl, Nat.le_of_ble_eq_true rfl⟩) ⟨bP.blind, va_recv hG.1 hP (ci := 5) (q0 := 45) rfl (wl_at (by decide) htr), fun U hU hW => ⟨rfl, by rw [hU]; exact hP, kG.warm hW hG⟩⟩ rfl rfl hl.1 rfl (lv_room (Nat.le_of_ble_eq_true rfl)) dX10_beside_8 ⟨Nat.le_of_ble_eq_true rfl, Nat.le_of_ble_eq_true rfl⟩) (fun r hr9 => ?_)
  subst hr9
  refine my_ifeq (tgt := 28) hx hb dX10_beside_11 (by decide) (fun c_11 => ?_) (fun c_11 => ?_)
  · refine lv_bipush (v := (-2)) hx hb dX10_beside_28 (by decide) ?_
    refine W_q9 hQ9 ?_
    exact W.iret (v := (-2)) hx hb hr (fun _ hT9 _ => ⟨⟨_, f, rfl, (⟨cJ_mk (se) (hf) (imf) (mc) (op) (cm) (wu) (mk) (ab) (be) (mn) (le) (wt) (ww) (wb) (wf) (vv) (lf) (tf) (hx0) (hctc) (hhs) (him) (hkp) (hrd) (hmk) (hfc6) (hwt) (hw8) (hw9) (hw10) (hw11) (hvl) (hbk) (hpr) (hpd) (hfr) (hfd) (hor) (hod) (har) (had) (htr) (hct) (hla) (hlaa) (hts0) (htsa) (by omega) (hhf) (him0) (him1) (by omega) (by omega) (by omega) (by omega) (by omega) (by omega) (by omega) (hlf) (htf) (by omega) (hH) (hSp) (hL) (hT) (hB1) (hB2) (hQ), (Or.inl ⟨fun z => c_11 z.1, rfl⟩), fun j hj => rfl⟩), by rw [hT9]; exact hP⟩, hS.F hT9⟩) hS.2.2 dX10_beside_30
  · refine lv_iload_n hx hb dX10_beside_14 rfl (lv_at hl 2 rfl) ?_
    refine rd_calli (va_runS (As := [.int a2]) (rest := []) ⟨hx, hb, hml, hown, hts⟩ (s_isText l G g hg f a2  ) (my_cwS hts ok_X10_isText w_242 rfl rfl ⟨Nat.le_of_ble_eq_true rfl, Nat.le_of_ble_eq_true rfl⟩) ⟨bP.blind, fun U hU hW => ⟨rfl, by rw [hU]; exact hP, kG.warm hW hG⟩⟩ rfl rfl hl.1 rfl (lv_room (Nat.le_of_ble_eq_true rfl)) dX10_beside_15 ⟨Nat.le_of_ble_eq_true rfl, Nat.le_of_ble_eq_true rfl⟩) (fun r hr9 => ?_)
    subst hr9
    refine my_ifeq (tgt := 28) hx hb dX10_beside_18 (by decide) (fun c_18 => ?_) (fun c_18 => ?_)
    · refine lv_bipush (v := (-2)) hx hb dX10_beside_28 (by decide) ?_
      refine W_q9 hQ9 ?_
      exact W.iret (v := (-2)) hx hb hr (fun _ hT9 _ => ⟨⟨_, f, rfl, (⟨cJ_mk (se) (hf) (imf) (mc) (op) (cm) (wu) (mk) (ab) (be) (mn) (le) (wt) (ww) (wb) (wf) (vv) (lf) (tf) (hx0) (hctc) (hhs) (him) (hkp) (hrd) (hmk) (hfc6) (hwt) (hw8) (hw9) (hw10) (hw11) (hvl) (hbk) (hpr) (hpd) (hfr) (hfd) (hor) (hod) (har) (had) (htr) (hct) (hla) (hlaa) (hts0) (htsa) (by omega) (hhf) (him0) (him1) (by omega) (by omega) (by omega) (by omega) (by omega) (by omega) (by omega) (hlf) (htf) (by omega) (hH) (hSp) (hL) (hT) (hB1) (hB2) (hQ), (Or.inl ⟨fun z => c_18 z.2.1, rfl⟩), fun j hj => rfl⟩), by rw [hT9]; exact hP⟩, hS.F hT9⟩) hS.2.2 dX10_beside_30
    · refine lv_iload_n hx hb dX10_beside_21 rfl (lv_at hl 3 rfl) ?_
      refine rd_calli (va_runS (As := [.int a3]) (rest := []) ⟨hx, hb, hml, hown, hts⟩ (s_isSort l G g hg f a3  ) (my_cwS hts ok_X10_isSort w_591 rfl rfl ⟨Nat.le_of_ble_eq_true rfl, Nat.le_of_ble_eq_true rfl⟩) ⟨bP.blind, fun U hU hW => ⟨rfl, by rw [hU]; exact hP, kG.warm hW hG⟩⟩ rfl rfl hl.1 rfl (lv_room (Nat.le_of_ble_eq_true rfl)) dX10_beside_22 ⟨Nat.le_of_ble_eq_true rfl, Nat.le_of_ble_eq_true rfl⟩) (fun r hr9 => ?_)
      subst hr9
      refine my_ifne (tgt := 31) hx hb dX10_beside_25 (by decide) (fun c_25 => ?_) (fun c_25 => ?_)
      · rcases inB_01.mp c_25 with e9 | e9
        · subst e9
          obtain ⟨tn, htn, rfl⟩ := inN_nat (by omega) c_11
          obtain ⟨xn, hxn, rfl⟩ := inB_n (b := 3) (by omega) c_18
          refine lv_aload_n hx hb dX10_beside_31 rfl (lv_at hl 0 rfl) ?_
          refine va_get (D := G.1) (ci := 9) (v := .ref (g 36)) (C := RX10) (T := TX10) (N := 7) hx hb hts inlX10 hown hG.1 hP 0 (wl_at (by decide) hx0) rfl 1 (by decide) (hts (.fieldLink RX10 20 "SwornLists" "book" "LSwornLists$Book;") w_16) (fun _ h9 => h9) rfl dX10_beside_32 ?_
          refine va_getN (D := G.1) (ci := 0) (v := .ref (g 112)) (C := RX0) (T := TX0) (N := 9) (host := RX10) hx hb hts inlX0 hown hG.1 hP 36 (wl_at (by decide) hbk) rfl 6 (by decide) (va_Nw.use rfl (hG.2.1 (.fieldLinkNest RX10 98 RX0 "texts" "LSwornLists$Shelf;" RX10) (List.mem_of_getElem? (i := 9) rfl))) (fun _ h9 => h9) rfl dX10_beside_35 ?_
          refine lv_iload_n hx hb dX10_beside_38 rfl (lv_at hl 2 rfl) ?_
          refine rd_calla (va_runV (As := [.int (nI xn)]) (rest := []) ⟨hx, hb, hml, hown, hts⟩ (w_get l G g hg f 112 4 tf xn hts0 htsa (by first | assumption | omega | decide) (by first | assumption | omega | decide) (by first | assumption | omega | decide) (by first | assumption | omega | decide)) (my_cwV hts ok_X6_get w_245 rfl rfl ⟨Nat.le_of_ble_eq_true rfl, Nat.le_of_ble_eq_true rfl⟩) ⟨bP.blind, va_recv hG.1 hP (ci := 6) (q0 := 112) rfl (wl_at (by decide) hts0), fun U hU hW => ⟨rfl, by rw [hU]; exact hP, kG.warm hW hG⟩⟩ rfl rfl hl.1 rfl (lv_room (Nat.le_of_ble_eq_true rfl)) dX10_beside_39 ⟨Nat.le_of_ble_eq_true rfl, Nat.le_of_ble_eq_true rfl⟩) (fun r hr9 => ?_)
          subst hr9
          refine my_bea (v := .ref (g (3 * xn + 117))) (by rw [show 112 + 3 * xn + 5 = 3 * xn + 117 by omega]) ?_
          obtain ⟨sc7, sp7, htx7, hsx7, hpx7, hln7, hsc7⟩ := hT xn (by omega)
          refine lv_astore (lv' := [(4, .ref (g (3 * xn + 117))), (0, .ref (g 0)), (1, .int (nI tn)), (2, .int (nI xn)), (3, .int 0)]) hx hb dX10_beside_42 hl (by decide) rfl (fun ls hl => ?_)
          refine lv_aload_n hx hb dX10_beside_44 rfl (lv_at hl 1 rfl) ?_
          refine va_get (D := G.1) (ci := 9) (v := .ref (g 4)) (C := RX10) (T := TX10) (N := 7) hx hb hts inlX10 hown hG.1 hP 0 (wl_at (by decide) hx0) rfl 4 (by decide) (hts (.fieldLink RX10 34 "SwornLists" "reader" "LSwornLists$Reader;") w_24) (fun _ h9 => h9) rfl dX10_beside_45 ?_
          refine lv_aload hx hb dX10_beside_48 (lv_at hl 0 rfl) ?_
          refine b_calli (va_runV (As := [.ref (g (3 * xn + 117))]) (rest := []) ⟨hx, hb, hml, hown, hts⟩ (e_readE l G g hg f (3 * xn + 117) (TL xn) sc7 (TG xn) sp7 mc op cm wu mk hrd hmk htx7 hsx7 hpx7 (by first | assumption | omega | decide) (by first | assumption | omega | decide) (by first | assumption | omega | decide) (by first | assumption | omega | decide) (by first | assumption | omega | decide)) (my_cwV hts ok_X4_read w_278 rfl rfl ⟨Nat.le_of_ble_eq_true rfl, Nat.le_of_ble_eq_true rfl⟩) ⟨bP.blind, va_recv hG.1 hP (ci := 4) (q0 := 4) rfl (wl_at (by decide) hrd), fun U hU hW => ⟨rfl, by rw [hU]; exact hP, kG.warm hW hG⟩⟩ rfl rfl hl.1 rfl (lv_room (Nat.le_of_ble_eq_true rfl)) dX10_beside_50 ⟨Nat.le_of_ble_eq_true rfl, Nat.le_of_ble_eq_true rfl⟩) hS (fun v1 f_1 H locs hq9 hP hS => ?_)
          obtain ⟨mc92, op93, cm94, wu95, mk96, sc97, sp98, rfl, hq_1_0, hq_1_1, hq_1_2, hq_1_3, hx_1_0, hx_1_1, hx_1_2, o_1⟩ := hq9
          have hrd : f_1 4 = eO 4 [.ref (g 5), .int (nI mc92), .int op93, .int cm94, .int wu95] := hq_1_0
          have hmk : f_1 5 = eI G 50 mk96 := hq_1_1
          have htx7 : f_1 (3 * xn + 117) = eO 7 [.ref (g ((3 * xn + 117) + 1)), .ref (g ((3 * xn + 117) + 2)), .int (nI (TL xn)), .int (nI sc97)] := hq_1_2
          have hpx7 : f_1 (3 * xn + 119) = eI G 50 sp98 := hq_1_3
          replace hsx7 : f_1 (3 * xn + 118) = eI G 50 (TG xn) := ((o_1 (3 * xn + 118) (by omega))).trans hsx7
          have hT : ∀ i, i < 4 → txt G g f_1 (3 * i + 117) (TL i) (TG i) := fun z hz => if e9 : z = xn then (by rw [e9]; exact ⟨_, _, htx7, hsx7, hpx7, by omega, by omega⟩) else txt_fr (hT z hz) (o_1 _ (by omega)) (o_1 _ (by omega)) (o_1 _ (by omega))
          refine lv_iconst (v := (-1)) hx hb dX10_beside_53 (by decide) ?_
          refine lv_icmp_eq (tgt := 60) hx hb dX10_beside_54 (by decide) (fun c_54 => ?_) (fun c_54 => ?_)
          · refine lv_aload_n hx hb dX10_beside_60 rfl (lv_at hl 1 rfl) ?_
            replace hx0 := ((o_1 0 (by first | decide | omega))).trans hx0
            refine va_get (D := G.1) (ci := 9) (v := .ref (g 1)) (C := RX10) (T := TX10) (N := 7) hx hb hts inlX10 hown hG.1 hP 0 (wl_at (by decide) hx0) rfl 0 (by decide) (hts (.fieldLink RX10 12 "SwornLists" "court" "LSwornLists$Court;") w_15) (fun _ h9 => h9) rfl dX10_beside_61 ?_
            replace hctc := ((o_1 1 (by first | decide | omega))).trans hctc
            replace hhs := ((o_1 12 (by first | decide | omega))).trans hhs
            replace hbk := ((o_1 36 (by first | decide | omega))).trans hbk
            replace htr := ((o_1 45 (by first | decide | omega))).trans htr
            replace hct := ((o_1 46 (by first | decide | omega))).trans hct
            replace hpr := ((o_1 37 (by first | decide | omega))).trans hpr
            replace hpd := ((o_1 38 (by first | decide | omega))).trans hpd
            replace hfr := ((o_1 39 (by first | decide | omega))).trans hfr
            replace hfd := ((o_1 40 (by first | decide | omega))).trans hfd
            replace hor := ((o_1 41 (by first | decide | omega))).trans hor
            replace hod := ((o_1 42 (by first | decide | omega))).trans hod
            replace har := ((o_1 43 (by first | decide | omega))).trans har
            replace had := ((o_1 44 (by first | decide | omega))).trans had
            replace hla := ((o_1 47 (by first | decide | omega))).trans hla
            replace hlaa := ((o_1 48 (by first | decide | omega))).trans hlaa
            replace hvl := ((o_1 15 (by first | decide | omega))).trans hvl
            replace hQ : ∀ z, z < se → cHz G g f_1 np nf nr na dp df dr da ct LL LG z := fun z hz => okQ_fr (hQ z hz) (o_1 _ (by omega)) (o_1 _ (by omega))
            replace hH : ∀ i, i < 10 → okH G g f_1 (2 * i + 16) := fun z hz => okH_fr (hH z hz) (o_1 _ (by omega)) (o_1 _ (by omega))
            replace hL : ∀ i, i < 20 → ltx G g f_1 (3 * i + 52) (LL i) (LG i) (i < na) := fun z hz => ltx_fr (hL z hz) (o_1 _ (by omega)) (o_1 _ (by omega)) (o_1 _ (by omega))
            refine b_callv (va_runV (As := []) (rest := []) ⟨hx, hb, hml, hown, hts⟩ (u_settleE l G g hg f_1 se hf pay fine nt ct np dp nf df nr dr na da lf vv LL LG hctc hhs hbk htr hct hpr hpd hfr hfd hor hod har had hla hlaa hvl (by first | assumption | omega | decide) (by first | assumption | omega | decide) (by first | assumption | omega | decide) (by first | assumption | omega | decide) (by first | assumption | omega | decide) (by first | assumption | omega | decide) (by first | assumption | omega | decide) (by first | assumption | omega | decide) (hTr.1) (hTr.2.1) (hTr.2.2.1) (by first | assumption | omega | decide) (hQ) (by first | assumption | omega | decide) (hL)) (my_cwV hts ok_X1_settle w_384 rfl rfl ⟨Nat.le_of_ble_eq_true rfl, Nat.le_of_ble_eq_true rfl⟩) ⟨bP.blind, va_recv hG.1 hP (ci := 1) (q0 := 1) rfl (wl_at (by decide) hctc), fun U hU hW => ⟨rfl, by rw [hU]; exact hP, kG.warm hW hG⟩⟩ rfl rfl hl.1 rfl (lv_room (Nat.le_of_ble_eq_true rfl)) dX10_beside_64 ⟨Nat.le_of_ble_eq_true rfl, Nat.le_of_ble_eq_true rfl⟩) hS (fun f_2 H locs hq9 hP hS => ?_)
            obtain ⟨vv99, hq_2_0, hq_2_1, hx_2_0, hx_2_1, o_2⟩ := hq9
            have hctc : f_2 1 = eO 1 [.ref (g 36), .ref (g 12), .ref (g 13), .ref (g 15), .int (nI nt)] := hq_2_0
            have hvl : f_2 15 = eJ G 50 vv99 := hq_2_1
            have hH : ∀ i, i < 10 → okH G g f_2 (2 * i + 16) := hx_2_0
            have hQn : ∀ z, z < nt → cHz G g f_2 np nf nr na dp df dr da ct LL LG z := hx_2_1
            replace hSp : okH G g f_1 13 := okH_fr hSp (o_1 _ (by omega)) (o_1 _ (by omega))
            replace hSp : okH G g f_2 13 := okH_fr hSp (o_2 _ (by omega)) (o_2 _ (by omega))
            obtain ⟨od7, hh7, ho7, hd7⟩ := id (hQn tn (by omega))
            have hm7 : hM (cBx np nf nr na dp df dr da ct LL LG tn) (fun c => ct (70 * tn + c)) ≤ 24 := by
              have h9 := hTr.2.2.1 tn (by omega)
              exact Nat.le_trans (Nat.min_le_left _ _) h9
            obtain ⟨sl6, lo6, ib6, ca6, mi6, s06, s16, sw6, od6, hh6, ho6, hs6⟩ := id hSp
            refine lv_aload_n hx hb dX10_beside_67 rfl (lv_at hl 1 rfl) ?_
            replace hx0 := ((o_2 0 (by first | decide | omega))).trans hx0
            refine va_get (D := G.1) (ci := 9) (v := .ref (g 36)) (C := RX10) (T := TX10) (N := 7) hx hb hts inlX10 hown hG.1 hP 0 (wl_at (by decide) hx0) rfl 1 (by decide) (hts (.fieldLink RX10 20 "SwornLists" "book" "LSwornLists$Book;") w_16) (fun _ h9 => h9) rfl dX10_beside_68 ?_
            replace hbk := ((o_2 36 (by first | decide | omega))).trans hbk
            refine va_getN (D := G.1) (ci := 0) (v := .ref (g 45)) (C := RX0) (T := TX0) (N := 9) (host := RX10) hx hb hts inlX0 hown hG.1 hP 36 (wl_at (by decide) hbk) rfl 4 (by decide) (va_Nw.use rfl (hG.2.1 (.fieldLinkNest RX10 162 RX0 "trials" "LSwornLists$Rows;" RX10) (List.mem_of_getElem? (i := 7) rfl))) (fun _ h9 => h9) rfl dX10_beside_71 ?_
            refine lv_iload_n hx hb dX10_beside_74 rfl (lv_at hl 2 rfl) ?_
            refine lv_iconst (v := 0) hx hb dX10_beside_75 (by decide) ?_
            replace htr := ((o_2 45 (by first | decide | omega))).trans htr
            replace hct := ((o_2 46 (by first | decide | omega))).trans hct
            refine rd_calli (va_runV (As := [.int (nI tn), .int 0]) (rest := []) ⟨hx, hb, hml, hown, hts⟩ (r_at l G g hg f_2 45 10 70 nt ct (nI tn) 0 htr hct (by first | assumption | omega | decide) (by first | assumption | omega | decide) (by first | assumption | omega | decide) (by first | assumption | omega | decide)) (my_cwV hts ok_X5_at w_610 rfl rfl ⟨Nat.le_of_ble_eq_true rfl, Nat.le_of_ble_eq_true rfl⟩) ⟨bP.blind, va_recv hG.1 hP (ci := 5) (q0 := 45) rfl (wl_at (by decide) htr), fun U hU hW => ⟨rfl, by rw [hU]; exact hP, kG.warm hW hG⟩⟩ rfl rfl hl.1 rfl (lv_room (Nat.le_of_ble_eq_true rfl)) dX10_beside_76 ⟨Nat.le_of_ble_eq_true rfl, Nat.le_of_ble_eq_true rfl⟩) (fun r hr9 => ?_)
            subst hr9
            refine my_bei (v := ct (70 * tn + 0)) (atQ (d := ct) (w := 70) (i := tn) (c := 0) htn (by omega) (by omega) (by omega)) ?_
            refine lv_istore (lv' := [(5, .int (ct (70 * tn + 0))), (4, .ref (g (3 * xn + 117))), (0, .ref (g 0)), (1, .int (nI tn)), (2, .int (nI xn)), (3, .int 0)]) hx hb dX10_beside_79 hl (by decide) rfl (fun ls hl => ?_)
            refine lv_aload_n hx hb dX10_beside_81 rfl (lv_at hl 2 rfl) ?_
            refine va_get (D := G.1) (ci := 9) (v := .ref (g 1)) (C := RX10) (T := TX10) (N := 7) hx hb hts inlX10 hown hG.1 hP 0 (wl_at (by decide) hx0) rfl 0 (by decide) (hts (.fieldLink RX10 12 "SwornLists" "court" "LSwornLists$Court;") w_15) (fun _ h9 => h9) rfl dX10_beside_82 ?_
            refine lv_iload_n hx hb dX10_beside_85 rfl (lv_at hl 3 rfl) ?_
            refine lv_aload_n hx hb dX10_beside_86 rfl (lv_at hl 2 rfl) ?_
            refine va_get (D := G.1) (ci := 9) (v := .ref (g 1)) (C := RX10) (T := TX10) (N := 7) hx hb hts inlX10 hown hG.1 hP 0 (wl_at (by decide) hx0) rfl 0 (by decide) (hts (.fieldLink RX10 12 "SwornLists" "court" "LSwornLists$Court;") w_15) (fun _ h9 => h9) rfl dX10_beside_87 ?_
            refine va_getN (D := G.1) (ci := 1) (v := .ref (g 13)) (C := RX1) (T := TX1) (N := 5) (host := RX10) hx hb hts inlX1 hown hG.1 hP 1 (wl_at (by decide) hctc) rfl 2 (by decide) (va_Nw.use rfl (hG.2.1 (.fieldLinkNest RX10 236 RX1 "spare" "LSwornLists$Hearing;" RX10) (List.mem_of_getElem? (i := 18) rfl))) (fun _ h9 => h9) rfl dX10_beside_90 ?_
            refine lv_iload_n hx hb dX10_beside_93 rfl (lv_at hl 5 rfl) ?_
            refine lv_if_ne (tgt := 102) hx hb dX10_beside_94 (by decide) (fun c_94 => absurd (by decide) c_94) (fun c_94 => ?_)
            refine lv_aload hx hb dX10_beside_97 (lv_at hl 1 rfl) ?_
            refine lv_goto (tgt := 112) hx hb dX10_beside_99 (by decide) ?_
            refine lv_iload_n hx hb dX10_beside_112 rfl (lv_at hl 5 rfl) ?_
            refine lv_iconst (v := 1) hx hb dX10_beside_113 (by decide) ?_
            refine lv_icmp_ne (tgt := 122) hx hb dX10_beside_114 (by decide) (fun c_114 => ?_) (fun c_114 => absurd c_114 (by decide))
            refine lv_aload_n hx hb dX10_beside_122 rfl (lv_at hl 2 rfl) ?_
            refine va_get (D := G.1) (ci := 9) (v := .ref (g 36)) (C := RX10) (T := TX10) (N := 7) hx hb hts inlX10 hown hG.1 hP 0 (wl_at (by decide) hx0) rfl 1 (by decide) (hts (.fieldLink RX10 20 "SwornLists" "book" "LSwornLists$Book;") w_16) (fun _ h9 => h9) rfl dX10_beside_123 ?_
            refine lv_iconst (v := 1) hx hb dX10_beside_126 (by decide) ?_
            refine lv_iload hx hb dX10_beside_127 (lv_at hl 0 rfl) ?_
            replace har := ((o_2 43 (by first | decide | omega))).trans har
            replace had := ((o_2 44 (by first | decide | omega))).trans had
            replace hla := ((o_2 47 (by first | decide | omega))).trans hla
            replace hlaa := ((o_2 48 (by first | decide | omega))).trans hlaa
            refine rd_calla (va_runV (As := [.int 1, .int (ct (70 * tn + 0))]) (rest := [.ref (g (3 * xn + 117)), .ref (g 13), .int (nI tn), .ref (g 1)]) ⟨hx, hb, hml, hown, hts⟩ (k_lawOfE l G g hg f_2 pay fine na da lf 1 (ct (70 * tn + 0)) hbk har had hla hlaa (by first | assumption | omega | decide) (by first | assumption | omega | decide)) (my_cwV hts ok_X0_lawOf w_628 rfl rfl ⟨Nat.le_of_ble_eq_true rfl, Nat.le_of_ble_eq_true rfl⟩) ⟨bP.blind, va_recv hG.1 hP (ci := 0) (q0 := 36) rfl (wl_at (by decide) hbk), fun U hU hW => ⟨rfl, by rw [hU]; exact hP, kG.warm hW hG⟩⟩ rfl rfl hl.1 rfl (lv_room (Nat.le_of_ble_eq_true rfl)) dX10_beside_129 ⟨Nat.le_of_ble_eq_true rfl, Nat.le_of_ble_eq_true rfl⟩) (fun r hr9 => ?_)
            obtain ⟨o910, rfl, hx_3_0, hx_3_1⟩ := hr9
            replace hL : ∀ i, i < 20 → ltx G g f_2 (3 * i + 52) (LL i) (LG i) (i < na) := fun z hz => ltx_fr (hL z hz) (o_2 _ (by omega)) (o_2 _ (by omega)) (o_2 _ (by omega))
            rcases o910 with _ | i11
            · refine my_bea (v := .null) rfl ?_
              have hls7 := hx_1_2 c_54
              have hgd7 := rdO_good hln7 c_54
              have hlen7 : (rdO (TL xn) (TG xn)).length = sc97 := by
                have h6 := congrArg List.length hls7
                rw [stk_len, List.length_map] at h6
                exact h6.symm
              obtain ⟨q8, q6, ks, hq8, hq88, hq6, hq64, hq2, hks⟩ := hTr.1 tn htn
              obtain ⟨sw, hZ, hJ9⟩ := okZ_J (Nat.le_refl nt) hH hQn hTr.2.2.1
              replace hhs := ((o_2 12 (by first | decide | omega))).trans hhs
              replace hpr := ((o_2 37 (by first | decide | omega))).trans hpr
              replace hpd := ((o_2 38 (by first | decide | omega))).trans hpd
              replace hfr := ((o_2 39 (by first | decide | omega))).trans hfr
              replace hfd := ((o_2 40 (by first | decide | omega))).trans hfd
              replace hor := ((o_2 41 (by first | decide | omega))).trans hor
              replace hod := ((o_2 42 (by first | decide | omega))).trans hod
              replace htx7 : f_2 (3 * xn + 117) = eO 7 [.ref (g ((3 * xn + 117) + 1)), .ref (g ((3 * xn + 117) + 2)), .int (nI (TL xn)), .int (nI sc97)] := ((o_2 (3 * xn + 117) (by omega))).trans htx7
              replace hpx7 : f_2 (3 * xn + 119) = eI G 50 sp98 := ((o_2 (3 * xn + 119) (by omega))).trans hpx7
              refine b_callv (va_runV (As := [.int (nI tn), .ref (g 13), .ref (g (3 * xn + 117)), .null]) (rest := []) ⟨hx, hb, hml, hown, hts⟩ (u_hearE10 l G g hg f_2 nt hf pay fine nt ct np dp nf df nr dr 13 sl6 lo6 ib6 ca6 mi6 s06 s16 sw6 od6 vv99 sw tn q8 q6 ks (fitT np nf (fun i c => dp (4 * i + c)) (fun i c => df (3 * i + c)) (fun t c => ct (70 * t + c)) (cJr np nf nr na dp df dr da ct LL LG) tn tn (some (rdO (TL xn) (TG xn)))) (boxT np nf nr (fun i c => dp (4 * i + c)) (fun i c => df (3 * i + c)) (fun i c => dr (3 * i + c)) (fun t c => ct (70 * t + c)) (cJr np nf nr na dp df dr da ct LL LG) tn tn (some (rdO (TL xn) (TG xn))) none) (3 * xn + 117) (TL xn) sc97 sp98 (rdO (TL xn) (TG xn)) hctc hhs hbk htr hct hpr hpd hfr hfd hor hod hvl hh6 ho6 htx7 hpx7 (by first | assumption | omega | decide) (by first | assumption | omega | decide) (by first | assumption | omega | decide) (by first | assumption | omega | decide) (by first | assumption | omega | decide) (by first | assumption | omega | decide) (by first | assumption | omega | decide) (by first | assumption | omega | decide) (by first | assumption | omega | decide) (by first | assumption | omega | decide) (by first | assumption | omega | decide) (hq8) (hq88) (hq6) (hq64) (hq2) (hks) (by first | assumption | omega | decide) (by first | assumption | omega | decide) (hln7) (hx_1_1) (hls7) (hlen7) (hgd7.1) (hgd7.2) (bs_fit (by omega) (fun b9 h9 h10 => hTr.2.1 tn b9 h9 h10) (fun q hq => hJ9 q (by omega))) (bs_box (by omega) (fun b9 h9 h10 => hTr.2.1 tn b9 h9 h10) (fun q hq => hJ9 q (by omega))) (boxV_hi hnp rfl) (hZ)) (my_cwV hts ok_X1_hear w_810 rfl rfl ⟨Nat.le_of_ble_eq_true rfl, Nat.le_of_ble_eq_true rfl⟩) ⟨bP.blind, va_recv hG.1 hP (ci := 1) (q0 := 1) rfl (wl_at (by decide) hctc), fun U hU hW => ⟨rfl, by rw [hU]; exact hP, kG.warm hW hG⟩⟩ rfl rfl hl.1 rfl (lv_room (Nat.le_of_ble_eq_true rfl)) dX10_beside_132 ⟨Nat.le_of_ble_eq_true rfl, Nat.le_of_ble_eq_true rfl⟩) hS (fun f_4 H locs hq9 hP hS => ?_)
              obtain ⟨vv912, hq_4_0, hx_4_0, o_4⟩ := hq9
              have hvl : f_4 15 = eJ G 50 vv912 := hq_4_0
              have hSp : okH G g f_4 13 := (okQ.okZ hx_4_0 (hTr.2.2.1 tn htn)).ok
              obtain ⟨od8, hh6, ho6, hd8⟩ := id hx_4_0
              refine lv_aload_n hx hb dX10_beside_135 rfl (lv_at hl 2 rfl) ?_
              replace hx0 := ((o_4 0 (by first | decide | omega))).trans hx0
              refine va_get (D := G.1) (ci := 9) (v := .ref (g 1)) (C := RX10) (T := TX10) (N := 7) hx hb hts inlX10 hown hG.1 hP 0 (wl_at (by decide) hx0) rfl 0 (by decide) (hts (.fieldLink RX10 12 "SwornLists" "court" "LSwornLists$Court;") w_15) (fun _ h9 => h9) rfl dX10_beside_136 ?_
              refine lv_iload_n hx hb dX10_beside_139 rfl (lv_at hl 3 rfl) ?_
              replace hctc := ((o_4 1 (by first | decide | omega))).trans hctc
              replace hhs := ((o_4 12 (by first | decide | omega))).trans hhs
              refine rd_calla (va_runV (As := [.int (nI tn)]) (rest := []) ⟨hx, hb, hml, hown, hts⟩ (u_hearing l G g hg f_4 nt hf tn hctc hhs (by first | assumption | omega | decide) (by first | assumption | omega | decide) (by first | assumption | omega | decide)) (my_cwV hts ok_X1_hearing w_675 rfl rfl ⟨Nat.le_of_ble_eq_true rfl, Nat.le_of_ble_eq_true rfl⟩) ⟨bP.blind, va_recv hG.1 hP (ci := 1) (q0 := 1) rfl (wl_at (by decide) hctc), fun U hU hW => ⟨rfl, by rw [hU]; exact hP, kG.warm hW hG⟩⟩ rfl rfl hl.1 rfl (lv_room (Nat.le_of_ble_eq_true rfl)) dX10_beside_140 ⟨Nat.le_of_ble_eq_true rfl, Nat.le_of_ble_eq_true rfl⟩) (fun r hr9 => ?_)
              subst hr9
              replace hh7 : f_4 (2 * tn + 16) = eO 3 [.ref (g (2 * tn + 17)), .int (nI (hM (cBx np nf nr na dp df dr da ct LL LG tn) (fun c => ct (70 * tn + c)))), .int (lotF (ct (70 * tn + 7)) (hM (cBx np nf nr na dp df dr da ct LL LG tn) (fun c => ct (70 * tn + c)))), .int (cBx np nf nr na dp df dr da ct LL LG tn), .int (hCa (cBx np nf nr na dp df dr da ct LL LG tn) (fun c => ct (70 * tn + c))), .int (hMi (cBx np nf nr na dp df dr da ct LL LG tn) (fun c => ct (70 * tn + c))), .int ((hX (cBx np nf nr na dp df dr da ct LL LG tn) (fun c => ct (70 * tn + c))).1), .int ((hX (cBx np nf nr na dp df dr da ct LL LG tn) (fun c => ct (70 * tn + c))).2), .int (hSw (cBx np nf nr na dp df dr da ct LL LG tn) (pasV (cFt np nf nr na dp df dr da ct LL LG tn) (cBx np nf nr na dp df dr da ct LL LG tn)) (fun c => ct (70 * tn + c)))] := ((o_4 (2 * tn + 16) (by omega))).trans hh7
              refine va_getN (D := G.1) (ci := 3) (v := .int (hSw (cBx np nf nr na dp df dr da ct LL LG tn) (pasV (cFt np nf nr na dp df dr da ct LL LG tn) (cBx np nf nr na dp df dr da ct LL LG tn)) (fun c => ct (70 * tn + c)))) (C := RX3) (T := TX3) (N := 9) (host := RX10) hx hb hts inlX3 hown hG.1 hP (2 * tn + 16) (wl_at (by omega) hh7) rfl 8 (by decide) (va_Nw.use rfl (hG.2.1 (.fieldLinkNest RX10 188 RX3 "sworn" "I" RX10) (List.mem_of_getElem? (i := 16) rfl))) (fun _ h9 => h9) rfl dX10_beside_143 ?_
              refine lv_aload_n hx hb dX10_beside_146 rfl (lv_at hl 2 rfl) ?_
              refine va_get (D := G.1) (ci := 9) (v := .ref (g 1)) (C := RX10) (T := TX10) (N := 7) hx hb hts inlX10 hown hG.1 hP 0 (wl_at (by decide) hx0) rfl 0 (by decide) (hts (.fieldLink RX10 12 "SwornLists" "court" "LSwornLists$Court;") w_15) (fun _ h9 => h9) rfl dX10_beside_147 ?_
              refine va_getN (D := G.1) (ci := 1) (v := .ref (g 13)) (C := RX1) (T := TX1) (N := 5) (host := RX10) hx hb hts inlX1 hown hG.1 hP 1 (wl_at (by decide) hctc) rfl 2 (by decide) (va_Nw.use rfl (hG.2.1 (.fieldLinkNest RX10 236 RX1 "spare" "LSwornLists$Hearing;" RX10) (List.mem_of_getElem? (i := 18) rfl))) (fun _ h9 => h9) rfl dX10_beside_150 ?_
              refine va_getN (D := G.1) (ci := 3) (v := .int (hSw (boxT np nf nr (fun i c => dp (4 * i + c)) (fun i c => df (3 * i + c)) (fun i c => dr (3 * i + c)) (fun t c => ct (70 * t + c)) (cJr np nf nr na dp df dr da ct LL LG) tn tn (some (rdO (TL xn) (TG xn))) none) (pasV (fitT np nf (fun i c => dp (4 * i + c)) (fun i c => df (3 * i + c)) (fun t c => ct (70 * t + c)) (cJr np nf nr na dp df dr da ct LL LG) tn tn (some (rdO (TL xn) (TG xn)))) (boxT np nf nr (fun i c => dp (4 * i + c)) (fun i c => df (3 * i + c)) (fun i c => dr (3 * i + c)) (fun t c => ct (70 * t + c)) (cJr np nf nr na dp df dr da ct LL LG) tn tn (some (rdO (TL xn) (TG xn))) none)) (fun c => ct (70 * tn + c)))) (C := RX3) (T := TX3) (N := 9) (host := RX10) hx hb hts inlX3 hown hG.1 hP 13 (wl_at (by decide) hh6) rfl 8 (by decide) (va_Nw.use rfl (hG.2.1 (.fieldLinkNest RX10 188 RX3 "sworn" "I" RX10) (List.mem_of_getElem? (i := 16) rfl))) (fun _ h9 => h9) rfl dX10_beside_153 ?_
              refine lv_ixor hx hb dX10_beside_156 ?_
              refine W_q9 hQ9 ?_
              replace him := ((o_4 2 (by first | decide | omega)).trans ((o_2 2 (by first | decide | omega)).trans ((o_1 2 (by first | decide | omega))))).trans him
              replace hkp := ((o_4 3 (by first | decide | omega)).trans ((o_2 3 (by first | decide | omega)).trans ((o_1 3 (by first | decide | omega))))).trans hkp
              replace hrd := ((o_4 4 (by first | decide | omega)).trans ((o_2 4 (by first | decide | omega)))).trans hrd
              replace hmk := ((o_4 5 (by first | decide | omega)).trans ((o_2 5 (by first | decide | omega)))).trans hmk
              replace hfc6 := ((o_4 6 (by first | decide | omega)).trans ((o_2 6 (by first | decide | omega)).trans ((o_1 6 (by first | decide | omega))))).trans hfc6
              replace hwt := ((o_4 7 (by first | decide | omega)).trans ((o_2 7 (by first | decide | omega)).trans ((o_1 7 (by first | decide | omega))))).trans hwt
              replace hw8 := ((o_4 8 (by first | decide | omega)).trans ((o_2 8 (by first | decide | omega)).trans ((o_1 8 (by first | decide | omega))))).trans hw8
              replace hw9 := ((o_4 9 (by first | decide | omega)).trans ((o_2 9 (by first | decide | omega)).trans ((o_1 9 (by first | decide | omega))))).trans hw9
              replace hw10 := ((o_4 10 (by first | decide | omega)).trans ((o_2 10 (by first | decide | omega)).trans ((o_1 10 (by first | decide | omega))))).trans hw10
              replace hw11 := ((o_4 11 (by first | decide | omega)).trans ((o_2 11 (by first | decide | omega)).trans ((o_1 11 (by first | decide | omega))))).trans hw11
              replace hbk := ((o_4 36 (by first | decide | omega))).trans hbk
              replace hpr := ((o_4 37 (by first | decide | omega))).trans hpr
              replace hpd := ((o_4 38 (by first | decide | omega))).trans hpd
              replace hfr := ((o_4 39 (by first | decide | omega))).trans hfr
              replace hfd := ((o_4 40 (by first | decide | omega))).trans hfd
              replace hor := ((o_4 41 (by first | decide | omega))).trans hor
              replace hod := ((o_4 42 (by first | decide | omega))).trans hod
              replace har := ((o_4 43 (by first | decide | omega))).trans har
              replace had := ((o_4 44 (by first | decide | omega))).trans had
              replace htr := ((o_4 45 (by first | decide | omega))).trans htr
              replace hct := ((o_4 46 (by first | decide | omega))).trans hct
              replace hla := ((o_4 47 (by first | decide | omega))).trans hla
              replace hlaa := ((o_4 48 (by first | decide | omega))).trans hlaa
              replace hts0 := ((o_4 112 (by first | decide | omega)).trans ((o_2 112 (by first | decide | omega)).trans ((o_1 112 (by first | decide | omega))))).trans hts0
              replace htsa := ((o_4 113 (by first | decide | omega)).trans ((o_2 113 (by first | decide | omega)).trans ((o_1 113 (by first | decide | omega))))).trans htsa
              replace hH : ∀ i, i < 10 → okH G g f_4 (2 * i + 16) := fun z hz => okH_fr (hH z hz) (o_4 _ (by omega)) (o_4 _ (by omega))
              replace hL : ∀ i, i < 20 → ltx G g f_4 (3 * i + 52) (LL i) (LG i) (i < na) := fun z hz => ltx_fr (hL z hz) (o_4 _ (by omega)) (o_4 _ (by omega)) (o_4 _ (by omega))
              replace hT : ∀ i, i < 4 → txt G g f_2 (3 * i + 117) (TL i) (TG i) := fun z hz => txt_fr (hT z hz) (o_2 _ (by omega)) (o_2 _ (by omega)) (o_2 _ (by omega))
              replace hT : ∀ i, i < 4 → txt G g f_4 (3 * i + 117) (TL i) (TG i) := fun z hz => txt_fr (hT z hz) (o_4 _ (by omega)) (o_4 _ (by omega)) (o_4 _ (by omega))
              replace hB1 : bkD G g f_1 129 N1 E1 P1 L1 S1 W1 X1 := bkD_fr hB1 (fun j _ _ => o_1 j (by omega))
              replace hB1 : bkD G g f_2 129 N1 E1 P1 L1 S1 W1 X1 := bkD_fr hB1 (fun j _ _ => o_2 j (by omega))
              replace hB1 : bkD G g f_4 129 N1 E1 P1 L1 S1 W1 X1 := bkD_fr hB1 (fun j _ _ => o_4 j (by omega))
              replace hB2 : bkD G g f_1 222 N2 E2 P2 L2 S2 W2 X2 := bkD_fr hB2 (fun j _ _ => o_1 j (by omega))
              replace hB2 : bkD G g f_2 222 N2 E2 P2 L2 S2 W2 X2 := bkD_fr hB2 (fun j _ _ => o_2 j (by omega))
              replace hB2 : bkD G g f_4 222 N2 E2 P2 L2 S2 W2 X2 := bkD_fr hB2 (fun j _ _ => o_4 j (by omega))
              replace hQn : ∀ z, z < nt → cHz G g f_4 np nf nr na dp df dr da ct LL LG z := fun z hz => okQ_fr (hQn z hz) (o_4 _ (by omega)) (o_4 _ (by omega))
              exact W.iret (v := (hSw (cBx np nf nr na dp df dr da ct LL LG tn) (pasV (cFt np nf nr na dp df dr da ct LL LG tn) (cBx np nf nr na dp df dr da ct LL LG tn)) (fun c => ct (70 * tn + c))) ^^^ (hSw (boxT np nf nr (fun i c => dp (4 * i + c)) (fun i c => df (3 * i + c)) (fun i c => dr (3 * i + c)) (fun t c => ct (70 * t + c)) (cJr np nf nr na dp df dr da ct LL LG) tn tn (some (rdO (TL xn) (TG xn))) none) (pasV (fitT np nf (fun i c => dp (4 * i + c)) (fun i c => df (3 * i + c)) (fun t c => ct (70 * t + c)) (cJr np nf nr na dp df dr da ct LL LG) tn tn (some (rdO (TL xn) (TG xn)))) (boxT np nf nr (fun i c => dp (4 * i + c)) (fun i c => df (3 * i + c)) (fun i c => dr (3 * i + c)) (fun t c => ct (70 * t + c)) (cJr np nf nr na dp df dr da ct LL LG) tn tn (some (rdO (TL xn) (TG xn))) none)) (fun c => ct (70 * tn + c)))) hx hb hr (fun _ hT9 _ => ⟨⟨_, f_4, rfl, (⟨cJ_mk (nt) (hf) (imf) (mc92) (op93) (cm94) (wu95) (mk96) (ab) (be) (mn) (le) (wt) (ww) (wb) (wf) (vv912) (lf) (tf) (hx0) (hctc) (hhs) (him) (hkp) (hrd) (hmk) (hfc6) (hwt) (hw8) (hw9) (hw10) (hw11) (hvl) (hbk) (hpr) (hpd) (hfr) (hfd) (hor) (hod) (har) (had) (htr) (hct) (hla) (hlaa) (hts0) (htsa) (by omega) (hhf) (him0) (him1) (by omega) (by omega) (by omega) (by omega) (by omega) (by omega) (by omega) (hlf) (htf) (by omega) (hH) (hSp) (hL) (hT) (hB1) (hB2) (hQn), (Or.inr ⟨tn, xn, 0, htn, rfl, hxn, rfl, by decide, rfl, Or.inr ⟨c_54, bs_end (cJr_eq (t := tn)).symm (fun _ _ => rfl) bsO_y.symm ((bsO_n (by decide)).trans (congrArg (Option.map (fun z => rdO (LL z) (LG z))) hx_3_1)).symm⟩⟩), fun j hj => (((o_4 j (by omega))).trans (o_2 j (by omega))).trans (o_1 j (by omega))⟩), by rw [hT9]; exact hP⟩, hS.F hT9⟩) hS.2.2 dX10_beside_157
            · have hiL11 := hx_3_0 i11 rfl
              obtain ⟨sc11, sp11, ⟨htx11, hsx11, hpx11, hln11, hsc11⟩, hls11, hlen11, hdl11, hol11⟩ := ltx_go (hL i11 (by omega)) (by omega)
              refine my_bea (v := .ref (g (3 * i11 + 52))) rfl ?_
              have hls7 := hx_1_2 c_54
              have hgd7 := rdO_good hln7 c_54
              have hlen7 : (rdO (TL xn) (TG xn)).length = sc97 := by
                have h6 := congrArg List.length hls7
                rw [stk_len, List.length_map] at h6
                exact h6.symm
              obtain ⟨q8, q6, ks, hq8, hq88, hq6, hq64, hq2, hks⟩ := hTr.1 tn htn
              obtain ⟨sw, hZ, hJ9⟩ := okZ_J (Nat.le_refl nt) hH hQn hTr.2.2.1
              replace hhs := ((o_2 12 (by first | decide | omega))).trans hhs
              replace hpr := ((o_2 37 (by first | decide | omega))).trans hpr
              replace hpd := ((o_2 38 (by first | decide | omega))).trans hpd
              replace hfr := ((o_2 39 (by first | decide | omega))).trans hfr
              replace hfd := ((o_2 40 (by first | decide | omega))).trans hfd
              replace hor := ((o_2 41 (by first | decide | omega))).trans hor
              replace hod := ((o_2 42 (by first | decide | omega))).trans hod
              replace htx7 : f_2 (3 * xn + 117) = eO 7 [.ref (g ((3 * xn + 117) + 1)), .ref (g ((3 * xn + 117) + 2)), .int (nI (TL xn)), .int (nI sc97)] := ((o_2 (3 * xn + 117) (by omega))).trans htx7
              replace hpx7 : f_2 (3 * xn + 119) = eI G 50 sp98 := ((o_2 (3 * xn + 119) (by omega))).trans hpx7
              refine b_callv (va_runV (As := [.int (nI tn), .ref (g 13), .ref (g (3 * xn + 117)), .ref (g (3 * i11 + 52))]) (rest := []) ⟨hx, hb, hml, hown, hts⟩ (u_hearE11 l G g hg f_2 nt hf pay fine nt ct np dp nf df nr dr 13 sl6 lo6 ib6 ca6 mi6 s06 s16 sw6 od6 vv99 sw tn q8 q6 ks (fitT np nf (fun i c => dp (4 * i + c)) (fun i c => df (3 * i + c)) (fun t c => ct (70 * t + c)) (cJr np nf nr na dp df dr da ct LL LG) tn tn (some (rdO (TL xn) (TG xn)))) (boxT np nf nr (fun i c => dp (4 * i + c)) (fun i c => df (3 * i + c)) (fun i c => dr (3 * i + c)) (fun t c => ct (70 * t + c)) (cJr np nf nr na dp df dr da ct LL LG) tn tn (some (rdO (TL xn) (TG xn))) (some (rdO (LL i11) (LG i11)))) (3 * xn + 117) (TL xn) sc97 sp98 (rdO (TL xn) (TG xn)) (3 * i11 + 52) (LL i11) sc11 sp11 (rdO (LL i11) (LG i11)) hctc hhs hbk htr hct hpr hpd hfr hfd hor hod hvl hh6 ho6 htx7 hpx7 htx11 hpx11 (by first | assumption | omega | decide) (by first | assumption | omega | decide) (by first | assumption | omega | decide) (by first | assumption | omega | decide) (by first | assumption | omega | decide) (by first | assumption | omega | decide) (by first | assumption | omega | decide) (by first | assumption | omega | decide) (by first | assumption | omega | decide) (by first | assumption | omega | decide) (by first | assumption | omega | decide) (hq8) (hq88) (hq6) (hq64) (hq2) (hks) (by first | assumption | omega | decide) (by first | assumption | omega | decide) (hln7) (hx_1_1) (hls7) (hlen7) (hgd7.1) (hgd7.2) (by first | assumption | omega | decide) (by first | assumption | omega | decide) (hln11) (hsc11) (hls11) (hlen11) (hdl11) (hol11) (bs_fit (by omega) (fun b9 h9 h10 => hTr.2.1 tn b9 h9 h10) (fun q hq => hJ9 q (by omega))) (bs_box (by omega) (fun b9 h9 h10 => hTr.2.1 tn b9 h9 h10) (fun q hq => hJ9 q (by omega))) (boxV_hi hnp rfl) (hZ)) (my_cwV hts ok_X1_hear w_810 rfl rfl ⟨Nat.le_of_ble_eq_true rfl, Nat.le_of_ble_eq_true rfl⟩) ⟨bP.blind, va_recv hG.1 hP (ci := 1) (q0 := 1) rfl (wl_at (by decide) hctc), fun U hU hW => ⟨rfl, by rw [hU]; exact hP, kG.warm hW hG⟩⟩ rfl rfl hl.1 rfl (lv_room (Nat.le_of_ble_eq_true rfl)) dX10_beside_132 ⟨Nat.le_of_ble_eq_true rfl, Nat.le_of_ble_eq_true rfl⟩) hS (fun f_5 H locs hq9 hP hS => ?_)
              obtain ⟨vv913, hq_5_0, hx_5_0, o_5⟩ := hq9
              have hvl : f_5 15 = eJ G 50 vv913 := hq_5_0
              have hSp : okH G g f_5 13 := (okQ.okZ hx_5_0 (hTr.2.2.1 tn htn)).ok
              obtain ⟨od8, hh6, ho6, hd8⟩ := id hx_5_0
              refine lv_aload_n hx hb dX10_beside_135 rfl (lv_at hl 2 rfl) ?_
              replace hx0 := ((o_5 0 (by first | decide | omega))).trans hx0
              refine va_get (D := G.1) (ci := 9) (v := .ref (g 1)) (C := RX10) (T := TX10) (N := 7) hx hb hts inlX10 hown hG.1 hP 0 (wl_at (by decide) hx0) rfl 0 (by decide) (hts (.fieldLink RX10 12 "SwornLists" "court" "LSwornLists$Court;") w_15) (fun _ h9 => h9) rfl dX10_beside_136 ?_
              refine lv_iload_n hx hb dX10_beside_139 rfl (lv_at hl 3 rfl) ?_
              replace hctc := ((o_5 1 (by first | decide | omega))).trans hctc
              replace hhs := ((o_5 12 (by first | decide | omega))).trans hhs
              refine rd_calla (va_runV (As := [.int (nI tn)]) (rest := []) ⟨hx, hb, hml, hown, hts⟩ (u_hearing l G g hg f_5 nt hf tn hctc hhs (by first | assumption | omega | decide) (by first | assumption | omega | decide) (by first | assumption | omega | decide)) (my_cwV hts ok_X1_hearing w_675 rfl rfl ⟨Nat.le_of_ble_eq_true rfl, Nat.le_of_ble_eq_true rfl⟩) ⟨bP.blind, va_recv hG.1 hP (ci := 1) (q0 := 1) rfl (wl_at (by decide) hctc), fun U hU hW => ⟨rfl, by rw [hU]; exact hP, kG.warm hW hG⟩⟩ rfl rfl hl.1 rfl (lv_room (Nat.le_of_ble_eq_true rfl)) dX10_beside_140 ⟨Nat.le_of_ble_eq_true rfl, Nat.le_of_ble_eq_true rfl⟩) (fun r hr9 => ?_)
              subst hr9
              replace hh7 : f_5 (2 * tn + 16) = eO 3 [.ref (g (2 * tn + 17)), .int (nI (hM (cBx np nf nr na dp df dr da ct LL LG tn) (fun c => ct (70 * tn + c)))), .int (lotF (ct (70 * tn + 7)) (hM (cBx np nf nr na dp df dr da ct LL LG tn) (fun c => ct (70 * tn + c)))), .int (cBx np nf nr na dp df dr da ct LL LG tn), .int (hCa (cBx np nf nr na dp df dr da ct LL LG tn) (fun c => ct (70 * tn + c))), .int (hMi (cBx np nf nr na dp df dr da ct LL LG tn) (fun c => ct (70 * tn + c))), .int ((hX (cBx np nf nr na dp df dr da ct LL LG tn) (fun c => ct (70 * tn + c))).1), .int ((hX (cBx np nf nr na dp df dr da ct LL LG tn) (fun c => ct (70 * tn + c))).2), .int (hSw (cBx np nf nr na dp df dr da ct LL LG tn) (pasV (cFt np nf nr na dp df dr da ct LL LG tn) (cBx np nf nr na dp df dr da ct LL LG tn)) (fun c => ct (70 * tn + c)))] := ((o_5 (2 * tn + 16) (by omega))).trans hh7
              refine va_getN (D := G.1) (ci := 3) (v := .int (hSw (cBx np nf nr na dp df dr da ct LL LG tn) (pasV (cFt np nf nr na dp df dr da ct LL LG tn) (cBx np nf nr na dp df dr da ct LL LG tn)) (fun c => ct (70 * tn + c)))) (C := RX3) (T := TX3) (N := 9) (host := RX10) hx hb hts inlX3 hown hG.1 hP (2 * tn + 16) (wl_at (by omega) hh7) rfl 8 (by decide) (va_Nw.use rfl (hG.2.1 (.fieldLinkNest RX10 188 RX3 "sworn" "I" RX10) (List.mem_of_getElem? (i := 16) rfl))) (fun _ h9 => h9) rfl dX10_beside_143 ?_
              refine lv_aload_n hx hb dX10_beside_146 rfl (lv_at hl 2 rfl) ?_
              refine va_get (D := G.1) (ci := 9) (v := .ref (g 1)) (C := RX10) (T := TX10) (N := 7) hx hb hts inlX10 hown hG.1 hP 0 (wl_at (by decide) hx0) rfl 0 (by decide) (hts (.fieldLink RX10 12 "SwornLists" "court" "LSwornLists$Court;") w_15) (fun _ h9 => h9) rfl dX10_beside_147 ?_
              refine va_getN (D := G.1) (ci := 1) (v := .ref (g 13)) (C := RX1) (T := TX1) (N := 5) (host := RX10) hx hb hts inlX1 hown hG.1 hP 1 (wl_at (by decide) hctc) rfl 2 (by decide) (va_Nw.use rfl (hG.2.1 (.fieldLinkNest RX10 236 RX1 "spare" "LSwornLists$Hearing;" RX10) (List.mem_of_getElem? (i := 18) rfl))) (fun _ h9 => h9) rfl dX10_beside_150 ?_
              refine va_getN (D := G.1) (ci := 3) (v := .int (hSw (boxT np nf nr (fun i c => dp (4 * i + c)) (fun i c => df (3 * i + c)) (fun i c => dr (3 * i + c)) (fun t c => ct (70 * t + c)) (cJr np nf nr na dp df dr da ct LL LG) tn tn (some (rdO (TL xn) (TG xn))) (some (rdO (LL i11) (LG i11)))) (pasV (fitT np nf (fun i c => dp (4 * i + c)) (fun i c => df (3 * i + c)) (fun t c => ct (70 * t + c)) (cJr np nf nr na dp df dr da ct LL LG) tn tn (some (rdO (TL xn) (TG xn)))) (boxT np nf nr (fun i c => dp (4 * i + c)) (fun i c => df (3 * i + c)) (fun i c => dr (3 * i + c)) (fun t c => ct (70 * t + c)) (cJr np nf nr na dp df dr da ct LL LG) tn tn (some (rdO (TL xn) (TG xn))) (some (rdO (LL i11) (LG i11))))) (fun c => ct (70 * tn + c)))) (C := RX3) (T := TX3) (N := 9) (host := RX10) hx hb hts inlX3 hown hG.1 hP 13 (wl_at (by decide) hh6) rfl 8 (by decide) (va_Nw.use rfl (hG.2.1 (.fieldLinkNest RX10 188 RX3 "sworn" "I" RX10) (List.mem_of_getElem? (i := 16) rfl))) (fun _ h9 => h9) rfl dX10_beside_153 ?_
              refine lv_ixor hx hb dX10_beside_156 ?_
              refine W_q9 hQ9 ?_
              replace him := ((o_5 2 (by first | decide | omega)).trans ((o_2 2 (by first | decide | omega)).trans ((o_1 2 (by first | decide | omega))))).trans him
              replace hkp := ((o_5 3 (by first | decide | omega)).trans ((o_2 3 (by first | decide | omega)).trans ((o_1 3 (by first | decide | omega))))).trans hkp
              replace hrd := ((o_5 4 (by first | decide | omega)).trans ((o_2 4 (by first | decide | omega)))).trans hrd
              replace hmk := ((o_5 5 (by first | decide | omega)).trans ((o_2 5 (by first | decide | omega)))).trans hmk
              replace hfc6 := ((o_5 6 (by first | decide | omega)).trans ((o_2 6 (by first | decide | omega)).trans ((o_1 6 (by first | decide | omega))))).trans hfc6
              replace hwt := ((o_5 7 (by first | decide | omega)).trans ((o_2 7 (by first | decide | omega)).trans ((o_1 7 (by first | decide | omega))))).trans hwt
              replace hw8 := ((o_5 8 (by first | decide | omega)).trans ((o_2 8 (by first | decide | omega)).trans ((o_1 8 (by first | decide | omega))))).trans hw8
              replace hw9 := ((o_5 9 (by first | decide | omega)).trans ((o_2 9 (by first | decide | omega)).trans ((o_1 9 (by first | decide | omega))))).trans hw9
              replace hw10 := ((o_5 10 (by first | decide | omega)).trans ((o_2 10 (by first | decide | omega)).trans ((o_1 10 (by first | decide | omega))))).trans hw10
              replace hw11 := ((o_5 11 (by first | decide | omega)).trans ((o_2 11 (by first | decide | omega)).trans ((o_1 11 (by first | decide | omega))))).trans hw11
              replace hbk := ((o_5 36 (by first | decide | omega))).trans hbk
              replace hpr := ((o_5 37 (by first | decide | omega))).trans hpr
              replace hpd := ((o_5 38 (by first | decide | omega))).trans hpd
              replace hfr := ((o_5 39 (by first | decide | omega))).trans hfr
              replace hfd := ((o_5 40 (by first | decide | omega))).trans hfd
              replace hor := ((o_5 41 (by first | decide | omega))).trans hor
              replace hod := ((o_5 42 (by first | decide | omega))).trans hod
              replace har := ((o_5 43 (by first | decide | omega))).trans har
              replace had := ((o_5 44 (by first | decide | omega))).trans had
              replace htr := ((o_5 45 (by first | decide | omega))).trans htr
              replace hct := ((o_5 46 (by first | decide | omega))).trans hct
              replace hla := ((o_5 47 (by first | decide | omega))).trans hla
              replace hlaa := ((o_5 48 (by first | decide | omega))).trans hlaa
              replace hts0 := ((o_5 112 (by first | decide | omega)).trans ((o_2 112 (by first | decide | omega)).trans ((o_1 112 (by first | decide | omega))))).trans hts0
              replace htsa := ((o_5 113 (by first | decide | omega)).trans ((o_2 113 (by first | decide | omega)).trans ((o_1 113 (by first | decide | omega))))).trans htsa
              replace hH : ∀ i, i < 10 → okH G g f_5 (2 * i + 16) := fun z hz => okH_fr (hH z hz) (o_5 _ (by omega)) (o_5 _ (by omega))
              replace hL : ∀ i, i < 20 → ltx G g f_5 (3 * i + 52) (LL i) (LG i) (i < na) := fun z hz => ltx_fr (hL z hz) (o_5 _ (by omega)) (o_5 _ (by omega)) (o_5 _ (by omega))
              replace hT : ∀ i, i < 4 → txt G g f_2 (3 * i + 117) (TL i) (TG i) := fun z hz => txt_fr (hT z hz) (o_2 _ (by omega)) (o_2 _ (by omega)) (o_2 _ (by omega))
              replace hT : ∀ i, i < 4 → txt G g f_5 (3 * i + 117) (TL i) (TG i) := fun z hz => txt_fr (hT z hz) (o_5 _ (by omega)) (o_5 _ (by omega)) (o_5 _ (by omega))
              replace hB1 : bkD G g f_1 129 N1 E1 P1 L1 S1 W1 X1 := bkD_fr hB1 (fun j _ _ => o_1 j (by omega))
              replace hB1 : bkD G g f_2 129 N1 E1 P1 L1 S1 W1 X1 := bkD_fr hB1 (fun j _ _ => o_2 j (by omega))
              replace hB1 : bkD G g f_5 129 N1 E1 P1 L1 S1 W1 X1 := bkD_fr hB1 (fun j _ _ => o_5 j (by omega))
              replace hB2 : bkD G g f_1 222 N2 E2 P2 L2 S2 W2 X2 := bkD_fr hB2 (fun j _ _ => o_1 j (by omega))
              replace hB2 : bkD G g f_2 222 N2 E2 P2 L2 S2 W2 X2 := bkD_fr hB2 (fun j _ _ => o_2 j (by omega))
              replace hB2 : bkD G g f_5 222 N2 E2 P2 L2 S2 W2 X2 := bkD_fr hB2 (fun j _ _ => o_5 j (by omega))
              replace hQn : ∀ z, z < nt → cHz G g f_5 np nf nr na dp df dr da ct LL LG z := fun z hz => okQ_fr (hQn z hz) (o_5 _ (by omega)) (o_5 _ (by omega))
              exact W.iret (v := (hSw (cBx np nf nr na dp df dr da ct LL LG tn) (pasV (cFt np nf nr na dp df dr da ct LL LG tn) (cBx np nf nr na dp df dr da ct LL LG tn)) (fun c => ct (70 * tn + c))) ^^^ (hSw (boxT np nf nr (fun i c => dp (4 * i + c)) (fun i c => df (3 * i + c)) (fun i c => dr (3 * i + c)) (fun t c => ct (70 * t + c)) (cJr np nf nr na dp df dr da ct LL LG) tn tn (some (rdO (TL xn) (TG xn))) (some (rdO (LL i11) (LG i11)))) (pasV (fitT np nf (fun i c => dp (4 * i + c)) (fun i c => df (3 * i + c)) (fun t c => ct (70 * t + c)) (cJr np nf nr na dp df dr da ct LL LG) tn tn (some (rdO (TL xn) (TG xn)))) (boxT np nf nr (fun i c => dp (4 * i + c)) (fun i c => df (3 * i + c)) (fun i c => dr (3 * i + c)) (fun t c => ct (70 * t + c)) (cJr np nf nr na dp df dr da ct LL LG) tn tn (some (rdO (TL xn) (TG xn))) (some (rdO (LL i11) (LG i11))))) (fun c => ct (70 * tn + c)))) hx hb hr (fun _ hT9 _ => ⟨⟨_, f_5, rfl, (⟨cJ_mk (nt) (hf) (imf) (mc92) (op93) (cm94) (wu95) (mk96) (ab) (be) (mn) (le) (wt) (ww) (wb) (wf) (vv913) (lf) (tf) (hx0) (hctc) (hhs) (him) (hkp) (hrd) (hmk) (hfc6) (hwt) (hw8) (hw9) (hw10) (hw11) (hvl) (hbk) (hpr) (hpd) (hfr) (hfd) (hor) (hod) (har) (had) (htr) (hct) (hla) (hlaa) (hts0) (htsa) (by omega) (hhf) (him0) (him1) (by omega) (by omega) (by omega) (by omega) (by omega) (by omega) (by omega) (hlf) (htf) (by omega) (hH) (hSp) (hL) (hT) (hB1) (hB2) (hQn), (Or.inr ⟨tn, xn, 0, htn, rfl, hxn, rfl, by decide, rfl, Or.inr ⟨c_54, bs_end (cJr_eq (t := tn)).symm (fun _ _ => rfl) bsO_y.symm ((bsO_n (by decide)).trans (congrArg (Option.map (fun z => rdO (LL z) (LG z))) hx_3_1)).symm⟩⟩), fun j hj => (((o_5 j (by omega))).trans (o_2 j (by omega))).trans (o_1 j (by omega))⟩), by rw [hT9]; exact hP⟩, hS.F hT9⟩) hS.2.2 dX10_beside_157
          · refine lv_bipush (v := (-3)) hx hb dX10_beside_57 (by decide) ?_
            refine W_q9 hQ9 ?_
            replace hx0 := ((o_1 0 (by first | decide | omega))).trans hx0
            replace hctc := ((o_1 1 (by first | decide | omega))).trans hctc
            replace hhs := ((o_1 12 (by first | decide | omega))).trans hhs
            replace him := ((o_1 2 (by first | decide | omega))).trans him
            replace hkp := ((o_1 3 (by first | decide | omega))).trans hkp
            replace hfc6 := ((o_1 6 (by first | decide | omega))).trans hfc6
            replace hwt := ((o_1 7 (by first | decide | omega))).trans hwt
            replace hw8 := ((o_1 8 (by first | decide | omega))).trans hw8
            replace hw9 := ((o_1 9 (by first | decide | omega))).trans hw9
            replace hw10 := ((o_1 10 (by first | decide | omega))).trans hw10
            replace hw11 := ((o_1 11 (by first | decide | omega))).trans hw11
            replace hvl := ((o_1 15 (by first | decide | omega))).trans hvl
            replace hbk := ((o_1 36 (by first | decide | omega))).trans hbk
            replace hpr := ((o_1 37 (by first | decide | omega))).trans hpr
            replace hpd := ((o_1 38 (by first | decide | omega))).trans hpd
            replace hfr := ((o_1 39 (by first | decide | omega))).trans hfr
            replace hfd := ((o_1 40 (by first | decide | omega))).trans hfd
            replace hor := ((o_1 41 (by first | decide | omega))).trans hor
            replace hod := ((o_1 42 (by first | decide | omega))).trans hod
            replace har := ((o_1 43 (by first | decide | omega))).trans har
            replace had := ((o_1 44 (by first | decide | omega))).trans had
            replace htr := ((o_1 45 (by first | decide | omega))).trans htr
            replace hct := ((o_1 46 (by first | decide | omega))).trans hct
            replace hla := ((o_1 47 (by first | decide | omega))).trans hla
            replace hlaa := ((o_1 48 (by first | decide | omega))).trans hlaa
            replace hts0 := ((o_1 112 (by first | decide | omega))).trans hts0
            replace htsa := ((o_1 113 (by first | decide | omega))).trans htsa
            replace hH : ∀ i, i < 10 → okH G g f_1 (2 * i + 16) := fun z hz => okH_fr (hH z hz) (o_1 _ (by omega)) (o_1 _ (by omega))
            replace hSp : okH G g f_1 13 := okH_fr hSp (o_1 _ (by omega)) (o_1 _ (by omega))
            replace hL : ∀ i, i < 20 → ltx G g f_1 (3 * i + 52) (LL i) (LG i) (i < na) := fun z hz => ltx_fr (hL z hz) (o_1 _ (by omega)) (o_1 _ (by omega)) (o_1 _ (by omega))
            replace hB1 : bkD G g f_1 129 N1 E1 P1 L1 S1 W1 X1 := bkD_fr hB1 (fun j _ _ => o_1 j (by omega))
            replace hB2 : bkD G g f_1 222 N2 E2 P2 L2 S2 W2 X2 := bkD_fr hB2 (fun j _ _ => o_1 j (by omega))
            replace hQ : ∀ z, z < se → cHz G g f_1 np nf nr na dp df dr da ct LL LG z := fun z hz => okQ_fr (hQ z hz) (o_1 _ (by omega)) (o_1 _ (by omega))
            exact W.iret (v := (-3)) hx hb hr (fun _ hT9 _ => ⟨⟨_, f_1, rfl, (⟨cJ_mk (se) (hf) (imf) (mc92) (op93) (cm94) (wu95) (mk96) (ab) (be) (mn) (le) (wt) (ww) (wb) (wf) (vv) (lf) (tf) (hx0) (hctc) (hhs) (him) (hkp) (hrd) (hmk) (hfc6) (hwt) (hw8) (hw9) (hw10) (hw11) (hvl) (hbk) (hpr) (hpd) (hfr) (hfd) (hor) (hod) (har) (had) (htr) (hct) (hla) (hlaa) (hts0) (htsa) (by omega) (hhf) (him0) (him1) (by omega) (by omega) (by omega) (by omega) (by omega) (by omega) (by omega) (hlf) (htf) (by omega) (hH) (hSp) (hL) (hT) (hB1) (hB2) (hQ), (Or.inr ⟨tn, xn, 0, htn, rfl, hxn, rfl, by decide, rfl, Or.inl ⟨c_54, rfl⟩⟩), fun j hj => (o_1 j (by omega))⟩), by rw [hT9]; exact hP⟩, hS.F hT9⟩) hS.2.2 dX10_beside_59
        · subst e9
          obtain ⟨tn, htn, rfl⟩ := inN_nat (by omega) c_11
          obtain ⟨xn, hxn, rfl⟩ := inB_n (b := 3) (by omega) c_18
          refine lv_aload_n hx hb dX10_beside_31 rfl (lv_at hl 0 rfl) ?_
          refine va_get (D := G.1) (ci := 9) (v := .ref (g 36)) (C := RX10) (T := TX10) (N := 7) hx hb hts inlX10 hown hG.1 hP 0 (wl_at (by decide) hx0) rfl 1 (by decide) (hts (.fieldLink RX10 20 "SwornLists" "book" "LSwornLists$Book;") w_16) (fun _ h9 => h9) rfl dX10_beside_32 ?_
          refine va_getN (D := G.1) (ci := 0) (v := .ref (g 112)) (C := RX0) (T := TX0) (N := 9) (host := RX10) hx hb hts inlX0 hown hG.1 hP 36 (wl_at (by decide) hbk) rfl 6 (by decide) (va_Nw.use rfl (hG.2.1 (.fieldLinkNest RX10 98 RX0 "texts" "LSwornLists$Shelf;" RX10) (List.mem_of_getElem? (i := 9) rfl))) (fun _ h9 => h9) rfl dX10_beside_35 ?_
          refine lv_iload_n hx hb dX10_beside_38 rfl (lv_at hl 2 rfl) ?_
          refine rd_calla (va_runV (As := [.int (nI xn)]) (rest := []) ⟨hx, hb, hml, hown, hts⟩ (w_get l G g hg f 112 4 tf xn hts0 htsa (by first | assumption | omega | decide) (by first | assumption | omega | decide) (by first | assumption | omega | decide) (by first | assumption | omega | decide)) (my_cwV hts ok_X6_get w_245 rfl rfl ⟨Nat.le_of_ble_eq_true rfl, Nat.le_of_ble_eq_true rfl⟩) ⟨bP.blind, va_recv hG.1 hP (ci := 6) (q0 := 112) rfl (wl_at (by decide) hts0), fun U hU hW => ⟨rfl, by rw [hU]; exact hP, kG.warm hW hG⟩⟩ rfl rfl hl.1 rfl (lv_room (Nat.le_of_ble_eq_true rfl)) dX10_beside_39 ⟨Nat.le_of_ble_eq_true rfl, Nat.le_of_ble_eq_true rfl⟩) (fun r hr9 => ?_)
          subst hr9
          refine my_bea (v := .ref (g (3 * xn + 117))) (by rw [show 112 + 3 * xn + 5 = 3 * xn + 117 by omega]) ?_
          obtain ⟨sc7, sp7, htx7, hsx7, hpx7, hln7, hsc7⟩ := hT xn (by omega)
          refine lv_astore (lv' := [(4, .ref (g (3 * xn + 117))), (0, .ref (g 0)), (1, .int (nI tn)), (2, .int (nI xn)), (3, .int 1)]) hx hb dX10_beside_42 hl (by decide) rfl (fun ls hl => ?_)
          refine lv_aload_n hx hb dX10_beside_44 rfl (lv_at hl 1 rfl) ?_
          refine va_get (D := G.1) (ci := 9) (v := .ref (g 4)) (C := RX10) (T := TX10) (N := 7) hx hb hts inlX10 hown hG.1 hP 0 (wl_at (by decide) hx0) rfl 4 (by decide) (hts (.fieldLink RX10 34 "SwornLists" "reader" "LSwornLists$Reader;") w_24) (fun _ h9 => h9) rfl dX10_beside_45 ?_
          refine lv_aload hx hb dX10_beside_48 (lv_at hl 0 rfl) ?_
          refine b_calli (va_runV (As := [.ref (g (3 * xn + 117))]) (rest := []) ⟨hx, hb, hml, hown, hts⟩ (e_readE l G g hg f (3 * xn + 117) (TL xn) sc7 (TG xn) sp7 mc op cm wu mk hrd hmk htx7 hsx7 hpx7 (by first | assumption | omega | decide) (by first | assumption | omega | decide) (by first | assumption | omega | decide) (by first | assumption | omega | decide) (by first | assumption | omega | decide)) (my_cwV hts ok_X4_read w_278 rfl rfl ⟨Nat.le_of_ble_eq_true rfl, Nat.le_of_ble_eq_true rfl⟩) ⟨bP.blind, va_recv hG.1 hP (ci := 4) (q0 := 4) rfl (wl_at (by decide) hrd), fun U hU hW => ⟨rfl, by rw [hU]; exact hP, kG.warm hW hG⟩⟩ rfl rfl hl.1 rfl (lv_room (Nat.le_of_ble_eq_true rfl)) dX10_beside_50 ⟨Nat.le_of_ble_eq_true rfl, Nat.le_of_ble_eq_true rfl⟩) hS (fun v14 f_6 H locs hq9 hP hS => ?_)
          obtain ⟨mc915, op916, cm917, wu918, mk919, sc920, sp921, rfl, hq_6_0, hq_6_1, hq_6_2, hq_6_3, hx_6_0, hx_6_1, hx_6_2, o_6⟩ := hq9
          have hrd : f_6 4 = eO 4 [.ref (g 5), .int (nI mc915), .int op916, .int cm917, .int wu918] := hq_6_0
          have hmk : f_6 5 = eI G 50 mk919 := hq_6_1
          have htx7 : f_6 (3 * xn + 117) = eO 7 [.ref (g ((3 * xn + 117) + 1)), .ref (g ((3 * xn + 117) + 2)), .int (nI (TL xn)), .int (nI sc920)] := hq_6_2
          have hpx7 : f_6 (3 * xn + 119) = eI G 50 sp921 := hq_6_3
          replace hsx7 : f_6 (3 * xn + 118) = eI G 50 (TG xn) := ((o_6 (3 * xn + 118) (by omega))).trans hsx7
          have hT : ∀ i, i < 4 → txt G g f_6 (3 * i + 117) (TL i) (TG i) := fun z hz => if e9 : z = xn then (by rw [e9]; exact ⟨_, _, htx7, hsx7, hpx7, by omega, by omega⟩) else txt_fr (hT z hz) (o_6 _ (by omega)) (o_6 _ (by omega)) (o_6 _ (by omega))
          refine lv_iconst (v := (-1)) hx hb dX10_beside_53 (by decide) ?_
          refine lv_icmp_eq (tgt := 60) hx hb dX10_beside_54 (by decide) (fun c_54 => ?_) (fun c_54 => ?_)
          · refine lv_aload_n hx hb dX10_beside_60 rfl (lv_at hl 1 rfl) ?_
            replace hx0 := ((o_6 0 (by first | decide | omega))).trans hx0
            refine va_get (D := G.1) (ci := 9) (v := .ref (g 1)) (C := RX10) (T := TX10) (N := 7) hx hb hts inlX10 hown hG.1 hP 0 (wl_at (by decide) hx0) rfl 0 (by decide) (hts (.fieldLink RX10 12 "SwornLists" "court" "LSwornLists$Court;") w_15) (fun _ h9 => h9) rfl dX10_beside_61 ?_
            replace hctc := ((o_6 1 (by first | decide | omega))).trans hctc
            replace hhs := ((o_6 12 (by first | decide | omega))).trans hhs
            replace hbk := ((o_6 36 (by first | decide | omega))).trans hbk
            replace htr := ((o_6 45 (by first | decide | omega))).trans htr
            replace hct := ((o_6 46 (by first | decide | omega))).trans hct
            replace hpr := ((o_6 37 (by first | decide | omega))).trans hpr
            replace hpd := ((o_6 38 (by first | decide | omega))).trans hpd
            replace hfr := ((o_6 39 (by first | decide | omega))).trans hfr
            replace hfd := ((o_6 40 (by first | decide | omega))).trans hfd
            replace hor := ((o_6 41 (by first | decide | omega))).trans hor
            replace hod := ((o_6 42 (by first | decide | omega))).trans hod
            replace har := ((o_6 43 (by first | decide | omega))).trans har
            replace had := ((o_6 44 (by first | decide | omega))).trans had
            replace hla := ((o_6 47 (by first | decide | omega))).trans hla
            replace hlaa := ((o_6 48 (by first | decide | omega))).trans hlaa
            replace hvl := ((o_6 15 (by first | decide | omega))).trans hvl
            replace hQ : ∀ z, z < se → cHz G g f_6 np nf nr na dp df dr da ct LL LG z := fun z hz => okQ_fr (hQ z hz) (o_6 _ (by omega)) (o_6 _ (by omega))
            replace hH : ∀ i, i < 10 → okH G g f_6 (2 * i + 16) := fun z hz => okH_fr (hH z hz) (o_6 _ (by omega)) (o_6 _ (by omega))
            replace hL : ∀ i, i < 20 → ltx G g f_6 (3 * i + 52) (LL i) (LG i) (i < na) := fun z hz => ltx_fr (hL z hz) (o_6 _ (by omega)) (o_6 _ (by omega)) (o_6 _ (by omega))
            refine b_callv (va_runV (As := []) (rest := []) ⟨hx, hb, hml, hown, hts⟩ (u_settleE l G g hg f_6 se hf pay fine nt ct np dp nf df nr dr na da lf vv LL LG hctc hhs hbk htr hct hpr hpd hfr hfd hor hod har had hla hlaa hvl (by first | assumption | omega | decide) (by first | assumption | omega | decide) (by first | assumption | omega | decide) (by first | assumption | omega | decide) (by first | assumption | omega | decide) (by first | assumption | omega | decide) (by first | assumption | omega | decide) (by first | assumption | omega | decide) (hTr.1) (hTr.2.1) (hTr.2.2.1) (by first | assumption | omega | decide) (hQ) (by first | assumption | omega | decide) (hL)) (my_cwV hts ok_X1_settle w_384 rfl rfl ⟨Nat.le_of_ble_eq_true rfl, Nat.le_of_ble_eq_true rfl⟩) ⟨bP.blind, va_recv hG.1 hP (ci := 1) (q0 := 1) rfl (wl_at (by decide) hctc), fun U hU hW => ⟨rfl, by rw [hU]; exact hP, kG.warm hW hG⟩⟩ rfl rfl hl.1 rfl (lv_room (Nat.le_of_ble_eq_true rfl)) dX10_beside_64 ⟨Nat.le_of_ble_eq_true rfl, Nat.le_of_ble_eq_true rfl⟩) hS (fun f_7 H locs hq9 hP hS => ?_)
            obtain ⟨vv922, hq_7_0, hq_7_1, hx_7_0, hx_7_1, o_7⟩ := hq9
            have hctc : f_7 1 = eO 1 [.ref (g 36), .ref (g 12), .ref (g 13), .ref (g 15), .int (nI nt)] := hq_7_0
            have hvl : f_7 15 = eJ G 50 vv922 := hq_7_1
            have hH : ∀ i, i < 10 → okH G g f_7 (2 * i + 16) := hx_7_0
            have hQn : ∀ z, z < nt → cHz G g f_7 np nf nr na dp df dr da ct LL LG z := hx_7_1
            replace hSp : okH G g f_6 13 := okH_fr hSp (o_6 _ (by omega)) (o_6 _ (by omega))
            replace hSp : okH G g f_7 13 := okH_fr hSp (o_7 _ (by omega)) (o_7 _ (by omega))
            obtain ⟨od7, hh7, ho7, hd7⟩ := id (hQn tn (by omega))
            have hm7 : hM (cBx np nf nr na dp df dr da ct LL LG tn) (fun c => ct (70 * tn + c)) ≤ 24 := by
              have h9 := hTr.2.2.1 tn (by omega)
              exact Nat.le_trans (Nat.min_le_left _ _) h9
            obtain ⟨sl6, lo6, ib6, ca6, mi6, s06, s16, sw6, od6, hh6, ho6, hs6⟩ := id hSp
            refine lv_aload_n hx hb dX10_beside_67 rfl (lv_at hl 1 rfl) ?_
            replace hx0 := ((o_7 0 (by first | decide | omega))).trans hx0
            refine va_get (D := G.1) (ci := 9) (v := .ref (g 36)) (C := RX10) (T := TX10) (N := 7) hx hb hts inlX10 hown hG.1 hP 0 (wl_at (by decide) hx0) rfl 1 (by decide) (hts (.fieldLink RX10 20 "SwornLists" "book" "LSwornLists$Book;") w_16) (fun _ h9 => h9) rfl dX10_beside_68 ?_
            replace hbk := ((o_7 36 (by first | decide | omega))).trans hbk
            refine va_getN (D := G.1) (ci := 0) (v := .ref (g 45)) (C := RX0) (T := TX0) (N := 9) (host := RX10) hx hb hts inlX0 hown hG.1 hP 36 (wl_at (by decide) hbk) rfl 4 (by decide) (va_Nw.use rfl (hG.2.1 (.fieldLinkNest RX10 162 RX0 "trials" "LSwornLists$Rows;" RX10) (List.mem_of_getElem? (i := 7) rfl))) (fun _ h9 => h9) rfl dX10_beside_71 ?_
            refine lv_iload_n hx hb dX10_beside_74 rfl (lv_at hl 2 rfl) ?_
            refine lv_iconst (v := 0) hx hb dX10_beside_75 (by decide) ?_
            replace htr := ((o_7 45 (by first | decide | omega))).trans htr
            replace hct := ((o_7 46 (by first | decide | omega))).trans hct
            refine rd_calli (va_runV (As := [.int (nI tn), .int 0]) (rest := []) ⟨hx, hb, hml, hown, hts⟩ (r_at l G g hg f_7 45 10 70 nt ct (nI tn) 0 htr hct (by first | assumption | omega | decide) (by first | assumption | omega | decide) (by first | assumption | omega | decide) (by first | assumption | omega | decide)) (my_cwV hts ok_X5_at w_610 rfl rfl ⟨Nat.le_of_ble_eq_true rfl, Nat.le_of_ble_eq_true rfl⟩) ⟨bP.blind, va_recv hG.1 hP (ci := 5) (q0 := 45) rfl (wl_at (by decide) htr), fun U hU hW => ⟨rfl, by rw [hU]; exact hP, kG.warm hW hG⟩⟩ rfl rfl hl.1 rfl (lv_room (Nat.le_of_ble_eq_true rfl)) dX10_beside_76 ⟨Nat.le_of_ble_eq_true rfl, Nat.le_of_ble_eq_true rfl⟩) (fun r hr9 => ?_)
            subst hr9
            refine my_bei (v := ct (70 * tn + 0)) (atQ (d := ct) (w := 70) (i := tn) (c := 0) htn (by omega) (by omega) (by omega)) ?_
            refine lv_istore (lv' := [(5, .int (ct (70 * tn + 0))), (4, .ref (g (3 * xn + 117))), (0, .ref (g 0)), (1, .int (nI tn)), (2, .int (nI xn)), (3, .int 1)]) hx hb dX10_beside_79 hl (by decide) rfl (fun ls hl => ?_)
            refine lv_aload_n hx hb dX10_beside_81 rfl (lv_at hl 2 rfl) ?_
            refine va_get (D := G.1) (ci := 9) (v := .ref (g 1)) (C := RX10) (T := TX10) (N := 7) hx hb hts inlX10 hown hG.1 hP 0 (wl_at (by decide) hx0) rfl 0 (by decide) (hts (.fieldLink RX10 12 "SwornLists" "court" "LSwornLists$Court;") w_15) (fun _ h9 => h9) rfl dX10_beside_82 ?_
            refine lv_iload_n hx hb dX10_beside_85 rfl (lv_at hl 3 rfl) ?_
            refine lv_aload_n hx hb dX10_beside_86 rfl (lv_at hl 2 rfl) ?_
            refine va_get (D := G.1) (ci := 9) (v := .ref (g 1)) (C := RX10) (T := TX10) (N := 7) hx hb hts inlX10 hown hG.1 hP 0 (wl_at (by decide) hx0) rfl 0 (by decide) (hts (.fieldLink RX10 12 "SwornLists" "court" "LSwornLists$Court;") w_15) (fun _ h9 => h9) rfl dX10_beside_87 ?_
            refine va_getN (D := G.1) (ci := 1) (v := .ref (g 13)) (C := RX1) (T := TX1) (N := 5) (host := RX10) hx hb hts inlX1 hown hG.1 hP 1 (wl_at (by decide) hctc) rfl 2 (by decide) (va_Nw.use rfl (hG.2.1 (.fieldLinkNest RX10 236 RX1 "spare" "LSwornLists$Hearing;" RX10) (List.mem_of_getElem? (i := 18) rfl))) (fun _ h9 => h9) rfl dX10_beside_90 ?_
            refine lv_iload_n hx hb dX10_beside_93 rfl (lv_at hl 5 rfl) ?_
            refine lv_if_ne (tgt := 102) hx hb dX10_beside_94 (by decide) (fun c_94 => ?_) (fun c_94 => absurd c_94 (by decide))
            refine lv_aload_n hx hb dX10_beside_102 rfl (lv_at hl 2 rfl) ?_
            refine va_get (D := G.1) (ci := 9) (v := .ref (g 36)) (C := RX10) (T := TX10) (N := 7) hx hb hts inlX10 hown hG.1 hP 0 (wl_at (by decide) hx0) rfl 1 (by decide) (hts (.fieldLink RX10 20 "SwornLists" "book" "LSwornLists$Book;") w_16) (fun _ h9 => h9) rfl dX10_beside_103 ?_
            refine lv_iconst (v := 0) hx hb dX10_beside_106 (by decide) ?_
            refine lv_iload hx hb dX10_beside_107 (lv_at hl 0 rfl) ?_
            replace har := ((o_7 43 (by first | decide | omega))).trans har
            replace had := ((o_7 44 (by first | decide | omega))).trans had
            replace hla := ((o_7 47 (by first | decide | omega))).trans hla
            replace hlaa := ((o_7 48 (by first | decide | omega))).trans hlaa
            refine rd_calla (va_runV (As := [.int 0, .int (ct (70 * tn + 0))]) (rest := [.ref (g 13), .int (nI tn), .ref (g 1)]) ⟨hx, hb, hml, hown, hts⟩ (k_lawOfE l G g hg f_7 pay fine na da lf 0 (ct (70 * tn + 0)) hbk har had hla hlaa (by first | assumption | omega | decide) (by first | assumption | omega | decide)) (my_cwV hts ok_X0_lawOf w_628 rfl rfl ⟨Nat.le_of_ble_eq_true rfl, Nat.le_of_ble_eq_true rfl⟩) ⟨bP.blind, va_recv hG.1 hP (ci := 0) (q0 := 36) rfl (wl_at (by decide) hbk), fun U hU hW => ⟨rfl, by rw [hU]; exact hP, kG.warm hW hG⟩⟩ rfl rfl hl.1 rfl (lv_room (Nat.le_of_ble_eq_true rfl)) dX10_beside_109 ⟨Nat.le_of_ble_eq_true rfl, Nat.le_of_ble_eq_true rfl⟩) (fun r hr9 => ?_)
            obtain ⟨o923, rfl, hx_8_0, hx_8_1⟩ := hr9
            replace hL : ∀ i, i < 20 → ltx G g f_7 (3 * i + 52) (LL i) (LG i) (i < na) := fun z hz => ltx_fr (hL z hz) (o_7 _ (by omega)) (o_7 _ (by omega)) (o_7 _ (by omega))
            rcases o923 with _ | i24
            · refine my_bea (v := .null) rfl ?_
              refine lv_iload_n hx hb dX10_beside_112 rfl (lv_at hl 5 rfl) ?_
              refine lv_iconst (v := 1) hx hb dX10_beside_113 (by decide) ?_
              refine lv_icmp_ne (tgt := 122) hx hb dX10_beside_114 (by decide) (fun c_114 => absurd (by decide) c_114) (fun c_114 => ?_)
              refine lv_aload hx hb dX10_beside_117 (lv_at hl 1 rfl) ?_
              refine lv_goto (tgt := 132) hx hb dX10_beside_119 (by decide) ?_
              have hls7 := hx_6_2 c_54
              have hgd7 := rdO_good hln7 c_54
              have hlen7 : (rdO (TL xn) (TG xn)).length = sc920 := by
                have h6 := congrArg List.length hls7
                rw [stk_len, List.length_map] at h6
                exact h6.symm
              obtain ⟨q8, q6, ks, hq8, hq88, hq6, hq64, hq2, hks⟩ := hTr.1 tn htn
              obtain ⟨sw, hZ, hJ9⟩ := okZ_J (Nat.le_refl nt) hH hQn hTr.2.2.1
              replace hhs := ((o_7 12 (by first | decide | omega))).trans hhs
              replace hpr := ((o_7 37 (by first | decide | omega))).trans hpr
              replace hpd := ((o_7 38 (by first | decide | omega))).trans hpd
              replace hfr := ((o_7 39 (by first | decide | omega))).trans hfr
              replace hfd := ((o_7 40 (by first | decide | omega))).trans hfd
              replace hor := ((o_7 41 (by first | decide | omega))).trans hor
              replace hod := ((o_7 42 (by first | decide | omega))).trans hod
              replace htx7 : f_7 (3 * xn + 117) = eO 7 [.ref (g ((3 * xn + 117) + 1)), .ref (g ((3 * xn + 117) + 2)), .int (nI (TL xn)), .int (nI sc920)] := ((o_7 (3 * xn + 117) (by omega))).trans htx7
              replace hpx7 : f_7 (3 * xn + 119) = eI G 50 sp921 := ((o_7 (3 * xn + 119) (by omega))).trans hpx7
              refine b_callv (va_runV (As := [.int (nI tn), .ref (g 13), .null, .ref (g (3 * xn + 117))]) (rest := []) ⟨hx, hb, hml, hown, hts⟩ (u_hearE01 l G g hg f_7 nt hf pay fine nt ct np dp nf df nr dr 13 sl6 lo6 ib6 ca6 mi6 s06 s16 sw6 od6 vv922 sw tn q8 q6 ks (fitT np nf (fun i c => dp (4 * i + c)) (fun i c => df (3 * i + c)) (fun t c => ct (70 * t + c)) (cJr np nf nr na dp df dr da ct LL LG) tn tn none) (boxT np nf nr (fun i c => dp (4 * i + c)) (fun i c => df (3 * i + c)) (fun i c => dr (3 * i + c)) (fun t c => ct (70 * t + c)) (cJr np nf nr na dp df dr da ct LL LG) tn tn none (some (rdO (TL xn) (TG xn)))) (3 * xn + 117) (TL xn) sc920 sp921 (rdO (TL xn) (TG xn)) hctc hhs hbk htr hct hpr hpd hfr hfd hor hod hvl hh6 ho6 htx7 hpx7 (by first | assumption | omega | decide) (by first | assumption | omega | decide) (by first | assumption | omega | decide) (by first | assumption | omega | decide) (by first | assumption | omega | decide) (by first | assumption | omega | decide) (by first | assumption | omega | decide) (by first | assumption | omega | decide) (by first | assumption | omega | decide) (by first | assumption | omega | decide) (by first | assumption | omega | decide) (hq8) (hq88) (hq6) (hq64) (hq2) (hks) (by first | assumption | omega | decide) (by first | assumption | omega | decide) (hln7) (hx_6_1) (hls7) (hlen7) (hgd7.1) (hgd7.2) (bs_fit (by omega) (fun b9 h9 h10 => hTr.2.1 tn b9 h9 h10) (fun q hq => hJ9 q (by omega))) (bs_box (by omega) (fun b9 h9 h10 => hTr.2.1 tn b9 h9 h10) (fun q hq => hJ9 q (by omega))) (boxV_hi hnp rfl) (hZ)) (my_cwV hts ok_X1_hear w_810 rfl rfl ⟨Nat.le_of_ble_eq_true rfl, Nat.le_of_ble_eq_true rfl⟩) ⟨bP.blind, va_recv hG.1 hP (ci := 1) (q0 := 1) rfl (wl_at (by decide) hctc), fun U hU hW => ⟨rfl, by rw [hU]; exact hP, kG.warm hW hG⟩⟩ rfl rfl hl.1 rfl (lv_room (Nat.le_of_ble_eq_true rfl)) dX10_beside_132 ⟨Nat.le_of_ble_eq_true rfl, Nat.le_of_ble_eq_true rfl⟩) hS (fun f_9 H locs hq9 hP hS => ?_)
              obtain ⟨vv925, hq_9_0, hx_9_0, o_9⟩ := hq9
              have hvl : f_9 15 = eJ G 50 vv925 := hq_9_0
              have hSp : okH G g f_9 13 := (okQ.okZ hx_9_0 (hTr.2.2.1 tn htn)).ok
              obtain ⟨od8, hh6, ho6, hd8⟩ := id hx_9_0
              refine lv_aload_n hx hb dX10_beside_135 rfl (lv_at hl 2 rfl) ?_
              replace hx0 := ((o_9 0 (by first | decide | omega))).trans hx0
              refine va_get (D := G.1) (ci := 9) (v := .ref (g 1)) (C := RX10) (T := TX10) (N := 7) hx hb hts inlX10 hown hG.1 hP 0 (wl_at (by decide) hx0) rfl 0 (by decide) (hts (.fieldLink RX10 12 "SwornLists" "court" "LSwornLists$Court;") w_15) (fun _ h9 => h9) rfl dX10_beside_136 ?_
              refine lv_iload_n hx hb dX10_beside_139 rfl (lv_at hl 3 rfl) ?_
              replace hctc := ((o_9 1 (by first | decide | omega))).trans hctc
              replace hhs := ((o_9 12 (by first | decide | omega))).trans hhs
              refine rd_calla (va_runV (As := [.int (nI tn)]) (rest := []) ⟨hx, hb, hml, hown, hts⟩ (u_hearing l G g hg f_9 nt hf tn hctc hhs (by first | assumption | omega | decide) (by first | assumption | omega | decide) (by first | assumption | omega | decide)) (my_cwV hts ok_X1_hearing w_675 rfl rfl ⟨Nat.le_of_ble_eq_true rfl, Nat.le_of_ble_eq_true rfl⟩) ⟨bP.blind, va_recv hG.1 hP (ci := 1) (q0 := 1) rfl (wl_at (by decide) hctc), fun U hU hW => ⟨rfl, by rw [hU]; exact hP, kG.warm hW hG⟩⟩ rfl rfl hl.1 rfl (lv_room (Nat.le_of_ble_eq_true rfl)) dX10_beside_140 ⟨Nat.le_of_ble_eq_true rfl, Nat.le_of_ble_eq_true rfl⟩) (fun r hr9 => ?_)
              subst hr9
              replace hh7 : f_9 (2 * tn + 16) = eO 3 [.ref (g (2 * tn + 17)), .int (nI (hM (cBx np nf nr na dp df dr da ct LL LG tn) (fun c => ct (70 * tn + c)))), .int (lotF (ct (70 * tn + 7)) (hM (cBx np nf nr na dp df dr da ct LL LG tn) (fun c => ct (70 * tn + c)))), .int (cBx np nf nr na dp df dr da ct LL LG tn), .int (hCa (cBx np nf nr na dp df dr da ct LL LG tn) (fun c => ct (70 * tn + c))), .int (hMi (cBx np nf nr na dp df dr da ct LL LG tn) (fun c => ct (70 * tn + c))), .int ((hX (cBx np nf nr na dp df dr da ct LL LG tn) (fun c => ct (70 * tn + c))).1), .int ((hX (cBx np nf nr na dp df dr da ct LL LG tn) (fun c => ct (70 * tn + c))).2), .int (hSw (cBx np nf nr na dp df dr da ct LL LG tn) (pasV (cFt np nf nr na dp df dr da ct LL LG tn) (cBx np nf nr na dp df dr da ct LL LG tn)) (fun c => ct (70 * tn + c)))] := ((o_9 (2 * tn + 16) (by omega))).trans hh7
              refine va_getN (D := G.1) (ci := 3) (v := .int (hSw (cBx np nf nr na dp df dr da ct LL LG tn) (pasV (cFt np nf nr na dp df dr da ct LL LG tn) (cBx np nf nr na dp df dr da ct LL LG tn)) (fun c => ct (70 * tn + c)))) (C := RX3) (T := TX3) (N := 9) (host := RX10) hx hb hts inlX3 hown hG.1 hP (2 * tn + 16) (wl_at (by omega) hh7) rfl 8 (by decide) (va_Nw.use rfl (hG.2.1 (.fieldLinkNest RX10 188 RX3 "sworn" "I" RX10) (List.mem_of_getElem? (i := 16) rfl))) (fun _ h9 => h9) rfl dX10_beside_143 ?_
              refine lv_aload_n hx hb dX10_beside_146 rfl (lv_at hl 2 rfl) ?_
              refine va_get (D := G.1) (ci := 9) (v := .ref (g 1)) (C := RX10) (T := TX10) (N := 7) hx hb hts inlX10 hown hG.1 hP 0 (wl_at (by decide) hx0) rfl 0 (by decide) (hts (.fieldLink RX10 12 "SwornLists" "court" "LSwornLists$Court;") w_15) (fun _ h9 => h9) rfl dX10_beside_147 ?_
              refine va_getN (D := G.1) (ci := 1) (v := .ref (g 13)) (C := RX1) (T := TX1) (N := 5) (host := RX10) hx hb hts inlX1 hown hG.1 hP 1 (wl_at (by decide) hctc) rfl 2 (by decide) (va_Nw.use rfl (hG.2.1 (.fieldLinkNest RX10 236 RX1 "spare" "LSwornLists$Hearing;" RX10) (List.mem_of_getElem? (i := 18) rfl))) (fun _ h9 => h9) rfl dX10_beside_150 ?_
              refine va_getN (D := G.1) (ci := 3) (v := .int (hSw (boxT np nf nr (fun i c => dp (4 * i + c)) (fun i c => df (3 * i + c)) (fun i c => dr (3 * i + c)) (fun t c => ct (70 * t + c)) (cJr np nf nr na dp df dr da ct LL LG) tn tn none (some (rdO (TL xn) (TG xn)))) (pasV (fitT np nf (fun i c => dp (4 * i + c)) (fun i c => df (3 * i + c)) (fun t c => ct (70 * t + c)) (cJr np nf nr na dp df dr da ct LL LG) tn tn none) (boxT np nf nr (fun i c => dp (4 * i + c)) (fun i c => df (3 * i + c)) (fun i c => dr (3 * i + c)) (fun t c => ct (70 * t + c)) (cJr np nf nr na dp df dr da ct LL LG) tn tn none (some (rdO (TL xn) (TG xn))))) (fun c => ct (70 * tn + c)))) (C := RX3) (T := TX3) (N := 9) (host := RX10) hx hb hts inlX3 hown hG.1 hP 13 (wl_at (by decide) hh6) rfl 8 (by decide) (va_Nw.use rfl (hG.2.1 (.fieldLinkNest RX10 188 RX3 "sworn" "I" RX10) (List.mem_of_getElem? (i := 16) rfl))) (fun _ h9 => h9) rfl dX10_beside_153 ?_
              refine lv_ixor hx hb dX10_beside_156 ?_
              refine W_q9 hQ9 ?_
              replace him := ((o_9 2 (by first | decide | omega)).trans ((o_7 2 (by first | decide | omega)).trans ((o_6 2 (by first | decide | omega))))).trans him
              replace hkp := ((o_9 3 (by first | decide | omega)).trans ((o_7 3 (by first | decide | omega)).trans ((o_6 3 (by first | decide | omega))))).trans hkp
              replace hrd := ((o_9 4 (by first | decide | omega)).trans ((o_7 4 (by first | decide | omega)))).trans hrd
              replace hmk := ((o_9 5 (by first | decide | omega)).trans ((o_7 5 (by first | decide | omega)))).trans hmk
              replace hfc6 := ((o_9 6 (by first | decide | omega)).trans ((o_7 6 (by first | decide | omega)).trans ((o_6 6 (by first | decide | omega))))).trans hfc6
              replace hwt := ((o_9 7 (by first | decide | omega)).trans ((o_7 7 (by first | decide | omega)).trans ((o_6 7 (by first | decide | omega))))).trans hwt
              replace hw8 := ((o_9 8 (by first | decide | omega)).trans ((o_7 8 (by first | decide | omega)).trans ((o_6 8 (by first | decide | omega))))).trans hw8
              replace hw9 := ((o_9 9 (by first | decide | omega)).trans ((o_7 9 (by first | decide | omega)).trans ((o_6 9 (by first | decide | omega))))).trans hw9
              replace hw10 := ((o_9 10 (by first | decide | omega)).trans ((o_7 10 (by first | decide | omega)).trans ((o_6 10 (by first | decide | omega))))).trans hw10
              replace hw11 := ((o_9 11 (by first | decide | omega)).trans ((o_7 11 (by first | decide | omega)).trans ((o_6 11 (by first | decide | omega))))).trans hw11
              replace hbk := ((o_9 36 (by first | decide | omega))).trans hbk
              replace hpr := ((o_9 37 (by first | decide | omega))).trans hpr
              replace hpd := ((o_9 38 (by first | decide | omega))).trans hpd
              replace hfr := ((o_9 39 (by first | decide | omega))).trans hfr
              replace hfd := ((o_9 40 (by first | decide | omega))).trans hfd
              replace hor := ((o_9 41 (by first | decide | omega))).trans hor
              replace hod := ((o_9 42 (by first | decide | omega))).trans hod
              replace har := ((o_9 43 (by first | decide | omega))).trans har
              replace had := ((o_9 44 (by first | decide | omega))).trans had
              replace htr := ((o_9 45 (by first | decide | omega))).trans htr
              replace hct := ((o_9 46 (by first | decide | omega))).trans hct
              replace hla := ((o_9 47 (by first | decide | omega))).trans hla
              replace hlaa := ((o_9 48 (by first | decide | omega))).trans hlaa
              replace hts0 := ((o_9 112 (by first | decide | omega)).trans ((o_7 112 (by first | decide | omega)).trans ((o_6 112 (by first | decide | omega))))).trans hts0
              replace htsa := ((o_9 113 (by first | decide | omega)).trans ((o_7 113 (by first | decide | omega)).trans ((o_6 113 (by first | decide | omega))))).trans htsa
              replace hH : ∀ i, i < 10 → okH G g f_9 (2 * i + 16) := fun z hz => okH_fr (hH z hz) (o_9 _ (by omega)) (o_9 _ (by omega))
              replace hL : ∀ i, i < 20 → ltx G g f_9 (3 * i + 52) (LL i) (LG i) (i < na) := fun z hz => ltx_fr (hL z hz) (o_9 _ (by omega)) (o_9 _ (by omega)) (o_9 _ (by omega))
              replace hT : ∀ i, i < 4 → txt G g f_7 (3 * i + 117) (TL i) (TG i) := fun z hz => txt_fr (hT z hz) (o_7 _ (by omega)) (o_7 _ (by omega)) (o_7 _ (by omega))
              replace hT : ∀ i, i < 4 → txt G g f_9 (3 * i + 117) (TL i) (TG i) := fun z hz => txt_fr (hT z hz) (o_9 _ (by omega)) (o_9 _ (by omega)) (o_9 _ (by omega))
              replace hB1 : bkD G g f_6 129 N1 E1 P1 L1 S1 W1 X1 := bkD_fr hB1 (fun j _ _ => o_6 j (by omega))
              replace hB1 : bkD G g f_7 129 N1 E1 P1 L1 S1 W1 X1 := bkD_fr hB1 (fun j _ _ => o_7 j (by omega))
              replace hB1 : bkD G g f_9 129 N1 E1 P1 L1 S1 W1 X1 := bkD_fr hB1 (fun j _ _ => o_9 j (by omega))
              replace hB2 : bkD G g f_6 222 N2 E2 P2 L2 S2 W2 X2 := bkD_fr hB2 (fun j _ _ => o_6 j (by omega))
              replace hB2 : bkD G g f_7 222 N2 E2 P2 L2 S2 W2 X2 := bkD_fr hB2 (fun j _ _ => o_7 j (by omega))
              replace hB2 : bkD G g f_9 222 N2 E2 P2 L2 S2 W2 X2 := bkD_fr hB2 (fun j _ _ => o_9 j (by omega))
              replace hQn : ∀ z, z < nt → cHz G g f_9 np nf nr na dp df dr da ct LL LG z := fun z hz => okQ_fr (hQn z hz) (o_9 _ (by omega)) (o_9 _ (by omega))
              exact W.iret (v := (hSw (cBx np nf nr na dp df dr da ct LL LG tn) (pasV (cFt np nf nr na dp df dr da ct LL LG tn) (cBx np nf nr na dp df dr da ct LL LG tn)) (fun c => ct (70 * tn + c))) ^^^ (hSw (boxT np nf nr (fun i c => dp (4 * i + c)) (fun i c => df (3 * i + c)) (fun i c => dr (3 * i + c)) (fun t c => ct (70 * t + c)) (cJr np nf nr na dp df dr da ct LL LG) tn tn none (some (rdO (TL xn) (TG xn)))) (pasV (fitT np nf (fun i c => dp (4 * i + c)) (fun i c => df (3 * i + c)) (fun t c => ct (70 * t + c)) (cJr np nf nr na dp df dr da ct LL LG) tn tn none) (boxT np nf nr (fun i c => dp (4 * i + c)) (fun i c => df (3 * i + c)) (fun i c => dr (3 * i + c)) (fun t c => ct (70 * t + c)) (cJr np nf nr na dp df dr da ct LL LG) tn tn none (some (rdO (TL xn) (TG xn))))) (fun c => ct (70 * tn + c)))) hx hb hr (fun _ hT9 _ => ⟨⟨_, f_9, rfl, (⟨cJ_mk (nt) (hf) (imf) (mc915) (op916) (cm917) (wu918) (mk919) (ab) (be) (mn) (le) (wt) (ww) (wb) (wf) (vv925) (lf) (tf) (hx0) (hctc) (hhs) (him) (hkp) (hrd) (hmk) (hfc6) (hwt) (hw8) (hw9) (hw10) (hw11) (hvl) (hbk) (hpr) (hpd) (hfr) (hfd) (hor) (hod) (har) (had) (htr) (hct) (hla) (hlaa) (hts0) (htsa) (by omega) (hhf) (him0) (him1) (by omega) (by omega) (by omega) (by omega) (by omega) (by omega) (by omega) (hlf) (htf) (by omega) (hH) (hSp) (hL) (hT) (hB1) (hB2) (hQn), (Or.inr ⟨tn, xn, 1, htn, rfl, hxn, rfl, by decide, rfl, Or.inr ⟨c_54, bs_end (cJr_eq (t := tn)).symm (fun _ _ => rfl) ((bsO_n (by decide)).trans (congrArg (Option.map (fun z => rdO (LL z) (LG z))) hx_8_1)).symm bsO_y.symm⟩⟩), fun j hj => (((o_9 j (by omega))).trans (o_7 j (by omega))).trans (o_6 j (by omega))⟩), by rw [hT9]; exact hP⟩, hS.F hT9⟩) hS.2.2 dX10_beside_157
            · have hiL24 := hx_8_0 i24 rfl
              obtain ⟨sc24, sp24, ⟨htx24, hsx24, hpx24, hln24, hsc24⟩, hls24, hlen24, hdl24, hol24⟩ := ltx_go (hL i24 (by omega)) (by omega)
              refine my_bea (v := .ref (g (3 * i24 + 52))) rfl ?_
              refine lv_iload_n hx hb dX10_beside_112 rfl (lv_at hl 5 rfl) ?_
              refine lv_iconst (v := 1) hx hb dX10_beside_113 (by decide) ?_
              refine lv_icmp_ne (tgt := 122) hx hb dX10_beside_114 (by decide) (fun c_114 => absurd (by decide) c_114) (fun c_114 => ?_)
              refine lv_aload hx hb dX10_beside_117 (lv_at hl 1 rfl) ?_
              refine lv_goto (tgt := 132) hx hb dX10_beside_119 (by decide) ?_
              have hls7 := hx_6_2 c_54
              have hgd7 := rdO_good hln7 c_54
              have hlen7 : (rdO (TL xn) (TG xn)).length = sc920 := by
                have h6 := congrArg List.length hls7
                rw [stk_len, List.length_map] at h6
                exact h6.symm
              obtain ⟨q8, q6, ks, hq8, hq88, hq6, hq64, hq2, hks⟩ := hTr.1 tn htn
              obtain ⟨sw, hZ, hJ9⟩ := okZ_J (Nat.le_refl nt) hH hQn hTr.2.2.1
              replace hhs := ((o_7 12 (by first | decide | omega))).trans hhs
              replace hpr := ((o_7 37 (by first | decide | omega))).trans hpr
              replace hpd := ((o_7 38 (by first | decide | omega))).trans hpd
              replace hfr := ((o_7 39 (by first | decide | omega))).trans hfr
              replace hfd := ((o_7 40 (by first | decide | omega))).trans hfd
              replace hor := ((o_7 41 (by first | decide | omega))).trans hor
              replace hod := ((o_7 42 (by first | decide | omega))).trans hod
              replace htx7 : f_7 (3 * xn + 117) = eO 7 [.ref (g ((3 * xn + 117) + 1)), .ref (g ((3 * xn + 117) + 2)), .int (nI (TL xn)), .int (nI sc920)] := ((o_7 (3 * xn + 117) (by omega))).trans htx7
              replace hpx7 : f_7 (3 * xn + 119) = eI G 50 sp921 := ((o_7 (3 * xn + 119) (by omega))).trans hpx7
              refine b_callv (va_runV (As := [.int (nI tn), .ref (g 13), .ref (g (3 * i24 + 52)), .ref (g (3 * xn + 117))]) (rest := []) ⟨hx, hb, hml, hown, hts⟩ (u_hearE11 l G g hg f_7 nt hf pay fine nt ct np dp nf df nr dr 13 sl6 lo6 ib6 ca6 mi6 s06 s16 sw6 od6 vv922 sw tn q8 q6 ks (fitT np nf (fun i c => dp (4 * i + c)) (fun i c => df (3 * i + c)) (fun t c => ct (70 * t + c)) (cJr np nf nr na dp df dr da ct LL LG) tn tn (some (rdO (LL i24) (LG i24)))) (boxT np nf nr (fun i c => dp (4 * i + c)) (fun i c => df (3 * i + c)) (fun i c => dr (3 * i + c)) (fun t c => ct (70 * t + c)) (cJr np nf nr na dp df dr da ct LL LG) tn tn (some (rdO (LL i24) (LG i24))) (some (rdO (TL xn) (TG xn)))) (3 * i24 + 52) (LL i24) sc24 sp24 (rdO (LL i24) (LG i24)) (3 * xn + 117) (TL xn) sc920 sp921 (rdO (TL xn) (TG xn)) hctc hhs hbk htr hct hpr hpd hfr hfd hor hod hvl hh6 ho6 htx24 hpx24 htx7 hpx7 (by first | assumption | omega | decide) (by first | assumption | omega | decide) (by first | assumption | omega | decide) (by first | assumption | omega | decide) (by first | assumption | omega | decide) (by first | assumption | omega | decide) (by first | assumption | omega | decide) (by first | assumption | omega | decide) (by first | assumption | omega | decide) (by first | assumption | omega | decide) (by first | assumption | omega | decide) (hq8) (hq88) (hq6) (hq64) (hq2) (hks) (by first | assumption | omega | decide) (by first | assumption | omega | decide) (hln24) (hsc24) (hls24) (hlen24) (hdl24) (hol24) (by first | assumption | omega | decide) (by first | assumption | omega | decide) (hln7) (hx_6_1) (hls7) (hlen7) (hgd7.1) (hgd7.2) (bs_fit (by omega) (fun b9 h9 h10 => hTr.2.1 tn b9 h9 h10) (fun q hq => hJ9 q (by omega))) (bs_box (by omega) (fun b9 h9 h10 => hTr.2.1 tn b9 h9 h10) (fun q hq => hJ9 q (by omega))) (boxV_hi hnp rfl) (hZ)) (my_cwV hts ok_X1_hear w_810 rfl rfl ⟨Nat.le_of_ble_eq_true rfl, Nat.le_of_ble_eq_true rfl⟩) ⟨bP.blind, va_recv hG.1 hP (ci := 1) (q0 := 1) rfl (wl_at (by decide) hctc), fun U hU hW => ⟨rfl, by rw [hU]; exact hP, kG.warm hW hG⟩⟩ rfl rfl hl.1 rfl (lv_room (Nat.le_of_ble_eq_true rfl)) dX10_beside_132 ⟨Nat.le_of_ble_eq_true rfl, Nat.le_of_ble_eq_true rfl⟩) hS (fun f_10 H locs hq9 hP hS => ?_)
              obtain ⟨vv926, hq_10_0, hx_10_0, o_10⟩ := hq9
              have hvl : f_10 15 = eJ G 50 vv926 := hq_10_0
              have hSp : okH G g f_10 13 := (okQ.okZ hx_10_0 (hTr.2.2.1 tn htn)).ok
              obtain ⟨od8, hh6, ho6, hd8⟩ := id hx_10_0
              refine lv_aload_n hx hb dX10_beside_135 rfl (lv_at hl 2 rfl) ?_
              replace hx0 := ((o_10 0 (by first | decide | omega))).trans hx0
              refine va_get (D := G.1) (ci := 9) (v := .ref (g 1)) (C := RX10) (T := TX10) (N := 7) hx hb hts inlX10 hown hG.1 hP 0 (wl_at (by decide) hx0) rfl 0 (by decide) (hts (.fieldLink RX10 12 "SwornLists" "court" "LSwornLists$Court;") w_15) (fun _ h9 => h9) rfl dX10_beside_136 ?_
              refine lv_iload_n hx hb dX10_beside_139 rfl (lv_at hl 3 rfl) ?_
              replace hctc := ((o_10 1 (by first | decide | omega))).trans hctc
              replace hhs := ((o_10 12 (by first | decide | omega))).trans hhs
              refine rd_calla (va_runV (As := [.int (nI tn)]) (rest := []) ⟨hx, hb, hml, hown, hts⟩ (u_hearing l G g hg f_10 nt hf tn hctc hhs (by first | assumption | omega | decide) (by first | assumption | omega | decide) (by first | assumption | omega | decide)) (my_cwV hts ok_X1_hearing w_675 rfl rfl ⟨Nat.le_of_ble_eq_true rfl, Nat.le_of_ble_eq_true rfl⟩) ⟨bP.blind, va_recv hG.1 hP (ci := 1) (q0 := 1) rfl (wl_at (by decide) hctc), fun U hU hW => ⟨rfl, by rw [hU]; exact hP, kG.warm hW hG⟩⟩ rfl rfl hl.1 rfl (lv_room (Nat.le_of_ble_eq_true rfl)) dX10_beside_140 ⟨Nat.le_of_ble_eq_true rfl, Nat.le_of_ble_eq_true rfl⟩) (fun r hr9 => ?_)
              subst hr9
              replace hh7 : f_10 (2 * tn + 16) = eO 3 [.ref (g (2 * tn + 17)), .int (nI (hM (cBx np nf nr na dp df dr da ct LL LG tn) (fun c => ct (70 * tn + c)))), .int (lotF (ct (70 * tn + 7)) (hM (cBx np nf nr na dp df dr da ct LL LG tn) (fun c => ct (70 * tn + c)))), .int (cBx np nf nr na dp df dr da ct LL LG tn), .int (hCa (cBx np nf nr na dp df dr da ct LL LG tn) (fun c => ct (70 * tn + c))), .int (hMi (cBx np nf nr na dp df dr da ct LL LG tn) (fun c => ct (70 * tn + c))), .int ((hX (cBx np nf nr na dp df dr da ct LL LG tn) (fun c => ct (70 * tn + c))).1), .int ((hX (cBx np nf nr na dp df dr da ct LL LG tn) (fun c => ct (70 * tn + c))).2), .int (hSw (cBx np nf nr na dp df dr da ct LL LG tn) (pasV (cFt np nf nr na dp df dr da ct LL LG tn) (cBx np nf nr na dp df dr da ct LL LG tn)) (fun c => ct (70 * tn + c)))] := ((o_10 (2 * tn + 16) (by omega))).trans hh7
              refine va_getN (D := G.1) (ci := 3) (v := .int (hSw (cBx np nf nr na dp df dr da ct LL LG tn) (pasV (cFt np nf nr na dp df dr da ct LL LG tn) (cBx np nf nr na dp df dr da ct LL LG tn)) (fun c => ct (70 * tn + c)))) (C := RX3) (T := TX3) (N := 9) (host := RX10) hx hb hts inlX3 hown hG.1 hP (2 * tn + 16) (wl_at (by omega) hh7) rfl 8 (by decide) (va_Nw.use rfl (hG.2.1 (.fieldLinkNest RX10 188 RX3 "sworn" "I" RX10) (List.mem_of_getElem? (i := 16) rfl))) (fun _ h9 => h9) rfl dX10_beside_143 ?_
              refine lv_aload_n hx hb dX10_beside_146 rfl (lv_at hl 2 rfl) ?_
              refine va_get (D := G.1) (ci := 9) (v := .ref (g 1)) (C := RX10) (T := TX10) (N := 7) hx hb hts inlX10 hown hG.1 hP 0 (wl_at (by decide) hx0) rfl 0 (by decide) (hts (.fieldLink RX10 12 "SwornLists" "court" "LSwornLists$Court;") w_15) (fun _ h9 => h9) rfl dX10_beside_147 ?_
              refine va_getN (D := G.1) (ci := 1) (v := .ref (g 13)) (C := RX1) (T := TX1) (N := 5) (host := RX10) hx hb hts inlX1 hown hG.1 hP 1 (wl_at (by decide) hctc) rfl 2 (by decide) (va_Nw.use rfl (hG.2.1 (.fieldLinkNest RX10 236 RX1 "spare" "LSwornLists$Hearing;" RX10) (List.mem_of_getElem? (i := 18) rfl))) (fun _ h9 => h9) rfl dX10_beside_150 ?_
              refine va_getN (D := G.1) (ci := 3) (v := .int (hSw (boxT np nf nr (fun i c => dp (4 * i + c)) (fun i c => df (3 * i + c)) (fun i c => dr (3 * i + c)) (fun t c => ct (70 * t + c)) (cJr np nf nr na dp df dr da ct LL LG) tn tn (some (rdO (LL i24) (LG i24))) (some (rdO (TL xn) (TG xn)))) (pasV (fitT np nf (fun i c => dp (4 * i + c)) (fun i c => df (3 * i + c)) (fun t c => ct (70 * t + c)) (cJr np nf nr na dp df dr da ct LL LG) tn tn (some (rdO (LL i24) (LG i24)))) (boxT np nf nr (fun i c => dp (4 * i + c)) (fun i c => df (3 * i + c)) (fun i c => dr (3 * i + c)) (fun t c => ct (70 * t + c)) (cJr np nf nr na dp df dr da ct LL LG) tn tn (some (rdO (LL i24) (LG i24))) (some (rdO (TL xn) (TG xn))))) (fun c => ct (70 * tn + c)))) (C := RX3) (T := TX3) (N := 9) (host := RX10) hx hb hts inlX3 hown hG.1 hP 13 (wl_at (by decide) hh6) rfl 8 (by decide) (va_Nw.use rfl (hG.2.1 (.fieldLinkNest RX10 188 RX3 "sworn" "I" RX10) (List.mem_of_getElem? (i := 16) rfl))) (fun _ h9 => h9) rfl dX10_beside_153 ?_
              refine lv_ixor hx hb dX10_beside_156 ?_
              refine W_q9 hQ9 ?_
              replace him := ((o_10 2 (by first | decide | omega)).trans ((o_7 2 (by first | decide | omega)).trans ((o_6 2 (by first | decide | omega))))).trans him
              replace hkp := ((o_10 3 (by first | decide | omega)).trans ((o_7 3 (by first | decide | omega)).trans ((o_6 3 (by first | decide | omega))))).trans hkp
              replace hrd := ((o_10 4 (by first | decide | omega)).trans ((o_7 4 (by first | decide | omega)))).trans hrd
              replace hmk := ((o_10 5 (by first | decide | omega)).trans ((o_7 5 (by first | decide | omega)))).trans hmk
              replace hfc6 := ((o_10 6 (by first | decide | omega)).trans ((o_7 6 (by first | decide | omega)).trans ((o_6 6 (by first | decide | omega))))).trans hfc6
              replace hwt := ((o_10 7 (by first | decide | omega)).trans ((o_7 7 (by first | decide | omega)).trans ((o_6 7 (by first | decide | omega))))).trans hwt
              replace hw8 := ((o_10 8 (by first | decide | omega)).trans ((o_7 8 (by first | decide | omega)).trans ((o_6 8 (by first | decide | omega))))).trans hw8
              replace hw9 := ((o_10 9 (by first | decide | omega)).trans ((o_7 9 (by first | decide | omega)).trans ((o_6 9 (by first | decide | omega))))).trans hw9
              replace hw10 := ((o_10 10 (by first | decide | omega)).trans ((o_7 10 (by first | decide | omega)).trans ((o_6 10 (by first | decide | omega))))).trans hw10
              replace hw11 := ((o_10 11 (by first | decide | omega)).trans ((o_7 11 (by first | decide | omega)).trans ((o_6 11 (by first | decide | omega))))).trans hw11
              replace hbk := ((o_10 36 (by first | decide | omega))).trans hbk
              replace hpr := ((o_10 37 (by first | decide | omega))).trans hpr
              replace hpd := ((o_10 38 (by first | decide | omega))).trans hpd
              replace hfr := ((o_10 39 (by first | decide | omega))).trans hfr
              replace hfd := ((o_10 40 (by first | decide | omega))).trans hfd
              replace hor := ((o_10 41 (by first | decide | omega))).trans hor
              replace hod := ((o_10 42 (by first | decide | omega))).trans hod
              replace har := ((o_10 43 (by first | decide | omega))).trans har
              replace had := ((o_10 44 (by first | decide | omega))).trans had
              replace htr := ((o_10 45 (by first | decide | omega))).trans htr
              replace hct := ((o_10 46 (by first | decide | omega))).trans hct
              replace hla := ((o_10 47 (by first | decide | omega))).trans hla
              replace hlaa := ((o_10 48 (by first | decide | omega))).trans hlaa
              replace hts0 := ((o_10 112 (by first | decide | omega)).trans ((o_7 112 (by first | decide | omega)).trans ((o_6 112 (by first | decide | omega))))).trans hts0
              replace htsa := ((o_10 113 (by first | decide | omega)).trans ((o_7 113 (by first | decide | omega)).trans ((o_6 113 (by first | decide | omega))))).trans htsa
              replace hH : ∀ i, i < 10 → okH G g f_10 (2 * i + 16) := fun z hz => okH_fr (hH z hz) (o_10 _ (by omega)) (o_10 _ (by omega))
              replace hL : ∀ i, i < 20 → ltx G g f_10 (3 * i + 52) (LL i) (LG i) (i < na) := fun z hz => ltx_fr (hL z hz) (o_10 _ (by omega)) (o_10 _ (by omega)) (o_10 _ (by omega))
              replace hT : ∀ i, i < 4 → txt G g f_7 (3 * i + 117) (TL i) (TG i) := fun z hz => txt_fr (hT z hz) (o_7 _ (by omega)) (o_7 _ (by omega)) (o_7 _ (by omega))
              replace hT : ∀ i, i < 4 → txt G g f_10 (3 * i + 117) (TL i) (TG i) := fun z hz => txt_fr (hT z hz) (o_10 _ (by omega)) (o_10 _ (by omega)) (o_10 _ (by omega))
              replace hB1 : bkD G g f_6 129 N1 E1 P1 L1 S1 W1 X1 := bkD_fr hB1 (fun j _ _ => o_6 j (by omega))
              replace hB1 : bkD G g f_7 129 N1 E1 P1 L1 S1 W1 X1 := bkD_fr hB1 (fun j _ _ => o_7 j (by omega))
              replace hB1 : bkD G g f_10 129 N1 E1 P1 L1 S1 W1 X1 := bkD_fr hB1 (fun j _ _ => o_10 j (by omega))
              replace hB2 : bkD G g f_6 222 N2 E2 P2 L2 S2 W2 X2 := bkD_fr hB2 (fun j _ _ => o_6 j (by omega))
              replace hB2 : bkD G g f_7 222 N2 E2 P2 L2 S2 W2 X2 := bkD_fr hB2 (fun j _ _ => o_7 j (by omega))
              replace hB2 : bkD G g f_10 222 N2 E2 P2 L2 S2 W2 X2 := bkD_fr hB2 (fun j _ _ => o_10 j (by omega))
              replace hQn : ∀ z, z < nt → cHz G g f_10 np nf nr na dp df dr da ct LL LG z := fun z hz => okQ_fr (hQn z hz) (o_10 _ (by omega)) (o_10 _ (by omega))
              exact W.iret (v := (hSw (cBx np nf nr na dp df dr da ct LL LG tn) (pasV (cFt np nf nr na dp df dr da ct LL LG tn) (cBx np nf nr na dp df dr da ct LL LG tn)) (fun c => ct (70 * tn + c))) ^^^ (hSw (boxT np nf nr (fun i c => dp (4 * i + c)) (fun i c => df (3 * i + c)) (fun i c => dr (3 * i + c)) (fun t c => ct (70 * t + c)) (cJr np nf nr na dp df dr da ct LL LG) tn tn (some (rdO (LL i24) (LG i24))) (some (rdO (TL xn) (TG xn)))) (pasV (fitT np nf (fun i c => dp (4 * i + c)) (fun i c => df (3 * i + c)) (fun t c => ct (70 * t + c)) (cJr np nf nr na dp df dr da ct LL LG) tn tn (some (rdO (LL i24) (LG i24)))) (boxT np nf nr (fun i c => dp (4 * i + c)) (fun i c => df (3 * i + c)) (fun i c => dr (3 * i + c)) (fun t c => ct (70 * t + c)) (cJr np nf nr na dp df dr da ct LL LG) tn tn (some (rdO (LL i24) (LG i24))) (some (rdO (TL xn) (TG xn))))) (fun c => ct (70 * tn + c)))) hx hb hr (fun _ hT9 _ => ⟨⟨_, f_10, rfl, (⟨cJ_mk (nt) (hf) (imf) (mc915) (op916) (cm917) (wu918) (mk919) (ab) (be) (mn) (le) (wt) (ww) (wb) (wf) (vv926) (lf) (tf) (hx0) (hctc) (hhs) (him) (hkp) (hrd) (hmk) (hfc6) (hwt) (hw8) (hw9) (hw10) (hw11) (hvl) (hbk) (hpr) (hpd) (hfr) (hfd) (hor) (hod) (har) (had) (htr) (hct) (hla) (hlaa) (hts0) (htsa) (by omega) (hhf) (him0) (him1) (by omega) (by omega) (by omega) (by omega) (by omega) (by omega) (by omega) (hlf) (htf) (by omega) (hH) (hSp) (hL) (hT) (hB1) (hB2) (hQn), (Or.inr ⟨tn, xn, 1, htn, rfl, hxn, rfl, by decide, rfl, Or.inr ⟨c_54, bs_end (cJr_eq (t := tn)).symm (fun _ _ => rfl) ((bsO_n (by decide)).trans (congrArg (Option.map (fun z => rdO (LL z) (LG z))) hx_8_1)).symm bsO_y.symm⟩⟩), fun j hj => (((o_10 j (by omega))).trans (o_7 j (by omega))).trans (o_6 j (by omega))⟩), by rw [hT9]; exact hP⟩, hS.F hT9⟩) hS.2.2 dX10_beside_157
          · refine lv_bipush (v := (-3)) hx hb dX10_beside_57 (by decide) ?_
            refine W_q9 hQ9 ?_
            replace hx0 := ((o_6 0 (by first | decide | omega))).trans hx0
            replace hctc := ((o_6 1 (by first | decide | omega))).trans hctc
            replace hhs := ((o_6 12 (by first | decide | omega))).trans hhs
            replace him := ((o_6 2 (by first | decide | omega))).trans him
            replace hkp := ((o_6 3 (by first | decide | omega))).trans hkp
            replace hfc6 := ((o_6 6 (by first | decide | omega))).trans hfc6
            replace hwt := ((o_6 7 (by first | decide | omega))).trans hwt
            replace hw8 := ((o_6 8 (by first | decide | omega))).trans hw8
            replace hw9 := ((o_6 9 (by first | decide | omega))).trans hw9
            replace hw10 := ((o_6 10 (by first | decide | omega))).trans hw10
            replace hw11 := ((o_6 11 (by first | decide | omega))).trans hw11
            replace hvl := ((o_6 15 (by first | decide | omega))).trans hvl
            replace hbk := ((o_6 36 (by first | decide | omega))).trans hbk
            replace hpr := ((o_6 37 (by first | decide | omega))).trans hpr
            replace hpd := ((o_6 38 (by first | decide | omega))).trans hpd
            replace hfr := ((o_6 39 (by first | decide | omega))).trans hfr
            replace hfd := ((o_6 40 (by first | decide | omega))).trans hfd
            replace hor := ((o_6 41 (by first | decide | omega))).trans hor
            replace hod := ((o_6 42 (by first | decide | omega))).trans hod
            replace har := ((o_6 43 (by first | decide | omega))).trans har
            replace had := ((o_6 44 (by first | decide | omega))).trans had
            replace htr := ((o_6 45 (by first | decide | omega))).trans htr
            replace hct := ((o_6 46 (by first | decide | omega))).trans hct
            replace hla := ((o_6 47 (by first | decide | omega))).trans hla
            replace hlaa := ((o_6 48 (by first | decide | omega))).trans hlaa
            replace hts0 := ((o_6 112 (by first | decide | omega))).trans hts0
            replace htsa := ((o_6 113 (by first | decide | omega))).trans htsa
            replace hH : ∀ i, i < 10 → okH G g f_6 (2 * i + 16) := fun z hz => okH_fr (hH z hz) (o_6 _ (by omega)) (o_6 _ (by omega))
            replace hSp : okH G g f_6 13 := okH_fr hSp (o_6 _ (by omega)) (o_6 _ (by omega))
            replace hL : ∀ i, i < 20 → ltx G g f_6 (3 * i + 52) (LL i) (LG i) (i < na) := fun z hz => ltx_fr (hL z hz) (o_6 _ (by omega)) (o_6 _ (by omega)) (o_6 _ (by omega))
            replace hB1 : bkD G g f_6 129 N1 E1 P1 L1 S1 W1 X1 := bkD_fr hB1 (fun j _ _ => o_6 j (by omega))
            replace hB2 : bkD G g f_6 222 N2 E2 P2 L2 S2 W2 X2 := bkD_fr hB2 (fun j _ _ => o_6 j (by omega))
            replace hQ : ∀ z, z < se → cHz G g f_6 np nf nr na dp df dr da ct LL LG z := fun z hz => okQ_fr (hQ z hz) (o_6 _ (by omega)) (o_6 _ (by omega))
            exact W.iret (v := (-3)) hx hb hr (fun _ hT9 _ => ⟨⟨_, f_6, rfl, (⟨cJ_mk (se) (hf) (imf) (mc915) (op916) (cm917) (wu918) (mk919) (ab) (be) (mn) (le) (wt) (ww) (wb) (wf) (vv) (lf) (tf) (hx0) (hctc) (hhs) (him) (hkp) (hrd) (hmk) (hfc6) (hwt) (hw8) (hw9) (hw10) (hw11) (hvl) (hbk) (hpr) (hpd) (hfr) (hfd) (hor) (hod) (har) (had) (htr) (hct) (hla) (hlaa) (hts0) (htsa) (by omega) (hhf) (him0) (him1) (by omega) (by omega) (by omega) (by omega) (by omega) (by omega) (by omega) (hlf) (htf) (by omega) (hH) (hSp) (hL) (hT) (hB1) (hB2) (hQ), (Or.inr ⟨tn, xn, 1, htn, rfl, hxn, rfl, by decide, rfl, Or.inl ⟨c_54, rfl⟩⟩), fun j hj => (o_6 j (by omega))⟩), by rw [hT9]; exact hP⟩, hS.F hT9⟩) hS.2.2 dX10_beside_59
      · refine lv_bipush (v := (-2)) hx hb dX10_beside_28 (by decide) ?_
        refine W_q9 hQ9 ?_
        exact W.iret (v := (-2)) hx hb hr (fun _ hT9 _ => ⟨⟨_, f, rfl, (⟨cJ_mk (se) (hf) (imf) (mc) (op) (cm) (wu) (mk) (ab) (be) (mn) (le) (wt) (ww) (wb) (wf) (vv) (lf) (tf) (hx0) (hctc) (hhs) (him) (hkp) (hrd) (hmk) (hfc6) (hwt) (hw8) (hw9) (hw10) (hw11) (hvl) (hbk) (hpr) (hpd) (hfr) (hfd) (hor) (hod) (har) (had) (htr) (hct) (hla) (hlaa) (hts0) (htsa) (by omega) (hhf) (him0) (him1) (by omega) (by omega) (by omega) (by omega) (by omega) (by omega) (by omega) (hlf) (htf) (by omega) (hH) (hSp) (hL) (hT) (hB1) (hB2) (hQ), (Or.inl ⟨fun z => c_25 z.2.2, rfl⟩), fun j hj => rfl⟩), by rw [hT9]; exact hP⟩, hS.F hT9⟩) hS.2.2 dX10_beside_30
theorem j_beside (l : Launch) (G : gW) (g : Nat → Nat) (hg : gOK g) (f : Nat → va_E) (np : Nat) (dp : Nat → Int32) (nf : Nat) (df : Nat → Int32) (nr : Nat) (dr : Nat → Int32) (nt : Nat) (ct : Nat → Int32) (pay : Int32) (fine : Int32) (kf : Nat → Int32) (na : Nat) (da : Nat → Int32) (TL : Nat → Nat) (TG : Nat → Nat → Int32) (LL : Nat → Nat) (LG : Nat → Nat → Int32) (N1 : Nat → Nat) (E1 : Nat → Nat → Int32) (P1 : Nat → Int32) (L1 : Nat → Nat) (S1 : Nat → Nat → Int32) (W1 : Nat → Nat) (X1 : Nat → Nat → Int32) (N2 : Nat → Nat) (E2 : Nat → Nat → Int32) (P2 : Nat → Int32) (L2 : Nat → Nat) (S2 : Nat → Nat → Int32) (W2 : Nat → Nat) (X2 : Nat → Nat → Int32) (a1 : Int32) (a2 : Int32) (a3 : Int32) (hI : cJ G g f np dp nf df nr dr nt ct pay fine kf na da TL TG LL LG N1 E1 P1 L1 S1 W1 X1 N2 E2 P2 L2 S2 W2 X2) (hTr : trC ct nt) : Met l yX10_beside (wsT yX10_beside cX10_beside 6 (some .int)) ({ frames := 7, cells := 0, slots := 0, locals := 176 }) (bP G g f [.ref (g 0), .int a1, .int a2, .int a3]) (bQi G g (fun (z9 : Int32) (f' : Nat → va_E) => (cJ G g f' np dp nf df nr dr nt ct pay fine kf na da TL TG LL LG N1 E1 P1 L1 S1 W1 X1 N2 E2 P2 L2 S2 W2 X2) ∧ ((¬ (inN a1 nt = true ∧ inB 0 a2 3 = true ∧ inB 0 a3 1 = true) ∧ z9 = -2) ∨ (∃ x y k, x < nt ∧ a1 = nI x ∧ y ≤ 3 ∧ a2 = nI y ∧ k ≤ 1 ∧ a3 = nI k ∧ ((¬ rdA (TL y) (TG y) = -1 ∧ z9 = -3) ∨ (rdA (TL y) (TG y) = -1 ∧ z9 = cJr np nf nr na dp df dr da ct LL LG x ^^^ bsV np nf nr (fun i c => dp (4 * i + c)) (fun i c => df (3 * i + c)) (fun i c => dr (3 * i + c)) (fun t c => ct (70 * t + c)) (cJr np nf nr na dp df dr da ct LL LG) x (bsO k 0 (rdO (TL y) (TG y)) ((fcB (fun i c => da (3 * i + c)) 0 (ct (70 * x + 0)) na).map (fun z => rdO (LL z) (LG z)))) (bsO k 1 (rdO (TL y) (TG y)) ((fcB (fun i c => da (3 * i + c)) 1 (ct (70 * x + 0)) na).map (fun z => rdO (LL z) (LG z)))) (fun c => ct (70 * x + c)))))) ∧ ∀ j, 315 ≤ j → f' j = f j)) 0 0 (gA g) := cJ_elim hI (fun se hf imf mc op cm wu mk ab be mn le wt ww wb wf vv lf tf hx0 hctc hhs him hkp hrd hmk hfc6 hwt hw8 hw9 hw10 hw11 hvl hbk hpr hpd hfr hfd hor hod har had htr hct hla hlaa hts0 htsa hse hhf him0 him1 hmc hmn hnp hnf hnr hna hnt hlf htf hsn hH hSp hL hT hB1 hB2 hQ => jn_beside l G g hg f se hf imf kf mc op cm wu mk ab be mn le wt ww wb wf vv pay fine np dp nf df nr dr na da nt ct lf tf TL TG LL LG N1 E1 P1 L1 S1 W1 X1 N2 E2 P2 L2 S2 W2 X2 a1 a2 a3 hx0 hctc hhs him hkp hrd hmk hfc6 hwt hw8 hw9 hw10 hw11 hvl hbk hpr hpd hfr hfd hor hod har had htr hct hla hlaa hts0 htsa hse hhf him0 him1 hmc hmn hnp hnf hnr hna hnt hlf htf hsn hTr hH hSp hL hT hB1 hB2 hQ)
set_option maxHeartbeats 4000000 in
set_option maxRecDepth 100000 in
theorem jn_clash (l : Launch) (G : gW) (g : Nat → Nat) (hg : gOK g) (f : Nat → va_E) (se : Nat) (hf : Nat → Option Nat) (imf : Nat → Option Nat) (kf : Nat → Int32) (mc : Nat) (op : Int32) (cm : Int32) (wu : Int32) (mk : Nat → Int32) (ab : Int64) (be : Int64) (mn : Nat) (le : Int32) (wt : Nat → Int32) (ww : Nat → Int32) (wb : Nat → Int32) (wf : Nat → Int32) (vv : Nat → Int64) (pay : Int32) (fine : Int32) (np : Nat) (dp : Nat → Int32) (nf : Nat) (df : Nat → Int32) (nr : Nat) (dr : Nat → Int32) (na : Nat) (da : Nat → Int32) (nt : Nat) (ct : Nat → Int32) (lf : Nat → Option Nat) (tf : Nat → Option Nat) (TL : Nat → Nat) (TG : Nat → Nat → Int32) (LL : Nat → Nat) (LG : Nat → Nat → Int32) (N1 : Nat → Nat) (E1 : Nat → Nat → Int32) (P1 : Nat → Int32) (L1 : Nat → Nat) (S1 : Nat → Nat → Int32) (W1 : Nat → Nat) (X1 : Nat → Nat → Int32) (N2 : Nat → Nat) (E2 : Nat → Nat → Int32) (P2 : Nat → Int32) (L2 : Nat → Nat) (S2 : Nat → Nat → Int32) (W2 : Nat → Nat) (X2 : Nat → Nat → Int32) (a1 : Int32) (a2 : Int32) (hx0 : f 0 = eO 9 [.ref (g 1), .ref (g 36), .ref (g 2), .ref (g 3), .ref (g 4), .ref (g 6), .ref (g 7)]) (hctc : f 1 = eO 1 [.ref (g 36), .ref (g 12), .ref (g 13), .ref (g 15), .int (nI se)]) (hhs : f 12 = eA G 4 10 hf) (him : f 2 = eA G 3 2 imf) (hkp : f 3 = eZ G 2 kf) (hrd : f 4 = eO 4 [.ref (g 5), .int (nI mc), .int op, .int cm, .int wu]) (hmk : f 5 = eI G 50 mk) (hfc6 : f 6 = eO 2 [.long ab, .long be]) (hwt : f 7 = eO 8 [.ref (g 8), .ref (g 9), .ref (g 10), .ref (g 11), .int (nI mn), .int le]) (hw8 : f 8 = eI G 6 wt) (hw9 : f 9 = eI G 6 ww) (hw10 : f 10 = eI G 6 wb) (hw11 : f 11 = eI G 6 wf) (hvl : f 15 = eJ G 50 vv) (hbk : f 36 = eO 0 [.ref (g 37), .ref (g 39), .ref (g 41), .ref (g 43), .ref (g 45), .ref (g 47), .ref (g 112), .int pay, .int fine]) (hpr : f 37 = eO 5 [.int (nI 30), .int (nI 4), .ref (g 38), .int (nI np)]) (hpd : f 38 = eI G (30 * 4) dp) (hfr : f 39 = eO 5 [.int (nI 40), .int (nI 3), .ref (g 40), .int (nI nf)]) (hfd : f 40 = eI G (40 * 3) df) (hor : f 41 = eO 5 [.int (nI 4), .int (nI 3), .ref (g 42), .int (nI nr)]) (hod : f 42 = eI G (4 * 3) dr) (har : f 43 = eO 5 [.int (nI 20), .int (nI 3), .ref (g 44), .int (nI na)]) (had : f 44 = eI G (20 * 3) da) (htr : f 45 = eO 5 [.int (nI 10), .int (nI 70), .ref (g 46), .int (nI nt)]) (hct : f 46 = eI G (10 * 70) ct) (hla : f 47 = eO 6 [.ref (g 48), .ref (g 49)]) (hlaa : f 48 = eA G 5 20 lf) (hts0 : f 112 = eO 6 [.ref (g 113), .ref (g 114)]) (htsa : f 113 = eA G 5 4 tf) (hse : se ≤ 10) (hhf : ∀ i, i < 10 → hf i = some (g (2 * i + 16))) (him0 : imf 0 = some (g 129)) (him1 : imf 1 = some (g 222)) (hmc : mc ≤ 50) (hmn : mn ≤ 6) (hnp : np ≤ 30) (hnf : nf ≤ 40) (hnr : nr ≤ 4) (hna : na ≤ 20) (hnt : nt ≤ 10) (hlf : ∀ z, z < 20 → lf z = some (g (47 + 3 * z + 5))) (htf : ∀ z, z < 4 → tf z = some (g (112 + 3 * z + 5))) (hsn : se ≤ nt) (hTr : trC ct nt) (hH : ∀ i, i < 10 → okH G g f (2 * i + 16)) (hSp : okH G g f 13) (hL : ∀ i, i < 20 → ltx G g f (3 * i + 52) (LL i) (LG i) (i < na)) (hT : ∀ i, i < 4 → txt G g f (3 * i + 117) (TL i) (TG i)) (hB1 : bkD G g f 129 N1 E1 P1 L1 S1 W1 X1) (hB2 : bkD G g f 222 N2 E2 P2 L2 S2 W2 X2) (hQ : ∀ z, z < se → cHz G g f np nf nr na dp df dr da ct LL LG z) : Met l yX10_clash (wsT yX10_clash cX10_clash 5 (some .int)) ({ frames := 4, cells := 0, slots := 0, locals := 97 }) (bP G g f [.ref (g 0), .int a1, .int a2]) (bQi G g (fun (z9 : Int32) (f' : Nat → va_E) => (cJ G g f' np dp nf df nr dr nt ct pay fine kf na da TL TG LL LG N1 E1 P1 L1 S1 W1 X1 N2 E2 P2 L2 S2 W2 X2) ∧ ∀ j, 315 ≤ j → f' j = f j)) 0 0 (gA g) := by
  refine Met.ofW (cc := cX10_clash) (maxL := 5) (ret := (some .int)) (by decide) rfl ?_
  intro p e s m args below meth c s₁ B hml hv
  obtain ⟨rfl, hP, hG⟩ := hv
  have hx := B.exec
  have hb := B.bytes
  have hr := B.returns
  have hts := my_hts (atoms_spec (ws := wsT yX10_clash cX10_clash 5 (some .int)) B.pre)
  have hown : s.vm.findClass RX10 = some m.cls := findClass_of_methodNamed B.named
  have hlocks := B.notSynchronized
  have hS : va_S (gA g) s.heap s.heap [] := va_S.rf
  have hl := lv_entry ([.ref (g 0), .int a1, .int a2]) (n := 5) (Nat.le_of_ble_eq_true rfl)
  rw [lg_entry_eq]
  generalize (lg_sl ([.ref (g 0), .int a1, .int a2]) ++ List.replicate (5 - (lg_sl ([.ref (g 0), .int a1, .int a2])).length) Slot.unset).toArray = ls at hl ⊢
  have hl : lv_has ls 5 [(0, .ref (g 0)), (1, .int a1), (2, .int a2)] := hl
  refine W_q8 (fun Q9 hQ9 => ?_)
  refine lv_iload_n hx hb dX10_clash_0 rfl (lv_at hl 1 rfl) ?_
  refine lv_aload_n hx hb dX10_clash_1 rfl (lv_at hl 0 rfl) ?_
  refine va_get (D := G.1) (ci := 9) (v := .ref (g 36)) (C := RX10) (T := TX10) (N := 7) hx hb hts inlX10 hown hG.1 hP 0 (wl_at (by decide) hx0) rfl 1 (by decide) (hts (.fieldLink RX10 20 "SwornLists" "book" "LSwornLists$Book;") w_16) (fun _ h9 => h9) rfl dX10_clash_2 ?_
  refine va_getN (D := G.1) (ci := 0) (v := .ref (g 45)) (C := RX0) (T := TX0) (N := 9) (host := RX10) hx hb hts inlX0 hown hG.1 hP 36 (wl_at (by decide) hbk) rfl 4 (by decide) (va_Nw.use rfl (hG.2.1 (.fieldLinkNest RX10 162 RX0 "trials" "LSwornLists$Rows;" RX10) (List.mem_of_getElem? (i := 7) rfl))) (fun _ h9 => h9) rfl dX10_clash_5 ?_
  refine rd_calli (va_runV (As := []) (rest := [.int a1]) ⟨hx, hb, hml, hown, hts⟩ (r_size l G g hg f 45 10 70 nt htr (by first | assumption | omega | decide) (by first | assumption | omega | decide) (by first | assumption | omega | decide) (by first | assumption | omega | decide)) (my_cwV hts ok_X5_size w_642 rfl rfl ⟨Nat.le_of_ble_eq_true rfl, Nat.le_of_ble_eq_true rfl⟩) ⟨bP.blind, va_recv hG.1 hP (ci := 5) (q0 := 45) rfl (wl_at (by decide) htr), fun U hU hW => ⟨rfl, by rw [hU]; exact hP, kG.warm hW hG⟩⟩ rfl rfl hl.1 rfl (lv_room (Nat.le_of_ble_eq_true rfl)) dX10_clash_8 ⟨Nat.le_of_ble_eq_true rfl, Nat.le_of_ble_eq_true rfl⟩) (fun r hr9 => ?_)
  subst hr9
  refine rd_calli (va_runS (As := [.int (nI nt)]) (rest := [.int a1]) ⟨hx, hb, hml, hown, hts⟩ (s_lowBits l G g hg f (nI nt)  ) (my_cwS hts ok_X10_lowBits w_819 rfl rfl ⟨Nat.le_of_ble_eq_true rfl, Nat.le_of_ble_eq_true rfl⟩) ⟨bP.blind, fun U hU hW => ⟨rfl, by rw [hU]; exact hP, kG.warm hW hG⟩⟩ rfl rfl hl.1 rfl (lv_room (Nat.le_of_ble_eq_true rfl)) dX10_clash_11 ⟨Nat.le_of_ble_eq_true rfl, Nat.le_of_ble_eq_true rfl⟩) (fun r hr9 => ?_)
  subst hr9
  refine lv_iconst (v := (-1)) hx hb dX10_clash_14 (by decide) ?_
  refine lv_ixor hx hb dX10_clash_15 ?_
  refine lv_iand hx hb dX10_clash_16 ?_
  refine lv_if_ne (tgt := 33) hx hb dX10_clash_17 (by decide) (fun c_17 => ?_) (fun c_17 => ?_)
  · refine lv_iconst (v := 0) hx hb dX10_clash_33 (by decide) ?_
    refine lv_istore_n (lv' := [(3, .int 0), (0, .ref (g 0)), (1, .int a1), (2, .int a2)]) hx hb dX10_clash_34 rfl hl (by decide) rfl (fun ls hl => ?_)
    refine lv_iload_n hx hb dX10_clash_35 rfl (lv_at hl 3 rfl) ?_
    refine lv_iconst (v := (-1)) hx hb dX10_clash_36 (by decide) ?_
    refine lv_icmp_eq (tgt := 62) hx hb dX10_clash_37 (by decide) (fun c_37 => ?_) (fun c_37 => ?_)
    · refine lv_iconst (v := 1) hx hb dX10_clash_62 (by decide) ?_
      refine lv_goto (tgt := 67) hx hb dX10_clash_63 (by decide) ?_
      refine lv_istore (lv' := [(4, .int 1), (3, .int 0), (0, .ref (g 0)), (1, .int a1), (2, .int a2)]) hx hb dX10_clash_67 hl (by decide) rfl (fun ls hl => ?_)
      refine lv_iload_n hx hb dX10_clash_69 rfl (lv_at hl 1 rfl) ?_
      refine lv_if_eq (tgt := 78) hx hb dX10_clash_70 (by decide) (fun c_70 => ?_) (fun c_70 => absurd (by decide) c_70)
      refine lv_bipush (v := (-10)) hx hb dX10_clash_78 (by decide) ?_
      refine W_q9 hQ9 ?_
      exact W.iret (v := (-10)) hx hb hr (fun _ hT9 _ => ⟨⟨_, f, rfl, (⟨cJ_mk (se) (hf) (imf) (mc) (op) (cm) (wu) (mk) (ab) (be) (mn) (le) (wt) (ww) (wb) (wf) (vv) (lf) (tf) (hx0) (hctc) (hhs) (him) (hkp) (hrd) (hmk) (hfc6) (hwt) (hw8) (hw9) (hw10) (hw11) (hvl) (hbk) (hpr) (hpd) (hfr) (hfd) (hor) (hod) (har) (had) (htr) (hct) (hla) (hlaa) (hts0) (htsa) (by omega) (hhf) (him0) (him1) (by omega) (by omega) (by omega) (by omega) (by omega) (by omega) (by omega) (hlf) (htf) (by omega) (hH) (hSp) (hL) (hT) (hB1) (hB2) (hQ), fun j hj => rfl⟩), by rw [hT9]; exact hP⟩, hS.F hT9⟩) hS.2.2 dX10_clash_80
    · refine lv_aload_n hx hb dX10_clash_40 rfl (lv_at hl 1 rfl) ?_
      refine va_get (D := G.1) (ci := 9) (v := .ref (g 36)) (C := RX10) (T := TX10) (N := 7) hx hb hts inlX10 hown hG.1 hP 0 (wl_at (by decide) hx0) rfl 1 (by decide) (hts (.fieldLink RX10 20 "SwornLists" "book" "LSwornLists$Book;") w_16) (fun _ h9 => h9) rfl dX10_clash_41 ?_
      refine va_getN (D := G.1) (ci := 0) (v := .ref (g 45)) (C := RX0) (T := TX0) (N := 9) (host := RX10) hx hb hts inlX0 hown hG.1 hP 36 (wl_at (by decide) hbk) rfl 4 (by decide) (va_Nw.use rfl (hG.2.1 (.fieldLinkNest RX10 162 RX0 "trials" "LSwornLists$Rows;" RX10) (List.mem_of_getElem? (i := 7) rfl))) (fun _ h9 => h9) rfl dX10_clash_44 ?_
      refine lv_iload_n hx hb dX10_clash_47 rfl (lv_at hl 3 rfl) ?_
      refine rd_calli (va_runV (As := [.int a2]) (rest := []) ⟨hx, hb, hml, hown, hts⟩ (r_has l G g hg f 45 10 70 nt a2 htr (by first | assumption | omega | decide) (by first | assumption | omega | decide) (by first | assumption | omega | decide) (by first | assumption | omega | decide)) (my_cwV hts ok_X5_has w_174 rfl rfl ⟨Nat.le_of_ble_eq_true rfl, Nat.le_of_ble_eq_true rfl⟩) ⟨bP.blind, va_recv hG.1 hP (ci := 5) (q0 := 45) rfl (wl_at (by decide) htr), fun U hU hW => ⟨rfl, by rw [hU]; exact hP, kG.warm hW hG⟩⟩ rfl rfl hl.1 rfl (lv_room (Nat.le_of_ble_eq_true rfl)) dX10_clash_48 ⟨Nat.le_of_ble_eq_true rfl, Nat.le_of_ble_eq_true rfl⟩) (fun r hr9 => ?_)
      subst hr9
      refine my_ifeq (tgt := 66) hx hb dX10_clash_51 (by decide) (fun c_51 => ?_) (fun c_51 => ?_)
      · refine lv_iconst (v := 0) hx hb dX10_clash_66 (by decide) ?_
        refine lv_istore (lv' := [(4, .int 0), (3, .int 0), (0, .ref (g 0)), (1, .int a1), (2, .int a2)]) hx hb dX10_clash_67 hl (by decide) rfl (fun ls hl => ?_)
        refine lv_iload_n hx hb dX10_clash_69 rfl (lv_at hl 1 rfl) ?_
        refine lv_if_eq (tgt := 78) hx hb dX10_clash_70 (by decide) (fun c_70 => ?_) (fun c_70 => absurd (by decide) c_70)
        refine lv_bipush (v := (-10)) hx hb dX10_clash_78 (by decide) ?_
        refine W_q9 hQ9 ?_
        exact W.iret (v := (-10)) hx hb hr (fun _ hT9 _ => ⟨⟨_, f, rfl, (⟨cJ_mk (se) (hf) (imf) (mc) (op) (cm) (wu) (mk) (ab) (be) (mn) (le) (wt) (ww) (wb) (wf) (vv) (lf) (tf) (hx0) (hctc) (hhs) (him) (hkp) (hrd) (hmk) (hfc6) (hwt) (hw8) (hw9) (hw10) (hw11) (hvl) (hbk) (hpr) (hpd) (hfr) (hfd) (hor) (hod) (har) (had) (htr) (hct) (hla) (hlaa) (hts0) (htsa) (by omega) (hhf) (him0) (him1) (by omega) (by omega) (by omega) (by omega) (by omega) (by omega) (by omega) (hlf) (htf) (by omega) (hH) (hSp) (hL) (hT) (hB1) (hB2) (hQ), fun j hj => rfl⟩), by rw [hT9]; exact hP⟩, hS.F hT9⟩) hS.2.2 dX10_clash_80
      · refine lv_iload_n hx hb dX10_clash_54 rfl (lv_at hl 2 rfl) ?_
        refine lv_iload_n hx hb dX10_clash_55 rfl (lv_at hl 3 rfl) ?_
        refine rd_calli (va_runS (As := [.int a1, .int a2]) (rest := []) ⟨hx, hb, hml, hown, hts⟩ (s_hasBit l G g hg f a1 a2  ) (my_cwS hts ok_X10_hasBit w_655 rfl rfl ⟨Nat.le_of_ble_eq_true rfl, Nat.le_of_ble_eq_true rfl⟩) ⟨bP.blind, fun U hU hW => ⟨rfl, by rw [hU]; exact hP, kG.warm hW hG⟩⟩ rfl rfl hl.1 rfl (lv_room (Nat.le_of_ble_eq_true rfl)) dX10_clash_56 ⟨Nat.le_of_ble_eq_true rfl, Nat.le_of_ble_eq_true rfl⟩) (fun r hr9 => ?_)
        subst hr9
        refine my_ifeq (tgt := 66) hx hb dX10_clash_59 (by decide) (fun c_59 => ?_) (fun c_59 => ?_)
        · refine lv_iconst (v := 0) hx hb dX10_clash_66 (by decide) ?_
          refine lv_istore (lv' := [(4, .int 0), (3, .int 0), (0, .ref (g 0)), (1, .int a1), (2, .int a2)]) hx hb dX10_clash_67 hl (by decide) rfl (fun ls hl => ?_)
          refine lv_iload_n hx hb dX10_clash_69 rfl (lv_at hl 1 rfl) ?_
          refine lv_if_eq (tgt := 78) hx hb dX10_clash_70 (by decide) (fun c_70 => ?_) (fun c_70 => absurd (by decide) c_70)
          refine lv_bipush (v := (-10)) hx hb dX10_clash_78 (by decide) ?_
          refine W_q9 hQ9 ?_
          exact W.iret (v := (-10)) hx hb hr (fun _ hT9 _ => ⟨⟨_, f, rfl, (⟨cJ_mk (se) (hf) (imf) (mc) (op) (cm) (wu) (mk) (ab) (be) (mn) (le) (wt) (ww) (wb) (wf) (vv) (lf) (tf) (hx0) (hctc) (hhs) (him) (hkp) (hrd) (hmk) (hfc6) (hwt) (hw8) (hw9) (hw10) (hw11) (hvl) (hbk) (hpr) (hpd) (hfr) (hfd) (hor) (hod) (har) (had) (htr) (hct) (hla) (hlaa) (hts0) (htsa) (by omega) (hhf) (him0) (him1) (by omega) (by omega) (by omega) (by omega) (by omega) (by omega) (by omega) (hlf) (htf) (by omega) (hH) (hSp) (hL) (hT) (hB1) (hB2) (hQ), fun j hj => rfl⟩), by rw [hT9]; exact hP⟩, hS.F hT9⟩) hS.2.2 dX10_clash_80
        · refine lv_iconst (v := 1) hx hb dX10_clash_62 (by decide) ?_
          refine lv_goto (tgt := 67) hx hb dX10_clash_63 (by decide) ?_
          refine lv_istore (lv' := [(4, .int 1), (3, .int 0), (0, .ref (g 0)), (1, .int a1), (2, .int a2)]) hx hb dX10_clash_67 hl (by decide) rfl (fun ls hl => ?_)
          refine lv_iload_n hx hb dX10_clash_69 rfl (lv_at hl 1 rfl) ?_
          refine lv_if_eq (tgt := 78) hx hb dX10_clash_70 (by decide) (fun c_70 => ?_) (fun c_70 => absurd (by decide) c_70)
          refine lv_bipush (v := (-10)) hx hb dX10_clash_78 (by decide) ?_
          refine W_q9 hQ9 ?_
          exact W.iret (v := (-10)) hx hb hr (fun _ hT9 _ => ⟨⟨_, f, rfl, (⟨cJ_mk (se) (hf) (imf) (mc) (op) (cm) (wu) (mk) (ab) (be) (mn) (le) (wt) (ww) (wb) (wf) (vv) (lf) (tf) (hx0) (hctc) (hhs) (him) (hkp) (hrd) (hmk) (hfc6) (hwt) (hw8) (hw9) (hw10) (hw11) (hvl) (hbk) (hpr) (hpd) (hfr) (hfd) (hor) (hod) (har) (had) (htr) (hct) (hla) (hlaa) (hts0) (htsa) (by omega) (hhf) (him0) (him1) (by omega) (by omega) (by omega) (by omega) (by omega) (by omega) (by omega) (hlf) (htf) (by omega) (hH) (hSp) (hL) (hT) (hB1) (hB2) (hQ), fun j hj => rfl⟩), by rw [hT9]; exact hP⟩, hS.F hT9⟩) hS.2.2 dX10_clash_80
  · refine lv_iload_n hx hb dX10_clash_20 rfl (lv_at hl 1 rfl) ?_
    refine rd_calli (va_runS (As := [.int a1]) (rest := []) ⟨hx, hb, hml, hown, hts⟩ (s_bitCount l G g hg f a1  ) (my_cwS hts ok_J6_bitCount_0f7a4 w_792 rfl rfl ⟨Nat.le_of_ble_eq_true rfl, Nat.le_of_ble_eq_true rfl⟩) ⟨bP.blind, fun U hU hW => ⟨rfl, by rw [hU]; exact hP, kG.warm hW hG⟩⟩ rfl rfl hl.1 rfl (lv_room (Nat.le_of_ble_eq_true rfl)) dX10_clash_21 ⟨Nat.le_of_ble_eq_true rfl, Nat.le_of_ble_eq_true rfl⟩) (fun v1 _ => ?_)
    refine lv_bipush (v := 6) hx hb dX10_clash_24 (by decide) ?_
    refine lv_icmp_gt (tgt := 33) hx hb dX10_clash_26 (by decide) (fun c_26 => ?_) (fun c_26 => ?_)
    · refine lv_iconst (v := 0) hx hb dX10_clash_33 (by decide) ?_
      refine lv_istore_n (lv' := [(3, .int 0), (0, .ref (g 0)), (1, .int a1), (2, .int a2)]) hx hb dX10_clash_34 rfl hl (by decide) rfl (fun ls hl => ?_)
      refine lv_iload_n hx hb dX10_clash_35 rfl (lv_at hl 3 rfl) ?_
      refine lv_iconst (v := (-1)) hx hb dX10_clash_36 (by decide) ?_
      refine lv_icmp_eq (tgt := 62) hx hb dX10_clash_37 (by decide) (fun c_37 => ?_) (fun c_37 => ?_)
      · refine lv_iconst (v := 1) hx hb dX10_clash_62 (by decide) ?_
        refine lv_goto (tgt := 67) hx hb dX10_clash_63 (by decide) ?_
        refine lv_istore (lv' := [(4, .int 1), (3, .int 0), (0, .ref (g 0)), (1, .int a1), (2, .int a2)]) hx hb dX10_clash_67 hl (by decide) rfl (fun ls hl => ?_)
        refine lv_iload_n hx hb dX10_clash_69 rfl (lv_at hl 1 rfl) ?_
        refine lv_if_eq (tgt := 78) hx hb dX10_clash_70 (by decide) (fun c_70 => ?_) (fun c_70 => absurd (by decide) c_70)
        refine lv_bipush (v := (-10)) hx hb dX10_clash_78 (by decide) ?_
        refine W_q9 hQ9 ?_
        exact W.iret (v := (-10)) hx hb hr (fun _ hT9 _ => ⟨⟨_, f, rfl, (⟨cJ_mk (se) (hf) (imf) (mc) (op) (cm) (wu) (mk) (ab) (be) (mn) (le) (wt) (ww) (wb) (wf) (vv) (lf) (tf) (hx0) (hctc) (hhs) (him) (hkp) (hrd) (hmk) (hfc6) (hwt) (hw8) (hw9) (hw10) (hw11) (hvl) (hbk) (hpr) (hpd) (hfr) (hfd) (hor) (hod) (har) (had) (htr) (hct) (hla) (hlaa) (hts0) (htsa) (by omega) (hhf) (him0) (him1) (by omega) (by omega) (by omega) (by omega) (by omega) (by omega) (by omega) (hlf) (htf) (by omega) (hH) (hSp) (hL) (hT) (hB1) (hB2) (hQ), fun j hj => rfl⟩), by rw [hT9]; exact hP⟩, hS.F hT9⟩) hS.2.2 dX10_clash_80
      · refine lv_aload_n hx hb dX10_clash_40 rfl (lv_at hl 1 rfl) ?_
        refine va_get (D := G.1) (ci := 9) (v := .ref (g 36)) (C := RX10) (T := TX10) (N := 7) hx hb hts inlX10 hown hG.1 hP 0 (wl_at (by decide) hx0) rfl 1 (by decide) (hts (.fieldLink RX10 20 "SwornLists" "book" "LSwornLists$Book;") w_16) (fun _ h9 => h9) rfl dX10_clash_41 ?_
        refine va_getN (D := G.1) (ci := 0) (v := .ref (g 45)) (C := RX0) (T := TX0) (N := 9) (host := RX10) hx hb hts inlX0 hown hG.1 hP 36 (wl_at (by decide) hbk) rfl 4 (by decide) (va_Nw.use rfl (hG.2.1 (.fieldLinkNest RX10 162 RX0 "trials" "LSwornLists$Rows;" RX10) (List.mem_of_getElem? (i := 7) rfl))) (fun _ h9 => h9) rfl dX10_clash_44 ?_
        refine lv_iload_n hx hb dX10_clash_47 rfl (lv_at hl 3 rfl) ?_
        refine rd_calli (va_runV (As := [.int a2]) (rest := []) ⟨hx, hb, hml, hown, hts⟩ (r_has l G g hg f 45 10 70 nt a2 htr (by first | assumption | omega | decide) (by first | assumption | omega | decide) (by first | assumption | omega | decide) (by first | assumption | omega | decide)) (my_cwV hts ok_X5_has w_174 rfl rfl ⟨Nat.le_of_ble_eq_true rfl, Nat.le_of_ble_eq_true rfl⟩) ⟨bP.blind, va_recv hG.1 hP (ci := 5) (q0 := 45) rfl (wl_at (by decide) htr), fun U hU hW => ⟨rfl, by rw [hU]; exact hP, kG.warm hW hG⟩⟩ rfl rfl hl.1 rfl (lv_room (Nat.le_of_ble_eq_true rfl)) dX10_clash_48 ⟨Nat.le_of_ble_eq_true rfl, Nat.le_of_ble_eq_true rfl⟩) (fun r hr9 => ?_)
        subst hr9
        refine my_ifeq (tgt := 66) hx hb dX10_clash_51 (by decide) (fun c_51 => ?_) (fun c_51 => ?_)
        · refine lv_iconst (v := 0) hx hb dX10_clash_66 (by decide) ?_
          refine lv_istore (lv' := [(4, .int 0), (3, .int 0), (0, .ref (g 0)), (1, .int a1), (2, .int a2)]) hx hb dX10_clash_67 hl (by decide) rfl (fun ls hl => ?_)
          refine lv_iload_n hx hb dX10_clash_69 rfl (lv_at hl 1 rfl) ?_
          refine lv_if_eq (tgt := 78) hx hb dX10_clash_70 (by decide) (fun c_70 => ?_) (fun c_70 => absurd (by decide) c_70)
          refine lv_bipush (v := (-10)) hx hb dX10_clash_78 (by decide) ?_
          refine W_q9 hQ9 ?_
          exact W.iret (v := (-10)) hx hb hr (fun _ hT9 _ => ⟨⟨_, f, rfl, (⟨cJ_mk (se) (hf) (imf) (mc) (op) (cm) (wu) (mk) (ab) (be) (mn) (le) (wt) (ww) (wb) (wf) (vv) (lf) (tf) (hx0) (hctc) (hhs) (him) (hkp) (hrd) (hmk) (hfc6) (hwt) (hw8) (hw9) (hw10) (hw11) (hvl) (hbk) (hpr) (hpd) (hfr) (hfd) (hor) (hod) (har) (had) (htr) (hct) (hla) (hlaa) (hts0) (htsa) (by omega) (hhf) (him0) (him1) (by omega) (by omega) (by omega) (by omega) (by omega) (by omega) (by omega) (hlf) (htf) (by omega) (hH) (hSp) (hL) (hT) (hB1) (hB2) (hQ), fun j hj => rfl⟩), by rw [hT9]; exact hP⟩, hS.F hT9⟩) hS.2.2 dX10_clash_80
        · refine lv_iload_n hx hb dX10_clash_54 rfl (lv_at hl 2 rfl) ?_
          refine lv_iload_n hx hb dX10_clash_55 rfl (lv_at hl 3 rfl) ?_
          refine rd_calli (va_runS (As := [.int a1, .int a2]) (rest := []) ⟨hx, hb, hml, hown, hts⟩ (s_hasBit l G g hg f a1 a2  ) (my_cwS hts ok_X10_hasBit w_655 rfl rfl ⟨Nat.le_of_ble_eq_true rfl, Nat.le_of_ble_eq_true rfl⟩) ⟨bP.blind, fun U hU hW => ⟨rfl, by rw [hU]; exact hP, kG.warm hW hG⟩⟩ rfl rfl hl.1 rfl (lv_room (Nat.le_of_ble_eq_true rfl)) dX10_clash_56 ⟨Nat.le_of_ble_eq_true rfl, Nat.le_of_ble_eq_true rfl⟩) (fun r hr9 => ?_)
          subst hr9
          refine my_ifeq (tgt := 66) hx hb dX10_clash_59 (by decide) (fun c_59 => ?_) (fun c_59 => ?_)
          · refine lv_iconst (v := 0) hx hb dX10_clash_66 (by decide) ?_
            refine lv_istore (lv' := [(4, .int 0), (3, .int 0), (0, .ref (g 0)), (1, .int a1), (2, .int a2)]) hx hb dX10_clash_67 hl (by decide) rfl (fun ls hl => ?_)
            refine lv_iload_n hx hb dX10_clash_69 rfl (lv_at hl 1 rfl) ?_
            refine lv_if_eq (tgt := 78) hx hb dX10_clash_70 (by decide) (fun c_70 => ?_) (fun c_70 => absurd (by decide) c_70)
            refine lv_bipush (v := (-10)) hx hb dX10_clash_78 (by decide) ?_
            refine W_q9 hQ9 ?_
            exact W.iret (v := (-10)) hx hb hr (fun _ hT9 _ => ⟨⟨_, f, rfl, (⟨cJ_mk (se) (hf) (imf) (mc) (op) (cm) (wu) (mk) (ab) (be) (mn) (le) (wt) (ww) (wb) (wf) (vv) (lf) (tf) (hx0) (hctc) (hhs) (him) (hkp) (hrd) (hmk) (hfc6) (hwt) (hw8) (hw9) (hw10) (hw11) (hvl) (hbk) (hpr) (hpd) (hfr) (hfd) (hor) (hod) (har) (had) (htr) (hct) (hla) (hlaa) (hts0) (htsa) (by omega) (hhf) (him0) (him1) (by omega) (by omega) (by omega) (by omega) (by omega) (by omega) (by omega) (hlf) (htf) (by omega) (hH) (hSp) (hL) (hT) (hB1) (hB2) (hQ), fun j hj => rfl⟩), by rw [hT9]; exact hP⟩, hS.F hT9⟩) hS.2.2 dX10_clash_80
          · refine lv_iconst (v := 1) hx hb dX10_clash_62 (by decide) ?_
            refine lv_goto (tgt := 67) hx hb dX10_clash_63 (by decide) ?_
            refine lv_istore (lv' := [(4, .int 1), (3, .int 0), (0, .ref (g 0)), (1, .int a1), (2, .int a2)]) hx hb dX10_clash_67 hl (by decide) rfl (fun ls hl => ?_)
            refine lv_iload_n hx hb dX10_clash_69 rfl (lv_at hl 1 rfl) ?_
            refine lv_if_eq (tgt := 78) hx hb dX10_clash_70 (by decide) (fun c_70 => ?_) (fun c_70 => absurd (by decide) c_70)
            refine lv_bipush (v := (-10)) hx hb dX10_clash_78 (by decide) ?_
            refine W_q9 hQ9 ?_
            exact W.iret (v := (-10)) hx hb hr (fun _ hT9 _ => ⟨⟨_, f, rfl, (⟨cJ_mk (se) (hf) (imf) (mc) (op) (cm) (wu) (mk) (ab) (be) (mn) (le) (wt) (ww) (wb) (wf) (vv) (lf) (tf) (hx0) (hctc) (hhs) (him) (hkp) (hrd) (hmk) (hfc6) (hwt) (hw8) (hw9) (hw10) (hw11) (hvl) (hbk) (hpr) (hpd) (hfr) (hfd) (hor) (hod) (har) (had) (htr) (hct) (hla) (hlaa) (hts0) (htsa) (by omega) (hhf) (him0) (him1) (by omega) (by omega) (by omega) (by omega) (by omega) (by omega) (by omega) (hlf) (htf) (by omega) (hH) (hSp) (hL) (hT) (hB1) (hB2) (hQ), fun j hj => rfl⟩), by rw [hT9]; exact hP⟩, hS.F hT9⟩) hS.2.2 dX10_clash_80
    · refine lv_iconst (v := 1) hx hb dX10_clash_29 (by decide) ?_
      refine lv_goto (tgt := 34) hx hb dX10_clash_30 (by decide) ?_
      refine lv_istore_n (lv' := [(3, .int 1), (0, .ref (g 0)), (1, .int a1), (2, .int a2)]) hx hb dX10_clash_34 rfl hl (by decide) rfl (fun ls hl => ?_)
      refine lv_iload_n hx hb dX10_clash_35 rfl (lv_at hl 3 rfl) ?_
      refine lv_iconst (v := (-1)) hx hb dX10_clash_36 (by decide) ?_
      refine lv_icmp_eq (tgt := 62) hx hb dX10_clash_37 (by decide) (fun c_37 => ?_) (fun c_37 => ?_)
      · refine lv_iconst (v := 1) hx hb dX10_clash_62 (by decide) ?_
        refine lv_goto (tgt := 67) hx hb dX10_clash_63 (by decide) ?_
        refine lv_istore (lv' := [(4, .int 1), (3, .int 1), (0, .ref (g 0)), (1, .int a1), (2, .int a2)]) hx hb dX10_clash_67 hl (by decide) rfl (fun ls hl => ?_)
        refine lv_iload_n hx hb dX10_clash_69 rfl (lv_at hl 1 rfl) ?_
        refine lv_if_eq (tgt := 78) hx hb dX10_clash_70 (by decide) (fun c_70 => absurd c_70 (by decide)) (fun c_70 => ?_)
        refine lv_iload hx hb dX10_clash_73 (lv_at hl 0 rfl) ?_
        refine lv_if_ne (tgt := 81) hx hb dX10_clash_75 (by decide) (fun c_75 => ?_) (fun c_75 => absurd c_75 (by decide))
        refine lv_aload_n hx hb dX10_clash_81 rfl (lv_at hl 2 rfl) ?_
        refine va_get (D := G.1) (ci := 9) (v := .ref (g 7)) (C := RX10) (T := TX10) (N := 7) hx hb hts inlX10 hown hG.1 hP 0 (wl_at (by decide) hx0) rfl 6 (by decide) (hts (.fieldLink RX10 48 "SwornLists" "waits" "LSwornLists$Waits;") w_32) (fun _ h9 => h9) rfl dX10_clash_82 ?_
        refine lv_aload_n hx hb dX10_clash_85 rfl (lv_at hl 2 rfl) ?_
        refine va_get (D := G.1) (ci := 9) (v := .ref (g 36)) (C := RX10) (T := TX10) (N := 7) hx hb hts inlX10 hown hG.1 hP 0 (wl_at (by decide) hx0) rfl 1 (by decide) (hts (.fieldLink RX10 20 "SwornLists" "book" "LSwornLists$Book;") w_16) (fun _ h9 => h9) rfl dX10_clash_86 ?_
        refine lv_iload_n hx hb dX10_clash_89 rfl (lv_at hl 3 rfl) ?_
        refine b_callv (va_runV (As := [.ref (g 36), .int a1]) (rest := []) ⟨hx, hb, hml, hown, hts⟩ (v_seek l G g hg f mn le wt ww wb wf pay fine nt ct a1 hwt hw8 hw9 hw10 hw11 hbk htr hct (by first | assumption | omega | decide) (by first | assumption | omega | decide)) (my_cwV hts ok_X9_seek w_820 rfl rfl ⟨Nat.le_of_ble_eq_true rfl, Nat.le_of_ble_eq_true rfl⟩) ⟨bP.blind, va_recv hG.1 hP (ci := 8) (q0 := 7) rfl (wl_at (by decide) hwt), fun U hU hW => ⟨rfl, by rw [hU]; exact hP, kG.warm hW hG⟩⟩ rfl rfl hl.1 rfl (lv_room (Nat.le_of_ble_eq_true rfl)) dX10_clash_90 ⟨Nat.le_of_ble_eq_true rfl, Nat.le_of_ble_eq_true rfl⟩) hS (fun f_1 H locs hq9 hP hS => ?_)
        obtain ⟨mn92, le93, wt94, ww95, wb96, wf97, hq_1_0, hq_1_1, hq_1_2, hq_1_3, hq_1_4, hx_1_0, o_1⟩ := hq9
        have hwt : f_1 7 = eO 8 [.ref (g 8), .ref (g 9), .ref (g 10), .ref (g 11), .int (nI mn92), .int le93] := hq_1_0
        have hw8 : f_1 8 = eI G 6 wt94 := hq_1_1
        have hw9 : f_1 9 = eI G 6 ww95 := hq_1_2
        have hw10 : f_1 10 = eI G 6 wb96 := hq_1_3
        have hw11 : f_1 11 = eI G 6 wf97 := hq_1_4
        refine lv_aload_n hx hb dX10_clash_93 rfl (lv_at hl 2 rfl) ?_
        replace hx0 := ((o_1 0 (by first | decide | omega))).trans hx0
        refine va_get (D := G.1) (ci := 9) (v := .ref (g 7)) (C := RX10) (T := TX10) (N := 7) hx hb hts inlX10 hown hG.1 hP 0 (wl_at (by decide) hx0) rfl 6 (by decide) (hts (.fieldLink RX10 48 "SwornLists" "waits" "LSwornLists$Waits;") w_32) (fun _ h9 => h9) rfl dX10_clash_94 ?_
        refine va_getN (D := G.1) (ci := 8) (v := .int le93) (C := RX9) (T := TX9) (N := 6) (host := RX10) hx hb hts inlX9 hown hG.1 hP 7 (wl_at (by decide) hwt) rfl 5 (by decide) (va_Nw.use rfl (hG.2.1 (.fieldLinkNest RX10 251 RX9 "leastSum" "I" RX10) (List.mem_of_getElem? (i := 21) rfl))) (fun _ h9 => h9) rfl dX10_clash_97 ?_
        refine lv_iconst (v := (-1)) hx hb dX10_clash_100 (by decide) ?_
        refine lv_icmp_ne (tgt := 107) hx hb dX10_clash_101 (by decide) (fun c_101 => ?_) (fun c_101 => ?_)
        · refine lv_iload_n hx hb dX10_clash_107 rfl (lv_at hl 4 rfl) ?_
          refine lv_iconst (v := (-1)) hx hb dX10_clash_108 (by decide) ?_
          refine lv_icmp_ne (tgt := 122) hx hb dX10_clash_109 (by decide) (fun c_109 => ?_) (fun c_109 => ?_)
          · refine lv_aload_n hx hb dX10_clash_122 rfl (lv_at hl 2 rfl) ?_
            refine va_get (D := G.1) (ci := 9) (v := .ref (g 7)) (C := RX10) (T := TX10) (N := 7) hx hb hts inlX10 hown hG.1 hP 0 (wl_at (by decide) hx0) rfl 6 (by decide) (hts (.fieldLink RX10 48 "SwornLists" "waits" "LSwornLists$Waits;") w_32) (fun _ h9 => h9) rfl dX10_clash_123 ?_
            refine lv_iload_n hx hb dX10_clash_126 rfl (lv_at hl 3 rfl) ?_
            refine lv_iload_n hx hb dX10_clash_127 rfl (lv_at hl 4 rfl) ?_
            refine rd_calli (va_runS (As := [.int a2]) (rest := [.int a1, .ref (g 7)]) ⟨hx, hb, hml, hown, hts⟩ (s_lowBits l G g hg f_1 a2  ) (my_cwS hts ok_X10_lowBits w_819 rfl rfl ⟨Nat.le_of_ble_eq_true rfl, Nat.le_of_ble_eq_true rfl⟩) ⟨bP.blind, fun U hU hW => ⟨rfl, by rw [hU]; exact hP, kG.warm hW hG⟩⟩ rfl rfl hl.1 rfl (lv_room (Nat.le_of_ble_eq_true rfl)) dX10_clash_128 ⟨Nat.le_of_ble_eq_true rfl, Nat.le_of_ble_eq_true rfl⟩) (fun r hr9 => ?_)
            subst hr9
            refine lv_iand hx hb dX10_clash_131 ?_
            refine rd_calli (va_runS (As := [.int (a1 &&& ((1 <<< (a2 &&& 31)) - 1))]) (rest := [.ref (g 7)]) ⟨hx, hb, hml, hown, hts⟩ (s_bitCount l G g hg f_1 (a1 &&& ((1 <<< (a2 &&& 31)) - 1))  ) (my_cwS hts ok_J6_bitCount_0f7a4 w_792 rfl rfl ⟨Nat.le_of_ble_eq_true rfl, Nat.le_of_ble_eq_true rfl⟩) ⟨bP.blind, fun U hU hW => ⟨rfl, by rw [hU]; exact hP, kG.warm hW hG⟩⟩ rfl rfl hl.1 rfl (lv_room (Nat.le_of_ble_eq_true rfl)) dX10_clash_132 ⟨Nat.le_of_ble_eq_true rfl, Nat.le_of_ble_eq_true rfl⟩) (fun v8 _ => ?_)
            refine rd_calli (va_runV (As := [.int v8]) (rest := []) ⟨hx, hb, hml, hown, hts⟩ (v_bestAt l G g hg f_1 mn92 le93 wb96 v8 hwt hw10 (by first | assumption | omega | decide)) (my_cwV hts ok_X9_bestAt w_855 rfl rfl ⟨Nat.le_of_ble_eq_true rfl, Nat.le_of_ble_eq_true rfl⟩) ⟨bP.blind, va_recv hG.1 hP (ci := 8) (q0 := 7) rfl (wl_at (by decide) hwt), fun U hU hW => ⟨rfl, by rw [hU]; exact hP, kG.warm hW hG⟩⟩ rfl rfl hl.1 rfl (lv_room (Nat.le_of_ble_eq_true rfl)) dX10_clash_135 ⟨Nat.le_of_ble_eq_true rfl, Nat.le_of_ble_eq_true rfl⟩) (fun v9 _ => ?_)
            refine W_q9 hQ9 ?_
            replace hctc := ((o_1 1 (by first | decide | omega))).trans hctc
            replace hhs := ((o_1 12 (by first | decide | omega))).trans hhs
            replace him := ((o_1 2 (by first | decide | omega))).trans him
            replace hkp := ((o_1 3 (by first | decide | omega))).trans hkp
            replace hrd := ((o_1 4 (by first | decide | omega))).trans hrd
            replace hmk := ((o_1 5 (by first | decide | omega))).trans hmk
            replace hfc6 := ((o_1 6 (by first | decide | omega))).trans hfc6
            replace hvl := ((o_1 15 (by first | decide | omega))).trans hvl
            replace hbk := ((o_1 36 (by first | decide | omega))).trans hbk
            replace hpr := ((o_1 37 (by first | decide | omega))).trans hpr
            replace hpd := ((o_1 38 (by first | decide | omega))).trans hpd
            replace hfr := ((o_1 39 (by first | decide | omega))).trans hfr
            replace hfd := ((o_1 40 (by first | decide | omega))).trans hfd
            replace hor := ((o_1 41 (by first | decide | omega))).trans hor
            replace hod := ((o_1 42 (by first | decide | omega))).trans hod
            replace har := ((o_1 43 (by first | decide | omega))).trans har
            replace had := ((o_1 44 (by first | decide | omega))).trans had
            replace htr := ((o_1 45 (by first | decide | omega))).trans htr
            replace hct := ((o_1 46 (by first | decide | omega))).trans hct
            replace hla := ((o_1 47 (by first | decide | omega))).trans hla
            replace hlaa := ((o_1 48 (by first | decide | omega))).trans hlaa
            replace hts0 := ((o_1 112 (by first | decide | omega))).trans hts0
            replace htsa := ((o_1 113 (by first | decide | omega))).trans htsa
            replace hH : ∀ i, i < 10 → okH G g f_1 (2 * i + 16) := fun z hz => okH_fr (hH z hz) (o_1 _ (by omega)) (o_1 _ (by omega))
            replace hSp : okH G g f_1 13 := okH_fr hSp (o_1 _ (by omega)) (o_1 _ (by omega))
            replace hL : ∀ i, i < 20 → ltx G g f_1 (3 * i + 52) (LL i) (LG i) (i < na) := fun z hz => ltx_fr (hL z hz) (o_1 _ (by omega)) (o_1 _ (by omega)) (o_1 _ (by omega))
            replace hT : ∀ i, i < 4 → txt G g f_1 (3 * i + 117) (TL i) (TG i) := fun z hz => txt_fr (hT z hz) (o_1 _ (by omega)) (o_1 _ (by omega)) (o_1 _ (by omega))
            replace hB1 : bkD G g f_1 129 N1 E1 P1 L1 S1 W1 X1 := bkD_fr hB1 (fun j _ _ => o_1 j (by omega))
            replace hB2 : bkD G g f_1 222 N2 E2 P2 L2 S2 W2 X2 := bkD_fr hB2 (fun j _ _ => o_1 j (by omega))
            replace hQ : ∀ z, z < se → cHz G g f_1 np nf nr na dp df dr da ct LL LG z := fun z hz => okQ_fr (hQ z hz) (o_1 _ (by omega)) (o_1 _ (by omega))
            exact W.iret (v := v9) hx hb hr (fun _ hT9 _ => ⟨⟨_, f_1, rfl, (⟨cJ_mk (se) (hf) (imf) (mc) (op) (cm) (wu) (mk) (ab) (be) (mn92) (le93) (wt94) (ww95) (wb96) (wf97) (vv) (lf) (tf) (hx0) (hctc) (hhs) (him) (hkp) (hrd) (hmk) (hfc6) (hwt) (hw8) (hw9) (hw10) (hw11) (hvl) (hbk) (hpr) (hpd) (hfr) (hfd) (hor) (hod) (har) (had) (htr) (hct) (hla) (hlaa) (hts0) (htsa) (by omega) (hhf) (him0) (him1) (by omega) (by omega) (by omega) (by omega) (by omega) (by omega) (by omega) (hlf) (htf) (by omega) (hH) (hSp) (hL) (hT) (hB1) (hB2) (hQ), fun j hj => (o_1 j (by omega))⟩), by rw [hT9]; exact hP⟩, hS.F hT9⟩) hS.2.2 dX10_clash_138
          · refine lv_aload_n hx hb dX10_clash_112 rfl (lv_at hl 2 rfl) ?_
            refine va_get (D := G.1) (ci := 9) (v := .ref (g 7)) (C := RX10) (T := TX10) (N := 7) hx hb hts inlX10 hown hG.1 hP 0 (wl_at (by decide) hx0) rfl 6 (by decide) (hts (.fieldLink RX10 48 "SwornLists" "waits" "LSwornLists$Waits;") w_32) (fun _ h9 => h9) rfl dX10_clash_113 ?_
            refine va_getN (D := G.1) (ci := 8) (v := .int le93) (C := RX9) (T := TX9) (N := 6) (host := RX10) hx hb hts inlX9 hown hG.1 hP 7 (wl_at (by decide) hwt) rfl 5 (by decide) (va_Nw.use rfl (hG.2.1 (.fieldLinkNest RX10 251 RX9 "leastSum" "I" RX10) (List.mem_of_getElem? (i := 21) rfl))) (fun _ h9 => h9) rfl dX10_clash_116 ?_
            refine lv_goto (tgt := 138) hx hb dX10_clash_119 (by decide) ?_
            refine W_q9 hQ9 ?_
            replace hctc := ((o_1 1 (by first | decide | omega))).trans hctc
            replace hhs := ((o_1 12 (by first | decide | omega))).trans hhs
            replace him := ((o_1 2 (by first | decide | omega))).trans him
            replace hkp := ((o_1 3 (by first | decide | omega))).trans hkp
            replace hrd := ((o_1 4 (by first | decide | omega))).trans hrd
            replace hmk := ((o_1 5 (by first | decide | omega))).trans hmk
            replace hfc6 := ((o_1 6 (by first | decide | omega))).trans hfc6
            replace hvl := ((o_1 15 (by first | decide | omega))).trans hvl
            replace hbk := ((o_1 36 (by first | decide | omega))).trans hbk
            replace hpr := ((o_1 37 (by first | decide | omega))).trans hpr
            replace hpd := ((o_1 38 (by first | decide | omega))).trans hpd
            replace hfr := ((o_1 39 (by first | decide | omega))).trans hfr
            replace hfd := ((o_1 40 (by first | decide | omega))).trans hfd
            replace hor := ((o_1 41 (by first | decide | omega))).trans hor
            replace hod := ((o_1 42 (by first | decide | omega))).trans hod
            replace har := ((o_1 43 (by first | decide | omega))).trans har
            replace had := ((o_1 44 (by first | decide | omega))).trans had
            replace htr := ((o_1 45 (by first | decide | omega))).trans htr
            replace hct := ((o_1 46 (by first | decide | omega))).trans hct
            replace hla := ((o_1 47 (by first | decide | omega))).trans hla
            replace hlaa := ((o_1 48 (by first | decide | omega))).trans hlaa
            replace hts0 := ((o_1 112 (by first | decide | omega))).trans hts0
            replace htsa := ((o_1 113 (by first | decide | omega))).trans htsa
            replace hH : ∀ i, i < 10 → okH G g f_1 (2 * i + 16) := fun z hz => okH_fr (hH z hz) (o_1 _ (by omega)) (o_1 _ (by omega))
            replace hSp : okH G g f_1 13 := okH_fr hSp (o_1 _ (by omega)) (o_1 _ (by omega))
            replace hL : ∀ i, i < 20 → ltx G g f_1 (3 * i + 52) (LL i) (LG i) (i < na) := fun z hz => ltx_fr (hL z hz) (o_1 _ (by omega)) (o_1 _ (by omega)) (o_1 _ (by omega))
            replace hT : ∀ i, i < 4 → txt G g f_1 (3 * i + 117) (TL i) (TG i) := fun z hz => txt_fr (hT z hz) (o_1 _ (by omega)) (o_1 _ (by omega)) (o_1 _ (by omega))
            replace hB1 : bkD G g f_1 129 N1 E1 P1 L1 S1 W1 X1 := bkD_fr hB1 (fun j _ _ => o_1 j (by omega))
            replace hB2 : bkD G g f_1 222 N2 E2 P2 L2 S2 W2 X2 := bkD_fr hB2 (fun j _ _ => o_1 j (by omega))
            replace hQ : ∀ z, z < se → cHz G g f_1 np nf nr na dp df dr da ct LL LG z := fun z hz => okQ_fr (hQ z hz) (o_1 _ (by omega)) (o_1 _ (by omega))
            exact W.iret (v := le93) hx hb hr (fun _ hT9 _ => ⟨⟨_, f_1, rfl, (⟨cJ_mk (se) (hf) (imf) (mc) (op) (cm) (wu) (mk) (ab) (be) (mn92) (le93) (wt94) (ww95) (wb96) (wf97) (vv) (lf) (tf) (hx0) (hctc) (hhs) (him) (hkp) (hrd) (hmk) (hfc6) (hwt) (hw8) (hw9) (hw10) (hw11) (hvl) (hbk) (hpr) (hpd) (hfr) (hfd) (hor) (hod) (har) (had) (htr) (hct) (hla) (hlaa) (hts0) (htsa) (by omega) (hhf) (him0) (him1) (by omega) (by omega) (by omega) (by omega) (by omega) (by omega) (by omega) (hlf) (htf) (by omega) (hH) (hSp) (hL) (hT) (hB1) (hB2) (hQ), fun j hj => (o_1 j (by omega))⟩), by rw [hT9]; exact hP⟩, hS.F hT9⟩) hS.2.2 dX10_clash_138
        · refine lv_bipush (v := (-5)) hx hb dX10_clash_104 (by decide) ?_
          refine W_q9 hQ9 ?_
          replace hctc := ((o_1 1 (by first | decide | omega))).trans hctc
          replace hhs := ((o_1 12 (by first | decide | omega))).trans hhs
          replace him := ((o_1 2 (by first | decide | omega))).trans him
          replace hkp := ((o_1 3 (by first | decide | omega))).trans hkp
          replace hrd := ((o_1 4 (by first | decide | omega))).trans hrd
          replace hmk := ((o_1 5 (by first | decide | omega))).trans hmk
          replace hfc6 := ((o_1 6 (by first | decide | omega))).trans hfc6
          replace hvl := ((o_1 15 (by first | decide | omega))).trans hvl
          replace hbk := ((o_1 36 (by first | decide | omega))).trans hbk
          replace hpr := ((o_1 37 (by first | decide | omega))).trans hpr
          replace hpd := ((o_1 38 (by first | decide | omega))).trans hpd
          replace hfr := ((o_1 39 (by first | decide | omega))).trans hfr
          replace hfd := ((o_1 40 (by first | decide | omega))).trans hfd
          replace hor := ((o_1 41 (by first | decide | omega))).trans hor
          replace hod := ((o_1 42 (by first | decide | omega))).trans hod
          replace har := ((o_1 43 (by first | decide | omega))).trans har
          replace had := ((o_1 44 (by first | decide | omega))).trans had
          replace htr := ((o_1 45 (by first | decide | omega))).trans htr
          replace hct := ((o_1 46 (by first | decide | omega))).trans hct
          replace hla := ((o_1 47 (by first | decide | omega))).trans hla
          replace hlaa := ((o_1 48 (by first | decide | omega))).trans hlaa
          replace hts0 := ((o_1 112 (by first | decide | omega))).trans hts0
          replace htsa := ((o_1 113 (by first | decide | omega))).trans htsa
          replace hH : ∀ i, i < 10 → okH G g f_1 (2 * i + 16) := fun z hz => okH_fr (hH z hz) (o_1 _ (by omega)) (o_1 _ (by omega))
          replace hSp : okH G g f_1 13 := okH_fr hSp (o_1 _ (by omega)) (o_1 _ (by omega))
          replace hL : ∀ i, i < 20 → ltx G g f_1 (3 * i + 52) (LL i) (LG i) (i < na) := fun z hz => ltx_fr (hL z hz) (o_1 _ (by omega)) (o_1 _ (by omega)) (o_1 _ (by omega))
          replace hT : ∀ i, i < 4 → txt G g f_1 (3 * i + 117) (TL i) (TG i) := fun z hz => txt_fr (hT z hz) (o_1 _ (by omega)) (o_1 _ (by omega)) (o_1 _ (by omega))
          replace hB1 : bkD G g f_1 129 N1 E1 P1 L1 S1 W1 X1 := bkD_fr hB1 (fun j _ _ => o_1 j (by omega))
          replace hB2 : bkD G g f_1 222 N2 E2 P2 L2 S2 W2 X2 := bkD_fr hB2 (fun j _ _ => o_1 j (by omega))
          replace hQ : ∀ z, z < se → cHz G g f_1 np nf nr na dp df dr da ct LL LG z := fun z hz => okQ_fr (hQ z hz) (o_1 _ (by omega)) (o_1 _ (by omega))
          exact W.iret (v := (-5)) hx hb hr (fun _ hT9 _ => ⟨⟨_, f_1, rfl, (⟨cJ_mk (se) (hf) (imf) (mc) (op) (cm) (wu) (mk) (ab) (be) (mn92) (le93) (wt94) (ww95) (wb96) (wf97) (vv) (lf) (tf) (hx0) (hctc) (hhs) (him) (hkp) (hrd) (hmk) (hfc6) (hwt) (hw8) (hw9) (hw10) (hw11) (hvl) (hbk) (hpr) (hpd) (hfr) (hfd) (hor) (hod) (har) (had) (htr) (hct) (hla) (hlaa) (hts0) (htsa) (by omega) (hhf) (him0) (him1) (by omega) (by omega) (by omega) (by omega) (by omega) (by omega) (by omega) (hlf) (htf) (by omega) (hH) (hSp) (hL) (hT) (hB1) (hB2) (hQ), fun j hj => (o_1 j (by omega))⟩), by rw [hT9]; exact hP⟩, hS.F hT9⟩) hS.2.2 dX10_clash_106
      · refine lv_aload_n hx hb dX10_clash_40 rfl (lv_at hl 1 rfl) ?_
        refine va_get (D := G.1) (ci := 9) (v := .ref (g 36)) (C := RX10) (T := TX10) (N := 7) hx hb hts inlX10 hown hG.1 hP 0 (wl_at (by decide) hx0) rfl 1 (by decide) (hts (.fieldLink RX10 20 "SwornLists" "book" "LSwornLists$Book;") w_16) (fun _ h9 => h9) rfl dX10_clash_41 ?_
        refine va_getN (D := G.1) (ci := 0) (v := .ref (g 45)) (C := RX0) (T := TX0) (N := 9) (host := RX10) hx hb hts inlX0 hown hG.1 hP 36 (wl_at (by decide) hbk) rfl 4 (by decide) (va_Nw.use rfl (hG.2.1 (.fieldLinkNest RX10 162 RX0 "trials" "LSwornLists$Rows;" RX10) (List.mem_of_getElem? (i := 7) rfl))) (fun _ h9 => h9) rfl dX10_clash_44 ?_
        refine lv_iload_n hx hb dX10_clash_47 rfl (lv_at hl 3 rfl) ?_
        refine rd_calli (va_runV (As := [.int a2]) (rest := []) ⟨hx, hb, hml, hown, hts⟩ (r_has l G g hg f 45 10 70 nt a2 htr (by first | assumption | omega | decide) (by first | assumption | omega | decide) (by first | assumption | omega | decide) (by first | assumption | omega | decide)) (my_cwV hts ok_X5_has w_174 rfl rfl ⟨Nat.le_of_ble_eq_true rfl, Nat.le_of_ble_eq_true rfl⟩) ⟨bP.blind, va_recv hG.1 hP (ci := 5) (q0 := 45) rfl (wl_at (by decide) htr), fun U hU hW => ⟨rfl, by rw [hU]; exact hP, kG.warm hW hG⟩⟩ rfl rfl hl.1 rfl (lv_room (Nat.le_of_ble_eq_true rfl)) dX10_clash_48 ⟨Nat.le_of_ble_eq_true rfl, Nat.le_of_ble_eq_true rfl⟩) (fun r hr9 => ?_)
        subst hr9
        refine my_ifeq (tgt := 66) hx hb dX10_clash_51 (by decide) (fun c_51 => ?_) (fun c_51 => ?_)
        · refine lv_iconst (v := 0) hx hb dX10_clash_66 (by decide) ?_
          refine lv_istore (lv' := [(4, .int 0), (3, .int 1), (0, .ref (g 0)), (1, .int a1), (2, .int a2)]) hx hb dX10_clash_67 hl (by decide) rfl (fun ls hl => ?_)
          refine lv_iload_n hx hb dX10_clash_69 rfl (lv_at hl 1 rfl) ?_
          refine lv_if_eq (tgt := 78) hx hb dX10_clash_70 (by decide) (fun c_70 => absurd c_70 (by decide)) (fun c_70 => ?_)
          refine lv_iload hx hb dX10_clash_73 (lv_at hl 0 rfl) ?_
          refine lv_if_ne (tgt := 81) hx hb dX10_clash_75 (by decide) (fun c_75 => absurd (by decide) c_75) (fun c_75 => ?_)
          refine lv_bipush (v := (-10)) hx hb dX10_clash_78 (by decide) ?_
          refine W_q9 hQ9 ?_
          exact W.iret (v := (-10)) hx hb hr (fun _ hT9 _ => ⟨⟨_, f, rfl, (⟨cJ_mk (se) (hf) (imf) (mc) (op) (cm) (wu) (mk) (ab) (be) (mn) (le) (wt) (ww) (wb) (wf) (vv) (lf) (tf) (hx0) (hctc) (hhs) (him) (hkp) (hrd) (hmk) (hfc6) (hwt) (hw8) (hw9) (hw10) (hw11) (hvl) (hbk) (hpr) (hpd) (hfr) (hfd) (hor) (hod) (har) (had) (htr) (hct) (hla) (hlaa) (hts0) (htsa) (by omega) (hhf) (him0) (him1) (by omega) (by omega) (by omega) (by omega) (by omega) (by omega) (by omega) (hlf) (htf) (by omega) (hH) (hSp) (hL) (hT) (hB1) (hB2) (hQ), fun j hj => rfl⟩), by rw [hT9]; exact hP⟩, hS.F hT9⟩) hS.2.2 dX10_clash_80
        · refine lv_iload_n hx hb dX10_clash_54 rfl (lv_at hl 2 rfl) ?_
          refine lv_iload_n hx hb dX10_clash_55 rfl (lv_at hl 3 rfl) ?_
          refine rd_calli (va_runS (As := [.int a1, .int a2]) (rest := []) ⟨hx, hb, hml, hown, hts⟩ (s_hasBit l G g hg f a1 a2  ) (my_cwS hts ok_X10_hasBit w_655 rfl rfl ⟨Nat.le_of_ble_eq_true rfl, Nat.le_of_ble_eq_true rfl⟩) ⟨bP.blind, fun U hU hW => ⟨rfl, by rw [hU]; exact hP, kG.warm hW hG⟩⟩ rfl rfl hl.1 rfl (lv_room (Nat.le_of_ble_eq_true rfl)) dX10_clash_56 ⟨Nat.le_of_ble_eq_true rfl, Nat.le_of_ble_eq_true rfl⟩) (fun r hr9 => ?_)
          subst hr9
          refine my_ifeq (tgt := 66) hx hb dX10_clash_59 (by decide) (fun c_59 => ?_) (fun c_59 => ?_)
          · refine lv_iconst (v := 0) hx hb dX10_clash_66 (by decide) ?_
            refine lv_istore (lv' := [(4, .int 0), (3, .int 1), (0, .ref (g 0)), (1, .int a1), (2, .int a2)]) hx hb dX10_clash_67 hl (by decide) rfl (fun ls hl => ?_)
            refine lv_iload_n hx hb dX10_clash_69 rfl (lv_at hl 1 rfl) ?_
            refine lv_if_eq (tgt := 78) hx hb dX10_clash_70 (by decide) (fun c_70 => absurd c_70 (by decide)) (fun c_70 => ?_)
            refine lv_iload hx hb dX10_clash_73 (lv_at hl 0 rfl) ?_
            refine lv_if_ne (tgt := 81) hx hb dX10_clash_75 (by decide) (fun c_75 => absurd (by decide) c_75) (fun c_75 => ?_)
            refine lv_bipush (v := (-10)) hx hb dX10_clash_78 (by decide) ?_
            refine W_q9 hQ9 ?_
            exact W.iret (v := (-10)) hx hb hr (fun _ hT9 _ => ⟨⟨_, f, rfl, (⟨cJ_mk (se) (hf) (imf) (mc) (op) (cm) (wu) (mk) (ab) (be) (mn) (le) (wt) (ww) (wb) (wf) (vv) (lf) (tf) (hx0) (hctc) (hhs) (him) (hkp) (hrd) (hmk) (hfc6) (hwt) (hw8) (hw9) (hw10) (hw11) (hvl) (hbk) (hpr) (hpd) (hfr) (hfd) (hor) (hod) (har) (had) (htr) (hct) (hla) (hlaa) (hts0) (htsa) (by omega) (hhf) (him0) (him1) (by omega) (by omega) (by omega) (by omega) (by omega) (by omega) (by omega) (hlf) (htf) (by omega) (hH) (hSp) (hL) (hT) (hB1) (hB2) (hQ), fun j hj => rfl⟩), by rw [hT9]; exact hP⟩, hS.F hT9⟩) hS.2.2 dX10_clash_80
          · refine lv_iconst (v := 1) hx hb dX10_clash_62 (by decide) ?_
            refine lv_goto (tgt := 67) hx hb dX10_clash_63 (by decide) ?_
            refine lv_istore (lv' := [(4, .int 1), (3, .int 1), (0, .ref (g 0)), (1, .int a1), (2, .int a2)]) hx hb dX10_clash_67 hl (by decide) rfl (fun ls hl => ?_)
            refine lv_iload_n hx hb dX10_clash_69 rfl (lv_at hl 1 rfl) ?_
            refine lv_if_eq (tgt := 78) hx hb dX10_clash_70 (by decide) (fun c_70 => absurd c_70 (by decide)) (fun c_70 => ?_)
            refine lv_iload hx hb dX10_clash_73 (lv_at hl 0 rfl) ?_
            refine lv_if_ne (tgt := 81) hx hb dX10_clash_75 (by decide) (fun c_75 => ?_) (fun c_75 => absurd c_75 (by decide))
            refine lv_aload_n hx hb dX10_clash_81 rfl (lv_at hl 2 rfl) ?_
            refine va_get (D := G.1) (ci := 9) (v := .ref (g 7)) (C := RX10) (T := TX10) (N := 7) hx hb hts inlX10 hown hG.1 hP 0 (wl_at (by decide) hx0) rfl 6 (by decide) (hts (.fieldLink RX10 48 "SwornLists" "waits" "LSwornLists$Waits;") w_32) (fun _ h9 => h9) rfl dX10_clash_82 ?_
            refine lv_aload_n hx hb dX10_clash_85 rfl (lv_at hl 2 rfl) ?_
            refine va_get (D := G.1) (ci := 9) (v := .ref (g 36)) (C := RX10) (T := TX10) (N := 7) hx hb hts inlX10 hown hG.1 hP 0 (wl_at (by decide) hx0) rfl 1 (by decide) (hts (.fieldLink RX10 20 "SwornLists" "book" "LSwornLists$Book;") w_16) (fun _ h9 => h9) rfl dX10_clash_86 ?_
            refine lv_iload_n hx hb dX10_clash_89 rfl (lv_at hl 3 rfl) ?_
            refine b_callv (va_runV (As := [.ref (g 36), .int a1]) (rest := []) ⟨hx, hb, hml, hown, hts⟩ (v_seek l G g hg f mn le wt ww wb wf pay fine nt ct a1 hwt hw8 hw9 hw10 hw11 hbk htr hct (by first | assumption | omega | decide) (by first | assumption | omega | decide)) (my_cwV hts ok_X9_seek w_820 rfl rfl ⟨Nat.le_of_ble_eq_true rfl, Nat.le_of_ble_eq_true rfl⟩) ⟨bP.blind, va_recv hG.1 hP (ci := 8) (q0 := 7) rfl (wl_at (by decide) hwt), fun U hU hW => ⟨rfl, by rw [hU]; exact hP, kG.warm hW hG⟩⟩ rfl rfl hl.1 rfl (lv_room (Nat.le_of_ble_eq_true rfl)) dX10_clash_90 ⟨Nat.le_of_ble_eq_true rfl, Nat.le_of_ble_eq_true rfl⟩) hS (fun f_2 H locs hq9 hP hS => ?_)
            obtain ⟨mn910, le911, wt912, ww913, wb914, wf915, hq_2_0, hq_2_1, hq_2_2, hq_2_3, hq_2_4, hx_2_0, o_2⟩ := hq9
            have hwt : f_2 7 = eO 8 [.ref (g 8), .ref (g 9), .ref (g 10), .ref (g 11), .int (nI mn910), .int le911] := hq_2_0
            have hw8 : f_2 8 = eI G 6 wt912 := hq_2_1
            have hw9 : f_2 9 = eI G 6 ww913 := hq_2_2
            have hw10 : f_2 10 = eI G 6 wb914 := hq_2_3
            have hw11 : f_2 11 = eI G 6 wf915 := hq_2_4
            refine lv_aload_n hx hb dX10_clash_93 rfl (lv_at hl 2 rfl) ?_
            replace hx0 := ((o_2 0 (by first | decide | omega))).trans hx0
            refine va_get (D := G.1) (ci := 9) (v := .ref (g 7)) (C := RX10) (T := TX10) (N := 7) hx hb hts inlX10 hown hG.1 hP 0 (wl_at (by decide) hx0) rfl 6 (by decide) (hts (.fieldLink RX10 48 "SwornLists" "waits" "LSwornLists$Waits;") w_32) (fun _ h9 => h9) rfl dX10_clash_94 ?_
            refine va_getN (D := G.1) (ci := 8) (v := .int le911) (C := RX9) (T := TX9) (N := 6) (host := RX10) hx hb hts inlX9 hown hG.1 hP 7 (wl_at (by decide) hwt) rfl 5 (by decide) (va_Nw.use rfl (hG.2.1 (.fieldLinkNest RX10 251 RX9 "leastSum" "I" RX10) (List.mem_of_getElem? (i := 21) rfl))) (fun _ h9 => h9) rfl dX10_clash_97 ?_
            refine lv_iconst (v := (-1)) hx hb dX10_clash_100 (by decide) ?_
            refine lv_icmp_ne (tgt := 107) hx hb dX10_clash_101 (by decide) (fun c_101 => ?_) (fun c_101 => ?_)
            · refine lv_iload_n hx hb dX10_clash_107 rfl (lv_at hl 4 rfl) ?_
              refine lv_iconst (v := (-1)) hx hb dX10_clash_108 (by decide) ?_
              refine lv_icmp_ne (tgt := 122) hx hb dX10_clash_109 (by decide) (fun c_109 => ?_) (fun c_109 => ?_)
              · refine lv_aload_n hx hb dX10_clash_122 rfl (lv_at hl 2 rfl) ?_
                refine va_get (D := G.1) (ci := 9) (v := .ref (g 7)) (C := RX10) (T := TX10) (N := 7) hx hb hts inlX10 hown hG.1 hP 0 (wl_at (by decide) hx0) rfl 6 (by decide) (hts (.fieldLink RX10 48 "SwornLists" "waits" "LSwornLists$Waits;") w_32) (fun _ h9 => h9) rfl dX10_clash_123 ?_
                refine lv_iload_n hx hb dX10_clash_126 rfl (lv_at hl 3 rfl) ?_
                refine lv_iload_n hx hb dX10_clash_127 rfl (lv_at hl 4 rfl) ?_
                refine rd_calli (va_runS (As := [.int a2]) (rest := [.int a1, .ref (g 7)]) ⟨hx, hb, hml, hown, hts⟩ (s_lowBits l G g hg f_2 a2  ) (my_cwS hts ok_X10_lowBits w_819 rfl rfl ⟨Nat.le_of_ble_eq_true rfl, Nat.le_of_ble_eq_true rfl⟩) ⟨bP.blind, fun U hU hW => ⟨rfl, by rw [hU]; exact hP, kG.warm hW hG⟩⟩ rfl rfl hl.1 rfl (lv_room (Nat.le_of_ble_eq_true rfl)) dX10_clash_128 ⟨Nat.le_of_ble_eq_true rfl, Nat.le_of_ble_eq_true rfl⟩) (fun r hr9 => ?_)
                subst hr9
                refine lv_iand hx hb dX10_clash_131 ?_
                refine rd_calli (va_runS (As := [.int (a1 &&& ((1 <<< (a2 &&& 31)) - 1))]) (rest := [.ref (g 7)]) ⟨hx, hb, hml, hown, hts⟩ (s_bitCount l G g hg f_2 (a1 &&& ((1 <<< (a2 &&& 31)) - 1))  ) (my_cwS hts ok_J6_bitCount_0f7a4 w_792 rfl rfl ⟨Nat.le_of_ble_eq_true rfl, Nat.le_of_ble_eq_true rfl⟩) ⟨bP.blind, fun U hU hW => ⟨rfl, by rw [hU]; exact hP, kG.warm hW hG⟩⟩ rfl rfl hl.1 rfl (lv_room (Nat.le_of_ble_eq_true rfl)) dX10_clash_132 ⟨Nat.le_of_ble_eq_true rfl, Nat.le_of_ble_eq_true rfl⟩) (fun v16 _ => ?_)
                refine rd_calli (va_runV (As := [.int v16]) (rest := []) ⟨hx, hb, hml, hown, hts⟩ (v_bestAt l G g hg f_2 mn910 le911 wb914 v16 hwt hw10 (by first | assumption | omega | decide)) (my_cwV hts ok_X9_bestAt w_855 rfl rfl ⟨Nat.le_of_ble_eq_true rfl, Nat.le_of_ble_eq_true rfl⟩) ⟨bP.blind, va_recv hG.1 hP (ci := 8) (q0 := 7) rfl (wl_at (by decide) hwt), fun U hU hW => ⟨rfl, by rw [hU]; exact hP, kG.warm hW hG⟩⟩ rfl rfl hl.1 rfl (lv_room (Nat.le_of_ble_eq_true rfl)) dX10_clash_135 ⟨Nat.le_of_ble_eq_true rfl, Nat.le_of_ble_eq_true rfl⟩) (fun v17 _ => ?_)
                refine W_q9 hQ9 ?_
                replace hctc := ((o_2 1 (by first | decide | omega))).trans hctc
                replace hhs := ((o_2 12 (by first | decide | omega))).trans hhs
                replace him := ((o_2 2 (by first | decide | omega))).trans him
                replace hkp := ((o_2 3 (by first | decide | omega))).trans hkp
                replace hrd := ((o_2 4 (by first | decide | omega))).trans hrd
                replace hmk := ((o_2 5 (by first | decide | omega))).trans hmk
                replace hfc6 := ((o_2 6 (by first | decide | omega))).trans hfc6
                replace hvl := ((o_2 15 (by first | decide | omega))).trans hvl
                replace hbk := ((o_2 36 (by first | decide | omega))).trans hbk
                replace hpr := ((o_2 37 (by first | decide | omega))).trans hpr
                replace hpd := ((o_2 38 (by first | decide | omega))).trans hpd
                replace hfr := ((o_2 39 (by first | decide | omega))).trans hfr
                replace hfd := ((o_2 40 (by first | decide | omega))).trans hfd
                replace hor := ((o_2 41 (by first | decide | omega))).trans hor
                replace hod := ((o_2 42 (by first | decide | omega))).trans hod
                replace har := ((o_2 43 (by first | decide | omega))).trans har
                replace had := ((o_2 44 (by first | decide | omega))).trans had
                replace htr := ((o_2 45 (by first | decide | omega))).trans htr
                replace hct := ((o_2 46 (by first | decide | omega))).trans hct
                replace hla := ((o_2 47 (by first | decide | omega))).trans hla
                replace hlaa := ((o_2 48 (by first | decide | omega))).trans hlaa
                replace hts0 := ((o_2 112 (by first | decide | omega))).trans hts0
                replace htsa := ((o_2 113 (by first | decide | omega))).trans htsa
                replace hH : ∀ i, i < 10 → okH G g f_2 (2 * i + 16) := fun z hz => okH_fr (hH z hz) (o_2 _ (by omega)) (o_2 _ (by omega))
                replace hSp : okH G g f_2 13 := okH_fr hSp (o_2 _ (by omega)) (o_2 _ (by omega))
                replace hL : ∀ i, i < 20 → ltx G g f_2 (3 * i + 52) (LL i) (LG i) (i < na) := fun z hz => ltx_fr (hL z hz) (o_2 _ (by omega)) (o_2 _ (by omega)) (o_2 _ (by omega))
                replace hT : ∀ i, i < 4 → txt G g f_2 (3 * i + 117) (TL i) (TG i) := fun z hz => txt_fr (hT z hz) (o_2 _ (by omega)) (o_2 _ (by omega)) (o_2 _ (by omega))
                replace hB1 : bkD G g f_2 129 N1 E1 P1 L1 S1 W1 X1 := bkD_fr hB1 (fun j _ _ => o_2 j (by omega))
                replace hB2 : bkD G g f_2 222 N2 E2 P2 L2 S2 W2 X2 := bkD_fr hB2 (fun j _ _ => o_2 j (by omega))
                replace hQ : ∀ z, z < se → cHz G g f_2 np nf nr na dp df dr da ct LL LG z := fun z hz => okQ_fr (hQ z hz) (o_2 _ (by omega)) (o_2 _ (by omega))
                exact W.iret (v := v17) hx hb hr (fun _ hT9 _ => ⟨⟨_, f_2, rfl, (⟨cJ_mk (se) (hf) (imf) (mc) (op) (cm) (wu) (mk) (ab) (be) (mn910) (le911) (wt912) (ww913) (wb914) (wf915) (vv) (lf) (tf) (hx0) (hctc) (hhs) (him) (hkp) (hrd) (hmk) (hfc6) (hwt) (hw8) (hw9) (hw10) (hw11) (hvl) (hbk) (hpr) (hpd) (hfr) (hfd) (hor) (hod) (har) (had) (htr) (hct) (hla) (hlaa) (hts0) (htsa) (by omega) (hhf) (him0) (him1) (by omega) (by omega) (by omega) (by omega) (by omega) (by omega) (by omega) (hlf) (htf) (by omega) (hH) (hSp) (hL) (hT) (hB1) (hB2) (hQ), fun j hj => (o_2 j (by omega))⟩), by rw [hT9]; exact hP⟩, hS.F hT9⟩) hS.2.2 dX10_clash_138
              · refine lv_aload_n hx hb dX10_clash_112 rfl (lv_at hl 2 rfl) ?_
                refine va_get (D := G.1) (ci := 9) (v := .ref (g 7)) (C := RX10) (T := TX10) (N := 7) hx hb hts inlX10 hown hG.1 hP 0 (wl_at (by decide) hx0) rfl 6 (by decide) (hts (.fieldLink RX10 48 "SwornLists" "waits" "LSwornLists$Waits;") w_32) (fun _ h9 => h9) rfl dX10_clash_113 ?_
                refine va_getN (D := G.1) (ci := 8) (v := .int le911) (C := RX9) (T := TX9) (N := 6) (host := RX10) hx hb hts inlX9 hown hG.1 hP 7 (wl_at (by decide) hwt) rfl 5 (by decide) (va_Nw.use rfl (hG.2.1 (.fieldLinkNest RX10 251 RX9 "leastSum" "I" RX10) (List.mem_of_getElem? (i := 21) rfl))) (fun _ h9 => h9) rfl dX10_clash_116 ?_
                refine lv_goto (tgt := 138) hx hb dX10_clash_119 (by decide) ?_
                refine W_q9 hQ9 ?_
                replace hctc := ((o_2 1 (by first | decide | omega))).trans hctc
                replace hhs := ((o_2 12 (by first | decide | omega))).trans hhs
                replace him := ((o_2 2 (by first | decide | omega))).trans him
                replace hkp := ((o_2 3 (by first | decide | omega))).trans hkp
                replace hrd := ((o_2 4 (by first | decide | omega))).trans hrd
                replace hmk := ((o_2 5 (by first | decide | omega))).trans hmk
                replace hfc6 := ((o_2 6 (by first | decide | omega))).trans hfc6
                replace hvl := ((o_2 15 (by first | decide | omega))).trans hvl
                replace hbk := ((o_2 36 (by first | decide | omega))).trans hbk
                replace hpr := ((o_2 37 (by first | decide | omega))).trans hpr
                replace hpd := ((o_2 38 (by first | decide | omega))).trans hpd
                replace hfr := ((o_2 39 (by first | decide | omega))).trans hfr
                replace hfd := ((o_2 40 (by first | decide | omega))).trans hfd
                replace hor := ((o_2 41 (by first | decide | omega))).trans hor
                replace hod := ((o_2 42 (by first | decide | omega))).trans hod
                replace har := ((o_2 43 (by first | decide | omega))).trans har
                replace had := ((o_2 44 (by first | decide | omega))).trans had
                replace htr := ((o_2 45 (by first | decide | omega))).trans htr
                replace hct := ((o_2 46 (by first | decide | omega))).trans hct
                replace hla := ((o_2 47 (by first | decide | omega))).trans hla
                replace hlaa := ((o_2 48 (by first | decide | omega))).trans hlaa
                replace hts0 := ((o_2 112 (by first | decide | omega))).trans hts0
                replace htsa := ((o_2 113 (by first | decide | omega))).trans htsa
                replace hH : ∀ i, i < 10 → okH G g f_2 (2 * i + 16) := fun z hz => okH_fr (hH z hz) (o_2 _ (by omega)) (o_2 _ (by omega))
                replace hSp : okH G g f_2 13 := okH_fr hSp (o_2 _ (by omega)) (o_2 _ (by omega))
                replace hL : ∀ i, i < 20 → ltx G g f_2 (3 * i + 52) (LL i) (LG i) (i < na) := fun z hz => ltx_fr (hL z hz) (o_2 _ (by omega)) (o_2 _ (by omega)) (o_2 _ (by omega))
                replace hT : ∀ i, i < 4 → txt G g f_2 (3 * i + 117) (TL i) (TG i) := fun z hz => txt_fr (hT z hz) (o_2 _ (by omega)) (o_2 _ (by omega)) (o_2 _ (by omega))
                replace hB1 : bkD G g f_2 129 N1 E1 P1 L1 S1 W1 X1 := bkD_fr hB1 (fun j _ _ => o_2 j (by omega))
                replace hB2 : bkD G g f_2 222 N2 E2 P2 L2 S2 W2 X2 := bkD_fr hB2 (fun j _ _ => o_2 j (by omega))
                replace hQ : ∀ z, z < se → cHz G g f_2 np nf nr na dp df dr da ct LL LG z := fun z hz => okQ_fr (hQ z hz) (o_2 _ (by omega)) (o_2 _ (by omega))
                exact W.iret (v := le911) hx hb hr (fun _ hT9 _ => ⟨⟨_, f_2, rfl, (⟨cJ_mk (se) (hf) (imf) (mc) (op) (cm) (wu) (mk) (ab) (be) (mn910) (le911) (wt912) (ww913) (wb914) (wf915) (vv) (lf) (tf) (hx0) (hctc) (hhs) (him) (hkp) (hrd) (hmk) (hfc6) (hwt) (hw8) (hw9) (hw10) (hw11) (hvl) (hbk) (hpr) (hpd) (hfr) (hfd) (hor) (hod) (har) (had) (htr) (hct) (hla) (hlaa) (hts0) (htsa) (by omega) (hhf) (him0) (him1) (by omega) (by omega) (by omega) (by omega) (by omega) (by omega) (by omega) (hlf) (htf) (by omega) (hH) (hSp) (hL) (hT) (hB1) (hB2) (hQ), fun j hj => (o_2 j (by omega))⟩), by rw [hT9]; exact hP⟩, hS.F hT9⟩) hS.2.2 dX10_clash_138
            · refine lv_bipush (v := (-5)) hx hb dX10_clash_104 (by decide) ?_
              refine W_q9 hQ9 ?_
              replace hctc := ((o_2 1 (by first | decide | omega))).trans hctc
              replace hhs := ((o_2 12 (by first | decide | omega))).trans hhs
              replace him := ((o_2 2 (by first | decide | omega))).trans him
              replace hkp := ((o_2 3 (by first | decide | omega))).trans hkp
              replace hrd := ((o_2 4 (by first | decide | omega))).trans hrd
              replace hmk := ((o_2 5 (by first | decide | omega))).trans hmk
              replace hfc6 := ((o_2 6 (by first | decide | omega))).trans hfc6
              replace hvl := ((o_2 15 (by first | decide | omega))).trans hvl
              replace hbk := ((o_2 36 (by first | decide | omega))).trans hbk
              replace hpr := ((o_2 37 (by first | decide | omega))).trans hpr
              replace hpd := ((o_2 38 (by first | decide | omega))).trans hpd
              replace hfr := ((o_2 39 (by first | decide | omega))).trans hfr
              replace hfd := ((o_2 40 (by first | decide | omega))).trans hfd
              replace hor := ((o_2 41 (by first | decide | omega))).trans hor
              replace hod := ((o_2 42 (by first | decide | omega))).trans hod
              replace har := ((o_2 43 (by first | decide | omega))).trans har
              replace had := ((o_2 44 (by first | decide | omega))).trans had
              replace htr := ((o_2 45 (by first | decide | omega))).trans htr
              replace hct := ((o_2 46 (by first | decide | omega))).trans hct
              replace hla := ((o_2 47 (by first | decide | omega))).trans hla
              replace hlaa := ((o_2 48 (by first | decide | omega))).trans hlaa
              replace hts0 := ((o_2 112 (by first | decide | omega))).trans hts0
              replace htsa := ((o_2 113 (by first | decide | omega))).trans htsa
              replace hH : ∀ i, i < 10 → okH G g f_2 (2 * i + 16) := fun z hz => okH_fr (hH z hz) (o_2 _ (by omega)) (o_2 _ (by omega))
              replace hSp : okH G g f_2 13 := okH_fr hSp (o_2 _ (by omega)) (o_2 _ (by omega))
              replace hL : ∀ i, i < 20 → ltx G g f_2 (3 * i + 52) (LL i) (LG i) (i < na) := fun z hz => ltx_fr (hL z hz) (o_2 _ (by omega)) (o_2 _ (by omega)) (o_2 _ (by omega))
              replace hT : ∀ i, i < 4 → txt G g f_2 (3 * i + 117) (TL i) (TG i) := fun z hz => txt_fr (hT z hz) (o_2 _ (by omega)) (o_2 _ (by omega)) (o_2 _ (by omega))
              replace hB1 : bkD G g f_2 129 N1 E1 P1 L1 S1 W1 X1 := bkD_fr hB1 (fun j _ _ => o_2 j (by omega))
              replace hB2 : bkD G g f_2 222 N2 E2 P2 L2 S2 W2 X2 := bkD_fr hB2 (fun j _ _ => o_2 j (by omega))
              replace hQ : ∀ z, z < se → cHz G g f_2 np nf nr na dp df dr da ct LL LG z := fun z hz => okQ_fr (hQ z hz) (o_2 _ (by omega)) (o_2 _ (by omega))
              exact W.iret (v := (-5)) hx hb hr (fun _ hT9 _ => ⟨⟨_, f_2, rfl, (⟨cJ_mk (se) (hf) (imf) (mc) (op) (cm) (wu) (mk) (ab) (be) (mn910) (le911) (wt912) (ww913) (wb914) (wf915) (vv) (lf) (tf) (hx0) (hctc) (hhs) (him) (hkp) (hrd) (hmk) (hfc6) (hwt) (hw8) (hw9) (hw10) (hw11) (hvl) (hbk) (hpr) (hpd) (hfr) (hfd) (hor) (hod) (har) (had) (htr) (hct) (hla) (hlaa) (hts0) (htsa) (by omega) (hhf) (him0) (him1) (by omega) (by omega) (by omega) (by omega) (by omega) (by omega) (by omega) (hlf) (htf) (by omega) (hH) (hSp) (hL) (hT) (hB1) (hB2) (hQ), fun j hj => (o_2 j (by omega))⟩), by rw [hT9]; exact hP⟩, hS.F hT9⟩) hS.2.2 dX10_clash_106
theorem j_clash (l : Launch) (G : gW) (g : Nat → Nat) (hg : gOK g) (f : Nat → va_E) (np : Nat) (dp : Nat → Int32) (nf : Nat) (df : Nat → Int32) (nr : Nat) (dr : Nat → Int32) (nt : Nat) (ct : Nat → Int32) (pay : Int32) (fine : Int32) (kf : Nat → Int32) (na : Nat) (da : Nat → Int32) (TL : Nat → Nat) (TG : Nat → Nat → Int32) (LL : Nat → Nat) (LG : Nat → Nat → Int32) (N1 : Nat → Nat) (E1 : Nat → Nat → Int32) (P1 : Nat → Int32) (L1 : Nat → Nat) (S1 : Nat → Nat → Int32) (W1 : Nat → Nat) (X1 : Nat → Nat → Int32) (N2 : Nat → Nat) (E2 : Nat → Nat → Int32) (P2 : Nat → Int32) (L2 : Nat → Nat) (S2 : Nat → Nat → Int32) (W2 : Nat → Nat) (X2 : Nat → Nat → Int32) (a1 : Int32) (a2 : Int32) (hI : cJ G g f np dp nf df nr dr nt ct pay fine kf na da TL TG LL LG N1 E1 P1 L1 S1 W1 X1 N2 E2 P2 L2 S2 W2 X2) (hTr : trC ct nt) : Met l yX10_clash (wsT yX10_clash cX10_clash 5 (some .int)) ({ frames := 4, cells := 0, slots := 0, locals := 97 }) (bP G g f [.ref (g 0), .int a1, .int a2]) (bQi G g (fun (z9 : Int32) (f' : Nat → va_E) => (cJ G g f' np dp nf df nr dr nt ct pay fine kf na da TL TG LL LG N1 E1 P1 L1 S1 W1 X1 N2 E2 P2 L2 S2 W2 X2) ∧ ∀ j, 315 ≤ j → f' j = f j)) 0 0 (gA g) := cJ_elim hI (fun se hf imf mc op cm wu mk ab be mn le wt ww wb wf vv lf tf hx0 hctc hhs him hkp hrd hmk hfc6 hwt hw8 hw9 hw10 hw11 hvl hbk hpr hpd hfr hfd hor hod har had htr hct hla hlaa hts0 htsa hse hhf him0 him1 hmc hmn hnp hnf hnr hna hnt hlf htf hsn hH hSp hL hT hB1 hB2 hQ => jn_clash l G g hg f se hf imf kf mc op cm wu mk ab be mn le wt ww wb wf vv pay fine np dp nf df nr dr na da nt ct lf tf TL TG LL LG N1 E1 P1 L1 S1 W1 X1 N2 E2 P2 L2 S2 W2 X2 a1 a2 hx0 hctc hhs him hkp hrd hmk hfc6 hwt hw8 hw9 hw10 hw11 hvl hbk hpr hpd hfr hfd hor hod har had htr hct hla hlaa hts0 htsa hse hhf him0 him1 hmc hmn hnp hnf hnr hna hnt hlf htf hsn hTr hH hSp hL hT hB1 hB2 hQ)


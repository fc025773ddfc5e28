set_option maxHeartbeats 4000000 in
set_option maxRecDepth 100000 in
theorem jn_chance (l : Launch) (G : gW) (g : Nat → Nat) (hg : gOK g) (f : Nat → va_E) (se : Nat) (hf : Nat → Option Nat) (imf : Nat → Option Nat) (kf : Nat → Int32) (mc : Nat) (op : Int32) (cm : Int32) (wu : Int32) (mk : Nat → Int32) (ab : Int64) (be : Int64) (mn : Nat) (le : Int32) (wt : Nat → Int32) (ww : Nat → Int32) (wb : Nat → Int32) (wf : Nat → Int32) (vv : Nat → Int64) (pay : Int32) (fine : Int32) (np : Nat) (dp : Nat → Int32) (nf : Nat) (df : Nat → Int32) (nr : Nat) (dr : Nat → Int32) (na : Nat) (da : Nat → Int32) (nt : Nat) (ct : Nat → Int32) (lf : Nat → Option Nat) (tf : Nat → Option Nat) (TL : Nat → Nat) (TG : Nat → Nat → Int32) (LL : Nat → Nat) (LG : Nat → Nat → Int32) (N1 : Nat → Nat) (E1 : Nat → Nat → Int32) (P1 : Nat → Int32) (L1 : Nat → Nat) (S1 : Nat → Nat → Int32) (W1 : Nat → Nat) (X1 : Nat → Nat → Int32) (N2 : Nat → Nat) (E2 : Nat → Nat → Int32) (P2 : Nat → Int32) (L2 : Nat → Nat) (S2 : Nat → Nat → Int32) (W2 : Nat → Nat) (X2 : Nat → Nat → Int32) (a1 : Int32) (a2 : Int32) (a3 : Int32) (a4 : Int32) (hx0 : f 0 = eO 9 [.ref (g 1), .ref (g 36), .ref (g 2), .ref (g 3), .ref (g 4), .ref (g 6), .ref (g 7)]) (hctc : f 1 = eO 1 [.ref (g 36), .ref (g 12), .ref (g 13), .ref (g 15), .int (nI se)]) (hhs : f 12 = eA G 4 10 hf) (him : f 2 = eA G 3 2 imf) (hkp : f 3 = eZ G 2 kf) (hrd : f 4 = eO 4 [.ref (g 5), .int (nI mc), .int op, .int cm, .int wu]) (hmk : f 5 = eI G 50 mk) (hfc6 : f 6 = eO 2 [.long ab, .long be]) (hwt : f 7 = eO 8 [.ref (g 8), .ref (g 9), .ref (g 10), .ref (g 11), .int (nI mn), .int le]) (hw8 : f 8 = eI G 6 wt) (hw9 : f 9 = eI G 6 ww) (hw10 : f 10 = eI G 6 wb) (hw11 : f 11 = eI G 6 wf) (hvl : f 15 = eJ G 50 vv) (hbk : f 36 = eO 0 [.ref (g 37), .ref (g 39), .ref (g 41), .ref (g 43), .ref (g 45), .ref (g 47), .ref (g 112), .int pay, .int fine]) (hpr : f 37 = eO 5 [.int (nI 30), .int (nI 4), .ref (g 38), .int (nI np)]) (hpd : f 38 = eI G (30 * 4) dp) (hfr : f 39 = eO 5 [.int (nI 40), .int (nI 3), .ref (g 40), .int (nI nf)]) (hfd : f 40 = eI G (40 * 3) df) (hor : f 41 = eO 5 [.int (nI 4), .int (nI 3), .ref (g 42), .int (nI nr)]) (hod : f 42 = eI G (4 * 3) dr) (har : f 43 = eO 5 [.int (nI 20), .int (nI 3), .ref (g 44), .int (nI na)]) (had : f 44 = eI G (20 * 3) da) (htr : f 45 = eO 5 [.int (nI 10), .int (nI 70), .ref (g 46), .int (nI nt)]) (hct : f 46 = eI G (10 * 70) ct) (hla : f 47 = eO 6 [.ref (g 48), .ref (g 49)]) (hlaa : f 48 = eA G 5 20 lf) (hts0 : f 112 = eO 6 [.ref (g 113), .ref (g 114)]) (htsa : f 113 = eA G 5 4 tf) (hse : se ≤ 10) (hhf : ∀ i, i < 10 → hf i = some (g (2 * i + 16))) (him0 : imf 0 = some (g 129)) (him1 : imf 1 = some (g 222)) (hmc : mc ≤ 50) (hmn : mn ≤ 6) (hnp : np ≤ 30) (hnf : nf ≤ 40) (hnr : nr ≤ 4) (hna : na ≤ 20) (hnt : nt ≤ 10) (hlf : ∀ z, z < 20 → lf z = some (g (47 + 3 * z + 5))) (htf : ∀ z, z < 4 → tf z = some (g (112 + 3 * z + 5))) (hsn : se ≤ nt) (hTr : trC ct nt) (hH : ∀ i, i < 10 → okH G g f (2 * i + 16)) (hSp : okH G g f 13) (hL : ∀ i, i < 20 → ltx G g f (3 * i + 52) (LL i) (LG i) (i < na)) (hT : ∀ i, i < 4 → txt G g f (3 * i + 117) (TL i) (TG i)) (hB1 : bkD G g f 129 N1 E1 P1 L1 S1 W1 X1) (hB2 : bkD G g f 222 N2 E2 P2 L2 S2 W2 X2) (hQ : ∀ z, z < se → cHz G g f np nf nr na dp df dr da ct LL LG z) : Met l yX10_chance (wsT yX10_chance cX10_chance 8 (some .int)) ({ frames := 2, cells := 0, slots := 0, locals := 56 }) (bP G g f [.ref (g 0), .int a1, .int a2, .int a3, .int a4]) (bQi G g (fun (z9 : Int32) (f' : Nat → va_E) => (cJ G g f' np dp nf df nr dr nt ct pay fine kf na da TL TG LL LG N1 E1 P1 L1 S1 W1 X1 N2 E2 P2 L2 S2 W2 X2) ∧ ∀ j, 315 ≤ j → f' j = f j)) 0 0 (gA g) := by
  refine Met.ofW (cc := cX10_chance) (maxL := 8) (ret := (some .int)) (by decide) rfl ?_
  intro p e s m args below meth c s₁ B hml hv
  obtain ⟨rfl, hP, hG⟩ := hv
  have hx := B.exec
  have hb := B.bytes
  have hr := B.returns
  have hts := my_hts (atoms_spec (ws := wsT yX10_chance cX10_chance 8 (some .int)) B.pre)
  have hown : s.vm.findClass RX10 = some m.cls := findClass_of_methodNamed B.named
  have hlocks := B.notSynchronized
  have hS : va_S (gA g) s.heap s.heap [] := va_S.rf
  have hl := lv_entry ([.ref (g 0), .int a1, .int a2, .int a3, .int a4]) (n := 8) (Nat.le_of_ble_eq_true rfl)
  rw [lg_entry_eq]
  generalize (lg_sl ([.ref (g 0), .int a1, .int a2, .int a3, .int a4]) ++ List.replicate (8 - (lg_sl ([.ref (g 0), .int a1, .int a2, .int a3, .int a4])).length) Slot.unset).toArray = ls at hl ⊢
  have hl : lv_has ls 8 [(0, .ref (g 0)), (1, .int a1), (2, .int a2), (3, .int a3), (4, .int a4)] := hl
  refine W_q8 (fun Q9 hQ9 => ?_)
  refine lv_iload_n hx hb dX10_chance_0 rfl (lv_at hl 1 rfl) ?_
  refine lv_iconst (v := 0) hx hb dX10_chance_1 (by decide) ?_
  refine lv_bipush (v := 40) hx hb dX10_chance_2 (by decide) ?_
  refine rd_calli (va_runS (As := [.int a1, .int 0, .int 40]) (rest := []) ⟨hx, hb, hml, hown, hts⟩ (s_within l G g hg f a1 0 40  ) (my_cwS hts ok_X10_within w_134 rfl rfl ⟨Nat.le_of_ble_eq_true rfl, Nat.le_of_ble_eq_true rfl⟩) ⟨bP.blind, fun U hU hW => ⟨rfl, by rw [hU]; exact hP, kG.warm hW hG⟩⟩ rfl rfl hl.1 rfl (lv_room (Nat.le_of_ble_eq_true rfl)) dX10_chance_4 ⟨Nat.le_of_ble_eq_true rfl, Nat.le_of_ble_eq_true rfl⟩) (fun r hr9 => ?_)
  subst hr9
  refine my_ifeq (tgt := 39) hx hb dX10_chance_7 (by decide) (fun c_7 => ?_) (fun c_7 => ?_)
  · refine lv_bipush (v := (-2)) hx hb dX10_chance_39 (by decide) ?_
    refine W_q9 hQ9 ?_
    exact W.iret (v := (-2)) hx hb hr (fun _ hT9 _ => ⟨⟨_, f, rfl, (⟨cJ_mk (se) (hf) (imf) (mc) (op) (cm) (wu) (mk) (ab) (be) (mn) (le) (wt) (ww) (wb) (wf) (vv) (lf) (tf) (hx0) (hctc) (hhs) (him) (hkp) (hrd) (hmk) (hfc6) (hwt) (hw8) (hw9) (hw10) (hw11) (hvl) (hbk) (hpr) (hpd) (hfr) (hfd) (hor) (hod) (har) (had) (htr) (hct) (hla) (hlaa) (hts0) (htsa) (by omega) (hhf) (him0) (him1) (by omega) (by omega) (by omega) (by omega) (by omega) (by omega) (by omega) (hlf) (htf) (by omega) (hH) (hSp) (hL) (hT) (hB1) (hB2) (hQ), fun j hj => rfl⟩), by rw [hT9]; exact hP⟩, hS.F hT9⟩) hS.2.2 dX10_chance_41
  · refine lv_iload_n hx hb dX10_chance_10 rfl (lv_at hl 2 rfl) ?_
    refine lv_iconst (v := 0) hx hb dX10_chance_11 (by decide) ?_
    refine lv_iload_n hx hb dX10_chance_12 rfl (lv_at hl 1 rfl) ?_
    refine rd_calli (va_runS (As := [.int a2, .int 0, .int a1]) (rest := []) ⟨hx, hb, hml, hown, hts⟩ (s_within l G g hg f a2 0 a1  ) (my_cwS hts ok_X10_within w_134 rfl rfl ⟨Nat.le_of_ble_eq_true rfl, Nat.le_of_ble_eq_true rfl⟩) ⟨bP.blind, fun U hU hW => ⟨rfl, by rw [hU]; exact hP, kG.warm hW hG⟩⟩ rfl rfl hl.1 rfl (lv_room (Nat.le_of_ble_eq_true rfl)) dX10_chance_13 ⟨Nat.le_of_ble_eq_true rfl, Nat.le_of_ble_eq_true rfl⟩) (fun r hr9 => ?_)
    subst hr9
    refine my_ifeq (tgt := 39) hx hb dX10_chance_16 (by decide) (fun c_16 => ?_) (fun c_16 => ?_)
    · refine lv_bipush (v := (-2)) hx hb dX10_chance_39 (by decide) ?_
      refine W_q9 hQ9 ?_
      exact W.iret (v := (-2)) hx hb hr (fun _ hT9 _ => ⟨⟨_, f, rfl, (⟨cJ_mk (se) (hf) (imf) (mc) (op) (cm) (wu) (mk) (ab) (be) (mn) (le) (wt) (ww) (wb) (wf) (vv) (lf) (tf) (hx0) (hctc) (hhs) (him) (hkp) (hrd) (hmk) (hfc6) (hwt) (hw8) (hw9) (hw10) (hw11) (hvl) (hbk) (hpr) (hpd) (hfr) (hfd) (hor) (hod) (har) (had) (htr) (hct) (hla) (hlaa) (hts0) (htsa) (by omega) (hhf) (him0) (him1) (by omega) (by omega) (by omega) (by omega) (by omega) (by omega) (by omega) (hlf) (htf) (by omega) (hH) (hSp) (hL) (hT) (hB1) (hB2) (hQ), fun j hj => rfl⟩), by rw [hT9]; exact hP⟩, hS.F hT9⟩) hS.2.2 dX10_chance_41
    · refine lv_iload_n hx hb dX10_chance_19 rfl (lv_at hl 3 rfl) ?_
      refine lv_iconst (v := 0) hx hb dX10_chance_20 (by decide) ?_
      refine lv_iload_n hx hb dX10_chance_21 rfl (lv_at hl 1 rfl) ?_
      refine rd_calli (va_runS (As := [.int a3, .int 0, .int a1]) (rest := []) ⟨hx, hb, hml, hown, hts⟩ (s_within l G g hg f a3 0 a1  ) (my_cwS hts ok_X10_within w_134 rfl rfl ⟨Nat.le_of_ble_eq_true rfl, Nat.le_of_ble_eq_true rfl⟩) ⟨bP.blind, fun U hU hW => ⟨rfl, by rw [hU]; exact hP, kG.warm hW hG⟩⟩ rfl rfl hl.1 rfl (lv_room (Nat.le_of_ble_eq_true rfl)) dX10_chance_22 ⟨Nat.le_of_ble_eq_true rfl, Nat.le_of_ble_eq_true rfl⟩) (fun r hr9 => ?_)
      subst hr9
      refine my_ifeq (tgt := 39) hx hb dX10_chance_25 (by decide) (fun c_25 => ?_) (fun c_25 => ?_)
      · refine lv_bipush (v := (-2)) hx hb dX10_chance_39 (by decide) ?_
        refine W_q9 hQ9 ?_
        exact W.iret (v := (-2)) hx hb hr (fun _ hT9 _ => ⟨⟨_, f, rfl, (⟨cJ_mk (se) (hf) (imf) (mc) (op) (cm) (wu) (mk) (ab) (be) (mn) (le) (wt) (ww) (wb) (wf) (vv) (lf) (tf) (hx0) (hctc) (hhs) (him) (hkp) (hrd) (hmk) (hfc6) (hwt) (hw8) (hw9) (hw10) (hw11) (hvl) (hbk) (hpr) (hpd) (hfr) (hfd) (hor) (hod) (har) (had) (htr) (hct) (hla) (hlaa) (hts0) (htsa) (by omega) (hhf) (him0) (him1) (by omega) (by omega) (by omega) (by omega) (by omega) (by omega) (by omega) (hlf) (htf) (by omega) (hH) (hSp) (hL) (hT) (hB1) (hB2) (hQ), fun j hj => rfl⟩), by rw [hT9]; exact hP⟩, hS.F hT9⟩) hS.2.2 dX10_chance_41
      · refine lv_iload hx hb dX10_chance_28 (lv_at hl 4 rfl) ?_
        refine lv_iconst (v := 0) hx hb dX10_chance_30 (by decide) ?_
        refine lv_bipush (v := 40) hx hb dX10_chance_31 (by decide) ?_
        refine rd_calli (va_runS (As := [.int a4, .int 0, .int 40]) (rest := []) ⟨hx, hb, hml, hown, hts⟩ (s_within l G g hg f a4 0 40  ) (my_cwS hts ok_X10_within w_134 rfl rfl ⟨Nat.le_of_ble_eq_true rfl, Nat.le_of_ble_eq_true rfl⟩) ⟨bP.blind, fun U hU hW => ⟨rfl, by rw [hU]; exact hP, kG.warm hW hG⟩⟩ rfl rfl hl.1 rfl (lv_room (Nat.le_of_ble_eq_true rfl)) dX10_chance_33 ⟨Nat.le_of_ble_eq_true rfl, Nat.le_of_ble_eq_true rfl⟩) (fun r hr9 => ?_)
        subst hr9
        refine my_ifne (tgt := 42) hx hb dX10_chance_36 (by decide) (fun c_36 => ?_) (fun c_36 => ?_)
        · obtain ⟨n1, hn1, rfl⟩ := inB_n (b := 40) (by omega) c_7
          obtain ⟨n2, hn2, rfl⟩ := inB_n (b := n1) (by omega) c_16
          obtain ⟨n3, hn3, rfl⟩ := inB_n (b := n1) (by omega) c_25
          obtain ⟨n4, hn4, rfl⟩ := inB_n (b := 40) (by omega) c_36
          refine lv_lconst (v := 0) hx hb dX10_chance_42 (by decide) ?_
          refine lv_lstore (lv' := [(5, .long 0), (0, .ref (g 0)), (1, .int (nI n1)), (2, .int (nI n2)), (3, .int (nI n3)), (4, .int (nI n4))]) hx hb dX10_chance_43 hl (by decide) rfl (fun ls hl => ?_)
          refine lv_iload hx hb dX10_chance_45 (lv_at hl 5 rfl) ?_
          refine lv_istore (lv' := [(7, .int (nI n4)), (5, .long 0), (0, .ref (g 0)), (1, .int (nI n1)), (2, .int (nI n2)), (3, .int (nI n3)), (4, .int (nI n4))]) hx hb dX10_chance_47 hl (by decide) rfl (fun ls hl => ?_)
          have key1 : ∀ (n9_1 : Nat) (i : Nat) (u : Int64) (f_1 : Nat → va_E) (H : Heap) (locs : List Loc) (ls : Array Slot), (i ≤ 41) → (∀ i, i < 10 → okH G g f_1 (2 * i + 16)) → (okH G g f_1 13) → (∀ i, i < 20 → ltx G g f_1 (3 * i + 52) (LL i) (LG i) (i < na)) → (∀ i, i < 4 → txt G g f_1 (3 * i + 117) (TL i) (TG i)) → (bkD G g f_1 129 N1 E1 P1 L1 S1 W1 X1) → (bkD G g f_1 222 N2 E2 P2 L2 S2 W2 X2) → (∀ z, z < se → cHz G g f_1 np nf nr na dp df dr da ct LL LG z) → 41 - i < n9_1 → f_1 0 = eO 9 [.ref (g 1), .ref (g 36), .ref (g 2), .ref (g 3), .ref (g 4), .ref (g 6), .ref (g 7)] → f_1 1 = eO 1 [.ref (g 36), .ref (g 12), .ref (g 13), .ref (g 15), .int (nI se)] → f_1 12 = eA G 4 10 hf → f_1 2 = eA G 3 2 imf → f_1 3 = eZ G 2 kf → f_1 4 = eO 4 [.ref (g 5), .int (nI mc), .int op, .int cm, .int wu] → f_1 5 = eI G 50 mk → f_1 6 = eO 2 [.long ab, .long be] → f_1 7 = eO 8 [.ref (g 8), .ref (g 9), .ref (g 10), .ref (g 11), .int (nI mn), .int le] → f_1 8 = eI G 6 wt → f_1 9 = eI G 6 ww → f_1 10 = eI G 6 wb → f_1 11 = eI G 6 wf → f_1 15 = eJ G 50 vv → f_1 36 = eO 0 [.ref (g 37), .ref (g 39), .ref (g 41), .ref (g 43), .ref (g 45), .ref (g 47), .ref (g 112), .int pay, .int fine] → f_1 37 = eO 5 [.int (nI 30), .int (nI 4), .ref (g 38), .int (nI np)] → f_1 38 = eI G (30 * 4) dp → f_1 39 = eO 5 [.int (nI 40), .int (nI 3), .ref (g 40), .int (nI nf)] → f_1 40 = eI G (40 * 3) df → f_1 41 = eO 5 [.int (nI 4), .int (nI 3), .ref (g 42), .int (nI nr)] → f_1 42 = eI G (4 * 3) dr → f_1 43 = eO 5 [.int (nI 20), .int (nI 3), .ref (g 44), .int (nI na)] → f_1 44 = eI G (20 * 3) da → f_1 45 = eO 5 [.int (nI 10), .int (nI 70), .ref (g 46), .int (nI nt)] → f_1 46 = eI G (10 * 70) ct → f_1 47 = eO 6 [.ref (g 48), .ref (g 49)] → f_1 48 = eA G 5 20 lf → f_1 112 = eO 6 [.ref (g 113), .ref (g 114)] → f_1 113 = eA G 5 4 tf → (∀ j, (j < 333 ∨ 333 ≤ j) → f_1 j = f j) → va_P G.1 vwCl (wl g f_1) H → va_S (gA g) s.heap H locs → lv_has ls 8 [(0, .ref (g 0)), (1, .int (nI n1)), (2, .int (nI n2)), (3, .int (nI n3)), (5, .long u), (7, .int (nI i))] → W p l e (headSpec (wsT yX10_chance cX10_chance 8 (some .int)) ({ frames := 2, cells := 0, slots := 0, locals := 56 })).room s m ([.ref (g 0), .int (nI n1), .int (nI n2), .int (nI n3), .int (nI n4)] : List Value).toArray below meth c H locs 0 0 Q9 (F0 m 49 ls []) := by
            intro n9_1
            induction n9_1 with
            | zero => intro i u f_1 H locs ls hi hH hSp hL hT hB1 hB2 hQ hn9_1; exact absurd hn9_1 (Nat.not_lt_zero _)
            | succ n9_1 ih_1 =>
              intro i u f_1 H locs ls hi hH hSp hL hT hB1 hB2 hQ hn9_1 hx0 hctc hhs him hkp hrd hmk hfc6 hwt hw8 hw9 hw10 hw11 hvl hbk hpr hpd hfr hfd hor hod har had htr hct hla hlaa hts0 htsa o_1 hP hS hl
              refine lv_iload hx hb dX10_chance_49 (lv_at hl 5 rfl) ?_
              refine lv_iload_n hx hb dX10_chance_51 rfl (lv_at hl 3 rfl) ?_
              refine lv_icmp_gt (tgt := 83) hx hb dX10_chance_52 (by decide) (fun c_52 => ?_) (fun c_52 => ?_)
              · refine lv_aload_n hx hb dX10_chance_83 rfl (lv_at hl 0 rfl) ?_
                refine va_get (D := G.1) (ci := 9) (v := .ref (g 6)) (C := RX10) (T := TX10) (N := 7) hx hb hts inlX10 hown hG.1 hP 0 (wl_at (by decide) hx0) rfl 5 (by decide) (hts (.fieldLink RX10 41 "SwornLists" "fraction" "LSwornLists$Fraction;") w_28) (fun _ h9 => h9) rfl dX10_chance_84 ?_
                refine lv_lload hx hb dX10_chance_87 (lv_at hl 4 rfl) ?_
                refine lv_iload_n hx hb dX10_chance_89 rfl (lv_at hl 1 rfl) ?_
                refine lv_iload_n hx hb dX10_chance_90 rfl (lv_at hl 3 rfl) ?_
                refine rd_calll (va_runS (As := [.int (nI n1), .int (nI n3)]) (rest := [.long u, .ref (g 6)]) ⟨hx, hb, hml, hown, hts⟩ (s_ways l G g hg f_1 (nI n1) (nI n3)  (by rw [nI_toInt (by omega)]; omega)) (my_cwS hts ok_X10_ways w_761 rfl rfl ⟨Nat.le_of_ble_eq_true rfl, Nat.le_of_ble_eq_true rfl⟩) ⟨bP.blind, fun U hU hW => ⟨rfl, by rw [hU]; exact hP, kG.warm hW hG⟩⟩ rfl rfl hl.1 rfl (lv_room (Nat.le_of_ble_eq_true rfl)) dX10_chance_91 ⟨Nat.le_of_ble_eq_true rfl, Nat.le_of_ble_eq_true rfl⟩) (fun v2 _ => ?_)
                refine b_calli (va_runV (As := [.long u, .long v2]) (rest := []) ⟨hx, hb, hml, hown, hts⟩ (f_become l G g hg f_1 ab be u v2 hfc6 ) (my_cwV hts ok_X2_become w_764 rfl rfl ⟨Nat.le_of_ble_eq_true rfl, Nat.le_of_ble_eq_true rfl⟩) ⟨bP.blind, va_recv hG.1 hP (ci := 2) (q0 := 6) rfl (wl_at (by decide) hfc6), fun U hU hW => ⟨rfl, by rw [hU]; exact hP, kG.warm hW hG⟩⟩ rfl rfl hl.1 rfl (lv_room (Nat.le_of_ble_eq_true rfl)) dX10_chance_94 ⟨Nat.le_of_ble_eq_true rfl, Nat.le_of_ble_eq_true rfl⟩) hS (fun v3 f_2 H locs hq9 hP hS => ?_)
                obtain ⟨ab94, be95, hq_2_0, o_2⟩ := hq9
                have hfc6 : f_2 6 = eO 2 [.long ab94, .long be95] := hq_2_0
                refine W_q9 hQ9 ?_
                replace hx0 := ((o_2 0 (by first | decide | omega))).trans hx0
                replace hctc := ((o_2 1 (by first | decide | omega))).trans hctc
                replace hhs := ((o_2 12 (by first | decide | omega))).trans hhs
                replace him := ((o_2 2 (by first | decide | omega))).trans him
                replace hkp := ((o_2 3 (by first | decide | omega))).trans hkp
                replace hrd := ((o_2 4 (by first | decide | omega))).trans hrd
                replace hmk := ((o_2 5 (by first | decide | omega))).trans hmk
                replace hwt := ((o_2 7 (by first | decide | omega))).trans hwt
                replace hw8 := ((o_2 8 (by first | decide | omega))).trans hw8
                replace hw9 := ((o_2 9 (by first | decide | omega))).trans hw9
                replace hw10 := ((o_2 10 (by first | decide | omega))).trans hw10
                replace hw11 := ((o_2 11 (by first | decide | omega))).trans hw11
                replace hvl := ((o_2 15 (by first | decide | omega))).trans hvl
                replace hbk := ((o_2 36 (by first | decide | omega))).trans hbk
                replace hpr := ((o_2 37 (by first | decide | omega))).trans hpr
                replace hpd := ((o_2 38 (by first | decide | omega))).trans hpd
                replace hfr := ((o_2 39 (by first | decide | omega))).trans hfr
                replace hfd := ((o_2 40 (by first | decide | omega))).trans hfd
                replace hor := ((o_2 41 (by first | decide | omega))).trans hor
                replace hod := ((o_2 42 (by first | decide | omega))).trans hod
                replace har := ((o_2 43 (by first | decide | omega))).trans har
                replace had := ((o_2 44 (by first | decide | omega))).trans had
                replace htr := ((o_2 45 (by first | decide | omega))).trans htr
                replace hct := ((o_2 46 (by first | decide | omega))).trans hct
                replace hla := ((o_2 47 (by first | decide | omega))).trans hla
                replace hlaa := ((o_2 48 (by first | decide | omega))).trans hlaa
                replace hts0 := ((o_2 112 (by first | decide | omega))).trans hts0
                replace htsa := ((o_2 113 (by first | decide | omega))).trans htsa
                replace hH : ∀ i, i < 10 → okH G g f_2 (2 * i + 16) := fun z hz => okH_fr (hH z hz) (o_2 _ (by omega)) (o_2 _ (by omega))
                replace hSp : okH G g f_2 13 := okH_fr hSp (o_2 _ (by omega)) (o_2 _ (by omega))
                replace hL : ∀ i, i < 20 → ltx G g f_2 (3 * i + 52) (LL i) (LG i) (i < na) := fun z hz => ltx_fr (hL z hz) (o_2 _ (by omega)) (o_2 _ (by omega)) (o_2 _ (by omega))
                replace hT : ∀ i, i < 4 → txt G g f_2 (3 * i + 117) (TL i) (TG i) := fun z hz => txt_fr (hT z hz) (o_2 _ (by omega)) (o_2 _ (by omega)) (o_2 _ (by omega))
                replace hB1 : bkD G g f_2 129 N1 E1 P1 L1 S1 W1 X1 := bkD_fr hB1 (fun j _ _ => o_2 j (by omega))
                replace hB2 : bkD G g f_2 222 N2 E2 P2 L2 S2 W2 X2 := bkD_fr hB2 (fun j _ _ => o_2 j (by omega))
                replace hQ : ∀ z, z < se → cHz G g f_2 np nf nr na dp df dr da ct LL LG z := fun z hz => okQ_fr (hQ z hz) (o_2 _ (by omega)) (o_2 _ (by omega))
                exact W.iret (v := v3) hx hb hr (fun _ hT9 _ => ⟨⟨_, f_2, rfl, (⟨cJ_mk (se) (hf) (imf) (mc) (op) (cm) (wu) (mk) (ab94) (be95) (mn) (le) (wt) (ww) (wb) (wf) (vv) (lf) (tf) (hx0) (hctc) (hhs) (him) (hkp) (hrd) (hmk) (hfc6) (hwt) (hw8) (hw9) (hw10) (hw11) (hvl) (hbk) (hpr) (hpd) (hfr) (hfd) (hor) (hod) (har) (had) (htr) (hct) (hla) (hlaa) (hts0) (htsa) (by omega) (hhf) (him0) (him1) (by omega) (by omega) (by omega) (by omega) (by omega) (by omega) (by omega) (hlf) (htf) (by omega) (hH) (hSp) (hL) (hT) (hB1) (hB2) (hQ), fun j hj => ((o_2 j (by omega))).trans (o_1 j (by omega))⟩), by rw [hT9]; exact hP⟩, hS.F hT9⟩) hS.2.2 dX10_chance_97
              · have hi3 : i ≤ n3 := Nat.not_lt.mp (fun z => c_52 (nI_lt z (by omega)))
                refine lv_lload hx hb dX10_chance_55 (lv_at hl 4 rfl) ?_
                refine lv_iload_n hx hb dX10_chance_57 rfl (lv_at hl 2 rfl) ?_
                refine lv_iload hx hb dX10_chance_58 (lv_at hl 5 rfl) ?_
                refine rd_calll (va_runS (As := [.int (nI n2), .int (nI i)]) (rest := [.long u]) ⟨hx, hb, hml, hown, hts⟩ (s_ways l G g hg f_1 (nI n2) (nI i)  (by rw [nI_toInt (by omega)]; omega)) (my_cwS hts ok_X10_ways w_761 rfl rfl ⟨Nat.le_of_ble_eq_true rfl, Nat.le_of_ble_eq_true rfl⟩) ⟨bP.blind, fun U hU hW => ⟨rfl, by rw [hU]; exact hP, kG.warm hW hG⟩⟩ rfl rfl hl.1 rfl (lv_room (Nat.le_of_ble_eq_true rfl)) dX10_chance_60 ⟨Nat.le_of_ble_eq_true rfl, Nat.le_of_ble_eq_true rfl⟩) (fun v6 _ => ?_)
                refine lv_iload_n hx hb dX10_chance_63 rfl (lv_at hl 1 rfl) ?_
                refine lv_iload_n hx hb dX10_chance_64 rfl (lv_at hl 2 rfl) ?_
                refine lv_isub hx hb dX10_chance_65 ?_
                refine my_bei (v := nI (n1 - n2)) (pk_sub hn2) ?_
                refine lv_iload_n hx hb dX10_chance_66 rfl (lv_at hl 3 rfl) ?_
                refine lv_iload hx hb dX10_chance_67 (lv_at hl 5 rfl) ?_
                refine lv_isub hx hb dX10_chance_69 ?_
                refine my_bei (v := nI (n3 - i)) (pk_sub hi3) ?_
                refine rd_calll (va_runS (As := [.int (nI (n1 - n2)), .int (nI (n3 - i))]) (rest := [.long v6, .long u]) ⟨hx, hb, hml, hown, hts⟩ (s_ways l G g hg f_1 (nI (n1 - n2)) (nI (n3 - i))  (by rw [nI_toInt (by omega)]; omega)) (my_cwS hts ok_X10_ways w_761 rfl rfl ⟨Nat.le_of_ble_eq_true rfl, Nat.le_of_ble_eq_true rfl⟩) ⟨bP.blind, fun U hU hW => ⟨rfl, by rw [hU]; exact hP, kG.warm hW hG⟩⟩ rfl rfl hl.1 rfl (lv_room (Nat.le_of_ble_eq_true rfl)) dX10_chance_70 ⟨Nat.le_of_ble_eq_true rfl, Nat.le_of_ble_eq_true rfl⟩) (fun v7 _ => ?_)
                refine lv_lmul hx hb dX10_chance_73 ?_
                refine lv_ladd hx hb dX10_chance_74 ?_
                refine lv_lstore (lv' := [(5, .long (u + (v6 * v7))), (0, .ref (g 0)), (1, .int (nI n1)), (2, .int (nI n2)), (3, .int (nI n3)), (7, .int (nI i))]) hx hb dX10_chance_75 hl (by decide) rfl (fun ls hl => ?_)
                refine lv_iinc (v := nI (i + 1)) (lv' := [(7, .int (nI (i + 1))), (5, .long (u + (v6 * v7))), (0, .ref (g 0)), (1, .int (nI n1)), (2, .int (nI n2)), (3, .int (nI n3))]) hx hb dX10_chance_77 hl (k := 5) rfl (nI_1 i) (by decide) rfl (fun ls hl => ?_)
                refine lv_goto (tgt := 49) hx hb dX10_chance_80 (by decide) ?_
                exact ih_1 (i + 1) (u + (v6 * v7)) f_1 _ _ _ (by omega) (hH) (hSp) (hL) (hT) (hB1) (hB2) (hQ) (by omega) (hx0) (hctc) (hhs) (him) (hkp) (hrd) (hmk) (hfc6) (hwt) (hw8) (hw9) (hw10) (hw11) (hvl) (hbk) (hpr) (hpd) (hfr) (hfd) (hor) (hod) (har) (had) (htr) (hct) (hla) (hlaa) (hts0) (htsa) (fun j hj => (o_1 j (by omega))) hP hS (lv_sub hl [2, 3, 4, 5, 1, 0] rfl)
          exact key1 (41 + 1) n4 0 f _ _ _ (by omega) (hH) (hSp) (hL) (hT) (hB1) (hB2) (hQ) (by omega) (hx0) (hctc) (hhs) (him) (hkp) (hrd) (hmk) (hfc6) (hwt) (hw8) (hw9) (hw10) (hw11) (hvl) (hbk) (hpr) (hpd) (hfr) (hfd) (hor) (hod) (har) (had) (htr) (hct) (hla) (hlaa) (hts0) (htsa) (fun j _ => rfl) hP hS (lv_sub hl [2, 3, 4, 5, 1, 0] rfl)
        · refine lv_bipush (v := (-2)) hx hb dX10_chance_39 (by decide) ?_
          refine W_q9 hQ9 ?_
          exact W.iret (v := (-2)) hx hb hr (fun _ hT9 _ => ⟨⟨_, f, rfl, (⟨cJ_mk (se) (hf) (imf) (mc) (op) (cm) (wu) (mk) (ab) (be) (mn) (le) (wt) (ww) (wb) (wf) (vv) (lf) (tf) (hx0) (hctc) (hhs) (him) (hkp) (hrd) (hmk) (hfc6) (hwt) (hw8) (hw9) (hw10) (hw11) (hvl) (hbk) (hpr) (hpd) (hfr) (hfd) (hor) (hod) (har) (had) (htr) (hct) (hla) (hlaa) (hts0) (htsa) (by omega) (hhf) (him0) (him1) (by omega) (by omega) (by omega) (by omega) (by omega) (by omega) (by omega) (hlf) (htf) (by omega) (hH) (hSp) (hL) (hT) (hB1) (hB2) (hQ), fun j hj => rfl⟩), by rw [hT9]; exact hP⟩, hS.F hT9⟩) hS.2.2 dX10_chance_41
theorem j_chance (l : Launch) (G : gW) (g : Nat → Nat) (hg : gOK g) (f : Nat → va_E) (np : Nat) (dp : Nat → Int32) (nf : Nat) (df : Nat → Int32) (nr : Nat) (dr : Nat → Int32) (nt : Nat) (ct : Nat → Int32) (pay : Int32) (fine : Int32) (kf : Nat → Int32) (na : Nat) (da : Nat → Int32) (TL : Nat → Nat) (TG : Nat → Nat → Int32) (LL : Nat → Nat) (LG : Nat → Nat → Int32) (N1 : Nat → Nat) (E1 : Nat → Nat → Int32) (P1 : Nat → Int32) (L1 : Nat → Nat) (S1 : Nat → Nat → Int32) (W1 : Nat → Nat) (X1 : Nat → Nat → Int32) (N2 : Nat → Nat) (E2 : Nat → Nat → Int32) (P2 : Nat → Int32) (L2 : Nat → Nat) (S2 : Nat → Nat → Int32) (W2 : Nat → Nat) (X2 : Nat → Nat → Int32) (a1 : Int32) (a2 : Int32) (a3 : Int32) (a4 : Int32) (hI : cJ G g f np dp nf df nr dr nt ct pay fine kf na da TL TG LL LG N1 E1 P1 L1 S1 W1 X1 N2 E2 P2 L2 S2 W2 X2) (hTr : trC ct nt) : Met l yX10_chance (wsT yX10_chance cX10_chance 8 (some .int)) ({ frames := 2, cells := 0, slots := 0, locals := 56 }) (bP G g f [.ref (g 0), .int a1, .int a2, .int a3, .int a4]) (bQi G g (fun (z9 : Int32) (f' : Nat → va_E) => (cJ G g f' np dp nf df nr dr nt ct pay fine kf na da TL TG LL LG N1 E1 P1 L1 S1 W1 X1 N2 E2 P2 L2 S2 W2 X2) ∧ ∀ j, 315 ≤ j → f' j = f j)) 0 0 (gA g) := cJ_elim hI (fun se hf imf mc op cm wu mk ab be mn le wt ww wb wf vv lf tf hx0 hctc hhs him hkp hrd hmk hfc6 hwt hw8 hw9 hw10 hw11 hvl hbk hpr hpd hfr hfd hor hod har had htr hct hla hlaa hts0 htsa hse hhf him0 him1 hmc hmn hnp hnf hnr hna hnt hlf htf hsn hH hSp hL hT hB1 hB2 hQ => jn_chance l G g hg f se hf imf kf mc op cm wu mk ab be mn le wt ww wb wf vv pay fine np dp nf df nr dr na da nt ct lf tf TL TG LL LG N1 E1 P1 L1 S1 W1 X1 N2 E2 P2 L2 S2 W2 X2 a1 a2 a3 a4 hx0 hctc hhs him hkp hrd hmk hfc6 hwt hw8 hw9 hw10 hw11 hvl hbk hpr hpd hfr hfd hor hod har had htr hct hla hlaa hts0 htsa hse hhf him0 him1 hmc hmn hnp hnf hnr hna hnt hlf htf hsn hTr hH hSp hL hT hB1 hB2 hQ)
set_option maxHeartbeats 4000000 in
set_option maxRecDepth 100000 in
theorem jn_twelve (l : Launch) (G : gW) (g : Nat → Nat) (hg : gOK g) (f : Nat → va_E) (se : Nat) (hf : Nat → Option Nat) (imf : Nat → Option Nat) (kf : Nat → Int32) (mc : Nat) (op : Int32) (cm : Int32) (wu : Int32) (mk : Nat → Int32) (ab : Int64) (be : Int64) (mn : Nat) (le : Int32) (wt : Nat → Int32) (ww : Nat → Int32) (wb : Nat → Int32) (wf : Nat → Int32) (vv : Nat → Int64) (pay : Int32) (fine : Int32) (np : Nat) (dp : Nat → Int32) (nf : Nat) (df : Nat → Int32) (nr : Nat) (dr : Nat → Int32) (na : Nat) (da : Nat → Int32) (nt : Nat) (ct : Nat → Int32) (lf : Nat → Option Nat) (tf : Nat → Option Nat) (TL : Nat → Nat) (TG : Nat → Nat → Int32) (LL : Nat → Nat) (LG : Nat → Nat → Int32) (N1 : Nat → Nat) (E1 : Nat → Nat → Int32) (P1 : Nat → Int32) (L1 : Nat → Nat) (S1 : Nat → Nat → Int32) (W1 : Nat → Nat) (X1 : Nat → Nat → Int32) (N2 : Nat → Nat) (E2 : Nat → Nat → Int32) (P2 : Nat → Int32) (L2 : Nat → Nat) (S2 : Nat → Nat → Int32) (W2 : Nat → Nat) (X2 : Nat → Nat → Int32) (a1 : Int32) (a2 : Int32) (hx0 : f 0 = eO 9 [.ref (g 1), .ref (g 36), .ref (g 2), .ref (g 3), .ref (g 4), .ref (g 6), .ref (g 7)]) (hctc : f 1 = eO 1 [.ref (g 36), .ref (g 12), .ref (g 13), .ref (g 15), .int (nI se)]) (hhs : f 12 = eA G 4 10 hf) (him : f 2 = eA G 3 2 imf) (hkp : f 3 = eZ G 2 kf) (hrd : f 4 = eO 4 [.ref (g 5), .int (nI mc), .int op, .int cm, .int wu]) (hmk : f 5 = eI G 50 mk) (hfc6 : f 6 = eO 2 [.long ab, .long be]) (hwt : f 7 = eO 8 [.ref (g 8), .ref (g 9), .ref (g 10), .ref (g 11), .int (nI mn), .int le]) (hw8 : f 8 = eI G 6 wt) (hw9 : f 9 = eI G 6 ww) (hw10 : f 10 = eI G 6 wb) (hw11 : f 11 = eI G 6 wf) (hvl : f 15 = eJ G 50 vv) (hbk : f 36 = eO 0 [.ref (g 37), .ref (g 39), .ref (g 41), .ref (g 43), .ref (g 45), .ref (g 47), .ref (g 112), .int pay, .int fine]) (hpr : f 37 = eO 5 [.int (nI 30), .int (nI 4), .ref (g 38), .int (nI np)]) (hpd : f 38 = eI G (30 * 4) dp) (hfr : f 39 = eO 5 [.int (nI 40), .int (nI 3), .ref (g 40), .int (nI nf)]) (hfd : f 40 = eI G (40 * 3) df) (hor : f 41 = eO 5 [.int (nI 4), .int (nI 3), .ref (g 42), .int (nI nr)]) (hod : f 42 = eI G (4 * 3) dr) (har : f 43 = eO 5 [.int (nI 20), .int (nI 3), .ref (g 44), .int (nI na)]) (had : f 44 = eI G (20 * 3) da) (htr : f 45 = eO 5 [.int (nI 10), .int (nI 70), .ref (g 46), .int (nI nt)]) (hct : f 46 = eI G (10 * 70) ct) (hla : f 47 = eO 6 [.ref (g 48), .ref (g 49)]) (hlaa : f 48 = eA G 5 20 lf) (hts0 : f 112 = eO 6 [.ref (g 113), .ref (g 114)]) (htsa : f 113 = eA G 5 4 tf) (hse : se ≤ 10) (hhf : ∀ i, i < 10 → hf i = some (g (2 * i + 16))) (him0 : imf 0 = some (g 129)) (him1 : imf 1 = some (g 222)) (hmc : mc ≤ 50) (hmn : mn ≤ 6) (hnp : np ≤ 30) (hnf : nf ≤ 40) (hnr : nr ≤ 4) (hna : na ≤ 20) (hnt : nt ≤ 10) (hlf : ∀ z, z < 20 → lf z = some (g (47 + 3 * z + 5))) (htf : ∀ z, z < 4 → tf z = some (g (112 + 3 * z + 5))) (hsn : se ≤ nt) (hTr : trC ct nt) (hH : ∀ i, i < 10 → okH G g f (2 * i + 16)) (hSp : okH G g f 13) (hL : ∀ i, i < 20 → ltx G g f (3 * i + 52) (LL i) (LG i) (i < na)) (hT : ∀ i, i < 4 → txt G g f (3 * i + 117) (TL i) (TG i)) (hB1 : bkD G g f 129 N1 E1 P1 L1 S1 W1 X1) (hB2 : bkD G g f 222 N2 E2 P2 L2 S2 W2 X2) (hQ : ∀ z, z < se → cHz G g f np nf nr na dp df dr da ct LL LG z) : Met l yX10_twelve (wsT yX10_twelve cX10_twelve 9 (some .int)) ({ frames := 7, cells := 0, slots := 0, locals := 176 }) (bP G g f [.ref (g 0), .int a1, .int a2]) (bQi G g (fun (z9 : Int32) (f' : Nat → va_E) => (cJ G g f' np dp nf df nr dr nt ct pay fine kf na da TL TG LL LG N1 E1 P1 L1 S1 W1 X1 N2 E2 P2 L2 S2 W2 X2) ∧ ∀ j, 315 ≤ j → f' j = f j)) 0 0 (gA g) := by
  refine Met.ofW (cc := cX10_twelve) (maxL := 9) (ret := (some .int)) (by decide) rfl ?_
  intro p e s m args below meth c s₁ B hml hv
  obtain ⟨rfl, hP, hG⟩ := hv
  have hx := B.exec
  have hb := B.bytes
  have hr := B.returns
  have hts := my_hts (atoms_spec (ws := wsT yX10_twelve cX10_twelve 9 (some .int)) B.pre)
  have hown : s.vm.findClass RX10 = some m.cls := findClass_of_methodNamed B.named
  have hlocks := B.notSynchronized
  have hS : va_S (gA g) s.heap s.heap [] := va_S.rf
  have hl := lv_entry ([.ref (g 0), .int a1, .int a2]) (n := 9) (Nat.le_of_ble_eq_true rfl)
  rw [lg_entry_eq]
  generalize (lg_sl ([.ref (g 0), .int a1, .int a2]) ++ List.replicate (9 - (lg_sl ([.ref (g 0), .int a1, .int a2])).length) Slot.unset).toArray = ls at hl ⊢
  have hl : lv_has ls 9 [(0, .ref (g 0)), (1, .int a1), (2, .int a2)] := hl
  refine W_q8 (fun Q9 hQ9 => ?_)
  refine lv_aload_n hx hb dX10_twelve_0 rfl (lv_at hl 0 rfl) ?_
  refine va_get (D := G.1) (ci := 9) (v := .ref (g 36)) (C := RX10) (T := TX10) (N := 7) hx hb hts inlX10 hown hG.1 hP 0 (wl_at (by decide) hx0) rfl 1 (by decide) (hts (.fieldLink RX10 20 "SwornLists" "book" "LSwornLists$Book;") w_16) (fun _ h9 => h9) rfl dX10_twelve_1 ?_
  refine va_getN (D := G.1) (ci := 0) (v := .ref (g 45)) (C := RX0) (T := TX0) (N := 9) (host := RX10) hx hb hts inlX0 hown hG.1 hP 36 (wl_at (by decide) hbk) rfl 4 (by decide) (va_Nw.use rfl (hG.2.1 (.fieldLinkNest RX10 162 RX0 "trials" "LSwornLists$Rows;" RX10) (List.mem_of_getElem? (i := 7) rfl))) (fun _ h9 => h9) rfl dX10_twelve_4 ?_
  refine lv_iload_n hx hb dX10_twelve_7 rfl (lv_at hl 1 rfl) ?_
  refine rd_calli (va_runV (As := [.int a1]) (rest := []) ⟨hx, hb, hml, hown, hts⟩ (r_has l G g hg f 45 10 70 nt a1 htr (by first | assumption | omega | decide) (by first | assumption | omega | decide) (by first | assumption | omega | decide) (by first | assumption | omega | decide)) (my_cwV hts ok_X5_has w_174 rfl rfl ⟨Nat.le_of_ble_eq_true rfl, Nat.le_of_ble_eq_true rfl⟩) ⟨bP.blind, va_recv hG.1 hP (ci := 5) (q0 := 45) rfl (wl_at (by decide) htr), fun U hU hW => ⟨rfl, by rw [hU]; exact hP, kG.warm hW hG⟩⟩ rfl rfl hl.1 rfl (lv_room (Nat.le_of_ble_eq_true rfl)) dX10_twelve_8 ⟨Nat.le_of_ble_eq_true rfl, Nat.le_of_ble_eq_true rfl⟩) (fun r hr9 => ?_)
  subst hr9
  refine my_ifeq (tgt := 23) hx hb dX10_twelve_11 (by decide) (fun c_11 => ?_) (fun c_11 => ?_)
  · refine lv_bipush (v := (-2)) hx hb dX10_twelve_23 (by decide) ?_
    refine W_q9 hQ9 ?_
    exact W.iret (v := (-2)) hx hb hr (fun _ hT9 _ => ⟨⟨_, f, rfl, (⟨cJ_mk (se) (hf) (imf) (mc) (op) (cm) (wu) (mk) (ab) (be) (mn) (le) (wt) (ww) (wb) (wf) (vv) (lf) (tf) (hx0) (hctc) (hhs) (him) (hkp) (hrd) (hmk) (hfc6) (hwt) (hw8) (hw9) (hw10) (hw11) (hvl) (hbk) (hpr) (hpd) (hfr) (hfd) (hor) (hod) (har) (had) (htr) (hct) (hla) (hlaa) (hts0) (htsa) (by omega) (hhf) (him0) (him1) (by omega) (by omega) (by omega) (by omega) (by omega) (by omega) (by omega) (hlf) (htf) (by omega) (hH) (hSp) (hL) (hT) (hB1) (hB2) (hQ), fun j hj => rfl⟩), by rw [hT9]; exact hP⟩, hS.F hT9⟩) hS.2.2 dX10_twelve_25
  · refine lv_iload_n hx hb dX10_twelve_14 rfl (lv_at hl 2 rfl) ?_
    refine lv_iconst (v := 0) hx hb dX10_twelve_15 (by decide) ?_
    refine lv_iconst (v := 1) hx hb dX10_twelve_16 (by decide) ?_
    refine rd_calli (va_runS (As := [.int a2, .int 0, .int 1]) (rest := []) ⟨hx, hb, hml, hown, hts⟩ (s_within l G g hg f a2 0 1  ) (my_cwS hts ok_X10_within w_134 rfl rfl ⟨Nat.le_of_ble_eq_true rfl, Nat.le_of_ble_eq_true rfl⟩) ⟨bP.blind, fun U hU hW => ⟨rfl, by rw [hU]; exact hP, kG.warm hW hG⟩⟩ rfl rfl hl.1 rfl (lv_room (Nat.le_of_ble_eq_true rfl)) dX10_twelve_17 ⟨Nat.le_of_ble_eq_true rfl, Nat.le_of_ble_eq_true rfl⟩) (fun r hr9 => ?_)
    subst hr9
    refine my_ifne (tgt := 26) hx hb dX10_twelve_20 (by decide) (fun c_20 => ?_) (fun c_20 => ?_)
    · obtain ⟨tn, htn, rfl⟩ := inN_nat (by omega) c_11
      refine lv_aload_n hx hb dX10_twelve_26 rfl (lv_at hl 0 rfl) ?_
      refine va_get (D := G.1) (ci := 9) (v := .ref (g 1)) (C := RX10) (T := TX10) (N := 7) hx hb hts inlX10 hown hG.1 hP 0 (wl_at (by decide) hx0) rfl 0 (by decide) (hts (.fieldLink RX10 12 "SwornLists" "court" "LSwornLists$Court;") w_15) (fun _ h9 => h9) rfl dX10_twelve_27 ?_
      refine b_callv (va_runV (As := []) (rest := []) ⟨hx, hb, hml, hown, hts⟩ (u_settleE l G g hg f se hf pay fine nt ct np dp nf df nr dr na da lf vv LL LG hctc hhs hbk htr hct hpr hpd hfr hfd hor hod har had hla hlaa hvl (by first | assumption | omega | decide) (by first | assumption | omega | decide) (by first | assumption | omega | decide) (by first | assumption | omega | decide) (by first | assumption | omega | decide) (by first | assumption | omega | decide) (by first | assumption | omega | decide) (by first | assumption | omega | decide) (hTr.1) (hTr.2.1) (hTr.2.2.1) (by first | assumption | omega | decide) (hQ) (by first | assumption | omega | decide) (hL)) (my_cwV hts ok_X1_settle w_384 rfl rfl ⟨Nat.le_of_ble_eq_true rfl, Nat.le_of_ble_eq_true rfl⟩) ⟨bP.blind, va_recv hG.1 hP (ci := 1) (q0 := 1) rfl (wl_at (by decide) hctc), fun U hU hW => ⟨rfl, by rw [hU]; exact hP, kG.warm hW hG⟩⟩ rfl rfl hl.1 rfl (lv_room (Nat.le_of_ble_eq_true rfl)) dX10_twelve_30 ⟨Nat.le_of_ble_eq_true rfl, Nat.le_of_ble_eq_true rfl⟩) hS (fun f_1 H locs hq9 hP hS => ?_)
      obtain ⟨vv91, hq_1_0, hq_1_1, hx_1_0, hx_1_1, o_1⟩ := hq9
      have hctc : f_1 1 = eO 1 [.ref (g 36), .ref (g 12), .ref (g 13), .ref (g 15), .int (nI nt)] := hq_1_0
      have hvl : f_1 15 = eJ G 50 vv91 := hq_1_1
      have hH : ∀ i, i < 10 → okH G g f_1 (2 * i + 16) := hx_1_0
      have hQn : ∀ z, z < nt → cHz G g f_1 np nf nr na dp df dr da ct LL LG z := hx_1_1
      obtain ⟨sl7, lo7, ib7, ca7, mi7, s07, s17, sw7, od7, hh7, ho7, hs7⟩ := hH tn (by omega)
      refine lv_aload_n hx hb dX10_twelve_33 rfl (lv_at hl 0 rfl) ?_
      replace hx0 := ((o_1 0 (by first | decide | omega))).trans hx0
      refine va_get (D := G.1) (ci := 9) (v := .ref (g 36)) (C := RX10) (T := TX10) (N := 7) hx hb hts inlX10 hown hG.1 hP 0 (wl_at (by decide) hx0) rfl 1 (by decide) (hts (.fieldLink RX10 20 "SwornLists" "book" "LSwornLists$Book;") w_16) (fun _ h9 => h9) rfl dX10_twelve_34 ?_
      replace hbk := ((o_1 36 (by first | decide | omega))).trans hbk
      refine va_getN (D := G.1) (ci := 0) (v := .ref (g 45)) (C := RX0) (T := TX0) (N := 9) (host := RX10) hx hb hts inlX0 hown hG.1 hP 36 (wl_at (by decide) hbk) rfl 4 (by decide) (va_Nw.use rfl (hG.2.1 (.fieldLinkNest RX10 162 RX0 "trials" "LSwornLists$Rows;" RX10) (List.mem_of_getElem? (i := 7) rfl))) (fun _ h9 => h9) rfl dX10_twelve_37 ?_
      refine lv_iload_n hx hb dX10_twelve_40 rfl (lv_at hl 1 rfl) ?_
      refine lv_iconst (v := 0) hx hb dX10_twelve_41 (by decide) ?_
      replace htr := ((o_1 45 (by first | decide | omega))).trans htr
      replace hct := ((o_1 46 (by first | decide | omega))).trans hct
      refine rd_calli (va_runV (As := [.int (nI tn), .int 0]) (rest := []) ⟨hx, hb, hml, hown, hts⟩ (r_at l G g hg f_1 45 10 70 nt ct (nI tn) 0 htr hct (by first | assumption | omega | decide) (by first | assumption | omega | decide) (by first | assumption | omega | decide) (by first | assumption | omega | decide)) (my_cwV hts ok_X5_at w_610 rfl rfl ⟨Nat.le_of_ble_eq_true rfl, Nat.le_of_ble_eq_true rfl⟩) ⟨bP.blind, va_recv hG.1 hP (ci := 5) (q0 := 45) rfl (wl_at (by decide) htr), fun U hU hW => ⟨rfl, by rw [hU]; exact hP, kG.warm hW hG⟩⟩ rfl rfl hl.1 rfl (lv_room (Nat.le_of_ble_eq_true rfl)) dX10_twelve_42 ⟨Nat.le_of_ble_eq_true rfl, Nat.le_of_ble_eq_true rfl⟩) (fun r hr9 => ?_)
      subst hr9
      refine lv_istore_n (lv' := [(3, .int (atv ct nt 70 (nI tn) 0)), (0, .ref (g 0)), (1, .int (nI tn)), (2, .int a2)]) hx hb dX10_twelve_45 rfl hl (by decide) rfl (fun ls hl => ?_)
      refine lv_aload_n hx hb dX10_twelve_46 rfl (lv_at hl 1 rfl) ?_
      refine va_get (D := G.1) (ci := 9) (v := .ref (g 36)) (C := RX10) (T := TX10) (N := 7) hx hb hts inlX10 hown hG.1 hP 0 (wl_at (by decide) hx0) rfl 1 (by decide) (hts (.fieldLink RX10 20 "SwornLists" "book" "LSwornLists$Book;") w_16) (fun _ h9 => h9) rfl dX10_twelve_47 ?_
      refine va_getN (D := G.1) (ci := 0) (v := .ref (g 45)) (C := RX0) (T := TX0) (N := 9) (host := RX10) hx hb hts inlX0 hown hG.1 hP 36 (wl_at (by decide) hbk) rfl 4 (by decide) (va_Nw.use rfl (hG.2.1 (.fieldLinkNest RX10 162 RX0 "trials" "LSwornLists$Rows;" RX10) (List.mem_of_getElem? (i := 7) rfl))) (fun _ h9 => h9) rfl dX10_twelve_50 ?_
      refine lv_iload_n hx hb dX10_twelve_53 rfl (lv_at hl 2 rfl) ?_
      refine lv_iconst (v := 2) hx hb dX10_twelve_54 (by decide) ?_
      refine rd_calli (va_runV (As := [.int (nI tn), .int 2]) (rest := []) ⟨hx, hb, hml, hown, hts⟩ (r_at l G g hg f_1 45 10 70 nt ct (nI tn) 2 htr hct (by first | assumption | omega | decide) (by first | assumption | omega | decide) (by first | assumption | omega | decide) (by first | assumption | omega | decide)) (my_cwV hts ok_X5_at w_610 rfl rfl ⟨Nat.le_of_ble_eq_true rfl, Nat.le_of_ble_eq_true rfl⟩) ⟨bP.blind, va_recv hG.1 hP (ci := 5) (q0 := 45) rfl (wl_at (by decide) htr), fun U hU hW => ⟨rfl, by rw [hU]; exact hP, kG.warm hW hG⟩⟩ rfl rfl hl.1 rfl (lv_room (Nat.le_of_ble_eq_true rfl)) dX10_twelve_55 ⟨Nat.le_of_ble_eq_true rfl, Nat.le_of_ble_eq_true rfl⟩) (fun r hr9 => ?_)
      subst hr9
      refine lv_istore (lv' := [(4, .int (atv ct nt 70 (nI tn) 2)), (3, .int (atv ct nt 70 (nI tn) 0)), (0, .ref (g 0)), (1, .int (nI tn)), (2, .int a2)]) hx hb dX10_twelve_58 hl (by decide) rfl (fun ls hl => ?_)
      refine lv_iload_n hx hb dX10_twelve_60 rfl (lv_at hl 4 rfl) ?_
      refine lv_if_ne (tgt := 78) hx hb dX10_twelve_61 (by decide) (fun c_61 => ?_) (fun c_61 => ?_)
      · refine lv_aload_n hx hb dX10_twelve_78 rfl (lv_at hl 2 rfl) ?_
        refine va_get (D := G.1) (ci := 9) (v := .ref (g 1)) (C := RX10) (T := TX10) (N := 7) hx hb hts inlX10 hown hG.1 hP 0 (wl_at (by decide) hx0) rfl 0 (by decide) (hts (.fieldLink RX10 12 "SwornLists" "court" "LSwornLists$Court;") w_15) (fun _ h9 => h9) rfl dX10_twelve_79 ?_
        refine lv_aload_n hx hb dX10_twelve_82 rfl (lv_at hl 2 rfl) ?_
        refine va_get (D := G.1) (ci := 9) (v := .ref (g 36)) (C := RX10) (T := TX10) (N := 7) hx hb hts inlX10 hown hG.1 hP 0 (wl_at (by decide) hx0) rfl 1 (by decide) (hts (.fieldLink RX10 20 "SwornLists" "book" "LSwornLists$Book;") w_16) (fun _ h9 => h9) rfl dX10_twelve_83 ?_
        refine lv_iconst (v := 0) hx hb dX10_twelve_86 (by decide) ?_
        refine lv_iload_n hx hb dX10_twelve_87 rfl (lv_at hl 1 rfl) ?_
        replace har := ((o_1 43 (by first | decide | omega))).trans har
        replace had := ((o_1 44 (by first | decide | omega))).trans had
        replace hla := ((o_1 47 (by first | decide | omega))).trans hla
        replace hlaa := ((o_1 48 (by first | decide | omega))).trans hlaa
        refine rd_calla (va_runV (As := [.int 0, .int (atv ct nt 70 (nI tn) 0)]) (rest := [.ref (g 1)]) ⟨hx, hb, hml, hown, hts⟩ (k_lawOf l G g hg f_1 pay fine na da lf 0 (atv ct nt 70 (nI tn) 0) hbk har had hla hlaa (by first | assumption | omega | decide) (by first | assumption | omega | decide)) (my_cwV hts ok_X0_lawOf w_628 rfl rfl ⟨Nat.le_of_ble_eq_true rfl, Nat.le_of_ble_eq_true rfl⟩) ⟨bP.blind, va_recv hG.1 hP (ci := 0) (q0 := 36) rfl (wl_at (by decide) hbk), fun U hU hW => ⟨rfl, by rw [hU]; exact hP, kG.warm hW hG⟩⟩ rfl rfl hl.1 rfl (lv_room (Nat.le_of_ble_eq_true rfl)) dX10_twelve_88 ⟨Nat.le_of_ble_eq_true rfl, Nat.le_of_ble_eq_true rfl⟩) (fun r hr9 => ?_)
        obtain ⟨o92, rfl, hx_2_0⟩ := hr9
        replace hL : ∀ i, i < 20 → ltx G g f_1 (3 * i + 52) (LL i) (LG i) (i < na) := fun z hz => ltx_fr (hL z hz) (o_1 _ (by omega)) (o_1 _ (by omega)) (o_1 _ (by omega))
        rcases o92 with _ | i3
        · refine my_bea (v := .null) rfl ?_
          refine lv_iconst (v := 0) hx hb dX10_twelve_91 (by decide) ?_
          refine lv_iload_n hx hb dX10_twelve_92 rfl (lv_at hl 1 rfl) ?_
          refine lv_aload_n hx hb dX10_twelve_93 rfl (lv_at hl 2 rfl) ?_
          refine va_get (D := G.1) (ci := 9) (v := .ref (g 36)) (C := RX10) (T := TX10) (N := 7) hx hb hts inlX10 hown hG.1 hP 0 (wl_at (by decide) hx0) rfl 1 (by decide) (hts (.fieldLink RX10 20 "SwornLists" "book" "LSwornLists$Book;") w_16) (fun _ h9 => h9) rfl dX10_twelve_94 ?_
          replace hpr := ((o_1 37 (by first | decide | omega))).trans hpr
          replace hpd := ((o_1 38 (by first | decide | omega))).trans hpd
          refine rd_calli (va_runV (As := []) (rest := [.int (atv ct nt 70 (nI tn) 0), .int 0, .null, .ref (g 1)]) ⟨hx, hb, hml, hown, hts⟩ (k_everyone l G g hg f_1 pay fine np dp hbk hpr hpd (by first | assumption | omega | decide)) (my_cwV hts ok_X0_everyone w_198 rfl rfl ⟨Nat.le_of_ble_eq_true rfl, Nat.le_of_ble_eq_true rfl⟩) ⟨bP.blind, va_recv hG.1 hP (ci := 0) (q0 := 36) rfl (wl_at (by decide) hbk), fun U hU hW => ⟨rfl, by rw [hU]; exact hP, kG.warm hW hG⟩⟩ rfl rfl hl.1 rfl (lv_room (Nat.le_of_ble_eq_true rfl)) dX10_twelve_97 ⟨Nat.le_of_ble_eq_true rfl, Nat.le_of_ble_eq_true rfl⟩) (fun v4 _ => ?_)
          refine rd_calli (va_runV (As := [.null, .int 0, .int (atv ct nt 70 (nI tn) 0), .int v4]) (rest := []) ⟨hx, hb, hml, hown, hts⟩ (u_truthsN l G g hg f_1 0 (atv ct nt 70 (nI tn) 0) v4  ) (my_cwV hts ok_X1_truths w_629 rfl rfl ⟨Nat.le_of_ble_eq_true rfl, Nat.le_of_ble_eq_true rfl⟩) ⟨bP.blind, va_recv hG.1 hP (ci := 1) (q0 := 1) rfl (wl_at (by decide) hctc), fun U hU hW => ⟨rfl, by rw [hU]; exact hP, kG.warm hW hG⟩⟩ rfl rfl hl.1 rfl (lv_room (Nat.le_of_ble_eq_true rfl)) dX10_twelve_100 ⟨Nat.le_of_ble_eq_true rfl, Nat.le_of_ble_eq_true rfl⟩) (fun v5 _ => ?_)
          refine lv_istore (lv' := [(5, .int v5), (4, .int (atv ct nt 70 (nI tn) 2)), (3, .int (atv ct nt 70 (nI tn) 0)), (0, .ref (g 0)), (1, .int (nI tn)), (2, .int a2)]) hx hb dX10_twelve_103 hl (by decide) rfl (fun ls hl => ?_)
          refine lv_lconst (v := 0) hx hb dX10_twelve_105 (by decide) ?_
          refine lv_lstore (lv' := [(6, .long 0), (5, .int v5), (4, .int (atv ct nt 70 (nI tn) 2)), (3, .int (atv ct nt 70 (nI tn) 0)), (0, .ref (g 0)), (1, .int (nI tn)), (2, .int a2)]) hx hb dX10_twelve_106 hl (by decide) rfl (fun ls hl => ?_)
          refine lv_iconst (v := 0) hx hb dX10_twelve_108 (by decide) ?_
          refine lv_istore (lv' := [(8, .int 0), (6, .long 0), (5, .int v5), (4, .int (atv ct nt 70 (nI tn) 2)), (3, .int (atv ct nt 70 (nI tn) 0)), (0, .ref (g 0)), (1, .int (nI tn)), (2, .int a2)]) hx hb dX10_twelve_109 hl (by decide) rfl (fun ls hl => ?_)
          replace hSp : okH G g f_1 13 := okH_fr hSp (o_1 _ (by omega)) (o_1 _ (by omega))
          replace hT : ∀ i, i < 4 → txt G g f_1 (3 * i + 117) (TL i) (TG i) := fun z hz => txt_fr (hT z hz) (o_1 _ (by omega)) (o_1 _ (by omega)) (o_1 _ (by omega))
          replace hB1 : bkD G g f_1 129 N1 E1 P1 L1 S1 W1 X1 := bkD_fr hB1 (fun j _ _ => o_1 j (by omega))
          replace hB2 : bkD G g f_1 222 N2 E2 P2 L2 S2 W2 X2 := bkD_fr hB2 (fun j _ _ => o_1 j (by omega))
          replace hhs := ((o_1 12 (by first | decide | omega))).trans hhs
          replace him := ((o_1 2 (by first | decide | omega))).trans him
          replace hkp := ((o_1 3 (by first | decide | omega))).trans hkp
          replace hrd := ((o_1 4 (by first | decide | omega))).trans hrd
          replace hmk := ((o_1 5 (by first | decide | omega))).trans hmk
          replace hfc6 := ((o_1 6 (by first | decide | omega))).trans hfc6
          replace hwt := ((o_1 7 (by first | decide | omega))).trans hwt
          replace hw8 := ((o_1 8 (by first | decide | omega))).trans hw8
          replace hw9 := ((o_1 9 (by first | decide | omega))).trans hw9
          replace hw10 := ((o_1 10 (by first | decide | omega))).trans hw10
          replace hw11 := ((o_1 11 (by first | decide | omega))).trans hw11
          replace hfr := ((o_1 39 (by first | decide | omega))).trans hfr
          replace hfd := ((o_1 40 (by first | decide | omega))).trans hfd
          replace hor := ((o_1 41 (by first | decide | omega))).trans hor
          replace hod := ((o_1 42 (by first | decide | omega))).trans hod
          replace hts0 := ((o_1 112 (by first | decide | omega))).trans hts0
          replace htsa := ((o_1 113 (by first | decide | omega))).trans htsa
          have key6 : ∀ (n9_6 : Nat) (i : Nat) (u : Int64) (f_3 : Nat → va_E) (H : Heap) (locs : List Loc) (ls : Array Slot), (i ≤ 4) → (∀ i, i < 10 → okH G g f_3 (2 * i + 16)) → (okH G g f_3 13) → (∀ i, i < 20 → ltx G g f_3 (3 * i + 52) (LL i) (LG i) (i < na)) → (∀ i, i < 4 → txt G g f_3 (3 * i + 117) (TL i) (TG i)) → (bkD G g f_3 129 N1 E1 P1 L1 S1 W1 X1) → (bkD G g f_3 222 N2 E2 P2 L2 S2 W2 X2) → (∀ z, z < nt → cHz G g f_3 np nf nr na dp df dr da ct LL LG z) → 4 - i < n9_6 → f_3 0 = eO 9 [.ref (g 1), .ref (g 36), .ref (g 2), .ref (g 3), .ref (g 4), .ref (g 6), .ref (g 7)] → f_3 1 = eO 1 [.ref (g 36), .ref (g 12), .ref (g 13), .ref (g 15), .int (nI nt)] → f_3 12 = eA G 4 10 hf → f_3 2 = eA G 3 2 imf → f_3 3 = eZ G 2 kf → f_3 4 = eO 4 [.ref (g 5), .int (nI mc), .int op, .int cm, .int wu] → f_3 5 = eI G 50 mk → f_3 6 = eO 2 [.long ab, .long be] → f_3 7 = eO 8 [.ref (g 8), .ref (g 9), .ref (g 10), .ref (g 11), .int (nI mn), .int le] → f_3 8 = eI G 6 wt → f_3 9 = eI G 6 ww → f_3 10 = eI G 6 wb → f_3 11 = eI G 6 wf → f_3 15 = eJ G 50 vv91 → f_3 36 = eO 0 [.ref (g 37), .ref (g 39), .ref (g 41), .ref (g 43), .ref (g 45), .ref (g 47), .ref (g 112), .int pay, .int fine] → f_3 37 = eO 5 [.int (nI 30), .int (nI 4), .ref (g 38), .int (nI np)] → f_3 38 = eI G (30 * 4) dp → f_3 39 = eO 5 [.int (nI 40), .int (nI 3), .ref (g 40), .int (nI nf)] → f_3 40 = eI G (40 * 3) df → f_3 41 = eO 5 [.int (nI 4), .int (nI 3), .ref (g 42), .int (nI nr)] → f_3 42 = eI G (4 * 3) dr → f_3 43 = eO 5 [.int (nI 20), .int (nI 3), .ref (g 44), .int (nI na)] → f_3 44 = eI G (20 * 3) da → f_3 45 = eO 5 [.int (nI 10), .int (nI 70), .ref (g 46), .int (nI nt)] → f_3 46 = eI G (10 * 70) ct → f_3 47 = eO 6 [.ref (g 48), .ref (g 49)] → f_3 48 = eA G 5 20 lf → f_3 112 = eO 6 [.ref (g 113), .ref (g 114)] → f_3 113 = eA G 5 4 tf → f_3 (2 * tn + 16) = eO 3 [.ref (g (2 * tn + 17)), .int (nI sl7), .int lo7, .int ib7, .int ca7, .int mi7, .int s07, .int s17, .int sw7] → f_3 (2 * tn + 17) = eI G 24 od7 → (∀ j, (j < 333 ∨ 333 ≤ j) → f_3 j = f_1 j) → va_P G.1 vwCl (wl g f_3) H → va_S (gA g) s.heap H locs → lv_has ls 9 [(0, .ref (g 0)), (4, .int (atv ct nt 70 (nI tn) 2)), (5, .int v5), (6, .long u), (8, .int (nI i))] → W p l e (headSpec (wsT yX10_twelve cX10_twelve 9 (some .int)) ({ frames := 7, cells := 0, slots := 0, locals := 176 })).room s m ([.ref (g 0), .int (nI tn), .int a2] : List Value).toArray below meth c H locs 0 0 Q9 (F0 m 111 ls []) := by
            intro n9_6
            induction n9_6 with
            | zero => intro i u f_3 H locs ls hi hH hSp hL hT hB1 hB2 hQn hn9_6; exact absurd hn9_6 (Nat.not_lt_zero _)
            | succ n9_6 ih_6 =>
              intro i u f_3 H locs ls hi hH hSp hL hT hB1 hB2 hQn hn9_6 hx0 hctc hhs him hkp hrd hmk hfc6 hwt hw8 hw9 hw10 hw11 hvl hbk hpr hpd hfr hfd hor hod har had htr hct hla hlaa hts0 htsa hh7 ho7 o_3 hP hS hl
              refine lv_iload hx hb dX10_twelve_111 (lv_at hl 4 rfl) ?_
              refine lv_iconst (v := 3) hx hb dX10_twelve_113 (by decide) ?_
              refine lv_icmp_gt (tgt := 149) hx hb dX10_twelve_114 (by decide) (fun c_114 => ?_) (fun c_114 => ?_)
              · refine lv_aload_n hx hb dX10_twelve_149 rfl (lv_at hl 0 rfl) ?_
                refine va_get (D := G.1) (ci := 9) (v := .ref (g 6)) (C := RX10) (T := TX10) (N := 7) hx hb hts inlX10 hown hG.1 hP 0 (wl_at (by decide) hx0) rfl 5 (by decide) (hts (.fieldLink RX10 41 "SwornLists" "fraction" "LSwornLists$Fraction;") w_28) (fun _ h9 => h9) rfl dX10_twelve_150 ?_
                refine lv_lload hx hb dX10_twelve_153 (lv_at hl 3 rfl) ?_
                refine lv_iload hx hb dX10_twelve_155 (lv_at hl 2 rfl) ?_
                refine rd_calli (va_runS (As := [.int v5]) (rest := [.long u, .ref (g 6)]) ⟨hx, hb, hml, hown, hts⟩ (s_bitCount63 l G g hg f_3 v5  ) (my_cwS hts ok_J6_bitCount_0f7a4 w_792 rfl rfl ⟨Nat.le_of_ble_eq_true rfl, Nat.le_of_ble_eq_true rfl⟩) ⟨bP.blind, fun U hU hW => ⟨rfl, by rw [hU]; exact hP, kG.warm hW hG⟩⟩ rfl rfl hl.1 rfl (lv_room (Nat.le_of_ble_eq_true rfl)) dX10_twelve_157 ⟨Nat.le_of_ble_eq_true rfl, Nat.le_of_ble_eq_true rfl⟩) (fun r hr9 => ?_)
                obtain ⟨z87, rfl⟩ := hr9
                refine lv_iload hx hb dX10_twelve_160 (lv_at hl 1 rfl) ?_
                refine rd_calll (va_runS (As := [.int (z87 &&& 63), .int (atv ct nt 70 (nI tn) 2)]) (rest := [.long u, .ref (g 6)]) ⟨hx, hb, hml, hown, hts⟩ (s_ways l G g hg f_3 (z87 &&& 63) (atv ct nt 70 (nI tn) 2)  (Int.lt_of_le_of_lt (and63 _) (by decide))) (my_cwS hts ok_X10_ways w_761 rfl rfl ⟨Nat.le_of_ble_eq_true rfl, Nat.le_of_ble_eq_true rfl⟩) ⟨bP.blind, fun U hU hW => ⟨rfl, by rw [hU]; exact hP, kG.warm hW hG⟩⟩ rfl rfl hl.1 rfl (lv_room (Nat.le_of_ble_eq_true rfl)) dX10_twelve_162 ⟨Nat.le_of_ble_eq_true rfl, Nat.le_of_ble_eq_true rfl⟩) (fun v8 _ => ?_)
                refine b_calli (va_runV (As := [.long u, .long v8]) (rest := []) ⟨hx, hb, hml, hown, hts⟩ (f_become l G g hg f_3 ab be u v8 hfc6 ) (my_cwV hts ok_X2_become w_764 rfl rfl ⟨Nat.le_of_ble_eq_true rfl, Nat.le_of_ble_eq_true rfl⟩) ⟨bP.blind, va_recv hG.1 hP (ci := 2) (q0 := 6) rfl (wl_at (by decide) hfc6), fun U hU hW => ⟨rfl, by rw [hU]; exact hP, kG.warm hW hG⟩⟩ rfl rfl hl.1 rfl (lv_room (Nat.le_of_ble_eq_true rfl)) dX10_twelve_165 ⟨Nat.le_of_ble_eq_true rfl, Nat.le_of_ble_eq_true rfl⟩) hS (fun v9 f_5 H locs hq9 hP hS => ?_)
                obtain ⟨ab910, be911, hq_5_0, o_5⟩ := hq9
                have hfc6 : f_5 6 = eO 2 [.long ab910, .long be911] := hq_5_0
                refine W_q9 hQ9 ?_
                replace hx0 := ((o_5 0 (by first | decide | omega))).trans hx0
                replace hctc := ((o_5 1 (by first | decide | omega))).trans hctc
                replace hhs := ((o_5 12 (by first | decide | omega))).trans hhs
                replace him := ((o_5 2 (by first | decide | omega))).trans him
                replace hkp := ((o_5 3 (by first | decide | omega))).trans hkp
                replace hrd := ((o_5 4 (by first | decide | omega))).trans hrd
                replace hmk := ((o_5 5 (by first | decide | omega))).trans hmk
                replace hwt := ((o_5 7 (by first | decide | omega))).trans hwt
                replace hw8 := ((o_5 8 (by first | decide | omega))).trans hw8
                replace hw9 := ((o_5 9 (by first | decide | omega))).trans hw9
                replace hw10 := ((o_5 10 (by first | decide | omega))).trans hw10
                replace hw11 := ((o_5 11 (by first | decide | omega))).trans hw11
                replace hvl := ((o_5 15 (by first | decide | omega))).trans hvl
                replace hbk := ((o_5 36 (by first | decide | omega))).trans hbk
                replace hpr := ((o_5 37 (by first | decide | omega))).trans hpr
                replace hpd := ((o_5 38 (by first | decide | omega))).trans hpd
                replace hfr := ((o_5 39 (by first | decide | omega))).trans hfr
                replace hfd := ((o_5 40 (by first | decide | omega))).trans hfd
                replace hor := ((o_5 41 (by first | decide | omega))).trans hor
                replace hod := ((o_5 42 (by first | decide | omega))).trans hod
                replace har := ((o_5 43 (by first | decide | omega))).trans har
                replace had := ((o_5 44 (by first | decide | omega))).trans had
                replace htr := ((o_5 45 (by first | decide | omega))).trans htr
                replace hct := ((o_5 46 (by first | decide | omega))).trans hct
                replace hla := ((o_5 47 (by first | decide | omega))).trans hla
                replace hlaa := ((o_5 48 (by first | decide | omega))).trans hlaa
                replace hts0 := ((o_5 112 (by first | decide | omega))).trans hts0
                replace htsa := ((o_5 113 (by first | decide | omega))).trans htsa
                replace hH : ∀ i, i < 10 → okH G g f_5 (2 * i + 16) := fun z hz => okH_fr (hH z hz) (o_5 _ (by omega)) (o_5 _ (by omega))
                replace hSp : okH G g f_5 13 := okH_fr hSp (o_5 _ (by omega)) (o_5 _ (by omega))
                replace hL : ∀ i, i < 20 → ltx G g f_5 (3 * i + 52) (LL i) (LG i) (i < na) := fun z hz => ltx_fr (hL z hz) (o_5 _ (by omega)) (o_5 _ (by omega)) (o_5 _ (by omega))
                replace hT : ∀ i, i < 4 → txt G g f_5 (3 * i + 117) (TL i) (TG i) := fun z hz => txt_fr (hT z hz) (o_5 _ (by omega)) (o_5 _ (by omega)) (o_5 _ (by omega))
                replace hB1 : bkD G g f_5 129 N1 E1 P1 L1 S1 W1 X1 := bkD_fr hB1 (fun j _ _ => o_5 j (by omega))
                replace hB2 : bkD G g f_5 222 N2 E2 P2 L2 S2 W2 X2 := bkD_fr hB2 (fun j _ _ => o_5 j (by omega))
                replace hQn : ∀ z, z < nt → cHz G g f_5 np nf nr na dp df dr da ct LL LG z := fun z hz => okQ_fr (hQn z hz) (o_5 _ (by omega)) (o_5 _ (by omega))
                exact W.iret (v := v9) hx hb hr (fun _ hT9 _ => ⟨⟨_, f_5, rfl, (⟨cJ_mk (nt) (hf) (imf) (mc) (op) (cm) (wu) (mk) (ab910) (be911) (mn) (le) (wt) (ww) (wb) (wf) (vv91) (lf) (tf) (hx0) (hctc) (hhs) (him) (hkp) (hrd) (hmk) (hfc6) (hwt) (hw8) (hw9) (hw10) (hw11) (hvl) (hbk) (hpr) (hpd) (hfr) (hfd) (hor) (hod) (har) (had) (htr) (hct) (hla) (hlaa) (hts0) (htsa) (by omega) (hhf) (him0) (him1) (by omega) (by omega) (by omega) (by omega) (by omega) (by omega) (by omega) (hlf) (htf) (by omega) (hH) (hSp) (hL) (hT) (hB1) (hB2) (hQn), fun j hj => (((o_5 j (by omega))).trans (o_3 j (by omega))).trans (o_1 j (by omega))⟩), by rw [hT9]; exact hP⟩, hS.F hT9⟩) hS.2.2 dX10_twelve_168
              · have hi3 : i ≤ 3 := Nat.not_lt.mp (fun z => c_114 (nI_lt (a := 3) z (by omega)))
                refine lv_lload hx hb dX10_twelve_117 (lv_at hl 3 rfl) ?_
                refine lv_iload hx hb dX10_twelve_119 (lv_at hl 2 rfl) ?_
                refine lv_aload_n hx hb dX10_twelve_121 rfl (lv_at hl 0 rfl) ?_
                refine va_get (D := G.1) (ci := 9) (v := .ref (g 36)) (C := RX10) (T := TX10) (N := 7) hx hb hts inlX10 hown hG.1 hP 0 (wl_at (by decide) hx0) rfl 1 (by decide) (hts (.fieldLink RX10 20 "SwornLists" "book" "LSwornLists$Book;") w_16) (fun _ h9 => h9) rfl dX10_twelve_122 ?_
                refine lv_iconst (v := 0) hx hb dX10_twelve_125 (by decide) ?_
                refine lv_iload hx hb dX10_twelve_126 (lv_at hl 4 rfl) ?_
                refine rd_calli (va_runV (As := [.int 0, .int (nI i)]) (rest := [.int v5, .long u]) ⟨hx, hb, hml, hown, hts⟩ (k_peopleWith l G g hg f_3 pay fine np dp 0 (nI i) hbk hpr hpd (by first | assumption | omega | decide)) (my_cwV hts ok_X0_peopleWith w_791 rfl rfl ⟨Nat.le_of_ble_eq_true rfl, Nat.le_of_ble_eq_true rfl⟩) ⟨bP.blind, va_recv hG.1 hP (ci := 0) (q0 := 36) rfl (wl_at (by decide) hbk), fun U hU hW => ⟨rfl, by rw [hU]; exact hP, kG.warm hW hG⟩⟩ rfl rfl hl.1 rfl (lv_room (Nat.le_of_ble_eq_true rfl)) dX10_twelve_128 ⟨Nat.le_of_ble_eq_true rfl, Nat.le_of_ble_eq_true rfl⟩) (fun v12 _ => ?_)
                refine lv_iand hx hb dX10_twelve_131 ?_
                refine rd_calli (va_runS (As := [.int (v5 &&& v12)]) (rest := [.long u]) ⟨hx, hb, hml, hown, hts⟩ (s_bitCount63 l G g hg f_3 (v5 &&& v12)  ) (my_cwS hts ok_J6_bitCount_0f7a4 w_792 rfl rfl ⟨Nat.le_of_ble_eq_true rfl, Nat.le_of_ble_eq_true rfl⟩) ⟨bP.blind, fun U hU hW => ⟨rfl, by rw [hU]; exact hP, kG.warm hW hG⟩⟩ rfl rfl hl.1 rfl (lv_room (Nat.le_of_ble_eq_true rfl)) dX10_twelve_132 ⟨Nat.le_of_ble_eq_true rfl, Nat.le_of_ble_eq_true rfl⟩) (fun r hr9 => ?_)
                obtain ⟨z813, rfl⟩ := hr9
                refine lv_iload hx hb dX10_twelve_135 (lv_at hl 1 rfl) ?_
                refine rd_calll (va_runS (As := [.int (z813 &&& 63), .int (atv ct nt 70 (nI tn) 2)]) (rest := [.long u]) ⟨hx, hb, hml, hown, hts⟩ (s_ways l G g hg f_3 (z813 &&& 63) (atv ct nt 70 (nI tn) 2)  (Int.lt_of_le_of_lt (and63 _) (by decide))) (my_cwS hts ok_X10_ways w_761 rfl rfl ⟨Nat.le_of_ble_eq_true rfl, Nat.le_of_ble_eq_true rfl⟩) ⟨bP.blind, fun U hU hW => ⟨rfl, by rw [hU]; exact hP, kG.warm hW hG⟩⟩ rfl rfl hl.1 rfl (lv_room (Nat.le_of_ble_eq_true rfl)) dX10_twelve_137 ⟨Nat.le_of_ble_eq_true rfl, Nat.le_of_ble_eq_true rfl⟩) (fun v14 _ => ?_)
                refine lv_ladd hx hb dX10_twelve_140 ?_
                refine lv_lstore (lv' := [(6, .long (u + v14)), (0, .ref (g 0)), (4, .int (atv ct nt 70 (nI tn) 2)), (5, .int v5), (8, .int (nI i))]) hx hb dX10_twelve_141 hl (by decide) rfl (fun ls hl => ?_)
                refine lv_iinc (v := nI (i + 1)) (lv' := [(8, .int (nI (i + 1))), (6, .long (u + v14)), (0, .ref (g 0)), (4, .int (atv ct nt 70 (nI tn) 2)), (5, .int v5)]) hx hb dX10_twelve_143 hl (k := 4) rfl (nI_1 i) (by decide) rfl (fun ls hl => ?_)
                refine lv_goto (tgt := 111) hx hb dX10_twelve_146 (by decide) ?_
                exact ih_6 (i + 1) (u + v14) f_3 _ _ _ (by omega) (hH) (hSp) (hL) (hT) (hB1) (hB2) (hQn) (by omega) (hx0) (hctc) (hhs) (him) (hkp) (hrd) (hmk) (hfc6) (hwt) (hw8) (hw9) (hw10) (hw11) (hvl) (hbk) (hpr) (hpd) (hfr) (hfd) (hor) (hod) (har) (had) (htr) (hct) (hla) (hlaa) (hts0) (htsa) (hh7) (ho7) (fun j hj => (o_3 j (by omega))) hP hS (lv_sub hl [2, 3, 4, 1, 0] rfl)
          exact key6 (4 + 1) 0 0 f_1 _ _ _ (by omega) (hH) (hSp) (hL) (hT) (hB1) (hB2) (hQn) (by omega) (hx0) (hctc) (hhs) (him) (hkp) (hrd) (hmk) (hfc6) (hwt) (hw8) (hw9) (hw10) (hw11) (hvl) (hbk) (hpr) (hpd) (hfr) (hfd) (hor) (hod) (har) (had) (htr) (hct) (hla) (hlaa) (hts0) (htsa) (hh7) (ho7) (fun j _ => rfl) hP hS (lv_sub hl [5, 3, 2, 1, 0] rfl)
        · have hi3 := hx_2_0 i3 rfl
          obtain ⟨sc3, sp3, ⟨htx3, hsx3, hpx3, hln3, hsc3⟩, hlw3⟩ := hL i3 (by omega)
          refine my_bea (v := .ref (g (3 * i3 + 52))) rfl ?_
          refine lv_iconst (v := 0) hx hb dX10_twelve_91 (by decide) ?_
          refine lv_iload_n hx hb dX10_twelve_92 rfl (lv_at hl 1 rfl) ?_
          refine lv_aload_n hx hb dX10_twelve_93 rfl (lv_at hl 2 rfl) ?_
          refine va_get (D := G.1) (ci := 9) (v := .ref (g 36)) (C := RX10) (T := TX10) (N := 7) hx hb hts inlX10 hown hG.1 hP 0 (wl_at (by decide) hx0) rfl 1 (by decide) (hts (.fieldLink RX10 20 "SwornLists" "book" "LSwornLists$Book;") w_16) (fun _ h9 => h9) rfl dX10_twelve_94 ?_
          replace hpr := ((o_1 37 (by first | decide | omega))).trans hpr
          replace hpd := ((o_1 38 (by first | decide | omega))).trans hpd
          refine rd_calli (va_runV (As := []) (rest := [.int (atv ct nt 70 (nI tn) 0), .int 0, .ref (g (3 * i3 + 52)), .ref (g 1)]) ⟨hx, hb, hml, hown, hts⟩ (k_everyone l G g hg f_1 pay fine np dp hbk hpr hpd (by first | assumption | omega | decide)) (my_cwV hts ok_X0_everyone w_198 rfl rfl ⟨Nat.le_of_ble_eq_true rfl, Nat.le_of_ble_eq_true rfl⟩) ⟨bP.blind, va_recv hG.1 hP (ci := 0) (q0 := 36) rfl (wl_at (by decide) hbk), fun U hU hW => ⟨rfl, by rw [hU]; exact hP, kG.warm hW hG⟩⟩ rfl rfl hl.1 rfl (lv_room (Nat.le_of_ble_eq_true rfl)) dX10_twelve_97 ⟨Nat.le_of_ble_eq_true rfl, Nat.le_of_ble_eq_true rfl⟩) (fun v15 _ => ?_)
          replace hhs := ((o_1 12 (by first | decide | omega))).trans hhs
          refine b_calli (va_runV (As := [.ref (g (3 * i3 + 52)), .int 0, .int (atv ct nt 70 (nI tn) 0), .int v15]) (rest := []) ⟨hx, hb, hml, hown, hts⟩ (u_truthsT l G g hg f_1 nt hf pay fine nt ct np dp (3 * i3 + 52) (LL i3) sc3 sp3 vv91 0 (atv ct nt 70 (nI tn) 0) v15 hctc hhs hbk htr hct hpr hpd htx3 hpx3 hvl (by first | assumption | omega | decide) (by first | assumption | omega | decide) (by first | assumption | omega | decide) (by first | assumption | omega | decide) (by first | assumption | omega | decide) (by first | assumption | omega | decide) (by first | assumption | omega | decide) (by first | assumption | omega | decide) (by first | assumption | omega | decide)) (my_cwV hts ok_X1_truths w_629 rfl rfl ⟨Nat.le_of_ble_eq_true rfl, Nat.le_of_ble_eq_true rfl⟩) ⟨bP.blind, va_recv hG.1 hP (ci := 1) (q0 := 1) rfl (wl_at (by decide) hctc), fun U hU hW => ⟨rfl, by rw [hU]; exact hP, kG.warm hW hG⟩⟩ rfl rfl hl.1 rfl (lv_room (Nat.le_of_ble_eq_true rfl)) dX10_twelve_100 ⟨Nat.le_of_ble_eq_true rfl, Nat.le_of_ble_eq_true rfl⟩) hS (fun v16 f_7 H locs hq9 hP hS => ?_)
          obtain ⟨vv917, hq_7_0, o_7⟩ := hq9
          have hvl : f_7 15 = eJ G 50 vv917 := hq_7_0
          refine lv_istore (lv' := [(5, .int v16), (4, .int (atv ct nt 70 (nI tn) 2)), (3, .int (atv ct nt 70 (nI tn) 0)), (0, .ref (g 0)), (1, .int (nI tn)), (2, .int a2)]) hx hb dX10_twelve_103 hl (by decide) rfl (fun ls hl => ?_)
          refine lv_lconst (v := 0) hx hb dX10_twelve_105 (by decide) ?_
          refine lv_lstore (lv' := [(6, .long 0), (5, .int v16), (4, .int (atv ct nt 70 (nI tn) 2)), (3, .int (atv ct nt 70 (nI tn) 0)), (0, .ref (g 0)), (1, .int (nI tn)), (2, .int a2)]) hx hb dX10_twelve_106 hl (by decide) rfl (fun ls hl => ?_)
          refine lv_iconst (v := 0) hx hb dX10_twelve_108 (by decide) ?_
          refine lv_istore (lv' := [(8, .int 0), (6, .long 0), (5, .int v16), (4, .int (atv ct nt 70 (nI tn) 2)), (3, .int (atv ct nt 70 (nI tn) 0)), (0, .ref (g 0)), (1, .int (nI tn)), (2, .int a2)]) hx hb dX10_twelve_109 hl (by decide) rfl (fun ls hl => ?_)
          replace hH : ∀ i, i < 10 → okH G g f_7 (2 * i + 16) := fun z hz => okH_fr (hH z hz) (o_7 _ (by omega)) (o_7 _ (by omega))
          replace hSp : okH G g f_1 13 := okH_fr hSp (o_1 _ (by omega)) (o_1 _ (by omega))
          replace hSp : okH G g f_7 13 := okH_fr hSp (o_7 _ (by omega)) (o_7 _ (by omega))
          replace hL : ∀ i, i < 20 → ltx G g f_7 (3 * i + 52) (LL i) (LG i) (i < na) := fun z hz => ltx_fr (hL z hz) (o_7 _ (by omega)) (o_7 _ (by omega)) (o_7 _ (by omega))
          replace hT : ∀ i, i < 4 → txt G g f_1 (3 * i + 117) (TL i) (TG i) := fun z hz => txt_fr (hT z hz) (o_1 _ (by omega)) (o_1 _ (by omega)) (o_1 _ (by omega))
          replace hT : ∀ i, i < 4 → txt G g f_7 (3 * i + 117) (TL i) (TG i) := fun z hz => txt_fr (hT z hz) (o_7 _ (by omega)) (o_7 _ (by omega)) (o_7 _ (by omega))
          replace hB1 : bkD G g f_1 129 N1 E1 P1 L1 S1 W1 X1 := bkD_fr hB1 (fun j _ _ => o_1 j (by omega))
          replace hB1 : bkD G g f_7 129 N1 E1 P1 L1 S1 W1 X1 := bkD_fr hB1 (fun j _ _ => o_7 j (by omega))
          replace hB2 : bkD G g f_1 222 N2 E2 P2 L2 S2 W2 X2 := bkD_fr hB2 (fun j _ _ => o_1 j (by omega))
          replace hB2 : bkD G g f_7 222 N2 E2 P2 L2 S2 W2 X2 := bkD_fr hB2 (fun j _ _ => o_7 j (by omega))
          replace hQn : ∀ z, z < nt → cHz G g f_7 np nf nr na dp df dr da ct LL LG z := fun z hz => okQ_fr (hQn z hz) (o_7 _ (by omega)) (o_7 _ (by omega))
          replace hx0 := ((o_7 0 (by first | decide | omega))).trans hx0
          replace hctc := ((o_7 1 (by first | decide | omega))).trans hctc
          replace hhs := ((o_7 12 (by first | decide | omega))).trans hhs
          replace him := ((o_7 2 (by first | decide | omega)).trans ((o_1 2 (by first | decide | omega)))).trans him
          replace hkp := ((o_7 3 (by first | decide | omega)).trans ((o_1 3 (by first | decide | omega)))).trans hkp
          replace hrd := ((o_7 4 (by first | decide | omega)).trans ((o_1 4 (by first | decide | omega)))).trans hrd
          replace hmk := ((o_7 5 (by first | decide | omega)).trans ((o_1 5 (by first | decide | omega)))).trans hmk
          replace hfc6 := ((o_7 6 (by first | decide | omega)).trans ((o_1 6 (by first | decide | omega)))).trans hfc6
          replace hwt := ((o_7 7 (by first | decide | omega)).trans ((o_1 7 (by first | decide | omega)))).trans hwt
          replace hw8 := ((o_7 8 (by first | decide | omega)).trans ((o_1 8 (by first | decide | omega)))).trans hw8
          replace hw9 := ((o_7 9 (by first | decide | omega)).trans ((o_1 9 (by first | decide | omega)))).trans hw9
          replace hw10 := ((o_7 10 (by first | decide | omega)).trans ((o_1 10 (by first | decide | omega)))).trans hw10
          replace hw11 := ((o_7 11 (by first | decide | omega)).trans ((o_1 11 (by first | decide | omega)))).trans hw11
          replace hbk := ((o_7 36 (by first | decide | omega))).trans hbk
          replace hpr := ((o_7 37 (by first | decide | omega))).trans hpr
          replace hpd := ((o_7 38 (by first | decide | omega))).trans hpd
          replace hfr := ((o_7 39 (by first | decide | omega)).trans ((o_1 39 (by first | decide | omega)))).trans hfr
          replace hfd := ((o_7 40 (by first | decide | omega)).trans ((o_1 40 (by first | decide | omega)))).trans hfd
          replace hor := ((o_7 41 (by first | decide | omega)).trans ((o_1 41 (by first | decide | omega)))).trans hor
          replace hod := ((o_7 42 (by first | decide | omega)).trans ((o_1 42 (by first | decide | omega)))).trans hod
          replace har := ((o_7 43 (by first | decide | omega))).trans har
          replace had := ((o_7 44 (by first | decide | omega))).trans had
          replace htr := ((o_7 45 (by first | decide | omega))).trans htr
          replace hct := ((o_7 46 (by first | decide | omega))).trans hct
          replace hla := ((o_7 47 (by first | decide | omega))).trans hla
          replace hlaa := ((o_7 48 (by first | decide | omega))).trans hlaa
          replace hts0 := ((o_7 112 (by first | decide | omega)).trans ((o_1 112 (by first | decide | omega)))).trans hts0
          replace htsa := ((o_7 113 (by first | decide | omega)).trans ((o_1 113 (by first | decide | omega)))).trans htsa
          replace hh7 : f_7 (2 * tn + 16) = eO 3 [.ref (g (2 * tn + 17)), .int (nI sl7), .int lo7, .int ib7, .int ca7, .int mi7, .int s07, .int s17, .int sw7] := ((o_7 (2 * tn + 16) (by omega))).trans hh7
          replace ho7 : f_7 (2 * tn + 17) = eI G 24 od7 := ((o_7 (2 * tn + 17) (by omega))).trans ho7
          replace htx3 : f_7 (3 * i3 + 52) = eO 7 [.ref (g (3 * i3 + 53)), .ref (g (3 * i3 + 54)), .int (nI (LL i3)), .int (nI sc3)] := ((o_7 (3 * i3 + 52) (by omega))).trans htx3
          replace hsx3 : f_7 (3 * i3 + 53) = eI G 50 (LG i3) := ((o_7 (3 * i3 + 53) (by omega))).trans hsx3
          replace hpx3 : f_7 (3 * i3 + 54) = eI G 50 sp3 := ((o_7 (3 * i3 + 54) (by omega))).trans hpx3
          have key18 : ∀ (n9_18 : Nat) (i : Nat) (u : Int64) (f_8 : Nat → va_E) (H : Heap) (locs : List Loc) (ls : Array Slot), (i ≤ 4) → (∀ i, i < 10 → okH G g f_8 (2 * i + 16)) → (okH G g f_8 13) → (∀ i, i < 20 → ltx G g f_8 (3 * i + 52) (LL i) (LG i) (i < na)) → (∀ i, i < 4 → txt G g f_8 (3 * i + 117) (TL i) (TG i)) → (bkD G g f_8 129 N1 E1 P1 L1 S1 W1 X1) → (bkD G g f_8 222 N2 E2 P2 L2 S2 W2 X2) → (∀ z, z < nt → cHz G g f_8 np nf nr na dp df dr da ct LL LG z) → 4 - i < n9_18 → f_8 0 = eO 9 [.ref (g 1), .ref (g 36), .ref (g 2), .ref (g 3), .ref (g 4), .ref (g 6), .ref (g 7)] → f_8 1 = eO 1 [.ref (g 36), .ref (g 12), .ref (g 13), .ref (g 15), .int (nI nt)] → f_8 12 = eA G 4 10 hf → f_8 2 = eA G 3 2 imf → f_8 3 = eZ G 2 kf → f_8 4 = eO 4 [.ref (g 5), .int (nI mc), .int op, .int cm, .int wu] → f_8 5 = eI G 50 mk → f_8 6 = eO 2 [.long ab, .long be] → f_8 7 = eO 8 [.ref (g 8), .ref (g 9), .ref (g 10), .ref (g 11), .int (nI mn), .int le] → f_8 8 = eI G 6 wt → f_8 9 = eI G 6 ww → f_8 10 = eI G 6 wb → f_8 11 = eI G 6 wf → f_8 15 = eJ G 50 vv917 → f_8 36 = eO 0 [.ref (g 37), .ref (g 39), .ref (g 41), .ref (g 43), .ref (g 45), .ref (g 47), .ref (g 112), .int pay, .int fine] → f_8 37 = eO 5 [.int (nI 30), .int (nI 4), .ref (g 38), .int (nI np)] → f_8 38 = eI G (30 * 4) dp → f_8 39 = eO 5 [.int (nI 40), .int (nI 3), .ref (g 40), .int (nI nf)] → f_8 40 = eI G (40 * 3) df → f_8 41 = eO 5 [.int (nI 4), .int (nI 3), .ref (g 42), .int (nI nr)] → f_8 42 = eI G (4 * 3) dr → f_8 43 = eO 5 [.int (nI 20), .int (nI 3), .ref (g 44), .int (nI na)] → f_8 44 = eI G (20 * 3) da → f_8 45 = eO 5 [.int (nI 10), .int (nI 70), .ref (g 46), .int (nI nt)] → f_8 46 = eI G (10 * 70) ct → f_8 47 = eO 6 [.ref (g 48), .ref (g 49)] → f_8 48 = eA G 5 20 lf → f_8 112 = eO 6 [.ref (g 113), .ref (g 114)] → f_8 113 = eA G 5 4 tf → f_8 (2 * tn + 16) = eO 3 [.ref (g (2 * tn + 17)), .int (nI sl7), .int lo7, .int ib7, .int ca7, .int mi7, .int s07, .int s17, .int sw7] → f_8 (2 * tn + 17) = eI G 24 od7 → f_8 (3 * i3 + 52) = eO 7 [.ref (g (3 * i3 + 53)), .ref (g (3 * i3 + 54)), .int (nI (LL i3)), .int (nI sc3)] → f_8 (3 * i3 + 53) = eI G 50 (LG i3) → f_8 (3 * i3 + 54) = eI G 50 sp3 → (∀ j, (j < 333 ∨ 333 ≤ j) → f_8 j = f_7 j) → va_P G.1 vwCl (wl g f_8) H → va_S (gA g) s.heap H locs → lv_has ls 9 [(0, .ref (g 0)), (4, .int (atv ct nt 70 (nI tn) 2)), (5, .int v16), (6, .long u), (8, .int (nI i))] → W p l e (headSpec (wsT yX10_twelve cX10_twelve 9 (some .int)) ({ frames := 7, cells := 0, slots := 0, locals := 176 })).room s m ([.ref (g 0), .int (nI tn), .int a2] : List Value).toArray below meth c H locs 0 0 Q9 (F0 m 111 ls []) := by
            intro n9_18
            induction n9_18 with
            | zero => intro i u f_8 H locs ls hi hH hSp hL hT hB1 hB2 hQn hn9_18; exact absurd hn9_18 (Nat.not_lt_zero _)
            | succ n9_18 ih_18 =>
              intro i u f_8 H locs ls hi hH hSp hL hT hB1 hB2 hQn hn9_18 hx0 hctc hhs him hkp hrd hmk hfc6 hwt hw8 hw9 hw10 hw11 hvl hbk hpr hpd hfr hfd hor hod har had htr hct hla hlaa hts0 htsa hh7 ho7 htx3 hsx3 hpx3 o_8 hP hS hl
              refine lv_iload hx hb dX10_twelve_111 (lv_at hl 4 rfl) ?_
              refine lv_iconst (v := 3) hx hb dX10_twelve_113 (by decide) ?_
              refine lv_icmp_gt (tgt := 149) hx hb dX10_twelve_114 (by decide) (fun c_114 => ?_) (fun c_114 => ?_)
              · refine lv_aload_n hx hb dX10_twelve_149 rfl (lv_at hl 0 rfl) ?_
                refine va_get (D := G.1) (ci := 9) (v := .ref (g 6)) (C := RX10) (T := TX10) (N := 7) hx hb hts inlX10 hown hG.1 hP 0 (wl_at (by decide) hx0) rfl 5 (by decide) (hts (.fieldLink RX10 41 "SwornLists" "fraction" "LSwornLists$Fraction;") w_28) (fun _ h9 => h9) rfl dX10_twelve_150 ?_
                refine lv_lload hx hb dX10_twelve_153 (lv_at hl 3 rfl) ?_
                refine lv_iload hx hb dX10_twelve_155 (lv_at hl 2 rfl) ?_
                refine rd_calli (va_runS (As := [.int v16]) (rest := [.long u, .ref (g 6)]) ⟨hx, hb, hml, hown, hts⟩ (s_bitCount63 l G g hg f_8 v16  ) (my_cwS hts ok_J6_bitCount_0f7a4 w_792 rfl rfl ⟨Nat.le_of_ble_eq_true rfl, Nat.le_of_ble_eq_true rfl⟩) ⟨bP.blind, fun U hU hW => ⟨rfl, by rw [hU]; exact hP, kG.warm hW hG⟩⟩ rfl rfl hl.1 rfl (lv_room (Nat.le_of_ble_eq_true rfl)) dX10_twelve_157 ⟨Nat.le_of_ble_eq_true rfl, Nat.le_of_ble_eq_true rfl⟩) (fun r hr9 => ?_)
                obtain ⟨z819, rfl⟩ := hr9
                refine lv_iload hx hb dX10_twelve_160 (lv_at hl 1 rfl) ?_
                refine rd_calll (va_runS (As := [.int (z819 &&& 63), .int (atv ct nt 70 (nI tn) 2)]) (rest := [.long u, .ref (g 6)]) ⟨hx, hb, hml, hown, hts⟩ (s_ways l G g hg f_8 (z819 &&& 63) (atv ct nt 70 (nI tn) 2)  (Int.lt_of_le_of_lt (and63 _) (by decide))) (my_cwS hts ok_X10_ways w_761 rfl rfl ⟨Nat.le_of_ble_eq_true rfl, Nat.le_of_ble_eq_true rfl⟩) ⟨bP.blind, fun U hU hW => ⟨rfl, by rw [hU]; exact hP, kG.warm hW hG⟩⟩ rfl rfl hl.1 rfl (lv_room (Nat.le_of_ble_eq_true rfl)) dX10_twelve_162 ⟨Nat.le_of_ble_eq_true rfl, Nat.le_of_ble_eq_true rfl⟩) (fun v20 _ => ?_)
                refine b_calli (va_runV (As := [.long u, .long v20]) (rest := []) ⟨hx, hb, hml, hown, hts⟩ (f_become l G g hg f_8 ab be u v20 hfc6 ) (my_cwV hts ok_X2_become w_764 rfl rfl ⟨Nat.le_of_ble_eq_true rfl, Nat.le_of_ble_eq_true rfl⟩) ⟨bP.blind, va_recv hG.1 hP (ci := 2) (q0 := 6) rfl (wl_at (by decide) hfc6), fun U hU hW => ⟨rfl, by rw [hU]; exact hP, kG.warm hW hG⟩⟩ rfl rfl hl.1 rfl (lv_room (Nat.le_of_ble_eq_true rfl)) dX10_twelve_165 ⟨Nat.le_of_ble_eq_true rfl, Nat.le_of_ble_eq_true rfl⟩) hS (fun v21 f_10 H locs hq9 hP hS => ?_)
                obtain ⟨ab922, be923, hq_10_0, o_10⟩ := hq9
                have hfc6 : f_10 6 = eO 2 [.long ab922, .long be923] := hq_10_0
                refine W_q9 hQ9 ?_
                replace hx0 := ((o_10 0 (by first | decide | omega))).trans hx0
                replace hctc := ((o_10 1 (by first | decide | omega))).trans hctc
                replace hhs := ((o_10 12 (by first | decide | omega))).trans hhs
                replace him := ((o_10 2 (by first | decide | omega))).trans him
                replace hkp := ((o_10 3 (by first | decide | omega))).trans hkp
                replace hrd := ((o_10 4 (by first | decide | omega))).trans hrd
                replace hmk := ((o_10 5 (by first | decide | omega))).trans hmk
                replace hwt := ((o_10 7 (by first | decide | omega))).trans hwt
                replace hw8 := ((o_10 8 (by first | decide | omega))).trans hw8
                replace hw9 := ((o_10 9 (by first | decide | omega))).trans hw9
                replace hw10 := ((o_10 10 (by first | decide | omega))).trans hw10
                replace hw11 := ((o_10 11 (by first | decide | omega))).trans hw11
                replace hvl := ((o_10 15 (by first | decide | omega))).trans hvl
                replace hbk := ((o_10 36 (by first | decide | omega))).trans hbk
                replace hpr := ((o_10 37 (by first | decide | omega))).trans hpr
                replace hpd := ((o_10 38 (by first | decide | omega))).trans hpd
                replace hfr := ((o_10 39 (by first | decide | omega))).trans hfr
                replace hfd := ((o_10 40 (by first | decide | omega))).trans hfd
                replace hor := ((o_10 41 (by first | decide | omega))).trans hor
                replace hod := ((o_10 42 (by first | decide | omega))).trans hod
                replace har := ((o_10 43 (by first | decide | omega))).trans har
                replace had := ((o_10 44 (by first | decide | omega))).trans had
                replace htr := ((o_10 45 (by first | decide | omega))).trans htr
                replace hct := ((o_10 46 (by first | decide | omega))).trans hct
                replace hla := ((o_10 47 (by first | decide | omega))).trans hla
                replace hlaa := ((o_10 48 (by first | decide | omega))).trans hlaa
                replace hts0 := ((o_10 112 (by first | decide | omega))).trans hts0
                replace htsa := ((o_10 113 (by first | decide | omega))).trans htsa
                replace hH : ∀ i, i < 10 → okH G g f_10 (2 * i + 16) := fun z hz => okH_fr (hH z hz) (o_10 _ (by omega)) (o_10 _ (by omega))
                replace hSp : okH G g f_10 13 := okH_fr hSp (o_10 _ (by omega)) (o_10 _ (by omega))
                replace hL : ∀ i, i < 20 → ltx G g f_10 (3 * i + 52) (LL i) (LG i) (i < na) := fun z hz => ltx_fr (hL z hz) (o_10 _ (by omega)) (o_10 _ (by omega)) (o_10 _ (by omega))
                replace hT : ∀ i, i < 4 → txt G g f_10 (3 * i + 117) (TL i) (TG i) := fun z hz => txt_fr (hT z hz) (o_10 _ (by omega)) (o_10 _ (by omega)) (o_10 _ (by omega))
                replace hB1 : bkD G g f_10 129 N1 E1 P1 L1 S1 W1 X1 := bkD_fr hB1 (fun j _ _ => o_10 j (by omega))
                replace hB2 : bkD G g f_10 222 N2 E2 P2 L2 S2 W2 X2 := bkD_fr hB2 (fun j _ _ => o_10 j (by omega))
                replace hQn : ∀ z, z < nt → cHz G g f_10 np nf nr na dp df dr da ct LL LG z := fun z hz => okQ_fr (hQn z hz) (o_10 _ (by omega)) (o_10 _ (by omega))
                exact W.iret (v := v21) hx hb hr (fun _ hT9 _ => ⟨⟨_, f_10, rfl, (⟨cJ_mk (nt) (hf) (imf) (mc) (op) (cm) (wu) (mk) (ab922) (be923) (mn) (le) (wt) (ww) (wb) (wf) (vv917) (lf) (tf) (hx0) (hctc) (hhs) (him) (hkp) (hrd) (hmk) (hfc6) (hwt) (hw8) (hw9) (hw10) (hw11) (hvl) (hbk) (hpr) (hpd) (hfr) (hfd) (hor) (hod) (har) (had) (htr) (hct) (hla) (hlaa) (hts0) (htsa) (by omega) (hhf) (him0) (him1) (by omega) (by omega) (by omega) (by omega) (by omega) (by omega) (by omega) (hlf) (htf) (by omega) (hH) (hSp) (hL) (hT) (hB1) (hB2) (hQn), fun j hj => ((((o_10 j (by omega))).trans (o_8 j (by omega))).trans (o_7 j (by omega))).trans (o_1 j (by omega))⟩), by rw [hT9]; exact hP⟩, hS.F hT9⟩) hS.2.2 dX10_twelve_168
              · have hi3 : i ≤ 3 := Nat.not_lt.mp (fun z => c_114 (nI_lt (a := 3) z (by omega)))
                refine lv_lload hx hb dX10_twelve_117 (lv_at hl 3 rfl) ?_
                refine lv_iload hx hb dX10_twelve_119 (lv_at hl 2 rfl) ?_
                refine lv_aload_n hx hb dX10_twelve_121 rfl (lv_at hl 0 rfl) ?_
                refine va_get (D := G.1) (ci := 9) (v := .ref (g 36)) (C := RX10) (T := TX10) (N := 7) hx hb hts inlX10 hown hG.1 hP 0 (wl_at (by decide) hx0) rfl 1 (by decide) (hts (.fieldLink RX10 20 "SwornLists" "book" "LSwornLists$Book;") w_16) (fun _ h9 => h9) rfl dX10_twelve_122 ?_
                refine lv_iconst (v := 0) hx hb dX10_twelve_125 (by decide) ?_
                refine lv_iload hx hb dX10_twelve_126 (lv_at hl 4 rfl) ?_
                refine rd_calli (va_runV (As := [.int 0, .int (nI i)]) (rest := [.int v16, .long u]) ⟨hx, hb, hml, hown, hts⟩ (k_peopleWith l G g hg f_8 pay fine np dp 0 (nI i) hbk hpr hpd (by first | assumption | omega | decide)) (my_cwV hts ok_X0_peopleWith w_791 rfl rfl ⟨Nat.le_of_ble_eq_true rfl, Nat.le_of_ble_eq_true rfl⟩) ⟨bP.blind, va_recv hG.1 hP (ci := 0) (q0 := 36) rfl (wl_at (by decide) hbk), fun U hU hW => ⟨rfl, by rw [hU]; exact hP, kG.warm hW hG⟩⟩ rfl rfl hl.1 rfl (lv_room (Nat.le_of_ble_eq_true rfl)) dX10_twelve_128 ⟨Nat.le_of_ble_eq_true rfl, Nat.le_of_ble_eq_true rfl⟩) (fun v24 _ => ?_)
                refine lv_iand hx hb dX10_twelve_131 ?_
                refine rd_calli (va_runS (As := [.int (v16 &&& v24)]) (rest := [.long u]) ⟨hx, hb, hml, hown, hts⟩ (s_bitCount63 l G g hg f_8 (v16 &&& v24)  ) (my_cwS hts ok_J6_bitCount_0f7a4 w_792 rfl rfl ⟨Nat.le_of_ble_eq_true rfl, Nat.le_of_ble_eq_true rfl⟩) ⟨bP.blind, fun U hU hW => ⟨rfl, by rw [hU]; exact hP, kG.warm hW hG⟩⟩ rfl rfl hl.1 rfl (lv_room (Nat.le_of_ble_eq_true rfl)) dX10_twelve_132 ⟨Nat.le_of_ble_eq_true rfl, Nat.le_of_ble_eq_true rfl⟩) (fun r hr9 => ?_)
                obtain ⟨z825, rfl⟩ := hr9
                refine lv_iload hx hb dX10_twelve_135 (lv_at hl 1 rfl) ?_
                refine rd_calll (va_runS (As := [.int (z825 &&& 63), .int (atv ct nt 70 (nI tn) 2)]) (rest := [.long u]) ⟨hx, hb, hml, hown, hts⟩ (s_ways l G g hg f_8 (z825 &&& 63) (atv ct nt 70 (nI tn) 2)  (Int.lt_of_le_of_lt (and63 _) (by decide))) (my_cwS hts ok_X10_ways w_761 rfl rfl ⟨Nat.le_of_ble_eq_true rfl, Nat.le_of_ble_eq_true rfl⟩) ⟨bP.blind, fun U hU hW => ⟨rfl, by rw [hU]; exact hP, kG.warm hW hG⟩⟩ rfl rfl hl.1 rfl (lv_room (Nat.le_of_ble_eq_true rfl)) dX10_twelve_137 ⟨Nat.le_of_ble_eq_true rfl, Nat.le_of_ble_eq_true rfl⟩) (fun v26 _ => ?_)
                refine lv_ladd hx hb dX10_twelve_140 ?_
                refine lv_lstore (lv' := [(6, .long (u + v26)), (0, .ref (g 0)), (4, .int (atv ct nt 70 (nI tn) 2)), (5, .int v16), (8, .int (nI i))]) hx hb dX10_twelve_141 hl (by decide) rfl (fun ls hl => ?_)
                refine lv_iinc (v := nI (i + 1)) (lv' := [(8, .int (nI (i + 1))), (6, .long (u + v26)), (0, .ref (g 0)), (4, .int (atv ct nt 70 (nI tn) 2)), (5, .int v16)]) hx hb dX10_twelve_143 hl (k := 4) rfl (nI_1 i) (by decide) rfl (fun ls hl => ?_)
                refine lv_goto (tgt := 111) hx hb dX10_twelve_146 (by decide) ?_
                exact ih_18 (i + 1) (u + v26) f_8 _ _ _ (by omega) (hH) (hSp) (hL) (hT) (hB1) (hB2) (hQn) (by omega) (hx0) (hctc) (hhs) (him) (hkp) (hrd) (hmk) (hfc6) (hwt) (hw8) (hw9) (hw10) (hw11) (hvl) (hbk) (hpr) (hpd) (hfr) (hfd) (hor) (hod) (har) (had) (htr) (hct) (hla) (hlaa) (hts0) (htsa) (hh7) (ho7) (htx3) (hsx3) (hpx3) (fun j hj => (o_8 j (by omega))) hP hS (lv_sub hl [2, 3, 4, 1, 0] rfl)
          exact key18 (4 + 1) 0 0 f_7 _ _ _ (by omega) (hH) (hSp) (hL) (hT) (hB1) (hB2) (hQn) (by omega) (hx0) (hctc) (hhs) (him) (hkp) (hrd) (hmk) (hfc6) (hwt) (hw8) (hw9) (hw10) (hw11) (hvl) (hbk) (hpr) (hpd) (hfr) (hfd) (hor) (hod) (har) (had) (htr) (hct) (hla) (hlaa) (hts0) (htsa) (hh7) (ho7) (htx3) (hsx3) (hpx3) (fun j _ => rfl) hP hS (lv_sub hl [5, 3, 2, 1, 0] rfl)
      · refine lv_aload_n hx hb dX10_twelve_64 rfl (lv_at hl 2 rfl) ?_
        refine va_get (D := G.1) (ci := 9) (v := .ref (g 1)) (C := RX10) (T := TX10) (N := 7) hx hb hts inlX10 hown hG.1 hP 0 (wl_at (by decide) hx0) rfl 0 (by decide) (hts (.fieldLink RX10 12 "SwornLists" "court" "LSwornLists$Court;") w_15) (fun _ h9 => h9) rfl dX10_twelve_65 ?_
        refine lv_iload_n hx hb dX10_twelve_68 rfl (lv_at hl 3 rfl) ?_
        replace hhs := ((o_1 12 (by first | decide | omega))).trans hhs
        refine rd_calla (va_runV (As := [.int (nI tn)]) (rest := []) ⟨hx, hb, hml, hown, hts⟩ (u_hearing l G g hg f_1 nt hf tn hctc hhs (by first | assumption | omega | decide) (by first | assumption | omega | decide) (by first | assumption | omega | decide)) (my_cwV hts ok_X1_hearing w_675 rfl rfl ⟨Nat.le_of_ble_eq_true rfl, Nat.le_of_ble_eq_true rfl⟩) ⟨bP.blind, va_recv hG.1 hP (ci := 1) (q0 := 1) rfl (wl_at (by decide) hctc), fun U hU hW => ⟨rfl, by rw [hU]; exact hP, kG.warm hW hG⟩⟩ rfl rfl hl.1 rfl (lv_room (Nat.le_of_ble_eq_true rfl)) dX10_twelve_69 ⟨Nat.le_of_ble_eq_true rfl, Nat.le_of_ble_eq_true rfl⟩) (fun r hr9 => ?_)
        subst hr9
        refine va_getN (D := G.1) (ci := 3) (v := .int ib7) (C := RX3) (T := TX3) (N := 9) (host := RX10) hx hb hts inlX3 hown hG.1 hP (2 * tn + 16) (wl_at (by omega) hh7) rfl 3 (by decide) (va_Nw.use rfl (hG.2.1 (.fieldLinkNest RX10 176 RX3 "inBox" "I" RX10) (List.mem_of_getElem? (i := 13) rfl))) (fun _ h9 => h9) rfl dX10_twelve_72 ?_
        refine lv_goto (tgt := 103) hx hb dX10_twelve_75 (by decide) ?_
        refine lv_istore (lv' := [(5, .int ib7), (4, .int (atv ct nt 70 (nI tn) 2)), (3, .int (atv ct nt 70 (nI tn) 0)), (0, .ref (g 0)), (1, .int (nI tn)), (2, .int a2)]) hx hb dX10_twelve_103 hl (by decide) rfl (fun ls hl => ?_)
        refine lv_lconst (v := 0) hx hb dX10_twelve_105 (by decide) ?_
        refine lv_lstore (lv' := [(6, .long 0), (5, .int ib7), (4, .int (atv ct nt 70 (nI tn) 2)), (3, .int (atv ct nt 70 (nI tn) 0)), (0, .ref (g 0)), (1, .int (nI tn)), (2, .int a2)]) hx hb dX10_twelve_106 hl (by decide) rfl (fun ls hl => ?_)
        refine lv_iconst (v := 0) hx hb dX10_twelve_108 (by decide) ?_
        refine lv_istore (lv' := [(8, .int 0), (6, .long 0), (5, .int ib7), (4, .int (atv ct nt 70 (nI tn) 2)), (3, .int (atv ct nt 70 (nI tn) 0)), (0, .ref (g 0)), (1, .int (nI tn)), (2, .int a2)]) hx hb dX10_twelve_109 hl (by decide) rfl (fun ls hl => ?_)
        replace hSp : okH G g f_1 13 := okH_fr hSp (o_1 _ (by omega)) (o_1 _ (by omega))
        replace hL : ∀ i, i < 20 → ltx G g f_1 (3 * i + 52) (LL i) (LG i) (i < na) := fun z hz => ltx_fr (hL z hz) (o_1 _ (by omega)) (o_1 _ (by omega)) (o_1 _ (by omega))
        replace hT : ∀ i, i < 4 → txt G g f_1 (3 * i + 117) (TL i) (TG i) := fun z hz => txt_fr (hT z hz) (o_1 _ (by omega)) (o_1 _ (by omega)) (o_1 _ (by omega))
        replace hB1 : bkD G g f_1 129 N1 E1 P1 L1 S1 W1 X1 := bkD_fr hB1 (fun j _ _ => o_1 j (by omega))
        replace hB2 : bkD G g f_1 222 N2 E2 P2 L2 S2 W2 X2 := bkD_fr hB2 (fun j _ _ => o_1 j (by omega))
        replace him := ((o_1 2 (by first | decide | omega))).trans him
        replace hkp := ((o_1 3 (by first | decide | omega))).trans hkp
        replace hrd := ((o_1 4 (by first | decide | omega))).trans hrd
        replace hmk := ((o_1 5 (by first | decide | omega))).trans hmk
        replace hfc6 := ((o_1 6 (by first | decide | omega))).trans hfc6
        replace hwt := ((o_1 7 (by first | decide | omega))).trans hwt
        replace hw8 := ((o_1 8 (by first | decide | omega))).trans hw8
        replace hw9 := ((o_1 9 (by first | decide | omega))).trans hw9
        replace hw10 := ((o_1 10 (by first | decide | omega))).trans hw10
        replace hw11 := ((o_1 11 (by first | decide | omega))).trans hw11
        replace hpr := ((o_1 37 (by first | decide | omega))).trans hpr
        replace hpd := ((o_1 38 (by first | decide | omega))).trans hpd
        replace hfr := ((o_1 39 (by first | decide | omega))).trans hfr
        replace hfd := ((o_1 40 (by first | decide | omega))).trans hfd
        replace hor := ((o_1 41 (by first | decide | omega))).trans hor
        replace hod := ((o_1 42 (by first | decide | omega))).trans hod
        replace har := ((o_1 43 (by first | decide | omega))).trans har
        replace had := ((o_1 44 (by first | decide | omega))).trans had
        replace hla := ((o_1 47 (by first | decide | omega))).trans hla
        replace hlaa := ((o_1 48 (by first | decide | omega))).trans hlaa
        replace hts0 := ((o_1 112 (by first | decide | omega))).trans hts0
        replace htsa := ((o_1 113 (by first | decide | omega))).trans htsa
        have key27 : ∀ (n9_27 : Nat) (i : Nat) (u : Int64) (f_12 : Nat → va_E) (H : Heap) (locs : List Loc) (ls : Array Slot), (i ≤ 4) → (∀ i, i < 10 → okH G g f_12 (2 * i + 16)) → (okH G g f_12 13) → (∀ i, i < 20 → ltx G g f_12 (3 * i + 52) (LL i) (LG i) (i < na)) → (∀ i, i < 4 → txt G g f_12 (3 * i + 117) (TL i) (TG i)) → (bkD G g f_12 129 N1 E1 P1 L1 S1 W1 X1) → (bkD G g f_12 222 N2 E2 P2 L2 S2 W2 X2) → (∀ z, z < nt → cHz G g f_12 np nf nr na dp df dr da ct LL LG z) → 4 - i < n9_27 → f_12 0 = eO 9 [.ref (g 1), .ref (g 36), .ref (g 2), .ref (g 3), .ref (g 4), .ref (g 6), .ref (g 7)] → f_12 1 = eO 1 [.ref (g 36), .ref (g 12), .ref (g 13), .ref (g 15), .int (nI nt)] → f_12 12 = eA G 4 10 hf → f_12 2 = eA G 3 2 imf → f_12 3 = eZ G 2 kf → f_12 4 = eO 4 [.ref (g 5), .int (nI mc), .int op, .int cm, .int wu] → f_12 5 = eI G 50 mk → f_12 6 = eO 2 [.long ab, .long be] → f_12 7 = eO 8 [.ref (g 8), .ref (g 9), .ref (g 10), .ref (g 11), .int (nI mn), .int le] → f_12 8 = eI G 6 wt → f_12 9 = eI G 6 ww → f_12 10 = eI G 6 wb → f_12 11 = eI G 6 wf → f_12 15 = eJ G 50 vv91 → f_12 36 = eO 0 [.ref (g 37), .ref (g 39), .ref (g 41), .ref (g 43), .ref (g 45), .ref (g 47), .ref (g 112), .int pay, .int fine] → f_12 37 = eO 5 [.int (nI 30), .int (nI 4), .ref (g 38), .int (nI np)] → f_12 38 = eI G (30 * 4) dp → f_12 39 = eO 5 [.int (nI 40), .int (nI 3), .ref (g 40), .int (nI nf)] → f_12 40 = eI G (40 * 3) df → f_12 41 = eO 5 [.int (nI 4), .int (nI 3), .ref (g 42), .int (nI nr)] → f_12 42 = eI G (4 * 3) dr → f_12 43 = eO 5 [.int (nI 20), .int (nI 3), .ref (g 44), .int (nI na)] → f_12 44 = eI G (20 * 3) da → f_12 45 = eO 5 [.int (nI 10), .int (nI 70), .ref (g 46), .int (nI nt)] → f_12 46 = eI G (10 * 70) ct → f_12 47 = eO 6 [.ref (g 48), .ref (g 49)] → f_12 48 = eA G 5 20 lf → f_12 112 = eO 6 [.ref (g 113), .ref (g 114)] → f_12 113 = eA G 5 4 tf → f_12 (2 * tn + 16) = eO 3 [.ref (g (2 * tn + 17)), .int (nI sl7), .int lo7, .int ib7, .int ca7, .int mi7, .int s07, .int s17, .int sw7] → f_12 (2 * tn + 17) = eI G 24 od7 → (∀ j, (j < 333 ∨ 333 ≤ j) → f_12 j = f_1 j) → va_P G.1 vwCl (wl g f_12) H → va_S (gA g) s.heap H locs → lv_has ls 9 [(0, .ref (g 0)), (4, .int (atv ct nt 70 (nI tn) 2)), (5, .int ib7), (6, .long u), (8, .int (nI i))] → W p l e (headSpec (wsT yX10_twelve cX10_twelve 9 (some .int)) ({ frames := 7, cells := 0, slots := 0, locals := 176 })).room s m ([.ref (g 0), .int (nI tn), .int a2] : List Value).toArray below meth c H locs 0 0 Q9 (F0 m 111 ls []) := by
          intro n9_27
          induction n9_27 with
          | zero => intro i u f_12 H locs ls hi hH hSp hL hT hB1 hB2 hQn hn9_27; exact absurd hn9_27 (Nat.not_lt_zero _)
          | succ n9_27 ih_27 =>
            intro i u f_12 H locs ls hi hH hSp hL hT hB1 hB2 hQn hn9_27 hx0 hctc hhs him hkp hrd hmk hfc6 hwt hw8 hw9 hw10 hw11 hvl hbk hpr hpd hfr hfd hor hod har had htr hct hla hlaa hts0 htsa hh7 ho7 o_12 hP hS hl
            refine lv_iload hx hb dX10_twelve_111 (lv_at hl 4 rfl) ?_
            refine lv_iconst (v := 3) hx hb dX10_twelve_113 (by decide) ?_
            refine lv_icmp_gt (tgt := 149) hx hb dX10_twelve_114 (by decide) (fun c_114 => ?_) (fun c_114 => ?_)
            · refine lv_aload_n hx hb dX10_twelve_149 rfl (lv_at hl 0 rfl) ?_
              refine va_get (D := G.1) (ci := 9) (v := .ref (g 6)) (C := RX10) (T := TX10) (N := 7) hx hb hts inlX10 hown hG.1 hP 0 (wl_at (by decide) hx0) rfl 5 (by decide) (hts (.fieldLink RX10 41 "SwornLists" "fraction" "LSwornLists$Fraction;") w_28) (fun _ h9 => h9) rfl dX10_twelve_150 ?_
              refine lv_lload hx hb dX10_twelve_153 (lv_at hl 3 rfl) ?_
              refine lv_iload hx hb dX10_twelve_155 (lv_at hl 2 rfl) ?_
              refine rd_calli (va_runS (As := [.int ib7]) (rest := [.long u, .ref (g 6)]) ⟨hx, hb, hml, hown, hts⟩ (s_bitCount63 l G g hg f_12 ib7  ) (my_cwS hts ok_J6_bitCount_0f7a4 w_792 rfl rfl ⟨Nat.le_of_ble_eq_true rfl, Nat.le_of_ble_eq_true rfl⟩) ⟨bP.blind, fun U hU hW => ⟨rfl, by rw [hU]; exact hP, kG.warm hW hG⟩⟩ rfl rfl hl.1 rfl (lv_room (Nat.le_of_ble_eq_true rfl)) dX10_twelve_157 ⟨Nat.le_of_ble_eq_true rfl, Nat.le_of_ble_eq_true rfl⟩) (fun r hr9 => ?_)
              obtain ⟨z828, rfl⟩ := hr9
              refine lv_iload hx hb dX10_twelve_160 (lv_at hl 1 rfl) ?_
              refine rd_calll (va_runS (As := [.int (z828 &&& 63), .int (atv ct nt 70 (nI tn) 2)]) (rest := [.long u, .ref (g 6)]) ⟨hx, hb, hml, hown, hts⟩ (s_ways l G g hg f_12 (z828 &&& 63) (atv ct nt 70 (nI tn) 2)  (Int.lt_of_le_of_lt (and63 _) (by decide))) (my_cwS hts ok_X10_ways w_761 rfl rfl ⟨Nat.le_of_ble_eq_true rfl, Nat.le_of_ble_eq_true rfl⟩) ⟨bP.blind, fun U hU hW => ⟨rfl, by rw [hU]; exact hP, kG.warm hW hG⟩⟩ rfl rfl hl.1 rfl (lv_room (Nat.le_of_ble_eq_true rfl)) dX10_twelve_162 ⟨Nat.le_of_ble_eq_true rfl, Nat.le_of_ble_eq_true rfl⟩) (fun v29 _ => ?_)
              refine b_calli (va_runV (As := [.long u, .long v29]) (rest := []) ⟨hx, hb, hml, hown, hts⟩ (f_become l G g hg f_12 ab be u v29 hfc6 ) (my_cwV hts ok_X2_become w_764 rfl rfl ⟨Nat.le_of_ble_eq_true rfl, Nat.le_of_ble_eq_true rfl⟩) ⟨bP.blind, va_recv hG.1 hP (ci := 2) (q0 := 6) rfl (wl_at (by decide) hfc6), fun U hU hW => ⟨rfl, by rw [hU]; exact hP, kG.warm hW hG⟩⟩ rfl rfl hl.1 rfl (lv_room (Nat.le_of_ble_eq_true rfl)) dX10_twelve_165 ⟨Nat.le_of_ble_eq_true rfl, Nat.le_of_ble_eq_true rfl⟩) hS (fun v30 f_14 H locs hq9 hP hS => ?_)
              obtain ⟨ab931, be932, hq_14_0, o_14⟩ := hq9
              have hfc6 : f_14 6 = eO 2 [.long ab931, .long be932] := hq_14_0
              refine W_q9 hQ9 ?_
              replace hx0 := ((o_14 0 (by first | decide | omega))).trans hx0
              replace hctc := ((o_14 1 (by first | decide | omega))).trans hctc
              replace hhs := ((o_14 12 (by first | decide | omega))).trans hhs
              replace him := ((o_14 2 (by first | decide | omega))).trans him
              replace hkp := ((o_14 3 (by first | decide | omega))).trans hkp
              replace hrd := ((o_14 4 (by first | decide | omega))).trans hrd
              replace hmk := ((o_14 5 (by first | decide | omega))).trans hmk
              replace hwt := ((o_14 7 (by first | decide | omega))).trans hwt
              replace hw8 := ((o_14 8 (by first | decide | omega))).trans hw8
              replace hw9 := ((o_14 9 (by first | decide | omega))).trans hw9
              replace hw10 := ((o_14 10 (by first | decide | omega))).trans hw10
              replace hw11 := ((o_14 11 (by first | decide | omega))).trans hw11
              replace hvl := ((o_14 15 (by first | decide | omega))).trans hvl
              replace hbk := ((o_14 36 (by first | decide | omega))).trans hbk
              replace hpr := ((o_14 37 (by first | decide | omega))).trans hpr
              replace hpd := ((o_14 38 (by first | decide | omega))).trans hpd
              replace hfr := ((o_14 39 (by first | decide | omega))).trans hfr
              replace hfd := ((o_14 40 (by first | decide | omega))).trans hfd
              replace hor := ((o_14 41 (by first | decide | omega))).trans hor
              replace hod := ((o_14 42 (by first | decide | omega))).trans hod
              replace har := ((o_14 43 (by first | decide | omega))).trans har
              replace had := ((o_14 44 (by first | decide | omega))).trans had
              replace htr := ((o_14 45 (by first | decide | omega))).trans htr
              replace hct := ((o_14 46 (by first | decide | omega))).trans hct
              replace hla := ((o_14 47 (by first | decide | omega))).trans hla
              replace hlaa := ((o_14 48 (by first | decide | omega))).trans hlaa
              replace hts0 := ((o_14 112 (by first | decide | omega))).trans hts0
              replace htsa := ((o_14 113 (by first | decide | omega))).trans htsa
              replace hH : ∀ i, i < 10 → okH G g f_14 (2 * i + 16) := fun z hz => okH_fr (hH z hz) (o_14 _ (by omega)) (o_14 _ (by omega))
              replace hSp : okH G g f_14 13 := okH_fr hSp (o_14 _ (by omega)) (o_14 _ (by omega))
              replace hL : ∀ i, i < 20 → ltx G g f_14 (3 * i + 52) (LL i) (LG i) (i < na) := fun z hz => ltx_fr (hL z hz) (o_14 _ (by omega)) (o_14 _ (by omega)) (o_14 _ (by omega))
              replace hT : ∀ i, i < 4 → txt G g f_14 (3 * i + 117) (TL i) (TG i) := fun z hz => txt_fr (hT z hz) (o_14 _ (by omega)) (o_14 _ (by omega)) (o_14 _ (by omega))
              replace hB1 : bkD G g f_14 129 N1 E1 P1 L1 S1 W1 X1 := bkD_fr hB1 (fun j _ _ => o_14 j (by omega))
              replace hB2 : bkD G g f_14 222 N2 E2 P2 L2 S2 W2 X2 := bkD_fr hB2 (fun j _ _ => o_14 j (by omega))
              replace hQn : ∀ z, z < nt → cHz G g f_14 np nf nr na dp df dr da ct LL LG z := fun z hz => okQ_fr (hQn z hz) (o_14 _ (by omega)) (o_14 _ (by omega))
              exact W.iret (v := v30) hx hb hr (fun _ hT9 _ => ⟨⟨_, f_14, rfl, (⟨cJ_mk (nt) (hf) (imf) (mc) (op) (cm) (wu) (mk) (ab931) (be932) (mn) (le) (wt) (ww) (wb) (wf) (vv91) (lf) (tf) (hx0) (hctc) (hhs) (him) (hkp) (hrd) (hmk) (hfc6) (hwt) (hw8) (hw9) (hw10) (hw11) (hvl) (hbk) (hpr) (hpd) (hfr) (hfd) (hor) (hod) (har) (had) (htr) (hct) (hla) (hlaa) (hts0) (htsa) (by omega) (hhf) (him0) (him1) (by omega) (by omega) (by omega) (by omega) (by omega) (by omega) (by omega) (hlf) (htf) (by omega) (hH) (hSp) (hL) (hT) (hB1) (hB2) (hQn), fun j hj => (((o_14 j (by omega))).trans (o_12 j (by omega))).trans (o_1 j (by omega))⟩), by rw [hT9]; exact hP⟩, hS.F hT9⟩) hS.2.2 dX10_twelve_168
            · have hi3 : i ≤ 3 := Nat.not_lt.mp (fun z => c_114 (nI_lt (a := 3) z (by omega)))
              refine lv_lload hx hb dX10_twelve_117 (lv_at hl 3 rfl) ?_
              refine lv_iload hx hb dX10_twelve_119 (lv_at hl 2 rfl) ?_
              refine lv_aload_n hx hb dX10_twelve_121 rfl (lv_at hl 0 rfl) ?_
              refine va_get (D := G.1) (ci := 9) (v := .ref (g 36)) (C := RX10) (T := TX10) (N := 7) hx hb hts inlX10 hown hG.1 hP 0 (wl_at (by decide) hx0) rfl 1 (by decide) (hts (.fieldLink RX10 20 "SwornLists" "book" "LSwornLists$Book;") w_16) (fun _ h9 => h9) rfl dX10_twelve_122 ?_
              refine lv_iconst (v := 0) hx hb dX10_twelve_125 (by decide) ?_
              refine lv_iload hx hb dX10_twelve_126 (lv_at hl 4 rfl) ?_
              refine rd_calli (va_runV (As := [.int 0, .int (nI i)]) (rest := [.int ib7, .long u]) ⟨hx, hb, hml, hown, hts⟩ (k_peopleWith l G g hg f_12 pay fine np dp 0 (nI i) hbk hpr hpd (by first | assumption | omega | decide)) (my_cwV hts ok_X0_peopleWith w_791 rfl rfl ⟨Nat.le_of_ble_eq_true rfl, Nat.le_of_ble_eq_true rfl⟩) ⟨bP.blind, va_recv hG.1 hP (ci := 0) (q0 := 36) rfl (wl_at (by decide) hbk), fun U hU hW => ⟨rfl, by rw [hU]; exact hP, kG.warm hW hG⟩⟩ rfl rfl hl.1 rfl (lv_room (Nat.le_of_ble_eq_true rfl)) dX10_twelve_128 ⟨Nat.le_of_ble_eq_true rfl, Nat.le_of_ble_eq_true rfl⟩) (fun v33 _ => ?_)
              refine lv_iand hx hb dX10_twelve_131 ?_
              refine rd_calli (va_runS (As := [.int (ib7 &&& v33)]) (rest := [.long u]) ⟨hx, hb, hml, hown, hts⟩ (s_bitCount63 l G g hg f_12 (ib7 &&& v33)  ) (my_cwS hts ok_J6_bitCount_0f7a4 w_792 rfl rfl ⟨Nat.le_of_ble_eq_true rfl, Nat.le_of_ble_eq_true rfl⟩) ⟨bP.blind, fun U hU hW => ⟨rfl, by rw [hU]; exact hP, kG.warm hW hG⟩⟩ rfl rfl hl.1 rfl (lv_room (Nat.le_of_ble_eq_true rfl)) dX10_twelve_132 ⟨Nat.le_of_ble_eq_true rfl, Nat.le_of_ble_eq_true rfl⟩) (fun r hr9 => ?_)
              obtain ⟨z834, rfl⟩ := hr9
              refine lv_iload hx hb dX10_twelve_135 (lv_at hl 1 rfl) ?_
              refine rd_calll (va_runS (As := [.int (z834 &&& 63), .int (atv ct nt 70 (nI tn) 2)]) (rest := [.long u]) ⟨hx, hb, hml, hown, hts⟩ (s_ways l G g hg f_12 (z834 &&& 63) (atv ct nt 70 (nI tn) 2)  (Int.lt_of_le_of_lt (and63 _) (by decide))) (my_cwS hts ok_X10_ways w_761 rfl rfl ⟨Nat.le_of_ble_eq_true rfl, Nat.le_of_ble_eq_true rfl⟩) ⟨bP.blind, fun U hU hW => ⟨rfl, by rw [hU]; exact hP, kG.warm hW hG⟩⟩ rfl rfl hl.1 rfl (lv_room (Nat.le_of_ble_eq_true rfl)) dX10_twelve_137 ⟨Nat.le_of_ble_eq_true rfl, Nat.le_of_ble_eq_true rfl⟩) (fun v35 _ => ?_)
              refine lv_ladd hx hb dX10_twelve_140 ?_
              refine lv_lstore (lv' := [(6, .long (u + v35)), (0, .ref (g 0)), (4, .int (atv ct nt 70 (nI tn) 2)), (5, .int ib7), (8, .int (nI i))]) hx hb dX10_twelve_141 hl (by decide) rfl (fun ls hl => ?_)
              refine lv_iinc (v := nI (i + 1)) (lv' := [(8, .int (nI (i + 1))), (6, .long (u + v35)), (0, .ref (g 0)), (4, .int (atv ct nt 70 (nI tn) 2)), (5, .int ib7)]) hx hb dX10_twelve_143 hl (k := 4) rfl (nI_1 i) (by decide) rfl (fun ls hl => ?_)
              refine lv_goto (tgt := 111) hx hb dX10_twelve_146 (by decide) ?_
              exact ih_27 (i + 1) (u + v35) f_12 _ _ _ (by omega) (hH) (hSp) (hL) (hT) (hB1) (hB2) (hQn) (by omega) (hx0) (hctc) (hhs) (him) (hkp) (hrd) (hmk) (hfc6) (hwt) (hw8) (hw9) (hw10) (hw11) (hvl) (hbk) (hpr) (hpd) (hfr) (hfd) (hor) (hod) (har) (had) (htr) (hct) (hla) (hlaa) (hts0) (htsa) (hh7) (ho7) (fun j hj => (o_12 j (by omega))) hP hS (lv_sub hl [2, 3, 4, 1, 0] rfl)
        exact key27 (4 + 1) 0 0 f_1 _ _ _ (by omega) (hH) (hSp) (hL) (hT) (hB1) (hB2) (hQn) (by omega) (hx0) (hctc) (hhs) (him) (hkp) (hrd) (hmk) (hfc6) (hwt) (hw8) (hw9) (hw10) (hw11) (hvl) (hbk) (hpr) (hpd) (hfr) (hfd) (hor) (hod) (har) (had) (htr) (hct) (hla) (hlaa) (hts0) (htsa) (hh7) (ho7) (fun j _ => rfl) hP hS (lv_sub hl [5, 3, 2, 1, 0] rfl)
    · refine lv_bipush (v := (-2)) hx hb dX10_twelve_23 (by decide) ?_
      refine W_q9 hQ9 ?_
      exact W.iret (v := (-2)) hx hb hr (fun _ hT9 _ => ⟨⟨_, f, rfl, (⟨cJ_mk (se) (hf) (imf) (mc) (op) (cm) (wu) (mk) (ab) (be) (mn) (le) (wt) (ww) (wb) (wf) (vv) (lf) (tf) (hx0) (hctc) (hhs) (him) (hkp) (hrd) (hmk) (hfc6) (hwt) (hw8) (hw9) (hw10) (hw11) (hvl) (hbk) (hpr) (hpd) (hfr) (hfd) (hor) (hod) (har) (had) (htr) (hct) (hla) (hlaa) (hts0) (htsa) (by omega) (hhf) (him0) (him1) (by omega) (by omega) (by omega) (by omega) (by omega) (by omega) (by omega) (hlf) (htf) (by omega) (hH) (hSp) (hL) (hT) (hB1) (hB2) (hQ), fun j hj => rfl⟩), by rw [hT9]; exact hP⟩, hS.F hT9⟩) hS.2.2 dX10_twelve_25
theorem j_twelve (l : Launch) (G : gW) (g : Nat → Nat) (hg : gOK g) (f : Nat → va_E) (np : Nat) (dp : Nat → Int32) (nf : Nat) (df : Nat → Int32) (nr : Nat) (dr : Nat → Int32) (nt : Nat) (ct : Nat → Int32) (pay : Int32) (fine : Int32) (kf : Nat → Int32) (na : Nat) (da : Nat → Int32) (TL : Nat → Nat) (TG : Nat → Nat → Int32) (LL : Nat → Nat) (LG : Nat → Nat → Int32) (N1 : Nat → Nat) (E1 : Nat → Nat → Int32) (P1 : Nat → Int32) (L1 : Nat → Nat) (S1 : Nat → Nat → Int32) (W1 : Nat → Nat) (X1 : Nat → Nat → Int32) (N2 : Nat → Nat) (E2 : Nat → Nat → Int32) (P2 : Nat → Int32) (L2 : Nat → Nat) (S2 : Nat → Nat → Int32) (W2 : Nat → Nat) (X2 : Nat → Nat → Int32) (a1 : Int32) (a2 : Int32) (hI : cJ G g f np dp nf df nr dr nt ct pay fine kf na da TL TG LL LG N1 E1 P1 L1 S1 W1 X1 N2 E2 P2 L2 S2 W2 X2) (hTr : trC ct nt) : Met l yX10_twelve (wsT yX10_twelve cX10_twelve 9 (some .int)) ({ frames := 7, cells := 0, slots := 0, locals := 176 }) (bP G g f [.ref (g 0), .int a1, .int a2]) (bQi G g (fun (z9 : Int32) (f' : Nat → va_E) => (cJ G g f' np dp nf df nr dr nt ct pay fine kf na da TL TG LL LG N1 E1 P1 L1 S1 W1 X1 N2 E2 P2 L2 S2 W2 X2) ∧ ∀ j, 315 ≤ j → f' j = f j)) 0 0 (gA g) := cJ_elim hI (fun se hf imf mc op cm wu mk ab be mn le wt ww wb wf vv lf tf hx0 hctc hhs him hkp hrd hmk hfc6 hwt hw8 hw9 hw10 hw11 hvl hbk hpr hpd hfr hfd hor hod har had htr hct hla hlaa hts0 htsa hse hhf him0 him1 hmc hmn hnp hnf hnr hna hnt hlf htf hsn hH hSp hL hT hB1 hB2 hQ => jn_twelve l G g hg f se hf imf kf mc op cm wu mk ab be mn le wt ww wb wf vv pay fine np dp nf df nr dr na da nt ct lf tf TL TG LL LG N1 E1 P1 L1 S1 W1 X1 N2 E2 P2 L2 S2 W2 X2 a1 a2 hx0 hctc hhs him hkp hrd hmk hfc6 hwt hw8 hw9 hw10 hw11 hvl hbk hpr hpd hfr hfd hor hod har had htr hct hla hlaa hts0 htsa hse hhf him0 him1 hmc hmn hnp hnf hnr hna hnt hlf htf hsn hTr hH hSp hL hT hB1 hB2 hQ)
set_option maxHeartbeats 4000000 in
set_option maxRecDepth 100000 in
theorem jn_beside (l : Launch) (G : gW) (g : Nat → Nat) (hg : gOK g) (f : Nat → va_E) (se : Nat) (hf : Nat → Option Nat) (imf : Nat → Option Nat) (kf : Nat → Int32) (mc : Nat) (op : Int32) (cm : Int32) (wu : Int32) (mk : Nat → Int32) (ab : Int64) (be : Int64) (mn : Nat) (le : Int32) (wt : Nat → Int32) (ww : Nat → Int32) (wb : Nat → Int32) (wf : Nat → Int32) (vv : Nat → Int64) (pay : Int32) (fine : Int32) (np : Nat) (dp : Nat → Int32) (nf : Nat) (df : Nat → Int32) (nr : Nat) (dr : Nat → Int32) (na : Nat) (da : Nat → Int32) (nt : Nat) (ct : Nat → Int32) (lf : Nat → Option Nat) (tf : Nat → Option Nat) (TL : Nat → Nat) (TG : Nat → Nat → Int32) (LL : Nat → Nat) (LG : Nat → Nat → Int32) (N1 : Nat → Nat) (E1 : Nat → Nat → Int32) (P1 : Nat → Int32) (L1 : Nat → Nat) (S1 : Nat → Nat → Int32) (W1 : Nat → Nat) (X1 : Nat → Nat → Int32) (N2 : Nat → Nat) (E2 : Nat → Nat → Int32) (P2 : Nat → Int32) (L2 : Nat → Nat) (S2 : Nat → Nat → Int32) (W2 : Nat → Nat) (X2 : Nat → Nat → Int32) (a1 : Int32) (a2 : Int32) (a3 : Int32) (hx0 : f 0 = eO 9 [.ref (g 1), .ref (g 36), .ref (g 2), .ref (g 3), .ref (g 4), .ref (g 6), .ref (g 7)]) (hctc : f 1 = eO 1 [.ref (g 36), .ref (g 12), .ref (g 13), .ref (g 15), .int (nI se)]) (hhs : f 12 = eA G 4 10 hf) (him : f 2 = eA G 3 2 imf) (hkp : f 3 = eZ G 2 kf) (hrd : f 4 = eO 4 [.ref (g 5), .int (nI mc), .int op, .int cm, .int wu]) (hmk : f 5 = eI G 50 mk) (hfc6 : f 6 = eO 2 [.long ab, .long be]) (hwt : f 7 = eO 8 [.ref (g 8), .ref (g 9), .ref (g 10), .ref (g 11), .int (nI mn), .int le]) (hw8 : f 8 = eI G 6 wt) (hw9 : f 9 = eI G 6 ww) (hw10 : f 10 = eI G 6 wb) (hw11 : f 11 = eI G 6 wf) (hvl : f 15 = eJ G 50 vv) (hbk : f 36 = eO 0 [.ref (g 37), .ref (g 39), .ref (g 41), .ref (g 43), .ref (g 45), .ref (g 47), .ref (g 112), .int pay, .int fine]) (hpr : f 37 = eO 5 [.int (nI 30), .int (nI 4), .ref (g 38), .int (nI np)]) (hpd : f 38 = eI G (30 * 4) dp) (hfr : f 39 = eO 5 [.int (nI 40), .int (nI 3), .ref (g 40), .int (nI nf)]) (hfd : f 40 = eI G (40 * 3) df) (hor : f 41 = eO 5 [.int (nI 4), .int (nI 3), .ref (g 42), .int (nI nr)]) (hod : f 42 = eI G (4 * 3) dr) (har : f 43 = eO 5 [.int (nI 20), .int (nI 3), .ref (g 44), .int (nI na)]) (had : f 44 = eI G (20 * 3) da) (htr : f 45 = eO 5 [.int (nI 10), .int (nI 70), .ref (g 46), .int (nI nt)]) (hct : f 46 = eI G (10 * 70) ct) (hla : f 47 = eO 6 [.ref (g 48), .ref (g 49)]) (hlaa : f 48 = eA G 5 20 lf) (hts0 : f 112 = eO 6 [.ref (g 113), .ref (g 114)]) (htsa : f 113 = eA G 5 4 tf) (hse : se ≤ 10) (hhf : ∀ i, i < 10 → hf i = some (g (2 * i + 16))) (him0 : imf 0 = some (g 129)) (him1 : imf 1 = some (g 222)) (hmc : mc ≤ 50) (hmn : mn ≤ 6) (hnp : np ≤ 30) (hnf : nf ≤ 40) (hnr : nr ≤ 4) (hna : na ≤ 20) (hnt : nt ≤ 10) (hlf : ∀ z, z < 20 → lf z = some (g (47 + 3 * z + 5))) (htf : ∀ z, z < 4 → tf z = some (g (112 + 3 * z + 5))) (hsn : se ≤ nt) (hTr : trC ct nt) (hH : ∀ i, i < 10 → okH G g f (2 * i + 16)) (hSp : okH G g f 13) (hL : ∀ i, i < 20 → ltx G g f (3 * i + 52) (LL i) (LG i) (i < na)) (hT : ∀ i, i < 4 → txt G g f (3 * i + 117) (TL i) (TG i)) (hB1 : bkD G g f 129 N1 E1 P1 L1 S1 W1 X1) (hB2 : bkD G g f 222 N2 E2 P2 L2 S2 W2 X2) (hQ : ∀ z, z < se → cHz G g f np nf nr na dp df dr da ct LL LG z) : Met l yX10_beside (wsT yX10_beside cX10_beside 6 (some .int)) ({ frames := 7, cells := 0, slots := 0, locals := 176 }) (bP G g f [.ref (g 0), .int a1, .int a2, .int a3]) (bQi G g (fun (z9 : Int32) (f' : Nat → va_E) => (cJ G g f' np dp nf df nr dr nt ct pay fine kf na da TL TG LL LG N1 E1 P1 L1 S1 W1 X1 N2 E2 P2 L2 S2 W2 X2) ∧ ∀ j, 315 ≤ j → f' j = f j)) 0 0 (gA g) := by
  refine Met.ofW (cc := cX10_beside) (maxL := 6) (ret := (some .int)) (by decide) rfl ?_
  intro p e s m args below meth c s₁ B hml hv
  obtain ⟨rfl, hP, hG⟩ := hv
  have hx := B.exec
  have hb := B.bytes
  have hr := B.returns
  have hts := my_hts (atoms_spec (ws := wsT yX10_beside cX10_beside 6 (some .int)) B.pre)
  have hown : s.vm.findClass RX10 = some m.cls := findClass_of_methodNamed B.named
  have hlocks := B.notSynchronized
  have hS : va_S (gA g) s.heap s.heap [] := va_S.rf
  have hl := lv_entry ([.ref (g 0), .int a1, .int a2, .int a3]) (n := 6) (Nat.le_of_ble_eq_true rfl)
  rw [lg_entry_eq]
  generalize (lg_sl ([.ref (g 0), .int a1, .int a2, .int a3]) ++ List.replicate (6 - (lg_sl ([.ref (g 0), .int a1, .int a2, .int a3])).length) Slot.unset).toArray = ls at hl ⊢
  have hl : lv_has ls 6 [(0, .ref (g 0)), (1, .int a1), (2, .int a2), (3, .int a3)] := hl
  refine W_q8 (fun Q9 hQ9 => ?_)
  refine lv_aload_n hx hb dX10_beside_0 rfl (lv_at hl 0 rfl) ?_
  refine va_get (D := G.1) (ci := 9) (v := .ref (g 36)) (C := RX10) (T := TX10) (N := 7) hx hb hts inlX10 hown hG.1 hP 0 (wl_at (by decide) hx0) rfl 1 (by decide) (hts (.fieldLink RX10 20 "SwornLists" "book" "LSwornLists$Book;") w_16) (fun _ h9 => h9) rfl dX10_beside_1 ?_
  refine va_getN (D := G.1) (ci := 0) (v := .ref (g 45)) (C := RX0) (T := TX0) (N := 9) (host := RX10) hx hb hts inlX0 hown hG.1 hP 36 (wl_at (by decide) hbk) rfl 4 (by decide) (va_Nw.use rfl (hG.2.1 (.fieldLinkNest RX10 162 RX0 "trials" "LSwornLists$Rows;" RX10) (List.mem_of_getElem? (i := 7) rfl))) (fun _ h9 => h9) rfl dX10_beside_4 ?_
  refine lv_iload_n hx hb dX10_beside_7 rfl (lv_at hl 1 rfl) ?_
  refine rd_calli (va_runV (As := [.int a1]) (rest := []) ⟨hx, hb, hml, hown, hts⟩ (r_has l G g hg f 45 10 70 nt a1 htr (by first | assumption | omega | decide) (by first | assumption | omega | decide) (by first | assumption | omega | decide) (by first | assumption | omega | decide)) (my_cwV hts ok_X5_has w_174 rfl rfl ⟨Nat.le_of_ble_eq_true rfl, Nat.le_of_ble_eq_true rfl⟩) ⟨bP.blind, va_recv hG.1 hP (ci := 5) (q0 := 45) rfl (wl_at (by decide) htr), fun U hU hW => ⟨rfl, by rw [hU]; exact hP, kG.warm hW hG⟩⟩ rfl rfl hl.1 rfl (lv_room (Nat.le_of_ble_eq_true rfl)) dX10_beside_8 ⟨Nat.le_of_ble_eq_true rfl, Nat.le_of_ble_eq_true rfl⟩) (fun r hr9 => ?_)
  subst hr9
  refine my_ifeq (tgt := 28) hx hb dX10_beside_11 (by decide) (fun c_11 => ?_) (fun c_11 => ?_)
  · refine lv_bipush (v := (-2)) hx hb dX10_beside_28 (by decide) ?_
    refine W_q9 hQ9 ?_
    exact W.iret (v := (-2)) hx hb hr (fun _ hT9 _ => ⟨⟨_, f, rfl, (⟨cJ_mk (se) (hf) (imf) (mc) (op) (cm) (wu) (mk) (ab) (be) (mn) (le) (wt) (ww) (wb) (wf) (vv) (lf) (tf) (hx0) (hctc) (hhs) (him) (hkp) (hrd) (hmk) (hfc6) (hwt) (hw8) (hw9) (hw10) (hw11) (hvl) (hbk) (hpr) (hpd) (hfr) (hfd) (hor) (hod) (har) (had) (htr) (hct) (hla) (hlaa) (hts0) (htsa) (by omega) (hhf) (him0) (him1) (by omega) (by omega) (by omega) (by omega) (by omega) (by omega) (by omega) (hlf) (htf) (by omega) (hH) (hSp) (hL) (hT) (hB1) (hB2) (hQ), fun j hj => rfl⟩), by rw [hT9]; exact hP⟩, hS.F hT9⟩) hS.2.2 dX10_beside_30
  · refine lv_iload_n hx hb dX10_beside_14 rfl (lv_at hl 2 rfl) ?_
    refine rd_calli (va_runS (As := [.int a2]) (rest := []) ⟨hx, hb, hml, hown, hts⟩ (s_isText l G g hg f a2  ) (my_cwS hts ok_X10_isText w_242 rfl rfl ⟨Nat.le_of_ble_eq_true rfl, Nat.le_of_ble_eq_true rfl⟩) ⟨bP.blind, fun U hU hW => ⟨rfl, by rw [hU]; exact hP, kG.warm hW hG⟩⟩ rfl rfl hl.1 rfl (lv_room (Nat.le_of_ble_eq_true rfl)) dX10_beside_15 ⟨Nat.le_of_ble_eq_true rfl, Nat.le_of_ble_eq_true rfl⟩) (fun r hr9 => ?_)
    subst hr9
    refine my_ifeq (tgt := 28) hx hb dX10_beside_18 (by decide) (fun c_18 => ?_) (fun c_18 => ?_)
    · refine lv_bipush (v := (-2)) hx hb dX10_beside_28 (by decide) ?_
      refine W_q9 hQ9 ?_
      exact W.iret (v := (-2)) hx hb hr (fun _ hT9 _ => ⟨⟨_, f, rfl, (⟨cJ_mk (se) (hf) (imf) (mc) (op) (cm) (wu) (mk) (ab) (be) (mn) (le) (wt) (ww) (wb) (wf) (vv) (lf) (tf) (hx0) (hctc) (hhs) (him) (hkp) (hrd) (hmk) (hfc6) (hwt) (hw8) (hw9) (hw10) (hw11) (hvl) (hbk) (hpr) (hpd) (hfr) (hfd) (hor) (hod) (har) (had) (htr) (hct) (hla) (hlaa) (hts0) (htsa) (by omega) (hhf) (him0) (him1) (by omega) (by omega) (by omega) (by omega) (by omega) (by omega) (by omega) (hlf) (htf) (by omega) (hH) (hSp) (hL) (hT) (hB1) (hB2) (hQ), fun j hj => rfl⟩), by rw [hT9]; exact hP⟩, hS.F hT9⟩) hS.2.2 dX10_beside_30
    · refine lv_iload_n hx hb dX10_beside_21 rfl (lv_at hl 3 rfl) ?_
      refine rd_calli (va_runS (As := [.int a3]) (rest := []) ⟨hx, hb, hml, hown, hts⟩ (s_isSort l G g hg f a3  ) (my_cwS hts ok_X10_isSort w_591 rfl rfl ⟨Nat.le_of_ble_eq_true rfl, Nat.le_of_ble_eq_true rfl⟩) ⟨bP.blind, fun U hU hW => ⟨rfl, by rw [hU]; exact hP, kG.warm hW hG⟩⟩ rfl rfl hl.1 rfl (lv_room (Nat.le_of_ble_eq_true rfl)) dX10_beside_22 ⟨Nat.le_of_ble_eq_true rfl, Nat.le_of_ble_eq_true rfl⟩) (fun r hr9 => ?_)
      subst hr9
      refine my_ifne (tgt := 31) hx hb dX10_beside_25 (by decide) (fun c_25 => ?_) (fun c_25 => ?_)
      · obtain ⟨tn, htn, rfl⟩ := inN_nat (by omega) c_11
        obtain ⟨xn, hxn, rfl⟩ := inB_n (b := 3) (by omega) c_18
        refine lv_aload_n hx hb dX10_beside_31 rfl (lv_at hl 0 rfl) ?_
        refine va_get (D := G.1) (ci := 9) (v := .ref (g 36)) (C := RX10) (T := TX10) (N := 7) hx hb hts inlX10 hown hG.1 hP 0 (wl_at (by decide) hx0) rfl 1 (by decide) (hts (.fieldLink RX10 20 "SwornLists" "book" "LSwornLists$Book;") w_16) (fun _ h9 => h9) rfl dX10_beside_32 ?_
        refine va_getN (D := G.1) (ci := 0) (v := .ref (g 112)) (C := RX0) (T := TX0) (N := 9) (host := RX10) hx hb hts inlX0 hown hG.1 hP 36 (wl_at (by decide) hbk) rfl 6 (by decide) (va_Nw.use rfl (hG.2.1 (.fieldLinkNest RX10 98 RX0 "texts" "LSwornLists$Shelf;" RX10) (List.mem_of_getElem? (i := 9) rfl))) (fun _ h9 => h9) rfl dX10_beside_35 ?_
        refine lv_iload_n hx hb dX10_beside_38 rfl (lv_at hl 2 rfl) ?_
        refine rd_calla (va_runV (As := [.int (nI xn)]) (rest := []) ⟨hx, hb, hml, hown, hts⟩ (w_get l G g hg f 112 4 tf xn hts0 htsa (by first | assumption | omega | decide) (by first | assumption | omega | decide) (by first | assumption | omega | decide) (by first | assumption | omega | decide)) (my_cwV hts ok_X6_get w_245 rfl rfl ⟨Nat.le_of_ble_eq_true rfl, Nat.le_of_ble_eq_true rfl⟩) ⟨bP.blind, va_recv hG.1 hP (ci := 6) (q0 := 112) rfl (wl_at (by decide) hts0), fun U hU hW => ⟨rfl, by rw [hU]; exact hP, kG.warm hW hG⟩⟩ rfl rfl hl.1 rfl (lv_room (Nat.le_of_ble_eq_true rfl)) dX10_beside_39 ⟨Nat.le_of_ble_eq_true rfl, Nat.le_of_ble_eq_true rfl⟩) (fun r hr9 => ?_)
        subst hr9
        refine my_bea (v := .ref (g (3 * xn + 117))) (by rw [show 112 + 3 * xn + 5 = 3 * xn + 117 by omega]) ?_
        obtain ⟨sc7, sp7, htx7, hsx7, hpx7, hln7, hsc7⟩ := hT xn (by omega)
        refine lv_astore (lv' := [(4, .ref (g (3 * xn + 117))), (0, .ref (g 0)), (1, .int (nI tn)), (2, .int (nI xn)), (3, .int a3)]) hx hb dX10_beside_42 hl (by decide) rfl (fun ls hl => ?_)
        refine lv_aload_n hx hb dX10_beside_44 rfl (lv_at hl 1 rfl) ?_
        refine va_get (D := G.1) (ci := 9) (v := .ref (g 4)) (C := RX10) (T := TX10) (N := 7) hx hb hts inlX10 hown hG.1 hP 0 (wl_at (by decide) hx0) rfl 4 (by decide) (hts (.fieldLink RX10 34 "SwornLists" "reader" "LSwornLists$Reader;") w_24) (fun _ h9 => h9) rfl dX10_beside_45 ?_
        refine lv_aload hx hb dX10_beside_48 (lv_at hl 0 rfl) ?_
        refine b_calli (va_runV (As := [.ref (g (3 * xn + 117))]) (rest := []) ⟨hx, hb, hml, hown, hts⟩ (e_read l G g hg f (3 * xn + 117) (TL xn) sc7 (TG xn) sp7 mc op cm wu mk hrd hmk htx7 hsx7 hpx7 (by first | assumption | omega | decide) (by first | assumption | omega | decide) (by first | assumption | omega | decide) (by first | assumption | omega | decide) (by first | assumption | omega | decide)) (my_cwV hts ok_X4_read w_278 rfl rfl ⟨Nat.le_of_ble_eq_true rfl, Nat.le_of_ble_eq_true rfl⟩) ⟨bP.blind, va_recv hG.1 hP (ci := 4) (q0 := 4) rfl (wl_at (by decide) hrd), fun U hU hW => ⟨rfl, by rw [hU]; exact hP, kG.warm hW hG⟩⟩ rfl rfl hl.1 rfl (lv_room (Nat.le_of_ble_eq_true rfl)) dX10_beside_50 ⟨Nat.le_of_ble_eq_true rfl, Nat.le_of_ble_eq_true rfl⟩) hS (fun v1 f_1 H locs hq9 hP hS => ?_)
        obtain ⟨mc92, op93, cm94, wu95, mk96, sc97, sp98, hq_1_0, hq_1_1, hq_1_2, hq_1_3, hx_1_0, hx_1_1, o_1⟩ := hq9
        have hrd : f_1 4 = eO 4 [.ref (g 5), .int (nI mc92), .int op93, .int cm94, .int wu95] := hq_1_0
        have hmk : f_1 5 = eI G 50 mk96 := hq_1_1
        have htx7 : f_1 (3 * xn + 117) = eO 7 [.ref (g ((3 * xn + 117) + 1)), .ref (g ((3 * xn + 117) + 2)), .int (nI (TL xn)), .int (nI sc97)] := hq_1_2
        have hpx7 : f_1 (3 * xn + 119) = eI G 50 sp98 := hq_1_3
        replace hsx7 : f_1 (3 * xn + 118) = eI G 50 (TG xn) := ((o_1 (3 * xn + 118) (by omega))).trans hsx7
        have hT : ∀ i, i < 4 → txt G g f_1 (3 * i + 117) (TL i) (TG i) := fun z hz => if e9 : z = xn then (by rw [e9]; exact ⟨_, _, htx7, hsx7, hpx7, by omega, by omega⟩) else txt_fr (hT z hz) (o_1 _ (by omega)) (o_1 _ (by omega)) (o_1 _ (by omega))
        refine lv_iconst (v := (-1)) hx hb dX10_beside_53 (by decide) ?_
        refine lv_icmp_eq (tgt := 60) hx hb dX10_beside_54 (by decide) (fun c_54 => ?_) (fun c_54 => ?_)
        · refine lv_aload_n hx hb dX10_beside_60 rfl (lv_at hl 1 rfl) ?_
          replace hx0 := ((o_1 0 (by first | decide | omega))).trans hx0
          refine va_get (D := G.1) (ci := 9) (v := .ref (g 1)) (C := RX10) (T := TX10) (N := 7) hx hb hts inlX10 hown hG.1 hP 0 (wl_at (by decide) hx0) rfl 0 (by decide) (hts (.fieldLink RX10 12 "SwornLists" "court" "LSwornLists$Court;") w_15) (fun _ h9 => h9) rfl dX10_beside_61 ?_
          replace hctc := ((o_1 1 (by first | decide | omega))).trans hctc
          replace hhs := ((o_1 12 (by first | decide | omega))).trans hhs
          replace hbk := ((o_1 36 (by first | decide | omega))).trans hbk
          replace htr := ((o_1 45 (by first | decide | omega))).trans htr
          replace hct := ((o_1 46 (by first | decide | omega))).trans hct
          replace hpr := ((o_1 37 (by first | decide | omega))).trans hpr
          replace hpd := ((o_1 38 (by first | decide | omega))).trans hpd
          replace hfr := ((o_1 39 (by first | decide | omega))).trans hfr
          replace hfd := ((o_1 40 (by first | decide | omega))).trans hfd
          replace hor := ((o_1 41 (by first | decide | omega))).trans hor
          replace hod := ((o_1 42 (by first | decide | omega))).trans hod
          replace har := ((o_1 43 (by first | decide | omega))).trans har
          replace had := ((o_1 44 (by first | decide | omega))).trans had
          replace hla := ((o_1 47 (by first | decide | omega))).trans hla
          replace hlaa := ((o_1 48 (by first | decide | omega))).trans hlaa
          replace hvl := ((o_1 15 (by first | decide | omega))).trans hvl
          replace hQ : ∀ z, z < se → cHz G g f_1 np nf nr na dp df dr da ct LL LG z := fun z hz => okQ_fr (hQ z hz) (o_1 _ (by omega)) (o_1 _ (by omega))
          replace hH : ∀ i, i < 10 → okH G g f_1 (2 * i + 16) := fun z hz => okH_fr (hH z hz) (o_1 _ (by omega)) (o_1 _ (by omega))
          replace hL : ∀ i, i < 20 → ltx G g f_1 (3 * i + 52) (LL i) (LG i) (i < na) := fun z hz => ltx_fr (hL z hz) (o_1 _ (by omega)) (o_1 _ (by omega)) (o_1 _ (by omega))
          refine b_callv (va_runV (As := []) (rest := []) ⟨hx, hb, hml, hown, hts⟩ (u_settleE l G g hg f_1 se hf pay fine nt ct np dp nf df nr dr na da lf vv LL LG hctc hhs hbk htr hct hpr hpd hfr hfd hor hod har had hla hlaa hvl (by first | assumption | omega | decide) (by first | assumption | omega | decide) (by first | assumption | omega | decide) (by first | assumption | omega | decide) (by first | assumption | omega | decide) (by first | assumption | omega | decide) (by first | assumption | omega | decide) (by first | assumption | omega | decide) (hTr.1) (hTr.2.1) (hTr.2.2.1) (by first | assumption | omega | decide) (hQ) (by first | assumption | omega | decide) (hL)) (my_cwV hts ok_X1_settle w_384 rfl rfl ⟨Nat.le_of_ble_eq_true rfl, Nat.le_of_ble_eq_true rfl⟩) ⟨bP.blind, va_recv hG.1 hP (ci := 1) (q0 := 1) rfl (wl_at (by decide) hctc), fun U hU hW => ⟨rfl, by rw [hU]; exact hP, kG.warm hW hG⟩⟩ rfl rfl hl.1 rfl (lv_room (Nat.le_of_ble_eq_true rfl)) dX10_beside_64 ⟨Nat.le_of_ble_eq_true rfl, Nat.le_of_ble_eq_true rfl⟩) hS (fun f_2 H locs hq9 hP hS => ?_)
          obtain ⟨vv99, hq_2_0, hq_2_1, hx_2_0, hx_2_1, o_2⟩ := hq9
          have hctc : f_2 1 = eO 1 [.ref (g 36), .ref (g 12), .ref (g 13), .ref (g 15), .int (nI nt)] := hq_2_0
          have hvl : f_2 15 = eJ G 50 vv99 := hq_2_1
          have hH : ∀ i, i < 10 → okH G g f_2 (2 * i + 16) := hx_2_0
          have hQn : ∀ z, z < nt → cHz G g f_2 np nf nr na dp df dr da ct LL LG z := hx_2_1
          replace hSp : okH G g f_1 13 := okH_fr hSp (o_1 _ (by omega)) (o_1 _ (by omega))
          replace hSp : okH G g f_2 13 := okH_fr hSp (o_2 _ (by omega)) (o_2 _ (by omega))
          obtain ⟨sl7, lo7, ib7, ca7, mi7, s07, s17, sw7, od7, hh7, ho7, hs7⟩ := hH tn (by omega)
          obtain ⟨sl6, lo6, ib6, ca6, mi6, s06, s16, sw6, od6, hh6, ho6, hs6⟩ := id hSp
          refine lv_aload_n hx hb dX10_beside_67 rfl (lv_at hl 1 rfl) ?_
          replace hx0 := ((o_2 0 (by first | decide | omega))).trans hx0
          refine va_get (D := G.1) (ci := 9) (v := .ref (g 36)) (C := RX10) (T := TX10) (N := 7) hx hb hts inlX10 hown hG.1 hP 0 (wl_at (by decide) hx0) rfl 1 (by decide) (hts (.fieldLink RX10 20 "SwornLists" "book" "LSwornLists$Book;") w_16) (fun _ h9 => h9) rfl dX10_beside_68 ?_
          replace hbk := ((o_2 36 (by first | decide | omega))).trans hbk
          refine va_getN (D := G.1) (ci := 0) (v := .ref (g 45)) (C := RX0) (T := TX0) (N := 9) (host := RX10) hx hb hts inlX0 hown hG.1 hP 36 (wl_at (by decide) hbk) rfl 4 (by decide) (va_Nw.use rfl (hG.2.1 (.fieldLinkNest RX10 162 RX0 "trials" "LSwornLists$Rows;" RX10) (List.mem_of_getElem? (i := 7) rfl))) (fun _ h9 => h9) rfl dX10_beside_71 ?_
          refine lv_iload_n hx hb dX10_beside_74 rfl (lv_at hl 2 rfl) ?_
          refine lv_iconst (v := 0) hx hb dX10_beside_75 (by decide) ?_
          replace htr := ((o_2 45 (by first | decide | omega))).trans htr
          replace hct := ((o_2 46 (by first | decide | omega))).trans hct
          refine rd_calli (va_runV (As := [.int (nI tn), .int 0]) (rest := []) ⟨hx, hb, hml, hown, hts⟩ (r_at l G g hg f_2 45 10 70 nt ct (nI tn) 0 htr hct (by first | assumption | omega | decide) (by first | assumption | omega | decide) (by first | assumption | omega | decide) (by first | assumption | omega | decide)) (my_cwV hts ok_X5_at w_610 rfl rfl ⟨Nat.le_of_ble_eq_true rfl, Nat.le_of_ble_eq_true rfl⟩) ⟨bP.blind, va_recv hG.1 hP (ci := 5) (q0 := 45) rfl (wl_at (by decide) htr), fun U hU hW => ⟨rfl, by rw [hU]; exact hP, kG.warm hW hG⟩⟩ rfl rfl hl.1 rfl (lv_room (Nat.le_of_ble_eq_true rfl)) dX10_beside_76 ⟨Nat.le_of_ble_eq_true rfl, Nat.le_of_ble_eq_true rfl⟩) (fun r hr9 => ?_)
          subst hr9
          refine lv_istore (lv' := [(5, .int (atv ct nt 70 (nI tn) 0)), (4, .ref (g (3 * xn + 117))), (0, .ref (g 0)), (1, .int (nI tn)), (2, .int (nI xn)), (3, .int a3)]) hx hb dX10_beside_79 hl (by decide) rfl (fun ls hl => ?_)
          refine lv_aload_n hx hb dX10_beside_81 rfl (lv_at hl 2 rfl) ?_
          refine va_get (D := G.1) (ci := 9) (v := .ref (g 1)) (C := RX10) (T := TX10) (N := 7) hx hb hts inlX10 hown hG.1 hP 0 (wl_at (by decide) hx0) rfl 0 (by decide) (hts (.fieldLink RX10 12 "SwornLists" "court" "LSwornLists$Court;") w_15) (fun _ h9 => h9) rfl dX10_beside_82 ?_
          refine lv_iload_n hx hb dX10_beside_85 rfl (lv_at hl 3 rfl) ?_
          refine lv_aload_n hx hb dX10_beside_86 rfl (lv_at hl 2 rfl) ?_
          refine va_get (D := G.1) (ci := 9) (v := .ref (g 1)) (C := RX10) (T := TX10) (N := 7) hx hb hts inlX10 hown hG.1 hP 0 (wl_at (by decide) hx0) rfl 0 (by decide) (hts (.fieldLink RX10 12 "SwornLists" "court" "LSwornLists$Court;") w_15) (fun _ h9 => h9) rfl dX10_beside_87 ?_
          refine va_getN (D := G.1) (ci := 1) (v := .ref (g 13)) (C := RX1) (T := TX1) (N := 5) (host := RX10) hx hb hts inlX1 hown hG.1 hP 1 (wl_at (by decide) hctc) rfl 2 (by decide) (va_Nw.use rfl (hG.2.1 (.fieldLinkNest RX10 236 RX1 "spare" "LSwornLists$Hearing;" RX10) (List.mem_of_getElem? (i := 18) rfl))) (fun _ h9 => h9) rfl dX10_beside_90 ?_
          refine lv_iload_n hx hb dX10_beside_93 rfl (lv_at hl 5 rfl) ?_
          refine lv_if_ne (tgt := 102) hx hb dX10_beside_94 (by decide) (fun c_94 => ?_) (fun c_94 => ?_)
          · refine lv_aload_n hx hb dX10_beside_102 rfl (lv_at hl 2 rfl) ?_
            refine va_get (D := G.1) (ci := 9) (v := .ref (g 36)) (C := RX10) (T := TX10) (N := 7) hx hb hts inlX10 hown hG.1 hP 0 (wl_at (by decide) hx0) rfl 1 (by decide) (hts (.fieldLink RX10 20 "SwornLists" "book" "LSwornLists$Book;") w_16) (fun _ h9 => h9) rfl dX10_beside_103 ?_
            refine lv_iconst (v := 0) hx hb dX10_beside_106 (by decide) ?_
            refine lv_iload hx hb dX10_beside_107 (lv_at hl 0 rfl) ?_
            replace har := ((o_2 43 (by first | decide | omega))).trans har
            replace had := ((o_2 44 (by first | decide | omega))).trans had
            replace hla := ((o_2 47 (by first | decide | omega))).trans hla
            replace hlaa := ((o_2 48 (by first | decide | omega))).trans hlaa
            refine rd_calla (va_runV (As := [.int 0, .int (atv ct nt 70 (nI tn) 0)]) (rest := [.ref (g 13), .int (nI tn), .ref (g 1)]) ⟨hx, hb, hml, hown, hts⟩ (k_lawOf l G g hg f_2 pay fine na da lf 0 (atv ct nt 70 (nI tn) 0) hbk har had hla hlaa (by first | assumption | omega | decide) (by first | assumption | omega | decide)) (my_cwV hts ok_X0_lawOf w_628 rfl rfl ⟨Nat.le_of_ble_eq_true rfl, Nat.le_of_ble_eq_true rfl⟩) ⟨bP.blind, va_recv hG.1 hP (ci := 0) (q0 := 36) rfl (wl_at (by decide) hbk), fun U hU hW => ⟨rfl, by rw [hU]; exact hP, kG.warm hW hG⟩⟩ rfl rfl hl.1 rfl (lv_room (Nat.le_of_ble_eq_true rfl)) dX10_beside_109 ⟨Nat.le_of_ble_eq_true rfl, Nat.le_of_ble_eq_true rfl⟩) (fun r hr9 => ?_)
            obtain ⟨o910, rfl, hx_3_0⟩ := hr9
            replace hL : ∀ i, i < 20 → ltx G g f_2 (3 * i + 52) (LL i) (LG i) (i < na) := fun z hz => ltx_fr (hL z hz) (o_2 _ (by omega)) (o_2 _ (by omega)) (o_2 _ (by omega))
            rcases o910 with _ | i11
            · refine my_bea (v := .null) rfl ?_
              refine lv_iload_n hx hb dX10_beside_112 rfl (lv_at hl 5 rfl) ?_
              refine lv_iconst (v := 1) hx hb dX10_beside_113 (by decide) ?_
              refine lv_icmp_ne (tgt := 122) hx hb dX10_beside_114 (by decide) (fun c_114 => ?_) (fun c_114 => ?_)
              · refine lv_aload_n hx hb dX10_beside_122 rfl (lv_at hl 2 rfl) ?_
                refine va_get (D := G.1) (ci := 9) (v := .ref (g 36)) (C := RX10) (T := TX10) (N := 7) hx hb hts inlX10 hown hG.1 hP 0 (wl_at (by decide) hx0) rfl 1 (by decide) (hts (.fieldLink RX10 20 "SwornLists" "book" "LSwornLists$Book;") w_16) (fun _ h9 => h9) rfl dX10_beside_123 ?_
                refine lv_iconst (v := 1) hx hb dX10_beside_126 (by decide) ?_
                refine lv_iload hx hb dX10_beside_127 (lv_at hl 0 rfl) ?_
                refine rd_calla (va_runV (As := [.int 1, .int (atv ct nt 70 (nI tn) 0)]) (rest := [.null, .ref (g 13), .int (nI tn), .ref (g 1)]) ⟨hx, hb, hml, hown, hts⟩ (k_lawOf l G g hg f_2 pay fine na da lf 1 (atv ct nt 70 (nI tn) 0) hbk har had hla hlaa (by first | assumption | omega | decide) (by first | assumption | omega | decide)) (my_cwV hts ok_X0_lawOf w_628 rfl rfl ⟨Nat.le_of_ble_eq_true rfl, Nat.le_of_ble_eq_true rfl⟩) ⟨bP.blind, va_recv hG.1 hP (ci := 0) (q0 := 36) rfl (wl_at (by decide) hbk), fun U hU hW => ⟨rfl, by rw [hU]; exact hP, kG.warm hW hG⟩⟩ rfl rfl hl.1 rfl (lv_room (Nat.le_of_ble_eq_true rfl)) dX10_beside_129 ⟨Nat.le_of_ble_eq_true rfl, Nat.le_of_ble_eq_true rfl⟩) (fun r hr9 => ?_)
                obtain ⟨o912, rfl, hx_4_0⟩ := hr9
                rcases o912 with _ | i13
                · refine my_bea (v := .null) rfl ?_
                  replace hhs := ((o_2 12 (by first | decide | omega))).trans hhs
                  replace hpr := ((o_2 37 (by first | decide | omega))).trans hpr
                  replace hpd := ((o_2 38 (by first | decide | omega))).trans hpd
                  replace hfr := ((o_2 39 (by first | decide | omega))).trans hfr
                  replace hfd := ((o_2 40 (by first | decide | omega))).trans hfd
                  replace hor := ((o_2 41 (by first | decide | omega))).trans hor
                  replace hod := ((o_2 42 (by first | decide | omega))).trans hod
                  refine b_callv (va_runV (As := [.int (nI tn), .ref (g 13), .null, .null]) (rest := []) ⟨hx, hb, hml, hown, hts⟩ (u_hear00 l G g hg f_2 nt hf pay fine nt ct np dp nf df nr dr 13 sl6 lo6 ib6 ca6 mi6 s06 s16 sw6 od6 vv99 tn hctc hhs hbk htr hct hpr hpd hfr hfd hor hod hvl hh6 ho6 (by first | assumption | omega | decide) (by first | assumption | omega | decide) (by first | assumption | omega | decide) (by first | assumption | omega | decide) (by first | assumption | omega | decide) (by first | assumption | omega | decide) (by first | assumption | omega | decide) (by first | assumption | omega | decide) (by first | assumption | omega | decide) (by first | assumption | omega | decide) (by first | assumption | omega | decide) (by first | assumption | omega | decide)) (my_cwV hts ok_X1_hear w_810 rfl rfl ⟨Nat.le_of_ble_eq_true rfl, Nat.le_of_ble_eq_true rfl⟩) ⟨bP.blind, va_recv hG.1 hP (ci := 1) (q0 := 1) rfl (wl_at (by decide) hctc), fun U hU hW => ⟨rfl, by rw [hU]; exact hP, kG.warm hW hG⟩⟩ rfl rfl hl.1 rfl (lv_room (Nat.le_of_ble_eq_true rfl)) dX10_beside_132 ⟨Nat.le_of_ble_eq_true rfl, Nat.le_of_ble_eq_true rfl⟩) hS (fun f_5 H locs hq9 hP hS => ?_)
                  obtain ⟨vv914, hq_5_0, hx_5_0, o_5⟩ := hq9
                  have hvl : f_5 15 = eJ G 50 vv914 := hq_5_0
                  have hSp : okH G g f_5 13 := hx_5_0
                  obtain ⟨sl6, lo6, ib6, ca6, mi6, s06, s16, sw6, od6, hh6, ho6, hs6⟩ := id hSp
                  refine lv_aload_n hx hb dX10_beside_135 rfl (lv_at hl 2 rfl) ?_
                  replace hx0 := ((o_5 0 (by first | decide | omega))).trans hx0
                  refine va_get (D := G.1) (ci := 9) (v := .ref (g 1)) (C := RX10) (T := TX10) (N := 7) hx hb hts inlX10 hown hG.1 hP 0 (wl_at (by decide) hx0) rfl 0 (by decide) (hts (.fieldLink RX10 12 "SwornLists" "court" "LSwornLists$Court;") w_15) (fun _ h9 => h9) rfl dX10_beside_136 ?_
                  refine lv_iload_n hx hb dX10_beside_139 rfl (lv_at hl 3 rfl) ?_
                  replace hctc := ((o_5 1 (by first | decide | omega))).trans hctc
                  replace hhs := ((o_5 12 (by first | decide | omega))).trans hhs
                  refine rd_calla (va_runV (As := [.int (nI tn)]) (rest := []) ⟨hx, hb, hml, hown, hts⟩ (u_hearing l G g hg f_5 nt hf tn hctc hhs (by first | assumption | omega | decide) (by first | assumption | omega | decide) (by first | assumption | omega | decide)) (my_cwV hts ok_X1_hearing w_675 rfl rfl ⟨Nat.le_of_ble_eq_true rfl, Nat.le_of_ble_eq_true rfl⟩) ⟨bP.blind, va_recv hG.1 hP (ci := 1) (q0 := 1) rfl (wl_at (by decide) hctc), fun U hU hW => ⟨rfl, by rw [hU]; exact hP, kG.warm hW hG⟩⟩ rfl rfl hl.1 rfl (lv_room (Nat.le_of_ble_eq_true rfl)) dX10_beside_140 ⟨Nat.le_of_ble_eq_true rfl, Nat.le_of_ble_eq_true rfl⟩) (fun r hr9 => ?_)
                  subst hr9
                  replace hh7 : f_5 (2 * tn + 16) = eO 3 [.ref (g (2 * tn + 17)), .int (nI sl7), .int lo7, .int ib7, .int ca7, .int mi7, .int s07, .int s17, .int sw7] := ((o_5 (2 * tn + 16) (by omega))).trans hh7
                  refine va_getN (D := G.1) (ci := 3) (v := .int sw7) (C := RX3) (T := TX3) (N := 9) (host := RX10) hx hb hts inlX3 hown hG.1 hP (2 * tn + 16) (wl_at (by omega) hh7) rfl 8 (by decide) (va_Nw.use rfl (hG.2.1 (.fieldLinkNest RX10 188 RX3 "sworn" "I" RX10) (List.mem_of_getElem? (i := 16) rfl))) (fun _ h9 => h9) rfl dX10_beside_143 ?_
                  refine lv_aload_n hx hb dX10_beside_146 rfl (lv_at hl 2 rfl) ?_
                  refine va_get (D := G.1) (ci := 9) (v := .ref (g 1)) (C := RX10) (T := TX10) (N := 7) hx hb hts inlX10 hown hG.1 hP 0 (wl_at (by decide) hx0) rfl 0 (by decide) (hts (.fieldLink RX10 12 "SwornLists" "court" "LSwornLists$Court;") w_15) (fun _ h9 => h9) rfl dX10_beside_147 ?_
                  refine va_getN (D := G.1) (ci := 1) (v := .ref (g 13)) (C := RX1) (T := TX1) (N := 5) (host := RX10) hx hb hts inlX1 hown hG.1 hP 1 (wl_at (by decide) hctc) rfl 2 (by decide) (va_Nw.use rfl (hG.2.1 (.fieldLinkNest RX10 236 RX1 "spare" "LSwornLists$Hearing;" RX10) (List.mem_of_getElem? (i := 18) rfl))) (fun _ h9 => h9) rfl dX10_beside_150 ?_
                  refine va_getN (D := G.1) (ci := 3) (v := .int sw6) (C := RX3) (T := TX3) (N := 9) (host := RX10) hx hb hts inlX3 hown hG.1 hP 13 (wl_at (by decide) hh6) rfl 8 (by decide) (va_Nw.use rfl (hG.2.1 (.fieldLinkNest RX10 188 RX3 "sworn" "I" RX10) (List.mem_of_getElem? (i := 16) rfl))) (fun _ h9 => h9) rfl dX10_beside_153 ?_
                  refine lv_ixor hx hb dX10_beside_156 ?_
                  refine W_q9 hQ9 ?_
                  replace him := ((o_5 2 (by first | decide | omega)).trans ((o_2 2 (by first | decide | omega)).trans ((o_1 2 (by first | decide | omega))))).trans him
                  replace hkp := ((o_5 3 (by first | decide | omega)).trans ((o_2 3 (by first | decide | omega)).trans ((o_1 3 (by first | decide | omega))))).trans hkp
                  replace hrd := ((o_5 4 (by first | decide | omega)).trans ((o_2 4 (by first | decide | omega)))).trans hrd
                  replace hmk := ((o_5 5 (by first | decide | omega)).trans ((o_2 5 (by first | decide | omega)))).trans hmk
                  replace hfc6 := ((o_5 6 (by first | decide | omega)).trans ((o_2 6 (by first | decide | omega)).trans ((o_1 6 (by first | decide | omega))))).trans hfc6
                  replace hwt := ((o_5 7 (by first | decide | omega)).trans ((o_2 7 (by first | decide | omega)).trans ((o_1 7 (by first | decide | omega))))).trans hwt
                  replace hw8 := ((o_5 8 (by first | decide | omega)).trans ((o_2 8 (by first | decide | omega)).trans ((o_1 8 (by first | decide | omega))))).trans hw8
                  replace hw9 := ((o_5 9 (by first | decide | omega)).trans ((o_2 9 (by first | decide | omega)).trans ((o_1 9 (by first | decide | omega))))).trans hw9
                  replace hw10 := ((o_5 10 (by first | decide | omega)).trans ((o_2 10 (by first | decide | omega)).trans ((o_1 10 (by first | decide | omega))))).trans hw10
                  replace hw11 := ((o_5 11 (by first | decide | omega)).trans ((o_2 11 (by first | decide | omega)).trans ((o_1 11 (by first | decide | omega))))).trans hw11
                  replace hbk := ((o_5 36 (by first | decide | omega))).trans hbk
                  replace hpr := ((o_5 37 (by first | decide | omega))).trans hpr
                  replace hpd := ((o_5 38 (by first | decide | omega))).trans hpd
                  replace hfr := ((o_5 39 (by first | decide | omega))).trans hfr
                  replace hfd := ((o_5 40 (by first | decide | omega))).trans hfd
                  replace hor := ((o_5 41 (by first | decide | omega))).trans hor
                  replace hod := ((o_5 42 (by first | decide | omega))).trans hod
                  replace har := ((o_5 43 (by first | decide | omega))).trans har
                  replace had := ((o_5 44 (by first | decide | omega))).trans had
                  replace htr := ((o_5 45 (by first | decide | omega))).trans htr
                  replace hct := ((o_5 46 (by first | decide | omega))).trans hct
                  replace hla := ((o_5 47 (by first | decide | omega))).trans hla
                  replace hlaa := ((o_5 48 (by first | decide | omega))).trans hlaa
                  replace hts0 := ((o_5 112 (by first | decide | omega)).trans ((o_2 112 (by first | decide | omega)).trans ((o_1 112 (by first | decide | omega))))).trans hts0
                  replace htsa := ((o_5 113 (by first | decide | omega)).trans ((o_2 113 (by first | decide | omega)).trans ((o_1 113 (by first | decide | omega))))).trans htsa
                  replace hH : ∀ i, i < 10 → okH G g f_5 (2 * i + 16) := fun z hz => okH_fr (hH z hz) (o_5 _ (by omega)) (o_5 _ (by omega))
                  replace hL : ∀ i, i < 20 → ltx G g f_5 (3 * i + 52) (LL i) (LG i) (i < na) := fun z hz => ltx_fr (hL z hz) (o_5 _ (by omega)) (o_5 _ (by omega)) (o_5 _ (by omega))
                  replace hT : ∀ i, i < 4 → txt G g f_2 (3 * i + 117) (TL i) (TG i) := fun z hz => txt_fr (hT z hz) (o_2 _ (by omega)) (o_2 _ (by omega)) (o_2 _ (by omega))
                  replace hT : ∀ i, i < 4 → txt G g f_5 (3 * i + 117) (TL i) (TG i) := fun z hz => txt_fr (hT z hz) (o_5 _ (by omega)) (o_5 _ (by omega)) (o_5 _ (by omega))
                  replace hB1 : bkD G g f_1 129 N1 E1 P1 L1 S1 W1 X1 := bkD_fr hB1 (fun j _ _ => o_1 j (by omega))
                  replace hB1 : bkD G g f_2 129 N1 E1 P1 L1 S1 W1 X1 := bkD_fr hB1 (fun j _ _ => o_2 j (by omega))
                  replace hB1 : bkD G g f_5 129 N1 E1 P1 L1 S1 W1 X1 := bkD_fr hB1 (fun j _ _ => o_5 j (by omega))
                  replace hB2 : bkD G g f_1 222 N2 E2 P2 L2 S2 W2 X2 := bkD_fr hB2 (fun j _ _ => o_1 j (by omega))
                  replace hB2 : bkD G g f_2 222 N2 E2 P2 L2 S2 W2 X2 := bkD_fr hB2 (fun j _ _ => o_2 j (by omega))
                  replace hB2 : bkD G g f_5 222 N2 E2 P2 L2 S2 W2 X2 := bkD_fr hB2 (fun j _ _ => o_5 j (by omega))
                  replace hQn : ∀ z, z < nt → cHz G g f_5 np nf nr na dp df dr da ct LL LG z := fun z hz => okQ_fr (hQn z hz) (o_5 _ (by omega)) (o_5 _ (by omega))
                  exact W.iret (v := sw7 ^^^ sw6) hx hb hr (fun _ hT9 _ => ⟨⟨_, f_5, rfl, (⟨cJ_mk (nt) (hf) (imf) (mc92) (op93) (cm94) (wu95) (mk96) (ab) (be) (mn) (le) (wt) (ww) (wb) (wf) (vv914) (lf) (tf) (hx0) (hctc) (hhs) (him) (hkp) (hrd) (hmk) (hfc6) (hwt) (hw8) (hw9) (hw10) (hw11) (hvl) (hbk) (hpr) (hpd) (hfr) (hfd) (hor) (hod) (har) (had) (htr) (hct) (hla) (hlaa) (hts0) (htsa) (by omega) (hhf) (him0) (him1) (by omega) (by omega) (by omega) (by omega) (by omega) (by omega) (by omega) (hlf) (htf) (by omega) (hH) (hSp) (hL) (hT) (hB1) (hB2) (hQn), fun j hj => (((o_5 j (by omega))).trans (o_2 j (by omega))).trans (o_1 j (by omega))⟩), by rw [hT9]; exact hP⟩, hS.F hT9⟩) hS.2.2 dX10_beside_157
                · have hi13 := hx_4_0 i13 rfl
                  obtain ⟨sc13, sp13, ⟨htx13, hsx13, hpx13, hln13, hsc13⟩, hlw13⟩ := hL i13 (by omega)
                  refine my_bea (v := .ref (g (3 * i13 + 52))) rfl ?_
                  replace hhs := ((o_2 12 (by first | decide | omega))).trans hhs
                  replace hpr := ((o_2 37 (by first | decide | omega))).trans hpr
                  replace hpd := ((o_2 38 (by first | decide | omega))).trans hpd
                  replace hfr := ((o_2 39 (by first | decide | omega))).trans hfr
                  replace hfd := ((o_2 40 (by first | decide | omega))).trans hfd
                  replace hor := ((o_2 41 (by first | decide | omega))).trans hor
                  replace hod := ((o_2 42 (by first | decide | omega))).trans hod
                  refine b_callv (va_runV (As := [.int (nI tn), .ref (g 13), .null, .ref (g (3 * i13 + 52))]) (rest := []) ⟨hx, hb, hml, hown, hts⟩ (u_hear01 l G g hg f_2 nt hf pay fine nt ct np dp nf df nr dr 13 sl6 lo6 ib6 ca6 mi6 s06 s16 sw6 od6 vv99 tn (3 * i13 + 52) (LL i13) sc13 sp13 hctc hhs hbk htr hct hpr hpd hfr hfd hor hod hvl hh6 ho6 htx13 hpx13 (by first | assumption | omega | decide) (by first | assumption | omega | decide) (by first | assumption | omega | decide) (by first | assumption | omega | decide) (by first | assumption | omega | decide) (by first | assumption | omega | decide) (by first | assumption | omega | decide) (by first | assumption | omega | decide) (by first | assumption | omega | decide) (by first | assumption | omega | decide) (by first | assumption | omega | decide) (by first | assumption | omega | decide) (by first | assumption | omega | decide) (by first | assumption | omega | decide) (by first | assumption | omega | decide) (by first | assumption | omega | decide)) (my_cwV hts ok_X1_hear w_810 rfl rfl ⟨Nat.le_of_ble_eq_true rfl, Nat.le_of_ble_eq_true rfl⟩) ⟨bP.blind, va_recv hG.1 hP (ci := 1) (q0 := 1) rfl (wl_at (by decide) hctc), fun U hU hW => ⟨rfl, by rw [hU]; exact hP, kG.warm hW hG⟩⟩ rfl rfl hl.1 rfl (lv_room (Nat.le_of_ble_eq_true rfl)) dX10_beside_132 ⟨Nat.le_of_ble_eq_true rfl, Nat.le_of_ble_eq_true rfl⟩) hS (fun f_6 H locs hq9 hP hS => ?_)
                  obtain ⟨vv915, hq_6_0, hx_6_0, o_6⟩ := hq9
                  have hvl : f_6 15 = eJ G 50 vv915 := hq_6_0
                  have hSp : okH G g f_6 13 := hx_6_0
                  obtain ⟨sl6, lo6, ib6, ca6, mi6, s06, s16, sw6, od6, hh6, ho6, hs6⟩ := id hSp
                  refine lv_aload_n hx hb dX10_beside_135 rfl (lv_at hl 2 rfl) ?_
                  replace hx0 := ((o_6 0 (by first | decide | omega))).trans hx0
                  refine va_get (D := G.1) (ci := 9) (v := .ref (g 1)) (C := RX10) (T := TX10) (N := 7) hx hb hts inlX10 hown hG.1 hP 0 (wl_at (by decide) hx0) rfl 0 (by decide) (hts (.fieldLink RX10 12 "SwornLists" "court" "LSwornLists$Court;") w_15) (fun _ h9 => h9) rfl dX10_beside_136 ?_
                  refine lv_iload_n hx hb dX10_beside_139 rfl (lv_at hl 3 rfl) ?_
                  replace hctc := ((o_6 1 (by first | decide | omega))).trans hctc
                  replace hhs := ((o_6 12 (by first | decide | omega))).trans hhs
                  refine rd_calla (va_runV (As := [.int (nI tn)]) (rest := []) ⟨hx, hb, hml, hown, hts⟩ (u_hearing l G g hg f_6 nt hf tn hctc hhs (by first | assumption | omega | decide) (by first | assumption | omega | decide) (by first | assumption | omega | decide)) (my_cwV hts ok_X1_hearing w_675 rfl rfl ⟨Nat.le_of_ble_eq_true rfl, Nat.le_of_ble_eq_true rfl⟩) ⟨bP.blind, va_recv hG.1 hP (ci := 1) (q0 := 1) rfl (wl_at (by decide) hctc), fun U hU hW => ⟨rfl, by rw [hU]; exact hP, kG.warm hW hG⟩⟩ rfl rfl hl.1 rfl (lv_room (Nat.le_of_ble_eq_true rfl)) dX10_beside_140 ⟨Nat.le_of_ble_eq_true rfl, Nat.le_of_ble_eq_true rfl⟩) (fun r hr9 => ?_)
                  subst hr9
                  replace hh7 : f_6 (2 * tn + 16) = eO 3 [.ref (g (2 * tn + 17)), .int (nI sl7), .int lo7, .int ib7, .int ca7, .int mi7, .int s07, .int s17, .int sw7] := ((o_6 (2 * tn + 16) (by omega))).trans hh7
                  refine va_getN (D := G.1) (ci := 3) (v := .int sw7) (C := RX3) (T := TX3) (N := 9) (host := RX10) hx hb hts inlX3 hown hG.1 hP (2 * tn + 16) (wl_at (by omega) hh7) rfl 8 (by decide) (va_Nw.use rfl (hG.2.1 (.fieldLinkNest RX10 188 RX3 "sworn" "I" RX10) (List.mem_of_getElem? (i := 16) rfl))) (fun _ h9 => h9) rfl dX10_beside_143 ?_
                  refine lv_aload_n hx hb dX10_beside_146 rfl (lv_at hl 2 rfl) ?_
                  refine va_get (D := G.1) (ci := 9) (v := .ref (g 1)) (C := RX10) (T := TX10) (N := 7) hx hb hts inlX10 hown hG.1 hP 0 (wl_at (by decide) hx0) rfl 0 (by decide) (hts (.fieldLink RX10 12 "SwornLists" "court" "LSwornLists$Court;") w_15) (fun _ h9 => h9) rfl dX10_beside_147 ?_
                  refine va_getN (D := G.1) (ci := 1) (v := .ref (g 13)) (C := RX1) (T := TX1) (N := 5) (host := RX10) hx hb hts inlX1 hown hG.1 hP 1 (wl_at (by decide) hctc) rfl 2 (by decide) (va_Nw.use rfl (hG.2.1 (.fieldLinkNest RX10 236 RX1 "spare" "LSwornLists$Hearing;" RX10) (List.mem_of_getElem? (i := 18) rfl))) (fun _ h9 => h9) rfl dX10_beside_150 ?_
                  refine va_getN (D := G.1) (ci := 3) (v := .int sw6) (C := RX3) (T := TX3) (N := 9) (host := RX10) hx hb hts inlX3 hown hG.1 hP 13 (wl_at (by decide) hh6) rfl 8 (by decide) (va_Nw.use rfl (hG.2.1 (.fieldLinkNest RX10 188 RX3 "sworn" "I" RX10) (List.mem_of_getElem? (i := 16) rfl))) (fun _ h9 => h9) rfl dX10_beside_153 ?_
                  refine lv_ixor hx hb dX10_beside_156 ?_
                  refine W_q9 hQ9 ?_
                  replace him := ((o_6 2 (by first | decide | omega)).trans ((o_2 2 (by first | decide | omega)).trans ((o_1 2 (by first | decide | omega))))).trans him
                  replace hkp := ((o_6 3 (by first | decide | omega)).trans ((o_2 3 (by first | decide | omega)).trans ((o_1 3 (by first | decide | omega))))).trans hkp
                  replace hrd := ((o_6 4 (by first | decide | omega)).trans ((o_2 4 (by first | decide | omega)))).trans hrd
                  replace hmk := ((o_6 5 (by first | decide | omega)).trans ((o_2 5 (by first | decide | omega)))).trans hmk
                  replace hfc6 := ((o_6 6 (by first | decide | omega)).trans ((o_2 6 (by first | decide | omega)).trans ((o_1 6 (by first | decide | omega))))).trans hfc6
                  replace hwt := ((o_6 7 (by first | decide | omega)).trans ((o_2 7 (by first | decide | omega)).trans ((o_1 7 (by first | decide | omega))))).trans hwt
                  replace hw8 := ((o_6 8 (by first | decide | omega)).trans ((o_2 8 (by first | decide | omega)).trans ((o_1 8 (by first | decide | omega))))).trans hw8
                  replace hw9 := ((o_6 9 (by first | decide | omega)).trans ((o_2 9 (by first | decide | omega)).trans ((o_1 9 (by first | decide | omega))))).trans hw9
                  replace hw10 := ((o_6 10 (by first | decide | omega)).trans ((o_2 10 (by first | decide | omega)).trans ((o_1 10 (by first | decide | omega))))).trans hw10
                  replace hw11 := ((o_6 11 (by first | decide | omega)).trans ((o_2 11 (by first | decide | omega)).trans ((o_1 11 (by first | decide | omega))))).trans hw11
                  replace hbk := ((o_6 36 (by first | decide | omega))).trans hbk
                  replace hpr := ((o_6 37 (by first | decide | omega))).trans hpr
                  replace hpd := ((o_6 38 (by first | decide | omega))).trans hpd
                  replace hfr := ((o_6 39 (by first | decide | omega))).trans hfr
                  replace hfd := ((o_6 40 (by first | decide | omega))).trans hfd
                  replace hor := ((o_6 41 (by first | decide | omega))).trans hor
                  replace hod := ((o_6 42 (by first | decide | omega))).trans hod
                  replace har := ((o_6 43 (by first | decide | omega))).trans har
                  replace had := ((o_6 44 (by first | decide | omega))).trans had
                  replace htr := ((o_6 45 (by first | decide | omega))).trans htr
                  replace hct := ((o_6 46 (by first | decide | omega))).trans hct
                  replace hla := ((o_6 47 (by first | decide | omega))).trans hla
                  replace hlaa := ((o_6 48 (by first | decide | omega))).trans hlaa
                  replace hts0 := ((o_6 112 (by first | decide | omega)).trans ((o_2 112 (by first | decide | omega)).trans ((o_1 112 (by first | decide | omega))))).trans hts0
                  replace htsa := ((o_6 113 (by first | decide | omega)).trans ((o_2 113 (by first | decide | omega)).trans ((o_1 113 (by first | decide | omega))))).trans htsa
                  replace hH : ∀ i, i < 10 → okH G g f_6 (2 * i + 16) := fun z hz => okH_fr (hH z hz) (o_6 _ (by omega)) (o_6 _ (by omega))
                  replace hL : ∀ i, i < 20 → ltx G g f_6 (3 * i + 52) (LL i) (LG i) (i < na) := fun z hz => ltx_fr (hL z hz) (o_6 _ (by omega)) (o_6 _ (by omega)) (o_6 _ (by omega))
                  replace hT : ∀ i, i < 4 → txt G g f_2 (3 * i + 117) (TL i) (TG i) := fun z hz => txt_fr (hT z hz) (o_2 _ (by omega)) (o_2 _ (by omega)) (o_2 _ (by omega))
                  replace hT : ∀ i, i < 4 → txt G g f_6 (3 * i + 117) (TL i) (TG i) := fun z hz => txt_fr (hT z hz) (o_6 _ (by omega)) (o_6 _ (by omega)) (o_6 _ (by omega))
                  replace hB1 : bkD G g f_1 129 N1 E1 P1 L1 S1 W1 X1 := bkD_fr hB1 (fun j _ _ => o_1 j (by omega))
                  replace hB1 : bkD G g f_2 129 N1 E1 P1 L1 S1 W1 X1 := bkD_fr hB1 (fun j _ _ => o_2 j (by omega))
                  replace hB1 : bkD G g f_6 129 N1 E1 P1 L1 S1 W1 X1 := bkD_fr hB1 (fun j _ _ => o_6 j (by omega))
                  replace hB2 : bkD G g f_1 222 N2 E2 P2 L2 S2 W2 X2 := bkD_fr hB2 (fun j _ _ => o_1 j (by omega))
                  replace hB2 : bkD G g f_2 222 N2 E2 P2 L2 S2 W2 X2 := bkD_fr hB2 (fun j _ _ => o_2 j (by omega))
                  replace hB2 : bkD G g f_6 222 N2 E2 P2 L2 S2 W2 X2 := bkD_fr hB2 (fun j _ _ => o_6 j (by omega))
                  replace hQn : ∀ z, z < nt → cHz G g f_6 np nf nr na dp df dr da ct LL LG z := fun z hz => okQ_fr (hQn z hz) (o_6 _ (by omega)) (o_6 _ (by omega))
                  exact W.iret (v := sw7 ^^^ sw6) hx hb hr (fun _ hT9 _ => ⟨⟨_, f_6, rfl, (⟨cJ_mk (nt) (hf) (imf) (mc92) (op93) (cm94) (wu95) (mk96) (ab) (be) (mn) (le) (wt) (ww) (wb) (wf) (vv915) (lf) (tf) (hx0) (hctc) (hhs) (him) (hkp) (hrd) (hmk) (hfc6) (hwt) (hw8) (hw9) (hw10) (hw11) (hvl) (hbk) (hpr) (hpd) (hfr) (hfd) (hor) (hod) (har) (had) (htr) (hct) (hla) (hlaa) (hts0) (htsa) (by omega) (hhf) (him0) (him1) (by omega) (by omega) (by omega) (by omega) (by omega) (by omega) (by omega) (hlf) (htf) (by omega) (hH) (hSp) (hL) (hT) (hB1) (hB2) (hQn), fun j hj => (((o_6 j (by omega))).trans (o_2 j (by omega))).trans (o_1 j (by omega))⟩), by rw [hT9]; exact hP⟩, hS.F hT9⟩) hS.2.2 dX10_beside_157
              · refine lv_aload hx hb dX10_beside_117 (lv_at hl 1 rfl) ?_
                refine lv_goto (tgt := 132) hx hb dX10_beside_119 (by decide) ?_
                replace hhs := ((o_2 12 (by first | decide | omega))).trans hhs
                replace hpr := ((o_2 37 (by first | decide | omega))).trans hpr
                replace hpd := ((o_2 38 (by first | decide | omega))).trans hpd
                replace hfr := ((o_2 39 (by first | decide | omega))).trans hfr
                replace hfd := ((o_2 40 (by first | decide | omega))).trans hfd
                replace hor := ((o_2 41 (by first | decide | omega))).trans hor
                replace hod := ((o_2 42 (by first | decide | omega))).trans hod
                replace htx7 : f_2 (3 * xn + 117) = eO 7 [.ref (g ((3 * xn + 117) + 1)), .ref (g ((3 * xn + 117) + 2)), .int (nI (TL xn)), .int (nI sc97)] := ((o_2 (3 * xn + 117) (by omega))).trans htx7
                replace hpx7 : f_2 (3 * xn + 119) = eI G 50 sp98 := ((o_2 (3 * xn + 119) (by omega))).trans hpx7
                refine b_callv (va_runV (As := [.int (nI tn), .ref (g 13), .null, .ref (g (3 * xn + 117))]) (rest := []) ⟨hx, hb, hml, hown, hts⟩ (u_hear01 l G g hg f_2 nt hf pay fine nt ct np dp nf df nr dr 13 sl6 lo6 ib6 ca6 mi6 s06 s16 sw6 od6 vv99 tn (3 * xn + 117) (TL xn) sc97 sp98 hctc hhs hbk htr hct hpr hpd hfr hfd hor hod hvl hh6 ho6 htx7 hpx7 (by first | assumption | omega | decide) (by first | assumption | omega | decide) (by first | assumption | omega | decide) (by first | assumption | omega | decide) (by first | assumption | omega | decide) (by first | assumption | omega | decide) (by first | assumption | omega | decide) (by first | assumption | omega | decide) (by first | assumption | omega | decide) (by first | assumption | omega | decide) (by first | assumption | omega | decide) (by first | assumption | omega | decide) (by first | assumption | omega | decide) (by first | assumption | omega | decide) (by first | assumption | omega | decide) (by first | assumption | omega | decide)) (my_cwV hts ok_X1_hear w_810 rfl rfl ⟨Nat.le_of_ble_eq_true rfl, Nat.le_of_ble_eq_true rfl⟩) ⟨bP.blind, va_recv hG.1 hP (ci := 1) (q0 := 1) rfl (wl_at (by decide) hctc), fun U hU hW => ⟨rfl, by rw [hU]; exact hP, kG.warm hW hG⟩⟩ rfl rfl hl.1 rfl (lv_room (Nat.le_of_ble_eq_true rfl)) dX10_beside_132 ⟨Nat.le_of_ble_eq_true rfl, Nat.le_of_ble_eq_true rfl⟩) hS (fun f_7 H locs hq9 hP hS => ?_)
                obtain ⟨vv916, hq_7_0, hx_7_0, o_7⟩ := hq9
                have hvl : f_7 15 = eJ G 50 vv916 := hq_7_0
                have hSp : okH G g f_7 13 := hx_7_0
                obtain ⟨sl6, lo6, ib6, ca6, mi6, s06, s16, sw6, od6, hh6, ho6, hs6⟩ := id hSp
                refine lv_aload_n hx hb dX10_beside_135 rfl (lv_at hl 2 rfl) ?_
                replace hx0 := ((o_7 0 (by first | decide | omega))).trans hx0
                refine va_get (D := G.1) (ci := 9) (v := .ref (g 1)) (C := RX10) (T := TX10) (N := 7) hx hb hts inlX10 hown hG.1 hP 0 (wl_at (by decide) hx0) rfl 0 (by decide) (hts (.fieldLink RX10 12 "SwornLists" "court" "LSwornLists$Court;") w_15) (fun _ h9 => h9) rfl dX10_beside_136 ?_
                refine lv_iload_n hx hb dX10_beside_139 rfl (lv_at hl 3 rfl) ?_
                replace hctc := ((o_7 1 (by first | decide | omega))).trans hctc
                replace hhs := ((o_7 12 (by first | decide | omega))).trans hhs
                refine rd_calla (va_runV (As := [.int (nI tn)]) (rest := []) ⟨hx, hb, hml, hown, hts⟩ (u_hearing l G g hg f_7 nt hf tn hctc hhs (by first | assumption | omega | decide) (by first | assumption | omega | decide) (by first | assumption | omega | decide)) (my_cwV hts ok_X1_hearing w_675 rfl rfl ⟨Nat.le_of_ble_eq_true rfl, Nat.le_of_ble_eq_true rfl⟩) ⟨bP.blind, va_recv hG.1 hP (ci := 1) (q0 := 1) rfl (wl_at (by decide) hctc), fun U hU hW => ⟨rfl, by rw [hU]; exact hP, kG.warm hW hG⟩⟩ rfl rfl hl.1 rfl (lv_room (Nat.le_of_ble_eq_true rfl)) dX10_beside_140 ⟨Nat.le_of_ble_eq_true rfl, Nat.le_of_ble_eq_true rfl⟩) (fun r hr9 => ?_)
                subst hr9
                replace hh7 : f_7 (2 * tn + 16) = eO 3 [.ref (g (2 * tn + 17)), .int (nI sl7), .int lo7, .int ib7, .int ca7, .int mi7, .int s07, .int s17, .int sw7] := ((o_7 (2 * tn + 16) (by omega))).trans hh7
                refine va_getN (D := G.1) (ci := 3) (v := .int sw7) (C := RX3) (T := TX3) (N := 9) (host := RX10) hx hb hts inlX3 hown hG.1 hP (2 * tn + 16) (wl_at (by omega) hh7) rfl 8 (by decide) (va_Nw.use rfl (hG.2.1 (.fieldLinkNest RX10 188 RX3 "sworn" "I" RX10) (List.mem_of_getElem? (i := 16) rfl))) (fun _ h9 => h9) rfl dX10_beside_143 ?_
                refine lv_aload_n hx hb dX10_beside_146 rfl (lv_at hl 2 rfl) ?_
                refine va_get (D := G.1) (ci := 9) (v := .ref (g 1)) (C := RX10) (T := TX10) (N := 7) hx hb hts inlX10 hown hG.1 hP 0 (wl_at (by decide) hx0) rfl 0 (by decide) (hts (.fieldLink RX10 12 "SwornLists" "court" "LSwornLists$Court;") w_15) (fun _ h9 => h9) rfl dX10_beside_147 ?_
                refine va_getN (D := G.1) (ci := 1) (v := .ref (g 13)) (C := RX1) (T := TX1) (N := 5) (host := RX10) hx hb hts inlX1 hown hG.1 hP 1 (wl_at (by decide) hctc) rfl 2 (by decide) (va_Nw.use rfl (hG.2.1 (.fieldLinkNest RX10 236 RX1 "spare" "LSwornLists$Hearing;" RX10) (List.mem_of_getElem? (i := 18) rfl))) (fun _ h9 => h9) rfl dX10_beside_150 ?_
                refine va_getN (D := G.1) (ci := 3) (v := .int sw6) (C := RX3) (T := TX3) (N := 9) (host := RX10) hx hb hts inlX3 hown hG.1 hP 13 (wl_at (by decide) hh6) rfl 8 (by decide) (va_Nw.use rfl (hG.2.1 (.fieldLinkNest RX10 188 RX3 "sworn" "I" RX10) (List.mem_of_getElem? (i := 16) rfl))) (fun _ h9 => h9) rfl dX10_beside_153 ?_
                refine lv_ixor hx hb dX10_beside_156 ?_
                refine W_q9 hQ9 ?_
                replace him := ((o_7 2 (by first | decide | omega)).trans ((o_2 2 (by first | decide | omega)).trans ((o_1 2 (by first | decide | omega))))).trans him
                replace hkp := ((o_7 3 (by first | decide | omega)).trans ((o_2 3 (by first | decide | omega)).trans ((o_1 3 (by first | decide | omega))))).trans hkp
                replace hrd := ((o_7 4 (by first | decide | omega)).trans ((o_2 4 (by first | decide | omega)))).trans hrd
                replace hmk := ((o_7 5 (by first | decide | omega)).trans ((o_2 5 (by first | decide | omega)))).trans hmk
                replace hfc6 := ((o_7 6 (by first | decide | omega)).trans ((o_2 6 (by first | decide | omega)).trans ((o_1 6 (by first | decide | omega))))).trans hfc6
                replace hwt := ((o_7 7 (by first | decide | omega)).trans ((o_2 7 (by first | decide | omega)).trans ((o_1 7 (by first | decide | omega))))).trans hwt
                replace hw8 := ((o_7 8 (by first | decide | omega)).trans ((o_2 8 (by first | decide | omega)).trans ((o_1 8 (by first | decide | omega))))).trans hw8
                replace hw9 := ((o_7 9 (by first | decide | omega)).trans ((o_2 9 (by first | decide | omega)).trans ((o_1 9 (by first | decide | omega))))).trans hw9
                replace hw10 := ((o_7 10 (by first | decide | omega)).trans ((o_2 10 (by first | decide | omega)).trans ((o_1 10 (by first | decide | omega))))).trans hw10
                replace hw11 := ((o_7 11 (by first | decide | omega)).trans ((o_2 11 (by first | decide | omega)).trans ((o_1 11 (by first | decide | omega))))).trans hw11
                replace hbk := ((o_7 36 (by first | decide | omega))).trans hbk
                replace hpr := ((o_7 37 (by first | decide | omega))).trans hpr
                replace hpd := ((o_7 38 (by first | decide | omega))).trans hpd
                replace hfr := ((o_7 39 (by first | decide | omega))).trans hfr
                replace hfd := ((o_7 40 (by first | decide | omega))).trans hfd
                replace hor := ((o_7 41 (by first | decide | omega))).trans hor
                replace hod := ((o_7 42 (by first | decide | omega))).trans hod
                replace har := ((o_7 43 (by first | decide | omega))).trans har
                replace had := ((o_7 44 (by first | decide | omega))).trans had
                replace htr := ((o_7 45 (by first | decide | omega))).trans htr
                replace hct := ((o_7 46 (by first | decide | omega))).trans hct
                replace hla := ((o_7 47 (by first | decide | omega))).trans hla
                replace hlaa := ((o_7 48 (by first | decide | omega))).trans hlaa
                replace hts0 := ((o_7 112 (by first | decide | omega)).trans ((o_2 112 (by first | decide | omega)).trans ((o_1 112 (by first | decide | omega))))).trans hts0
                replace htsa := ((o_7 113 (by first | decide | omega)).trans ((o_2 113 (by first | decide | omega)).trans ((o_1 113 (by first | decide | omega))))).trans htsa
                replace hH : ∀ i, i < 10 → okH G g f_7 (2 * i + 16) := fun z hz => okH_fr (hH z hz) (o_7 _ (by omega)) (o_7 _ (by omega))
                replace hL : ∀ i, i < 20 → ltx G g f_7 (3 * i + 52) (LL i) (LG i) (i < na) := fun z hz => ltx_fr (hL z hz) (o_7 _ (by omega)) (o_7 _ (by omega)) (o_7 _ (by omega))
                replace hT : ∀ i, i < 4 → txt G g f_2 (3 * i + 117) (TL i) (TG i) := fun z hz => txt_fr (hT z hz) (o_2 _ (by omega)) (o_2 _ (by omega)) (o_2 _ (by omega))
                replace hT : ∀ i, i < 4 → txt G g f_7 (3 * i + 117) (TL i) (TG i) := fun z hz => txt_fr (hT z hz) (o_7 _ (by omega)) (o_7 _ (by omega)) (o_7 _ (by omega))
                replace hB1 : bkD G g f_1 129 N1 E1 P1 L1 S1 W1 X1 := bkD_fr hB1 (fun j _ _ => o_1 j (by omega))
                replace hB1 : bkD G g f_2 129 N1 E1 P1 L1 S1 W1 X1 := bkD_fr hB1 (fun j _ _ => o_2 j (by omega))
                replace hB1 : bkD G g f_7 129 N1 E1 P1 L1 S1 W1 X1 := bkD_fr hB1 (fun j _ _ => o_7 j (by omega))
                replace hB2 : bkD G g f_1 222 N2 E2 P2 L2 S2 W2 X2 := bkD_fr hB2 (fun j _ _ => o_1 j (by omega))
                replace hB2 : bkD G g f_2 222 N2 E2 P2 L2 S2 W2 X2 := bkD_fr hB2 (fun j _ _ => o_2 j (by omega))
                replace hB2 : bkD G g f_7 222 N2 E2 P2 L2 S2 W2 X2 := bkD_fr hB2 (fun j _ _ => o_7 j (by omega))
                replace hQn : ∀ z, z < nt → cHz G g f_7 np nf nr na dp df dr da ct LL LG z := fun z hz => okQ_fr (hQn z hz) (o_7 _ (by omega)) (o_7 _ (by omega))
                exact W.iret (v := sw7 ^^^ sw6) hx hb hr (fun _ hT9 _ => ⟨⟨_, f_7, rfl, (⟨cJ_mk (nt) (hf) (imf) (mc92) (op93) (cm94) (wu95) (mk96) (ab) (be) (mn) (le) (wt) (ww) (wb) (wf) (vv916) (lf) (tf) (hx0) (hctc) (hhs) (him) (hkp) (hrd) (hmk) (hfc6) (hwt) (hw8) (hw9) (hw10) (hw11) (hvl) (hbk) (hpr) (hpd) (hfr) (hfd) (hor) (hod) (har) (had) (htr) (hct) (hla) (hlaa) (hts0) (htsa) (by omega) (hhf) (him0) (him1) (by omega) (by omega) (by omega) (by omega) (by omega) (by omega) (by omega) (hlf) (htf) (by omega) (hH) (hSp) (hL) (hT) (hB1) (hB2) (hQn), fun j hj => (((o_7 j (by omega))).trans (o_2 j (by omega))).trans (o_1 j (by omega))⟩), by rw [hT9]; exact hP⟩, hS.F hT9⟩) hS.2.2 dX10_beside_157
            · have hi11 := hx_3_0 i11 rfl
              obtain ⟨sc11, sp11, ⟨htx11, hsx11, hpx11, hln11, hsc11⟩, hlw11⟩ := hL i11 (by omega)
              refine my_bea (v := .ref (g (3 * i11 + 52))) rfl ?_
              refine lv_iload_n hx hb dX10_beside_112 rfl (lv_at hl 5 rfl) ?_
              refine lv_iconst (v := 1) hx hb dX10_beside_113 (by decide) ?_
              refine lv_icmp_ne (tgt := 122) hx hb dX10_beside_114 (by decide) (fun c_114 => ?_) (fun c_114 => ?_)
              · refine lv_aload_n hx hb dX10_beside_122 rfl (lv_at hl 2 rfl) ?_
                refine va_get (D := G.1) (ci := 9) (v := .ref (g 36)) (C := RX10) (T := TX10) (N := 7) hx hb hts inlX10 hown hG.1 hP 0 (wl_at (by decide) hx0) rfl 1 (by decide) (hts (.fieldLink RX10 20 "SwornLists" "book" "LSwornLists$Book;") w_16) (fun _ h9 => h9) rfl dX10_beside_123 ?_
                refine lv_iconst (v := 1) hx hb dX10_beside_126 (by decide) ?_
                refine lv_iload hx hb dX10_beside_127 (lv_at hl 0 rfl) ?_
                refine rd_calla (va_runV (As := [.int 1, .int (atv ct nt 70 (nI tn) 0)]) (rest := [.ref (g (3 * i11 + 52)), .ref (g 13), .int (nI tn), .ref (g 1)]) ⟨hx, hb, hml, hown, hts⟩ (k_lawOf l G g hg f_2 pay fine na da lf 1 (atv ct nt 70 (nI tn) 0) hbk har had hla hlaa (by first | assumption | omega | decide) (by first | assumption | omega | decide)) (my_cwV hts ok_X0_lawOf w_628 rfl rfl ⟨Nat.le_of_ble_eq_true rfl, Nat.le_of_ble_eq_true rfl⟩) ⟨bP.blind, va_recv hG.1 hP (ci := 0) (q0 := 36) rfl (wl_at (by decide) hbk), fun U hU hW => ⟨rfl, by rw [hU]; exact hP, kG.warm hW hG⟩⟩ rfl rfl hl.1 rfl (lv_room (Nat.le_of_ble_eq_true rfl)) dX10_beside_129 ⟨Nat.le_of_ble_eq_true rfl, Nat.le_of_ble_eq_true rfl⟩) (fun r hr9 => ?_)
                obtain ⟨o917, rfl, hx_8_0⟩ := hr9
                rcases o917 with _ | i18
                · refine my_bea (v := .null) rfl ?_
                  replace hhs := ((o_2 12 (by first | decide | omega))).trans hhs
                  replace hpr := ((o_2 37 (by first | decide | omega))).trans hpr
                  replace hpd := ((o_2 38 (by first | decide | omega))).trans hpd
                  replace hfr := ((o_2 39 (by first | decide | omega))).trans hfr
                  replace hfd := ((o_2 40 (by first | decide | omega))).trans hfd
                  replace hor := ((o_2 41 (by first | decide | omega))).trans hor
                  replace hod := ((o_2 42 (by first | decide | omega))).trans hod
                  refine b_callv (va_runV (As := [.int (nI tn), .ref (g 13), .ref (g (3 * i11 + 52)), .null]) (rest := []) ⟨hx, hb, hml, hown, hts⟩ (u_hear10 l G g hg f_2 nt hf pay fine nt ct np dp nf df nr dr 13 sl6 lo6 ib6 ca6 mi6 s06 s16 sw6 od6 vv99 tn (3 * i11 + 52) (LL i11) sc11 sp11 hctc hhs hbk htr hct hpr hpd hfr hfd hor hod hvl hh6 ho6 htx11 hpx11 (by first | assumption | omega | decide) (by first | assumption | omega | decide) (by first | assumption | omega | decide) (by first | assumption | omega | decide) (by first | assumption | omega | decide) (by first | assumption | omega | decide) (by first | assumption | omega | decide) (by first | assumption | omega | decide) (by first | assumption | omega | decide) (by first | assumption | omega | decide) (by first | assumption | omega | decide) (by first | assumption | omega | decide) (by first | assumption | omega | decide) (by first | assumption | omega | decide) (by first | assumption | omega | decide) (by first | assumption | omega | decide)) (my_cwV hts ok_X1_hear w_810 rfl rfl ⟨Nat.le_of_ble_eq_true rfl, Nat.le_of_ble_eq_true rfl⟩) ⟨bP.blind, va_recv hG.1 hP (ci := 1) (q0 := 1) rfl (wl_at (by decide) hctc), fun U hU hW => ⟨rfl, by rw [hU]; exact hP, kG.warm hW hG⟩⟩ rfl rfl hl.1 rfl (lv_room (Nat.le_of_ble_eq_true rfl)) dX10_beside_132 ⟨Nat.le_of_ble_eq_true rfl, Nat.le_of_ble_eq_true rfl⟩) hS (fun f_9 H locs hq9 hP hS => ?_)
                  obtain ⟨vv919, hq_9_0, hx_9_0, o_9⟩ := hq9
                  have hvl : f_9 15 = eJ G 50 vv919 := hq_9_0
                  have hSp : okH G g f_9 13 := hx_9_0
                  obtain ⟨sl6, lo6, ib6, ca6, mi6, s06, s16, sw6, od6, hh6, ho6, hs6⟩ := id hSp
                  refine lv_aload_n hx hb dX10_beside_135 rfl (lv_at hl 2 rfl) ?_
                  replace hx0 := ((o_9 0 (by first | decide | omega))).trans hx0
                  refine va_get (D := G.1) (ci := 9) (v := .ref (g 1)) (C := RX10) (T := TX10) (N := 7) hx hb hts inlX10 hown hG.1 hP 0 (wl_at (by decide) hx0) rfl 0 (by decide) (hts (.fieldLink RX10 12 "SwornLists" "court" "LSwornLists$Court;") w_15) (fun _ h9 => h9) rfl dX10_beside_136 ?_
                  refine lv_iload_n hx hb dX10_beside_139 rfl (lv_at hl 3 rfl) ?_
                  replace hctc := ((o_9 1 (by first | decide | omega))).trans hctc
                  replace hhs := ((o_9 12 (by first | decide | omega))).trans hhs
                  refine rd_calla (va_runV (As := [.int (nI tn)]) (rest := []) ⟨hx, hb, hml, hown, hts⟩ (u_hearing l G g hg f_9 nt hf tn hctc hhs (by first | assumption | omega | decide) (by first | assumption | omega | decide) (by first | assumption | omega | decide)) (my_cwV hts ok_X1_hearing w_675 rfl rfl ⟨Nat.le_of_ble_eq_true rfl, Nat.le_of_ble_eq_true rfl⟩) ⟨bP.blind, va_recv hG.1 hP (ci := 1) (q0 := 1) rfl (wl_at (by decide) hctc), fun U hU hW => ⟨rfl, by rw [hU]; exact hP, kG.warm hW hG⟩⟩ rfl rfl hl.1 rfl (lv_room (Nat.le_of_ble_eq_true rfl)) dX10_beside_140 ⟨Nat.le_of_ble_eq_true rfl, Nat.le_of_ble_eq_true rfl⟩) (fun r hr9 => ?_)
                  subst hr9
                  replace hh7 : f_9 (2 * tn + 16) = eO 3 [.ref (g (2 * tn + 17)), .int (nI sl7), .int lo7, .int ib7, .int ca7, .int mi7, .int s07, .int s17, .int sw7] := ((o_9 (2 * tn + 16) (by omega))).trans hh7
                  refine va_getN (D := G.1) (ci := 3) (v := .int sw7) (C := RX3) (T := TX3) (N := 9) (host := RX10) hx hb hts inlX3 hown hG.1 hP (2 * tn + 16) (wl_at (by omega) hh7) rfl 8 (by decide) (va_Nw.use rfl (hG.2.1 (.fieldLinkNest RX10 188 RX3 "sworn" "I" RX10) (List.mem_of_getElem? (i := 16) rfl))) (fun _ h9 => h9) rfl dX10_beside_143 ?_
                  refine lv_aload_n hx hb dX10_beside_146 rfl (lv_at hl 2 rfl) ?_
                  refine va_get (D := G.1) (ci := 9) (v := .ref (g 1)) (C := RX10) (T := TX10) (N := 7) hx hb hts inlX10 hown hG.1 hP 0 (wl_at (by decide) hx0) rfl 0 (by decide) (hts (.fieldLink RX10 12 "SwornLists" "court" "LSwornLists$Court;") w_15) (fun _ h9 => h9) rfl dX10_beside_147 ?_
                  refine va_getN (D := G.1) (ci := 1) (v := .ref (g 13)) (C := RX1) (T := TX1) (N := 5) (host := RX10) hx hb hts inlX1 hown hG.1 hP 1 (wl_at (by decide) hctc) rfl 2 (by decide) (va_Nw.use rfl (hG.2.1 (.fieldLinkNest RX10 236 RX1 "spare" "LSwornLists$Hearing;" RX10) (List.mem_of_getElem? (i := 18) rfl))) (fun _ h9 => h9) rfl dX10_beside_150 ?_
                  refine va_getN (D := G.1) (ci := 3) (v := .int sw6) (C := RX3) (T := TX3) (N := 9) (host := RX10) hx hb hts inlX3 hown hG.1 hP 13 (wl_at (by decide) hh6) rfl 8 (by decide) (va_Nw.use rfl (hG.2.1 (.fieldLinkNest RX10 188 RX3 "sworn" "I" RX10) (List.mem_of_getElem? (i := 16) rfl))) (fun _ h9 => h9) rfl dX10_beside_153 ?_
                  refine lv_ixor hx hb dX10_beside_156 ?_
                  refine W_q9 hQ9 ?_
                  replace him := ((o_9 2 (by first | decide | omega)).trans ((o_2 2 (by first | decide | omega)).trans ((o_1 2 (by first | decide | omega))))).trans him
                  replace hkp := ((o_9 3 (by first | decide | omega)).trans ((o_2 3 (by first | decide | omega)).trans ((o_1 3 (by first | decide | omega))))).trans hkp
                  replace hrd := ((o_9 4 (by first | decide | omega)).trans ((o_2 4 (by first | decide | omega)))).trans hrd
                  replace hmk := ((o_9 5 (by first | decide | omega)).trans ((o_2 5 (by first | decide | omega)))).trans hmk
                  replace hfc6 := ((o_9 6 (by first | decide | omega)).trans ((o_2 6 (by first | decide | omega)).trans ((o_1 6 (by first | decide | omega))))).trans hfc6
                  replace hwt := ((o_9 7 (by first | decide | omega)).trans ((o_2 7 (by first | decide | omega)).trans ((o_1 7 (by first | decide | omega))))).trans hwt
                  replace hw8 := ((o_9 8 (by first | decide | omega)).trans ((o_2 8 (by first | decide | omega)).trans ((o_1 8 (by first | decide | omega))))).trans hw8
                  replace hw9 := ((o_9 9 (by first | decide | omega)).trans ((o_2 9 (by first | decide | omega)).trans ((o_1 9 (by first | decide | omega))))).trans hw9
                  replace hw10 := ((o_9 10 (by first | decide | omega)).trans ((o_2 10 (by first | decide | omega)).trans ((o_1 10 (by first | decide | omega))))).trans hw10
                  replace hw11 := ((o_9 11 (by first | decide | omega)).trans ((o_2 11 (by first | decide | omega)).trans ((o_1 11 (by first | decide | omega))))).trans hw11
                  replace hbk := ((o_9 36 (by first | decide | omega))).trans hbk
                  replace hpr := ((o_9 37 (by first | decide | omega))).trans hpr
                  replace hpd := ((o_9 38 (by first | decide | omega))).trans hpd
                  replace hfr := ((o_9 39 (by first | decide | omega))).trans hfr
                  replace hfd := ((o_9 40 (by first | decide | omega))).trans hfd
                  replace hor := ((o_9 41 (by first | decide | omega))).trans hor
                  replace hod := ((o_9 42 (by first | decide | omega))).trans hod
                  replace har := ((o_9 43 (by first | decide | omega))).trans har
                  replace had := ((o_9 44 (by first | decide | omega))).trans had
                  replace htr := ((o_9 45 (by first | decide | omega))).trans htr
                  replace hct := ((o_9 46 (by first | decide | omega))).trans hct
                  replace hla := ((o_9 47 (by first | decide | omega))).trans hla
                  replace hlaa := ((o_9 48 (by first | decide | omega))).trans hlaa
                  replace hts0 := ((o_9 112 (by first | decide | omega)).trans ((o_2 112 (by first | decide | omega)).trans ((o_1 112 (by first | decide | omega))))).trans hts0
                  replace htsa := ((o_9 113 (by first | decide | omega)).trans ((o_2 113 (by first | decide | omega)).trans ((o_1 113 (by first | decide | omega))))).trans htsa
                  replace hH : ∀ i, i < 10 → okH G g f_9 (2 * i + 16) := fun z hz => okH_fr (hH z hz) (o_9 _ (by omega)) (o_9 _ (by omega))
                  replace hL : ∀ i, i < 20 → ltx G g f_9 (3 * i + 52) (LL i) (LG i) (i < na) := fun z hz => ltx_fr (hL z hz) (o_9 _ (by omega)) (o_9 _ (by omega)) (o_9 _ (by omega))
                  replace hT : ∀ i, i < 4 → txt G g f_2 (3 * i + 117) (TL i) (TG i) := fun z hz => txt_fr (hT z hz) (o_2 _ (by omega)) (o_2 _ (by omega)) (o_2 _ (by omega))
                  replace hT : ∀ i, i < 4 → txt G g f_9 (3 * i + 117) (TL i) (TG i) := fun z hz => txt_fr (hT z hz) (o_9 _ (by omega)) (o_9 _ (by omega)) (o_9 _ (by omega))
                  replace hB1 : bkD G g f_1 129 N1 E1 P1 L1 S1 W1 X1 := bkD_fr hB1 (fun j _ _ => o_1 j (by omega))
                  replace hB1 : bkD G g f_2 129 N1 E1 P1 L1 S1 W1 X1 := bkD_fr hB1 (fun j _ _ => o_2 j (by omega))
                  replace hB1 : bkD G g f_9 129 N1 E1 P1 L1 S1 W1 X1 := bkD_fr hB1 (fun j _ _ => o_9 j (by omega))
                  replace hB2 : bkD G g f_1 222 N2 E2 P2 L2 S2 W2 X2 := bkD_fr hB2 (fun j _ _ => o_1 j (by omega))
                  replace hB2 : bkD G g f_2 222 N2 E2 P2 L2 S2 W2 X2 := bkD_fr hB2 (fun j _ _ => o_2 j (by omega))
                  replace hB2 : bkD G g f_9 222 N2 E2 P2 L2 S2 W2 X2 := bkD_fr hB2 (fun j _ _ => o_9 j (by omega))
                  replace hQn : ∀ z, z < nt → cHz G g f_9 np nf nr na dp df dr da ct LL LG z := fun z hz => okQ_fr (hQn z hz) (o_9 _ (by omega)) (o_9 _ (by omega))
                  exact W.iret (v := sw7 ^^^ sw6) hx hb hr (fun _ hT9 _ => ⟨⟨_, f_9, rfl, (⟨cJ_mk (nt) (hf) (imf) (mc92) (op93) (cm94) (wu95) (mk96) (ab) (be) (mn) (le) (wt) (ww) (wb) (wf) (vv919) (lf) (tf) (hx0) (hctc) (hhs) (him) (hkp) (hrd) (hmk) (hfc6) (hwt) (hw8) (hw9) (hw10) (hw11) (hvl) (hbk) (hpr) (hpd) (hfr) (hfd) (hor) (hod) (har) (had) (htr) (hct) (hla) (hlaa) (hts0) (htsa) (by omega) (hhf) (him0) (him1) (by omega) (by omega) (by omega) (by omega) (by omega) (by omega) (by omega) (hlf) (htf) (by omega) (hH) (hSp) (hL) (hT) (hB1) (hB2) (hQn), fun j hj => (((o_9 j (by omega))).trans (o_2 j (by omega))).trans (o_1 j (by omega))⟩), by rw [hT9]; exact hP⟩, hS.F hT9⟩) hS.2.2 dX10_beside_157
                · have hi18 := hx_8_0 i18 rfl
                  obtain ⟨sc18, sp18, ⟨htx18, hsx18, hpx18, hln18, hsc18⟩, hlw18⟩ := hL i18 (by omega)
                  refine my_bea (v := .ref (g (3 * i18 + 52))) rfl ?_
                  replace hhs := ((o_2 12 (by first | decide | omega))).trans hhs
                  replace hpr := ((o_2 37 (by first | decide | omega))).trans hpr
                  replace hpd := ((o_2 38 (by first | decide | omega))).trans hpd
                  replace hfr := ((o_2 39 (by first | decide | omega))).trans hfr
                  replace hfd := ((o_2 40 (by first | decide | omega))).trans hfd
                  replace hor := ((o_2 41 (by first | decide | omega))).trans hor
                  replace hod := ((o_2 42 (by first | decide | omega))).trans hod
                  refine b_callv (va_runV (As := [.int (nI tn), .ref (g 13), .ref (g (3 * i11 + 52)), .ref (g (3 * i18 + 52))]) (rest := []) ⟨hx, hb, hml, hown, hts⟩ (u_hear11 l G g hg f_2 nt hf pay fine nt ct np dp nf df nr dr 13 sl6 lo6 ib6 ca6 mi6 s06 s16 sw6 od6 vv99 tn (3 * i11 + 52) (LL i11) sc11 sp11 (3 * i18 + 52) (LL i18) sc18 sp18 hctc hhs hbk htr hct hpr hpd hfr hfd hor hod hvl hh6 ho6 htx11 hpx11 htx18 hpx18 (by first | assumption | omega | decide) (by first | assumption | omega | decide) (by first | assumption | omega | decide) (by first | assumption | omega | decide) (by first | assumption | omega | decide) (by first | assumption | omega | decide) (by first | assumption | omega | decide) (by first | assumption | omega | decide) (by first | assumption | omega | decide) (by first | assumption | omega | decide) (by first | assumption | omega | decide) (by first | assumption | omega | decide) (by first | assumption | omega | decide) (by first | assumption | omega | decide) (by first | assumption | omega | decide) (by first | assumption | omega | decide) (by first | assumption | omega | decide) (by first | assumption | omega | decide) (by first | assumption | omega | decide) (by first | assumption | omega | decide)) (my_cwV hts ok_X1_hear w_810 rfl rfl ⟨Nat.le_of_ble_eq_true rfl, Nat.le_of_ble_eq_true rfl⟩) ⟨bP.blind, va_recv hG.1 hP (ci := 1) (q0 := 1) rfl (wl_at (by decide) hctc), fun U hU hW => ⟨rfl, by rw [hU]; exact hP, kG.warm hW hG⟩⟩ rfl rfl hl.1 rfl (lv_room (Nat.le_of_ble_eq_true rfl)) dX10_beside_132 ⟨Nat.le_of_ble_eq_true rfl, Nat.le_of_ble_eq_true rfl⟩) hS (fun f_10 H locs hq9 hP hS => ?_)
                  obtain ⟨vv920, hq_10_0, hx_10_0, o_10⟩ := hq9
                  have hvl : f_10 15 = eJ G 50 vv920 := hq_10_0
                  have hSp : okH G g f_10 13 := hx_10_0
                  obtain ⟨sl6, lo6, ib6, ca6, mi6, s06, s16, sw6, od6, hh6, ho6, hs6⟩ := id hSp
                  refine lv_aload_n hx hb dX10_beside_135 rfl (lv_at hl 2 rfl) ?_
                  replace hx0 := ((o_10 0 (by first | decide | omega))).trans hx0
                  refine va_get (D := G.1) (ci := 9) (v := .ref (g 1)) (C := RX10) (T := TX10) (N := 7) hx hb hts inlX10 hown hG.1 hP 0 (wl_at (by decide) hx0) rfl 0 (by decide) (hts (.fieldLink RX10 12 "SwornLists" "court" "LSwornLists$Court;") w_15) (fun _ h9 => h9) rfl dX10_beside_136 ?_
                  refine lv_iload_n hx hb dX10_beside_139 rfl (lv_at hl 3 rfl) ?_
                  replace hctc := ((o_10 1 (by first | decide | omega))).trans hctc
                  replace hhs := ((o_10 12 (by first | decide | omega))).trans hhs
                  refine rd_calla (va_runV (As := [.int (nI tn)]) (rest := []) ⟨hx, hb, hml, hown, hts⟩ (u_hearing l G g hg f_10 nt hf tn hctc hhs (by first | assumption | omega | decide) (by first | assumption | omega | decide) (by first | assumption | omega | decide)) (my_cwV hts ok_X1_hearing w_675 rfl rfl ⟨Nat.le_of_ble_eq_true rfl, Nat.le_of_ble_eq_true rfl⟩) ⟨bP.blind, va_recv hG.1 hP (ci := 1) (q0 := 1) rfl (wl_at (by decide) hctc), fun U hU hW => ⟨rfl, by rw [hU]; exact hP, kG.warm hW hG⟩⟩ rfl rfl hl.1 rfl (lv_room (Nat.le_of_ble_eq_true rfl)) dX10_beside_140 ⟨Nat.le_of_ble_eq_true rfl, Nat.le_of_ble_eq_true rfl⟩) (fun r hr9 => ?_)
                  subst hr9
                  replace hh7 : f_10 (2 * tn + 16) = eO 3 [.ref (g (2 * tn + 17)), .int (nI sl7), .int lo7, .int ib7, .int ca7, .int mi7, .int s07, .int s17, .int sw7] := ((o_10 (2 * tn + 16) (by omega))).trans hh7
                  refine va_getN (D := G.1) (ci := 3) (v := .int sw7) (C := RX3) (T := TX3) (N := 9) (host := RX10) hx hb hts inlX3 hown hG.1 hP (2 * tn + 16) (wl_at (by omega) hh7) rfl 8 (by decide) (va_Nw.use rfl (hG.2.1 (.fieldLinkNest RX10 188 RX3 "sworn" "I" RX10) (List.mem_of_getElem? (i := 16) rfl))) (fun _ h9 => h9) rfl dX10_beside_143 ?_
                  refine lv_aload_n hx hb dX10_beside_146 rfl (lv_at hl 2 rfl) ?_
                  refine va_get (D := G.1) (ci := 9) (v := .ref (g 1)) (C := RX10) (T := TX10) (N := 7) hx hb hts inlX10 hown hG.1 hP 0 (wl_at (by decide) hx0) rfl 0 (by decide) (hts (.fieldLink RX10 12 "SwornLists" "court" "LSwornLists$Court;") w_15) (fun _ h9 => h9) rfl dX10_beside_147 ?_
                  refine va_getN (D := G.1) (ci := 1) (v := .ref (g 13)) (C := RX1) (T := TX1) (N := 5) (host := RX10) hx hb hts inlX1 hown hG.1 hP 1 (wl_at (by decide) hctc) rfl 2 (by decide) (va_Nw.use rfl (hG.2.1 (.fieldLinkNest RX10 236 RX1 "spare" "LSwornLists$Hearing;" RX10) (List.mem_of_getElem? (i := 18) rfl))) (fun _ h9 => h9) rfl dX10_beside_150 ?_
                  refine va_getN (D := G.1) (ci := 3) (v := .int sw6) (C := RX3) (T := TX3) (N := 9) (host := RX10) hx hb hts inlX3 hown hG.1 hP 13 (wl_at (by decide) hh6) rfl 8 (by decide) (va_Nw.use rfl (hG.2.1 (.fieldLinkNest RX10 188 RX3 "sworn" "I" RX10) (List.mem_of_getElem? (i := 16) rfl))) (fun _ h9 => h9) rfl dX10_beside_153 ?_
                  refine lv_ixor hx hb dX10_beside_156 ?_
                  refine W_q9 hQ9 ?_
                  replace him := ((o_10 2 (by first | decide | omega)).trans ((o_2 2 (by first | decide | omega)).trans ((o_1 2 (by first | decide | omega))))).trans him
                  replace hkp := ((o_10 3 (by first | decide | omega)).trans ((o_2 3 (by first | decide | omega)).trans ((o_1 3 (by first | decide | omega))))).trans hkp
                  replace hrd := ((o_10 4 (by first | decide | omega)).trans ((o_2 4 (by first | decide | omega)))).trans hrd
                  replace hmk := ((o_10 5 (by first | decide | omega)).trans ((o_2 5 (by first | decide | omega)))).trans hmk
                  replace hfc6 := ((o_10 6 (by first | decide | omega)).trans ((o_2 6 (by first | decide | omega)).trans ((o_1 6 (by first | decide | omega))))).trans hfc6
                  replace hwt := ((o_10 7 (by first | decide | omega)).trans ((o_2 7 (by first | decide | omega)).trans ((o_1 7 (by first | decide | omega))))).trans hwt
                  replace hw8 := ((o_10 8 (by first | decide | omega)).trans ((o_2 8 (by first | decide | omega)).trans ((o_1 8 (by first | decide | omega))))).trans hw8
                  replace hw9 := ((o_10 9 (by first | decide | omega)).trans ((o_2 9 (by first | decide | omega)).trans ((o_1 9 (by first | decide | omega))))).trans hw9
                  replace hw10 := ((o_10 10 (by first | decide | omega)).trans ((o_2 10 (by first | decide | omega)).trans ((o_1 10 (by first | decide | omega))))).trans hw10
                  replace hw11 := ((o_10 11 (by first | decide | omega)).trans ((o_2 11 (by first | decide | omega)).trans ((o_1 11 (by first | decide | omega))))).trans hw11
                  replace hbk := ((o_10 36 (by first | decide | omega))).trans hbk
                  replace hpr := ((o_10 37 (by first | decide | omega))).trans hpr
                  replace hpd := ((o_10 38 (by first | decide | omega))).trans hpd
                  replace hfr := ((o_10 39 (by first | decide | omega))).trans hfr
                  replace hfd := ((o_10 40 (by first | decide | omega))).trans hfd
                  replace hor := ((o_10 41 (by first | decide | omega))).trans hor
                  replace hod := ((o_10 42 (by first | decide | omega))).trans hod
                  replace har := ((o_10 43 (by first | decide | omega))).trans har
                  replace had := ((o_10 44 (by first | decide | omega))).trans had
                  replace htr := ((o_10 45 (by first | decide | omega))).trans htr
                  replace hct := ((o_10 46 (by first | decide | omega))).trans hct
                  replace hla := ((o_10 47 (by first | decide | omega))).trans hla
                  replace hlaa := ((o_10 48 (by first | decide | omega))).trans hlaa
                  replace hts0 := ((o_10 112 (by first | decide | omega)).trans ((o_2 112 (by first | decide | omega)).trans ((o_1 112 (by first | decide | omega))))).trans hts0
                  replace htsa := ((o_10 113 (by first | decide | omega)).trans ((o_2 113 (by first | decide | omega)).trans ((o_1 113 (by first | decide | omega))))).trans htsa
                  replace hH : ∀ i, i < 10 → okH G g f_10 (2 * i + 16) := fun z hz => okH_fr (hH z hz) (o_10 _ (by omega)) (o_10 _ (by omega))
                  replace hL : ∀ i, i < 20 → ltx G g f_10 (3 * i + 52) (LL i) (LG i) (i < na) := fun z hz => ltx_fr (hL z hz) (o_10 _ (by omega)) (o_10 _ (by omega)) (o_10 _ (by omega))
                  replace hT : ∀ i, i < 4 → txt G g f_2 (3 * i + 117) (TL i) (TG i) := fun z hz => txt_fr (hT z hz) (o_2 _ (by omega)) (o_2 _ (by omega)) (o_2 _ (by omega))
                  replace hT : ∀ i, i < 4 → txt G g f_10 (3 * i + 117) (TL i) (TG i) := fun z hz => txt_fr (hT z hz) (o_10 _ (by omega)) (o_10 _ (by omega)) (o_10 _ (by omega))
                  replace hB1 : bkD G g f_1 129 N1 E1 P1 L1 S1 W1 X1 := bkD_fr hB1 (fun j _ _ => o_1 j (by omega))
                  replace hB1 : bkD G g f_2 129 N1 E1 P1 L1 S1 W1 X1 := bkD_fr hB1 (fun j _ _ => o_2 j (by omega))
                  replace hB1 : bkD G g f_10 129 N1 E1 P1 L1 S1 W1 X1 := bkD_fr hB1 (fun j _ _ => o_10 j (by omega))
                  replace hB2 : bkD G g f_1 222 N2 E2 P2 L2 S2 W2 X2 := bkD_fr hB2 (fun j _ _ => o_1 j (by omega))
                  replace hB2 : bkD G g f_2 222 N2 E2 P2 L2 S2 W2 X2 := bkD_fr hB2 (fun j _ _ => o_2 j (by omega))
                  replace hB2 : bkD G g f_10 222 N2 E2 P2 L2 S2 W2 X2 := bkD_fr hB2 (fun j _ _ => o_10 j (by omega))
                  replace hQn : ∀ z, z < nt → cHz G g f_10 np nf nr na dp df dr da ct LL LG z := fun z hz => okQ_fr (hQn z hz) (o_10 _ (by omega)) (o_10 _ (by omega))
                  exact W.iret (v := sw7 ^^^ sw6) hx hb hr (fun _ hT9 _ => ⟨⟨_, f_10, rfl, (⟨cJ_mk (nt) (hf) (imf) (mc92) (op93) (cm94) (wu95) (mk96) (ab) (be) (mn) (le) (wt) (ww) (wb) (wf) (vv920) (lf) (tf) (hx0) (hctc) (hhs) (him) (hkp) (hrd) (hmk) (hfc6) (hwt) (hw8) (hw9) (hw10) (hw11) (hvl) (hbk) (hpr) (hpd) (hfr) (hfd) (hor) (hod) (har) (had) (htr) (hct) (hla) (hlaa) (hts0) (htsa) (by omega) (hhf) (him0) (him1) (by omega) (by omega) (by omega) (by omega) (by omega) (by omega) (by omega) (hlf) (htf) (by omega) (hH) (hSp) (hL) (hT) (hB1) (hB2) (hQn), fun j hj => (((o_10 j (by omega))).trans (o_2 j (by omega))).trans (o_1 j (by omega))⟩), by rw [hT9]; exact hP⟩, hS.F hT9⟩) hS.2.2 dX10_beside_157
              · refine lv_aload hx hb dX10_beside_117 (lv_at hl 1 rfl) ?_
                refine lv_goto (tgt := 132) hx hb dX10_beside_119 (by decide) ?_
                replace hhs := ((o_2 12 (by first | decide | omega))).trans hhs
                replace hpr := ((o_2 37 (by first | decide | omega))).trans hpr
                replace hpd := ((o_2 38 (by first | decide | omega))).trans hpd
                replace hfr := ((o_2 39 (by first | decide | omega))).trans hfr
                replace hfd := ((o_2 40 (by first | decide | omega))).trans hfd
                replace hor := ((o_2 41 (by first | decide | omega))).trans hor
                replace hod := ((o_2 42 (by first | decide | omega))).trans hod
                replace htx7 : f_2 (3 * xn + 117) = eO 7 [.ref (g ((3 * xn + 117) + 1)), .ref (g ((3 * xn + 117) + 2)), .int (nI (TL xn)), .int (nI sc97)] := ((o_2 (3 * xn + 117) (by omega))).trans htx7
                replace hpx7 : f_2 (3 * xn + 119) = eI G 50 sp98 := ((o_2 (3 * xn + 119) (by omega))).trans hpx7
                refine b_callv (va_runV (As := [.int (nI tn), .ref (g 13), .ref (g (3 * i11 + 52)), .ref (g (3 * xn + 117))]) (rest := []) ⟨hx, hb, hml, hown, hts⟩ (u_hear11 l G g hg f_2 nt hf pay fine nt ct np dp nf df nr dr 13 sl6 lo6 ib6 ca6 mi6 s06 s16 sw6 od6 vv99 tn (3 * i11 + 52) (LL i11) sc11 sp11 (3 * xn + 117) (TL xn) sc97 sp98 hctc hhs hbk htr hct hpr hpd hfr hfd hor hod hvl hh6 ho6 htx11 hpx11 htx7 hpx7 (by first | assumption | omega | decide) (by first | assumption | omega | decide) (by first | assumption | omega | decide) (by first | assumption | omega | decide) (by first | assumption | omega | decide) (by first | assumption | omega | decide) (by first | assumption | omega | decide) (by first | assumption | omega | decide) (by first | assumption | omega | decide) (by first | assumption | omega | decide) (by first | assumption | omega | decide) (by first | assumption | omega | decide) (by first | assumption | omega | decide) (by first | assumption | omega | decide) (by first | assumption | omega | decide) (by first | assumption | omega | decide) (by first | assumption | omega | decide) (by first | assumption | omega | decide) (by first | assumption | omega | decide) (by first | assumption | omega | decide)) (my_cwV hts ok_X1_hear w_810 rfl rfl ⟨Nat.le_of_ble_eq_true rfl, Nat.le_of_ble_eq_true rfl⟩) ⟨bP.blind, va_recv hG.1 hP (ci := 1) (q0 := 1) rfl (wl_at (by decide) hctc), fun U hU hW => ⟨rfl, by rw [hU]; exact hP, kG.warm hW hG⟩⟩ rfl rfl hl.1 rfl (lv_room (Nat.le_of_ble_eq_true rfl)) dX10_beside_132 ⟨Nat.le_of_ble_eq_true rfl, Nat.le_of_ble_eq_true rfl⟩) hS (fun f_11 H locs hq9 hP hS => ?_)
                obtain ⟨vv921, hq_11_0, hx_11_0, o_11⟩ := hq9
                have hvl : f_11 15 = eJ G 50 vv921 := hq_11_0
                have hSp : okH G g f_11 13 := hx_11_0
                obtain ⟨sl6, lo6, ib6, ca6, mi6, s06, s16, sw6, od6, hh6, ho6, hs6⟩ := id hSp
                refine lv_aload_n hx hb dX10_beside_135 rfl (lv_at hl 2 rfl) ?_
                replace hx0 := ((o_11 0 (by first | decide | omega))).trans hx0
                refine va_get (D := G.1) (ci := 9) (v := .ref (g 1)) (C := RX10) (T := TX10) (N := 7) hx hb hts inlX10 hown hG.1 hP 0 (wl_at (by decide) hx0) rfl 0 (by decide) (hts (.fieldLink RX10 12 "SwornLists" "court" "LSwornLists$Court;") w_15) (fun _ h9 => h9) rfl dX10_beside_136 ?_
                refine lv_iload_n hx hb dX10_beside_139 rfl (lv_at hl 3 rfl) ?_
                replace hctc := ((o_11 1 (by first | decide | omega))).trans hctc
                replace hhs := ((o_11 12 (by first | decide | omega))).trans hhs
                refine rd_calla (va_runV (As := [.int (nI tn)]) (rest := []) ⟨hx, hb, hml, hown, hts⟩ (u_hearing l G g hg f_11 nt hf tn hctc hhs (by first | assumption | omega | decide) (by first | assumption | omega | decide) (by first | assumption | omega | decide)) (my_cwV hts ok_X1_hearing w_675 rfl rfl ⟨Nat.le_of_ble_eq_true rfl, Nat.le_of_ble_eq_true rfl⟩) ⟨bP.blind, va_recv hG.1 hP (ci := 1) (q0 := 1) rfl (wl_at (by decide) hctc), fun U hU hW => ⟨rfl, by rw [hU]; exact hP, kG.warm hW hG⟩⟩ rfl rfl hl.1 rfl (lv_room (Nat.le_of_ble_eq_true rfl)) dX10_beside_140 ⟨Nat.le_of_ble_eq_true rfl, Nat.le_of_ble_eq_true rfl⟩) (fun r hr9 => ?_)
                subst hr9
                replace hh7 : f_11 (2 * tn + 16) = eO 3 [.ref (g (2 * tn + 17)), .int (nI sl7), .int lo7, .int ib7, .int ca7, .int mi7, .int s07, .int s17, .int sw7] := ((o_11 (2 * tn + 16) (by omega))).trans hh7
                refine va_getN (D := G.1) (ci := 3) (v := .int sw7) (C := RX3) (T := TX3) (N := 9) (host := RX10) hx hb hts inlX3 hown hG.1 hP (2 * tn + 16) (wl_at (by omega) hh7) rfl 8 (by decide) (va_Nw.use rfl (hG.2.1 (.fieldLinkNest RX10 188 RX3 "sworn" "I" RX10) (List.mem_of_getElem? (i := 16) rfl))) (fun _ h9 => h9) rfl dX10_beside_143 ?_
                refine lv_aload_n hx hb dX10_beside_146 rfl (lv_at hl 2 rfl) ?_
                refine va_get (D := G.1) (ci := 9) (v := .ref (g 1)) (C := RX10) (T := TX10) (N := 7) hx hb hts inlX10 hown hG.1 hP 0 (wl_at (by decide) hx0) rfl 0 (by decide) (hts (.fieldLink RX10 12 "SwornLists" "court" "LSwornLists$Court;") w_15) (fun _ h9 => h9) rfl dX10_beside_147 ?_
                refine va_getN (D := G.1) (ci := 1) (v := .ref (g 13)) (C := RX1) (T := TX1) (N := 5) (host := RX10) hx hb hts inlX1 hown hG.1 hP 1 (wl_at (by decide) hctc) rfl 2 (by decide) (va_Nw.use rfl (hG.2.1 (.fieldLinkNest RX10 236 RX1 "spare" "LSwornLists$Hearing;" RX10) (List.mem_of_getElem? (i := 18) rfl))) (fun _ h9 => h9) rfl dX10_beside_150 ?_
                refine va_getN (D := G.1) (ci := 3) (v := .int sw6) (C := RX3) (T := TX3) (N := 9) (host := RX10) hx hb hts inlX3 hown hG.1 hP 13 (wl_at (by decide) hh6) rfl 8 (by decide) (va_Nw.use rfl (hG.2.1 (.fieldLinkNest RX10 188 RX3 "sworn" "I" RX10) (List.mem_of_getElem? (i := 16) rfl))) (fun _ h9 => h9) rfl dX10_beside_153 ?_
                refine lv_ixor hx hb dX10_beside_156 ?_
                refine W_q9 hQ9 ?_
                replace him := ((o_11 2 (by first | decide | omega)).trans ((o_2 2 (by first | decide | omega)).trans ((o_1 2 (by first | decide | omega))))).trans him
                replace hkp := ((o_11 3 (by first | decide | omega)).trans ((o_2 3 (by first | decide | omega)).trans ((o_1 3 (by first | decide | omega))))).trans hkp
                replace hrd := ((o_11 4 (by first | decide | omega)).trans ((o_2 4 (by first | decide | omega)))).trans hrd
                replace hmk := ((o_11 5 (by first | decide | omega)).trans ((o_2 5 (by first | decide | omega)))).trans hmk
                replace hfc6 := ((o_11 6 (by first | decide | omega)).trans ((o_2 6 (by first | decide | omega)).trans ((o_1 6 (by first | decide | omega))))).trans hfc6
                replace hwt := ((o_11 7 (by first | decide | omega)).trans ((o_2 7 (by first | decide | omega)).trans ((o_1 7 (by first | decide | omega))))).trans hwt
                replace hw8 := ((o_11 8 (by first | decide | omega)).trans ((o_2 8 (by first | decide | omega)).trans ((o_1 8 (by first | decide | omega))))).trans hw8
                replace hw9 := ((o_11 9 (by first | decide | omega)).trans ((o_2 9 (by first | decide | omega)).trans ((o_1 9 (by first | decide | omega))))).trans hw9
                replace hw10 := ((o_11 10 (by first | decide | omega)).trans ((o_2 10 (by first | decide | omega)).trans ((o_1 10 (by first | decide | omega))))).trans hw10
                replace hw11 := ((o_11 11 (by first | decide | omega)).trans ((o_2 11 (by first | decide | omega)).trans ((o_1 11 (by first | decide | omega))))).trans hw11
                replace hbk := ((o_11 36 (by first | decide | omega))).trans hbk
                replace hpr := ((o_11 37 (by first | decide | omega))).trans hpr
                replace hpd := ((o_11 38 (by first | decide | omega))).trans hpd
                replace hfr := ((o_11 39 (by first | decide | omega))).trans hfr
                replace hfd := ((o_11 40 (by first | decide | omega))).trans hfd
                replace hor := ((o_11 41 (by first | decide | omega))).trans hor
                replace hod := ((o_11 42 (by first | decide | omega))).trans hod
                replace har := ((o_11 43 (by first | decide | omega))).trans har
                replace had := ((o_11 44 (by first | decide | omega))).trans had
                replace htr := ((o_11 45 (by first | decide | omega))).trans htr
                replace hct := ((o_11 46 (by first | decide | omega))).trans hct
                replace hla := ((o_11 47 (by first | decide | omega))).trans hla
                replace hlaa := ((o_11 48 (by first | decide | omega))).trans hlaa
                replace hts0 := ((o_11 112 (by first | decide | omega)).trans ((o_2 112 (by first | decide | omega)).trans ((o_1 112 (by first | decide | omega))))).trans hts0
                replace htsa := ((o_11 113 (by first | decide | omega)).trans ((o_2 113 (by first | decide | omega)).trans ((o_1 113 (by first | decide | omega))))).trans htsa
                replace hH : ∀ i, i < 10 → okH G g f_11 (2 * i + 16) := fun z hz => okH_fr (hH z hz) (o_11 _ (by omega)) (o_11 _ (by omega))
                replace hL : ∀ i, i < 20 → ltx G g f_11 (3 * i + 52) (LL i) (LG i) (i < na) := fun z hz => ltx_fr (hL z hz) (o_11 _ (by omega)) (o_11 _ (by omega)) (o_11 _ (by omega))
                replace hT : ∀ i, i < 4 → txt G g f_2 (3 * i + 117) (TL i) (TG i) := fun z hz => txt_fr (hT z hz) (o_2 _ (by omega)) (o_2 _ (by omega)) (o_2 _ (by omega))
                replace hT : ∀ i, i < 4 → txt G g f_11 (3 * i + 117) (TL i) (TG i) := fun z hz => txt_fr (hT z hz) (o_11 _ (by omega)) (o_11 _ (by omega)) (o_11 _ (by omega))
                replace hB1 : bkD G g f_1 129 N1 E1 P1 L1 S1 W1 X1 := bkD_fr hB1 (fun j _ _ => o_1 j (by omega))
                replace hB1 : bkD G g f_2 129 N1 E1 P1 L1 S1 W1 X1 := bkD_fr hB1 (fun j _ _ => o_2 j (by omega))
                replace hB1 : bkD G g f_11 129 N1 E1 P1 L1 S1 W1 X1 := bkD_fr hB1 (fun j _ _ => o_11 j (by omega))
                replace hB2 : bkD G g f_1 222 N2 E2 P2 L2 S2 W2 X2 := bkD_fr hB2 (fun j _ _ => o_1 j (by omega))
                replace hB2 : bkD G g f_2 222 N2 E2 P2 L2 S2 W2 X2 := bkD_fr hB2 (fun j _ _ => o_2 j (by omega))
                replace hB2 : bkD G g f_11 222 N2 E2 P2 L2 S2 W2 X2 := bkD_fr hB2 (fun j _ _ => o_11 j (by omega))
                replace hQn : ∀ z, z < nt → cHz G g f_11 np nf nr na dp df dr da ct LL LG z := fun z hz => okQ_fr (hQn z hz) (o_11 _ (by omega)) (o_11 _ (by omega))
                exact W.iret (v := sw7 ^^^ sw6) hx hb hr (fun _ hT9 _ => ⟨⟨_, f_11, rfl, (⟨cJ_mk (nt) (hf) (imf) (mc92) (op93) (cm94) (wu95) (mk96) (ab) (be) (mn) (le) (wt) (ww) (wb) (wf) (vv921) (lf) (tf) (hx0) (hctc) (hhs) (him) (hkp) (hrd) (hmk) (hfc6) (hwt) (hw8) (hw9) (hw10) (hw11) (hvl) (hbk) (hpr) (hpd) (hfr) (hfd) (hor) (hod) (har) (had) (htr) (hct) (hla) (hlaa) (hts0) (htsa) (by omega) (hhf) (him0) (him1) (by omega) (by omega) (by omega) (by omega) (by omega) (by omega) (by omega) (hlf) (htf) (by omega) (hH) (hSp) (hL) (hT) (hB1) (hB2) (hQn), fun j hj => (((o_11 j (by omega))).trans (o_2 j (by omega))).trans (o_1 j (by omega))⟩), by rw [hT9]; exact hP⟩, hS.F hT9⟩) hS.2.2 dX10_beside_157
          · refine lv_aload hx hb dX10_beside_97 (lv_at hl 1 rfl) ?_
            refine lv_goto (tgt := 112) hx hb dX10_beside_99 (by decide) ?_
            refine lv_iload_n hx hb dX10_beside_112 rfl (lv_at hl 5 rfl) ?_
            refine lv_iconst (v := 1) hx hb dX10_beside_113 (by decide) ?_
            refine lv_icmp_ne (tgt := 122) hx hb dX10_beside_114 (by decide) (fun c_114 => ?_) (fun c_114 => ?_)
            · refine lv_aload_n hx hb dX10_beside_122 rfl (lv_at hl 2 rfl) ?_
              refine va_get (D := G.1) (ci := 9) (v := .ref (g 36)) (C := RX10) (T := TX10) (N := 7) hx hb hts inlX10 hown hG.1 hP 0 (wl_at (by decide) hx0) rfl 1 (by decide) (hts (.fieldLink RX10 20 "SwornLists" "book" "LSwornLists$Book;") w_16) (fun _ h9 => h9) rfl dX10_beside_123 ?_
              refine lv_iconst (v := 1) hx hb dX10_beside_126 (by decide) ?_
              refine lv_iload hx hb dX10_beside_127 (lv_at hl 0 rfl) ?_
              replace har := ((o_2 43 (by first | decide | omega))).trans har
              replace had := ((o_2 44 (by first | decide | omega))).trans had
              replace hla := ((o_2 47 (by first | decide | omega))).trans hla
              replace hlaa := ((o_2 48 (by first | decide | omega))).trans hlaa
              refine rd_calla (va_runV (As := [.int 1, .int (atv ct nt 70 (nI tn) 0)]) (rest := [.ref (g (3 * xn + 117)), .ref (g 13), .int (nI tn), .ref (g 1)]) ⟨hx, hb, hml, hown, hts⟩ (k_lawOf l G g hg f_2 pay fine na da lf 1 (atv ct nt 70 (nI tn) 0) hbk har had hla hlaa (by first | assumption | omega | decide) (by first | assumption | omega | decide)) (my_cwV hts ok_X0_lawOf w_628 rfl rfl ⟨Nat.le_of_ble_eq_true rfl, Nat.le_of_ble_eq_true rfl⟩) ⟨bP.blind, va_recv hG.1 hP (ci := 0) (q0 := 36) rfl (wl_at (by decide) hbk), fun U hU hW => ⟨rfl, by rw [hU]; exact hP, kG.warm hW hG⟩⟩ rfl rfl hl.1 rfl (lv_room (Nat.le_of_ble_eq_true rfl)) dX10_beside_129 ⟨Nat.le_of_ble_eq_true rfl, Nat.le_of_ble_eq_true rfl⟩) (fun r hr9 => ?_)
              obtain ⟨o922, rfl, hx_12_0⟩ := hr9
              replace hL : ∀ i, i < 20 → ltx G g f_2 (3 * i + 52) (LL i) (LG i) (i < na) := fun z hz => ltx_fr (hL z hz) (o_2 _ (by omega)) (o_2 _ (by omega)) (o_2 _ (by omega))
              rcases o922 with _ | i23
              · refine my_bea (v := .null) rfl ?_
                replace hhs := ((o_2 12 (by first | decide | omega))).trans hhs
                replace hpr := ((o_2 37 (by first | decide | omega))).trans hpr
                replace hpd := ((o_2 38 (by first | decide | omega))).trans hpd
                replace hfr := ((o_2 39 (by first | decide | omega))).trans hfr
                replace hfd := ((o_2 40 (by first | decide | omega))).trans hfd
                replace hor := ((o_2 41 (by first | decide | omega))).trans hor
                replace hod := ((o_2 42 (by first | decide | omega))).trans hod
                replace htx7 : f_2 (3 * xn + 117) = eO 7 [.ref (g ((3 * xn + 117) + 1)), .ref (g ((3 * xn + 117) + 2)), .int (nI (TL xn)), .int (nI sc97)] := ((o_2 (3 * xn + 117) (by omega))).trans htx7
                replace hpx7 : f_2 (3 * xn + 119) = eI G 50 sp98 := ((o_2 (3 * xn + 119) (by omega))).trans hpx7
                refine b_callv (va_runV (As := [.int (nI tn), .ref (g 13), .ref (g (3 * xn + 117)), .null]) (rest := []) ⟨hx, hb, hml, hown, hts⟩ (u_hear10 l G g hg f_2 nt hf pay fine nt ct np dp nf df nr dr 13 sl6 lo6 ib6 ca6 mi6 s06 s16 sw6 od6 vv99 tn (3 * xn + 117) (TL xn) sc97 sp98 hctc hhs hbk htr hct hpr hpd hfr hfd hor hod hvl hh6 ho6 htx7 hpx7 (by first | assumption | omega | decide) (by first | assumption | omega | decide) (by first | assumption | omega | decide) (by first | assumption | omega | decide) (by first | assumption | omega | decide) (by first | assumption | omega | decide) (by first | assumption | omega | decide) (by first | assumption | omega | decide) (by first | assumption | omega | decide) (by first | assumption | omega | decide) (by first | assumption | omega | decide) (by first | assumption | omega | decide) (by first | assumption | omega | decide) (by first | assumption | omega | decide) (by first | assumption | omega | decide) (by first | assumption | omega | decide)) (my_cwV hts ok_X1_hear w_810 rfl rfl ⟨Nat.le_of_ble_eq_true rfl, Nat.le_of_ble_eq_true rfl⟩) ⟨bP.blind, va_recv hG.1 hP (ci := 1) (q0 := 1) rfl (wl_at (by decide) hctc), fun U hU hW => ⟨rfl, by rw [hU]; exact hP, kG.warm hW hG⟩⟩ rfl rfl hl.1 rfl (lv_room (Nat.le_of_ble_eq_true rfl)) dX10_beside_132 ⟨Nat.le_of_ble_eq_true rfl, Nat.le_of_ble_eq_true rfl⟩) hS (fun f_13 H locs hq9 hP hS => ?_)
                obtain ⟨vv924, hq_13_0, hx_13_0, o_13⟩ := hq9
                have hvl : f_13 15 = eJ G 50 vv924 := hq_13_0
                have hSp : okH G g f_13 13 := hx_13_0
                obtain ⟨sl6, lo6, ib6, ca6, mi6, s06, s16, sw6, od6, hh6, ho6, hs6⟩ := id hSp
                refine lv_aload_n hx hb dX10_beside_135 rfl (lv_at hl 2 rfl) ?_
                replace hx0 := ((o_13 0 (by first | decide | omega))).trans hx0
                refine va_get (D := G.1) (ci := 9) (v := .ref (g 1)) (C := RX10) (T := TX10) (N := 7) hx hb hts inlX10 hown hG.1 hP 0 (wl_at (by decide) hx0) rfl 0 (by decide) (hts (.fieldLink RX10 12 "SwornLists" "court" "LSwornLists$Court;") w_15) (fun _ h9 => h9) rfl dX10_beside_136 ?_
                refine lv_iload_n hx hb dX10_beside_139 rfl (lv_at hl 3 rfl) ?_
                replace hctc := ((o_13 1 (by first | decide | omega))).trans hctc
                replace hhs := ((o_13 12 (by first | decide | omega))).trans hhs
                refine rd_calla (va_runV (As := [.int (nI tn)]) (rest := []) ⟨hx, hb, hml, hown, hts⟩ (u_hearing l G g hg f_13 nt hf tn hctc hhs (by first | assumption | omega | decide) (by first | assumption | omega | decide) (by first | assumption | omega | decide)) (my_cwV hts ok_X1_hearing w_675 rfl rfl ⟨Nat.le_of_ble_eq_true rfl, Nat.le_of_ble_eq_true rfl⟩) ⟨bP.blind, va_recv hG.1 hP (ci := 1) (q0 := 1) rfl (wl_at (by decide) hctc), fun U hU hW => ⟨rfl, by rw [hU]; exact hP, kG.warm hW hG⟩⟩ rfl rfl hl.1 rfl (lv_room (Nat.le_of_ble_eq_true rfl)) dX10_beside_140 ⟨Nat.le_of_ble_eq_true rfl, Nat.le_of_ble_eq_true rfl⟩) (fun r hr9 => ?_)
                subst hr9
                replace hh7 : f_13 (2 * tn + 16) = eO 3 [.ref (g (2 * tn + 17)), .int (nI sl7), .int lo7, .int ib7, .int ca7, .int mi7, .int s07, .int s17, .int sw7] := ((o_13 (2 * tn + 16) (by omega))).trans hh7
                refine va_getN (D := G.1) (ci := 3) (v := .int sw7) (C := RX3) (T := TX3) (N := 9) (host := RX10) hx hb hts inlX3 hown hG.1 hP (2 * tn + 16) (wl_at (by omega) hh7) rfl 8 (by decide) (va_Nw.use rfl (hG.2.1 (.fieldLinkNest RX10 188 RX3 "sworn" "I" RX10) (List.mem_of_getElem? (i := 16) rfl))) (fun _ h9 => h9) rfl dX10_beside_143 ?_
                refine lv_aload_n hx hb dX10_beside_146 rfl (lv_at hl 2 rfl) ?_
                refine va_get (D := G.1) (ci := 9) (v := .ref (g 1)) (C := RX10) (T := TX10) (N := 7) hx hb hts inlX10 hown hG.1 hP 0 (wl_at (by decide) hx0) rfl 0 (by decide) (hts (.fieldLink RX10 12 "SwornLists" "court" "LSwornLists$Court;") w_15) (fun _ h9 => h9) rfl dX10_beside_147 ?_
                refine va_getN (D := G.1) (ci := 1) (v := .ref (g 13)) (C := RX1) (T := TX1) (N := 5) (host := RX10) hx hb hts inlX1 hown hG.1 hP 1 (wl_at (by decide) hctc) rfl 2 (by decide) (va_Nw.use rfl (hG.2.1 (.fieldLinkNest RX10 236 RX1 "spare" "LSwornLists$Hearing;" RX10) (List.mem_of_getElem? (i := 18) rfl))) (fun _ h9 => h9) rfl dX10_beside_150 ?_
                refine va_getN (D := G.1) (ci := 3) (v := .int sw6) (C := RX3) (T := TX3) (N := 9) (host := RX10) hx hb hts inlX3 hown hG.1 hP 13 (wl_at (by decide) hh6) rfl 8 (by decide) (va_Nw.use rfl (hG.2.1 (.fieldLinkNest RX10 188 RX3 "sworn" "I" RX10) (List.mem_of_getElem? (i := 16) rfl))) (fun _ h9 => h9) rfl dX10_beside_153 ?_
                refine lv_ixor hx hb dX10_beside_156 ?_
                refine W_q9 hQ9 ?_
                replace him := ((o_13 2 (by first | decide | omega)).trans ((o_2 2 (by first | decide | omega)).trans ((o_1 2 (by first | decide | omega))))).trans him
                replace hkp := ((o_13 3 (by first | decide | omega)).trans ((o_2 3 (by first | decide | omega)).trans ((o_1 3 (by first | decide | omega))))).trans hkp
                replace hrd := ((o_13 4 (by first | decide | omega)).trans ((o_2 4 (by first | decide | omega)))).trans hrd
                replace hmk := ((o_13 5 (by first | decide | omega)).trans ((o_2 5 (by first | decide | omega)))).trans hmk
                replace hfc6 := ((o_13 6 (by first | decide | omega)).trans ((o_2 6 (by first | decide | omega)).trans ((o_1 6 (by first | decide | omega))))).trans hfc6
                replace hwt := ((o_13 7 (by first | decide | omega)).trans ((o_2 7 (by first | decide | omega)).trans ((o_1 7 (by first | decide | omega))))).trans hwt
                replace hw8 := ((o_13 8 (by first | decide | omega)).trans ((o_2 8 (by first | decide | omega)).trans ((o_1 8 (by first | decide | omega))))).trans hw8
                replace hw9 := ((o_13 9 (by first | decide | omega)).trans ((o_2 9 (by first | decide | omega)).trans ((o_1 9 (by first | decide | omega))))).trans hw9
                replace hw10 := ((o_13 10 (by first | decide | omega)).trans ((o_2 10 (by first | decide | omega)).trans ((o_1 10 (by first | decide | omega))))).trans hw10
                replace hw11 := ((o_13 11 (by first | decide | omega)).trans ((o_2 11 (by first | decide | omega)).trans ((o_1 11 (by first | decide | omega))))).trans hw11
                replace hbk := ((o_13 36 (by first | decide | omega))).trans hbk
                replace hpr := ((o_13 37 (by first | decide | omega))).trans hpr
                replace hpd := ((o_13 38 (by first | decide | omega))).trans hpd
                replace hfr := ((o_13 39 (by first | decide | omega))).trans hfr
                replace hfd := ((o_13 40 (by first | decide | omega))).trans hfd
                replace hor := ((o_13 41 (by first | decide | omega))).trans hor
                replace hod := ((o_13 42 (by first | decide | omega))).trans hod
                replace har := ((o_13 43 (by first | decide | omega))).trans har
                replace had := ((o_13 44 (by first | decide | omega))).trans had
                replace htr := ((o_13 45 (by first | decide | omega))).trans htr
                replace hct := ((o_13 46 (by first | decide | omega))).trans hct
                replace hla := ((o_13 47 (by first | decide | omega))).trans hla
                replace hlaa := ((o_13 48 (by first | decide | omega))).trans hlaa
                replace hts0 := ((o_13 112 (by first | decide | omega)).trans ((o_2 112 (by first | decide | omega)).trans ((o_1 112 (by first | decide | omega))))).trans hts0
                replace htsa := ((o_13 113 (by first | decide | omega)).trans ((o_2 113 (by first | decide | omega)).trans ((o_1 113 (by first | decide | omega))))).trans htsa
                replace hH : ∀ i, i < 10 → okH G g f_13 (2 * i + 16) := fun z hz => okH_fr (hH z hz) (o_13 _ (by omega)) (o_13 _ (by omega))
                replace hL : ∀ i, i < 20 → ltx G g f_13 (3 * i + 52) (LL i) (LG i) (i < na) := fun z hz => ltx_fr (hL z hz) (o_13 _ (by omega)) (o_13 _ (by omega)) (o_13 _ (by omega))
                replace hT : ∀ i, i < 4 → txt G g f_2 (3 * i + 117) (TL i) (TG i) := fun z hz => txt_fr (hT z hz) (o_2 _ (by omega)) (o_2 _ (by omega)) (o_2 _ (by omega))
                replace hT : ∀ i, i < 4 → txt G g f_13 (3 * i + 117) (TL i) (TG i) := fun z hz => txt_fr (hT z hz) (o_13 _ (by omega)) (o_13 _ (by omega)) (o_13 _ (by omega))
                replace hB1 : bkD G g f_1 129 N1 E1 P1 L1 S1 W1 X1 := bkD_fr hB1 (fun j _ _ => o_1 j (by omega))
                replace hB1 : bkD G g f_2 129 N1 E1 P1 L1 S1 W1 X1 := bkD_fr hB1 (fun j _ _ => o_2 j (by omega))
                replace hB1 : bkD G g f_13 129 N1 E1 P1 L1 S1 W1 X1 := bkD_fr hB1 (fun j _ _ => o_13 j (by omega))
                replace hB2 : bkD G g f_1 222 N2 E2 P2 L2 S2 W2 X2 := bkD_fr hB2 (fun j _ _ => o_1 j (by omega))
                replace hB2 : bkD G g f_2 222 N2 E2 P2 L2 S2 W2 X2 := bkD_fr hB2 (fun j _ _ => o_2 j (by omega))
                replace hB2 : bkD G g f_13 222 N2 E2 P2 L2 S2 W2 X2 := bkD_fr hB2 (fun j _ _ => o_13 j (by omega))
                replace hQn : ∀ z, z < nt → cHz G g f_13 np nf nr na dp df dr da ct LL LG z := fun z hz => okQ_fr (hQn z hz) (o_13 _ (by omega)) (o_13 _ (by omega))
                exact W.iret (v := sw7 ^^^ sw6) hx hb hr (fun _ hT9 _ => ⟨⟨_, f_13, rfl, (⟨cJ_mk (nt) (hf) (imf) (mc92) (op93) (cm94) (wu95) (mk96) (ab) (be) (mn) (le) (wt) (ww) (wb) (wf) (vv924) (lf) (tf) (hx0) (hctc) (hhs) (him) (hkp) (hrd) (hmk) (hfc6) (hwt) (hw8) (hw9) (hw10) (hw11) (hvl) (hbk) (hpr) (hpd) (hfr) (hfd) (hor) (hod) (har) (had) (htr) (hct) (hla) (hlaa) (hts0) (htsa) (by omega) (hhf) (him0) (him1) (by omega) (by omega) (by omega) (by omega) (by omega) (by omega) (by omega) (hlf) (htf) (by omega) (hH) (hSp) (hL) (hT) (hB1) (hB2) (hQn), fun j hj => (((o_13 j (by omega))).trans (o_2 j (by omega))).trans (o_1 j (by omega))⟩), by rw [hT9]; exact hP⟩, hS.F hT9⟩) hS.2.2 dX10_beside_157
              · have hi23 := hx_12_0 i23 rfl
                obtain ⟨sc23, sp23, ⟨htx23, hsx23, hpx23, hln23, hsc23⟩, hlw23⟩ := hL i23 (by omega)
                refine my_bea (v := .ref (g (3 * i23 + 52))) rfl ?_
                replace hhs := ((o_2 12 (by first | decide | omega))).trans hhs
                replace hpr := ((o_2 37 (by first | decide | omega))).trans hpr
                replace hpd := ((o_2 38 (by first | decide | omega))).trans hpd
                replace hfr := ((o_2 39 (by first | decide | omega))).trans hfr
                replace hfd := ((o_2 40 (by first | decide | omega))).trans hfd
                replace hor := ((o_2 41 (by first | decide | omega))).trans hor
                replace hod := ((o_2 42 (by first | decide | omega))).trans hod
                replace htx7 : f_2 (3 * xn + 117) = eO 7 [.ref (g ((3 * xn + 117) + 1)), .ref (g ((3 * xn + 117) + 2)), .int (nI (TL xn)), .int (nI sc97)] := ((o_2 (3 * xn + 117) (by omega))).trans htx7
                replace hpx7 : f_2 (3 * xn + 119) = eI G 50 sp98 := ((o_2 (3 * xn + 119) (by omega))).trans hpx7
                refine b_callv (va_runV (As := [.int (nI tn), .ref (g 13), .ref (g (3 * xn + 117)), .ref (g (3 * i23 + 52))]) (rest := []) ⟨hx, hb, hml, hown, hts⟩ (u_hear11 l G g hg f_2 nt hf pay fine nt ct np dp nf df nr dr 13 sl6 lo6 ib6 ca6 mi6 s06 s16 sw6 od6 vv99 tn (3 * xn + 117) (TL xn) sc97 sp98 (3 * i23 + 52) (LL i23) sc23 sp23 hctc hhs hbk htr hct hpr hpd hfr hfd hor hod hvl hh6 ho6 htx7 hpx7 htx23 hpx23 (by first | assumption | omega | decide) (by first | assumption | omega | decide) (by first | assumption | omega | decide) (by first | assumption | omega | decide) (by first | assumption | omega | decide) (by first | assumption | omega | decide) (by first | assumption | omega | decide) (by first | assumption | omega | decide) (by first | assumption | omega | decide) (by first | assumption | omega | decide) (by first | assumption | omega | decide) (by first | assumption | omega | decide) (by first | assumption | omega | decide) (by first | assumption | omega | decide) (by first | assumption | omega | decide) (by first | assumption | omega | decide) (by first | assumption | omega | decide) (by first | assumption | omega | decide) (by first | assumption | omega | decide) (by first | assumption | omega | decide)) (my_cwV hts ok_X1_hear w_810 rfl rfl ⟨Nat.le_of_ble_eq_true rfl, Nat.le_of_ble_eq_true rfl⟩) ⟨bP.blind, va_recv hG.1 hP (ci := 1) (q0 := 1) rfl (wl_at (by decide) hctc), fun U hU hW => ⟨rfl, by rw [hU]; exact hP, kG.warm hW hG⟩⟩ rfl rfl hl.1 rfl (lv_room (Nat.le_of_ble_eq_true rfl)) dX10_beside_132 ⟨Nat.le_of_ble_eq_true rfl, Nat.le_of_ble_eq_true rfl⟩) hS (fun f_14 H locs hq9 hP hS => ?_)
                obtain ⟨vv925, hq_14_0, hx_14_0, o_14⟩ := hq9
                have hvl : f_14 15 = eJ G 50 vv925 := hq_14_0
                have hSp : okH G g f_14 13 := hx_14_0
                obtain ⟨sl6, lo6, ib6, ca6, mi6, s06, s16, sw6, od6, hh6, ho6, hs6⟩ := id hSp
                refine lv_aload_n hx hb dX10_beside_135 rfl (lv_at hl 2 rfl) ?_
                replace hx0 := ((o_14 0 (by first | decide | omega))).trans hx0
                refine va_get (D := G.1) (ci := 9) (v := .ref (g 1)) (C := RX10) (T := TX10) (N := 7) hx hb hts inlX10 hown hG.1 hP 0 (wl_at (by decide) hx0) rfl 0 (by decide) (hts (.fieldLink RX10 12 "SwornLists" "court" "LSwornLists$Court;") w_15) (fun _ h9 => h9) rfl dX10_beside_136 ?_
                refine lv_iload_n hx hb dX10_beside_139 rfl (lv_at hl 3 rfl) ?_
                replace hctc := ((o_14 1 (by first | decide | omega))).trans hctc
                replace hhs := ((o_14 12 (by first | decide | omega))).trans hhs
                refine rd_calla (va_runV (As := [.int (nI tn)]) (rest := []) ⟨hx, hb, hml, hown, hts⟩ (u_hearing l G g hg f_14 nt hf tn hctc hhs (by first | assumption | omega | decide) (by first | assumption | omega | decide) (by first | assumption | omega | decide)) (my_cwV hts ok_X1_hearing w_675 rfl rfl ⟨Nat.le_of_ble_eq_true rfl, Nat.le_of_ble_eq_true rfl⟩) ⟨bP.blind, va_recv hG.1 hP (ci := 1) (q0 := 1) rfl (wl_at (by decide) hctc), fun U hU hW => ⟨rfl, by rw [hU]; exact hP, kG.warm hW hG⟩⟩ rfl rfl hl.1 rfl (lv_room (Nat.le_of_ble_eq_true rfl)) dX10_beside_140 ⟨Nat.le_of_ble_eq_true rfl, Nat.le_of_ble_eq_true rfl⟩) (fun r hr9 => ?_)
                subst hr9
                replace hh7 : f_14 (2 * tn + 16) = eO 3 [.ref (g (2 * tn + 17)), .int (nI sl7), .int lo7, .int ib7, .int ca7, .int mi7, .int s07, .int s17, .int sw7] := ((o_14 (2 * tn + 16) (by omega))).trans hh7
                refine va_getN (D := G.1) (ci := 3) (v := .int sw7) (C := RX3) (T := TX3) (N := 9) (host := RX10) hx hb hts inlX3 hown hG.1 hP (2 * tn + 16) (wl_at (by omega) hh7) rfl 8 (by decide) (va_Nw.use rfl (hG.2.1 (.fieldLinkNest RX10 188 RX3 "sworn" "I" RX10) (List.mem_of_getElem? (i := 16) rfl))) (fun _ h9 => h9) rfl dX10_beside_143 ?_
                refine lv_aload_n hx hb dX10_beside_146 rfl (lv_at hl 2 rfl) ?_
                refine va_get (D := G.1) (ci := 9) (v := .ref (g 1)) (C := RX10) (T := TX10) (N := 7) hx hb hts inlX10 hown hG.1 hP 0 (wl_at (by decide) hx0) rfl 0 (by decide) (hts (.fieldLink RX10 12 "SwornLists" "court" "LSwornLists$Court;") w_15) (fun _ h9 => h9) rfl dX10_beside_147 ?_
                refine va_getN (D := G.1) (ci := 1) (v := .ref (g 13)) (C := RX1) (T := TX1) (N := 5) (host := RX10) hx hb hts inlX1 hown hG.1 hP 1 (wl_at (by decide) hctc) rfl 2 (by decide) (va_Nw.use rfl (hG.2.1 (.fieldLinkNest RX10 236 RX1 "spare" "LSwornLists$Hearing;" RX10) (List.mem_of_getElem? (i := 18) rfl))) (fun _ h9 => h9) rfl dX10_beside_150 ?_
                refine va_getN (D := G.1) (ci := 3) (v := .int sw6) (C := RX3) (T := TX3) (N := 9) (host := RX10) hx hb hts inlX3 hown hG.1 hP 13 (wl_at (by decide) hh6) rfl 8 (by decide) (va_Nw.use rfl (hG.2.1 (.fieldLinkNest RX10 188 RX3 "sworn" "I" RX10) (List.mem_of_getElem? (i := 16) rfl))) (fun _ h9 => h9) rfl dX10_beside_153 ?_
                refine lv_ixor hx hb dX10_beside_156 ?_
                refine W_q9 hQ9 ?_
                replace him := ((o_14 2 (by first | decide | omega)).trans ((o_2 2 (by first | decide | omega)).trans ((o_1 2 (by first | decide | omega))))).trans him
                replace hkp := ((o_14 3 (by first | decide | omega)).trans ((o_2 3 (by first | decide | omega)).trans ((o_1 3 (by first | decide | omega))))).trans hkp
                replace hrd := ((o_14 4 (by first | decide | omega)).trans ((o_2 4 (by first | decide | omega)))).trans hrd
                replace hmk := ((o_14 5 (by first | decide | omega)).trans ((o_2 5 (by first | decide | omega)))).trans hmk
                replace hfc6 := ((o_14 6 (by first | decide | omega)).trans ((o_2 6 (by first | decide | omega)).trans ((o_1 6 (by first | decide | omega))))).trans hfc6
                replace hwt := ((o_14 7 (by first | decide | omega)).trans ((o_2 7 (by first | decide | omega)).trans ((o_1 7 (by first | decide | omega))))).trans hwt
                replace hw8 := ((o_14 8 (by first | decide | omega)).trans ((o_2 8 (by first | decide | omega)).trans ((o_1 8 (by first | decide | omega))))).trans hw8
                replace hw9 := ((o_14 9 (by first | decide | omega)).trans ((o_2 9 (by first | decide | omega)).trans ((o_1 9 (by first | decide | omega))))).trans hw9
                replace hw10 := ((o_14 10 (by first | decide | omega)).trans ((o_2 10 (by first | decide | omega)).trans ((o_1 10 (by first | decide | omega))))).trans hw10
                replace hw11 := ((o_14 11 (by first | decide | omega)).trans ((o_2 11 (by first | decide | omega)).trans ((o_1 11 (by first | decide | omega))))).trans hw11
                replace hbk := ((o_14 36 (by first | decide | omega))).trans hbk
                replace hpr := ((o_14 37 (by first | decide | omega))).trans hpr
                replace hpd := ((o_14 38 (by first | decide | omega))).trans hpd
                replace hfr := ((o_14 39 (by first | decide | omega))).trans hfr
                replace hfd := ((o_14 40 (by first | decide | omega))).trans hfd
                replace hor := ((o_14 41 (by first | decide | omega))).trans hor
                replace hod := ((o_14 42 (by first | decide | omega))).trans hod
                replace har := ((o_14 43 (by first | decide | omega))).trans har
                replace had := ((o_14 44 (by first | decide | omega))).trans had
                replace htr := ((o_14 45 (by first | decide | omega))).trans htr
                replace hct := ((o_14 46 (by first | decide | omega))).trans hct
                replace hla := ((o_14 47 (by first | decide | omega))).trans hla
                replace hlaa := ((o_14 48 (by first | decide | omega))).trans hlaa
                replace hts0 := ((o_14 112 (by first | decide | omega)).trans ((o_2 112 (by first | decide | omega)).trans ((o_1 112 (by first | decide | omega))))).trans hts0
                replace htsa := ((o_14 113 (by first | decide | omega)).trans ((o_2 113 (by first | decide | omega)).trans ((o_1 113 (by first | decide | omega))))).trans htsa
                replace hH : ∀ i, i < 10 → okH G g f_14 (2 * i + 16) := fun z hz => okH_fr (hH z hz) (o_14 _ (by omega)) (o_14 _ (by omega))
                replace hL : ∀ i, i < 20 → ltx G g f_14 (3 * i + 52) (LL i) (LG i) (i < na) := fun z hz => ltx_fr (hL z hz) (o_14 _ (by omega)) (o_14 _ (by omega)) (o_14 _ (by omega))
                replace hT : ∀ i, i < 4 → txt G g f_2 (3 * i + 117) (TL i) (TG i) := fun z hz => txt_fr (hT z hz) (o_2 _ (by omega)) (o_2 _ (by omega)) (o_2 _ (by omega))
                replace hT : ∀ i, i < 4 → txt G g f_14 (3 * i + 117) (TL i) (TG i) := fun z hz => txt_fr (hT z hz) (o_14 _ (by omega)) (o_14 _ (by omega)) (o_14 _ (by omega))
                replace hB1 : bkD G g f_1 129 N1 E1 P1 L1 S1 W1 X1 := bkD_fr hB1 (fun j _ _ => o_1 j (by omega))
                replace hB1 : bkD G g f_2 129 N1 E1 P1 L1 S1 W1 X1 := bkD_fr hB1 (fun j _ _ => o_2 j (by omega))
                replace hB1 : bkD G g f_14 129 N1 E1 P1 L1 S1 W1 X1 := bkD_fr hB1 (fun j _ _ => o_14 j (by omega))
                replace hB2 : bkD G g f_1 222 N2 E2 P2 L2 S2 W2 X2 := bkD_fr hB2 (fun j _ _ => o_1 j (by omega))
                replace hB2 : bkD G g f_2 222 N2 E2 P2 L2 S2 W2 X2 := bkD_fr hB2 (fun j _ _ => o_2 j (by omega))
                replace hB2 : bkD G g f_14 222 N2 E2 P2 L2 S2 W2 X2 := bkD_fr hB2 (fun j _ _ => o_14 j (by omega))
                replace hQn : ∀ z, z < nt → cHz G g f_14 np nf nr na dp df dr da ct LL LG z := fun z hz => okQ_fr (hQn z hz) (o_14 _ (by omega)) (o_14 _ (by omega))
                exact W.iret (v := sw7 ^^^ sw6) hx hb hr (fun _ hT9 _ => ⟨⟨_, f_14, rfl, (⟨cJ_mk (nt) (hf) (imf) (mc92) (op93) (cm94) (wu95) (mk96) (ab) (be) (mn) (le) (wt) (ww) (wb) (wf) (vv925) (lf) (tf) (hx0) (hctc) (hhs) (him) (hkp) (hrd) (hmk) (hfc6) (hwt) (hw8) (hw9) (hw10) (hw11) (hvl) (hbk) (hpr) (hpd) (hfr) (hfd) (hor) (hod) (har) (had) (htr) (hct) (hla) (hlaa) (hts0) (htsa) (by omega) (hhf) (him0) (him1) (by omega) (by omega) (by omega) (by omega) (by omega) (by omega) (by omega) (hlf) (htf) (by omega) (hH) (hSp) (hL) (hT) (hB1) (hB2) (hQn), fun j hj => (((o_14 j (by omega))).trans (o_2 j (by omega))).trans (o_1 j (by omega))⟩), by rw [hT9]; exact hP⟩, hS.F hT9⟩) hS.2.2 dX10_beside_157
            · refine lv_aload hx hb dX10_beside_117 (lv_at hl 1 rfl) ?_
              refine lv_goto (tgt := 132) hx hb dX10_beside_119 (by decide) ?_
              replace hhs := ((o_2 12 (by first | decide | omega))).trans hhs
              replace hpr := ((o_2 37 (by first | decide | omega))).trans hpr
              replace hpd := ((o_2 38 (by first | decide | omega))).trans hpd
              replace hfr := ((o_2 39 (by first | decide | omega))).trans hfr
              replace hfd := ((o_2 40 (by first | decide | omega))).trans hfd
              replace hor := ((o_2 41 (by first | decide | omega))).trans hor
              replace hod := ((o_2 42 (by first | decide | omega))).trans hod
              replace htx7 : f_2 (3 * xn + 117) = eO 7 [.ref (g ((3 * xn + 117) + 1)), .ref (g ((3 * xn + 117) + 2)), .int (nI (TL xn)), .int (nI sc97)] := ((o_2 (3 * xn + 117) (by omega))).trans htx7
              replace hpx7 : f_2 (3 * xn + 119) = eI G 50 sp98 := ((o_2 (3 * xn + 119) (by omega))).trans hpx7
              refine b_callv (va_runV (As := [.int (nI tn), .ref (g 13), .ref (g (3 * xn + 117)), .ref (g (3 * xn + 117))]) (rest := []) ⟨hx, hb, hml, hown, hts⟩ (u_hear11 l G g hg f_2 nt hf pay fine nt ct np dp nf df nr dr 13 sl6 lo6 ib6 ca6 mi6 s06 s16 sw6 od6 vv99 tn (3 * xn + 117) (TL xn) sc97 sp98 (3 * xn + 117) (TL xn) sc97 sp98 hctc hhs hbk htr hct hpr hpd hfr hfd hor hod hvl hh6 ho6 htx7 hpx7 htx7 hpx7 (by first | assumption | omega | decide) (by first | assumption | omega | decide) (by first | assumption | omega | decide) (by first | assumption | omega | decide) (by first | assumption | omega | decide) (by first | assumption | omega | decide) (by first | assumption | omega | decide) (by first | assumption | omega | decide) (by first | assumption | omega | decide) (by first | assumption | omega | decide) (by first | assumption | omega | decide) (by first | assumption | omega | decide) (by first | assumption | omega | decide) (by first | assumption | omega | decide) (by first | assumption | omega | decide) (by first | assumption | omega | decide) (by first | assumption | omega | decide) (by first | assumption | omega | decide) (by first | assumption | omega | decide) (by first | assumption | omega | decide)) (my_cwV hts ok_X1_hear w_810 rfl rfl ⟨Nat.le_of_ble_eq_true rfl, Nat.le_of_ble_eq_true rfl⟩) ⟨bP.blind, va_recv hG.1 hP (ci := 1) (q0 := 1) rfl (wl_at (by decide) hctc), fun U hU hW => ⟨rfl, by rw [hU]; exact hP, kG.warm hW hG⟩⟩ rfl rfl hl.1 rfl (lv_room (Nat.le_of_ble_eq_true rfl)) dX10_beside_132 ⟨Nat.le_of_ble_eq_true rfl, Nat.le_of_ble_eq_true rfl⟩) hS (fun f_15 H locs hq9 hP hS => ?_)
              obtain ⟨vv926, hq_15_0, hx_15_0, o_15⟩ := hq9
              have hvl : f_15 15 = eJ G 50 vv926 := hq_15_0
              have hSp : okH G g f_15 13 := hx_15_0
              obtain ⟨sl6, lo6, ib6, ca6, mi6, s06, s16, sw6, od6, hh6, ho6, hs6⟩ := id hSp
              refine lv_aload_n hx hb dX10_beside_135 rfl (lv_at hl 2 rfl) ?_
              replace hx0 := ((o_15 0 (by first | decide | omega))).trans hx0
              refine va_get (D := G.1) (ci := 9) (v := .ref (g 1)) (C := RX10) (T := TX10) (N := 7) hx hb hts inlX10 hown hG.1 hP 0 (wl_at (by decide) hx0) rfl 0 (by decide) (hts (.fieldLink RX10 12 "SwornLists" "court" "LSwornLists$Court;") w_15) (fun _ h9 => h9) rfl dX10_beside_136 ?_
              refine lv_iload_n hx hb dX10_beside_139 rfl (lv_at hl 3 rfl) ?_
              replace hctc := ((o_15 1 (by first | decide | omega))).trans hctc
              replace hhs := ((o_15 12 (by first | decide | omega))).trans hhs
              refine rd_calla (va_runV (As := [.int (nI tn)]) (rest := []) ⟨hx, hb, hml, hown, hts⟩ (u_hearing l G g hg f_15 nt hf tn hctc hhs (by first | assumption | omega | decide) (by first | assumption | omega | decide) (by first | assumption | omega | decide)) (my_cwV hts ok_X1_hearing w_675 rfl rfl ⟨Nat.le_of_ble_eq_true rfl, Nat.le_of_ble_eq_true rfl⟩) ⟨bP.blind, va_recv hG.1 hP (ci := 1) (q0 := 1) rfl (wl_at (by decide) hctc), fun U hU hW => ⟨rfl, by rw [hU]; exact hP, kG.warm hW hG⟩⟩ rfl rfl hl.1 rfl (lv_room (Nat.le_of_ble_eq_true rfl)) dX10_beside_140 ⟨Nat.le_of_ble_eq_true rfl, Nat.le_of_ble_eq_true rfl⟩) (fun r hr9 => ?_)
              subst hr9
              replace hh7 : f_15 (2 * tn + 16) = eO 3 [.ref (g (2 * tn + 17)), .int (nI sl7), .int lo7, .int ib7, .int ca7, .int mi7, .int s07, .int s17, .int sw7] := ((o_15 (2 * tn + 16) (by omega))).trans hh7
              refine va_getN (D := G.1) (ci := 3) (v := .int sw7) (C := RX3) (T := TX3) (N := 9) (host := RX10) hx hb hts inlX3 hown hG.1 hP (2 * tn + 16) (wl_at (by omega) hh7) rfl 8 (by decide) (va_Nw.use rfl (hG.2.1 (.fieldLinkNest RX10 188 RX3 "sworn" "I" RX10) (List.mem_of_getElem? (i := 16) rfl))) (fun _ h9 => h9) rfl dX10_beside_143 ?_
              refine lv_aload_n hx hb dX10_beside_146 rfl (lv_at hl 2 rfl) ?_
              refine va_get (D := G.1) (ci := 9) (v := .ref (g 1)) (C := RX10) (T := TX10) (N := 7) hx hb hts inlX10 hown hG.1 hP 0 (wl_at (by decide) hx0) rfl 0 (by decide) (hts (.fieldLink RX10 12 "SwornLists" "court" "LSwornLists$Court;") w_15) (fun _ h9 => h9) rfl dX10_beside_147 ?_
              refine va_getN (D := G.1) (ci := 1) (v := .ref (g 13)) (C := RX1) (T := TX1) (N := 5) (host := RX10) hx hb hts inlX1 hown hG.1 hP 1 (wl_at (by decide) hctc) rfl 2 (by decide) (va_Nw.use rfl (hG.2.1 (.fieldLinkNest RX10 236 RX1 "spare" "LSwornLists$Hearing;" RX10) (List.mem_of_getElem? (i := 18) rfl))) (fun _ h9 => h9) rfl dX10_beside_150 ?_
              refine va_getN (D := G.1) (ci := 3) (v := .int sw6) (C := RX3) (T := TX3) (N := 9) (host := RX10) hx hb hts inlX3 hown hG.1 hP 13 (wl_at (by decide) hh6) rfl 8 (by decide) (va_Nw.use rfl (hG.2.1 (.fieldLinkNest RX10 188 RX3 "sworn" "I" RX10) (List.mem_of_getElem? (i := 16) rfl))) (fun _ h9 => h9) rfl dX10_beside_153 ?_
              refine lv_ixor hx hb dX10_beside_156 ?_
              refine W_q9 hQ9 ?_
              replace him := ((o_15 2 (by first | decide | omega)).trans ((o_2 2 (by first | decide | omega)).trans ((o_1 2 (by first | decide | omega))))).trans him
              replace hkp := ((o_15 3 (by first | decide | omega)).trans ((o_2 3 (by first | decide | omega)).trans ((o_1 3 (by first | decide | omega))))).trans hkp
              replace hrd := ((o_15 4 (by first | decide | omega)).trans ((o_2 4 (by first | decide | omega)))).trans hrd
              replace hmk := ((o_15 5 (by first | decide | omega)).trans ((o_2 5 (by first | decide | omega)))).trans hmk
              replace hfc6 := ((o_15 6 (by first | decide | omega)).trans ((o_2 6 (by first | decide | omega)).trans ((o_1 6 (by first | decide | omega))))).trans hfc6
              replace hwt := ((o_15 7 (by first | decide | omega)).trans ((o_2 7 (by first | decide | omega)).trans ((o_1 7 (by first | decide | omega))))).trans hwt
              replace hw8 := ((o_15 8 (by first | decide | omega)).trans ((o_2 8 (by first | decide | omega)).trans ((o_1 8 (by first | decide | omega))))).trans hw8
              replace hw9 := ((o_15 9 (by first | decide | omega)).trans ((o_2 9 (by first | decide | omega)).trans ((o_1 9 (by first | decide | omega))))).trans hw9
              replace hw10 := ((o_15 10 (by first | decide | omega)).trans ((o_2 10 (by first | decide | omega)).trans ((o_1 10 (by first | decide | omega))))).trans hw10
              replace hw11 := ((o_15 11 (by first | decide | omega)).trans ((o_2 11 (by first | decide | omega)).trans ((o_1 11 (by first | decide | omega))))).trans hw11
              replace hbk := ((o_15 36 (by first | decide | omega))).trans hbk
              replace hpr := ((o_15 37 (by first | decide | omega))).trans hpr
              replace hpd := ((o_15 38 (by first | decide | omega))).trans hpd
              replace hfr := ((o_15 39 (by first | decide | omega))).trans hfr
              replace hfd := ((o_15 40 (by first | decide | omega))).trans hfd
              replace hor := ((o_15 41 (by first | decide | omega))).trans hor
              replace hod := ((o_15 42 (by first | decide | omega))).trans hod
              replace har := ((o_15 43 (by first | decide | omega)).trans ((o_2 43 (by first | decide | omega)))).trans har
              replace had := ((o_15 44 (by first | decide | omega)).trans ((o_2 44 (by first | decide | omega)))).trans had
              replace htr := ((o_15 45 (by first | decide | omega))).trans htr
              replace hct := ((o_15 46 (by first | decide | omega))).trans hct
              replace hla := ((o_15 47 (by first | decide | omega)).trans ((o_2 47 (by first | decide | omega)))).trans hla
              replace hlaa := ((o_15 48 (by first | decide | omega)).trans ((o_2 48 (by first | decide | omega)))).trans hlaa
              replace hts0 := ((o_15 112 (by first | decide | omega)).trans ((o_2 112 (by first | decide | omega)).trans ((o_1 112 (by first | decide | omega))))).trans hts0
              replace htsa := ((o_15 113 (by first | decide | omega)).trans ((o_2 113 (by first | decide | omega)).trans ((o_1 113 (by first | decide | omega))))).trans htsa
              replace hH : ∀ i, i < 10 → okH G g f_15 (2 * i + 16) := fun z hz => okH_fr (hH z hz) (o_15 _ (by omega)) (o_15 _ (by omega))
              replace hL : ∀ i, i < 20 → ltx G g f_2 (3 * i + 52) (LL i) (LG i) (i < na) := fun z hz => ltx_fr (hL z hz) (o_2 _ (by omega)) (o_2 _ (by omega)) (o_2 _ (by omega))
              replace hL : ∀ i, i < 20 → ltx G g f_15 (3 * i + 52) (LL i) (LG i) (i < na) := fun z hz => ltx_fr (hL z hz) (o_15 _ (by omega)) (o_15 _ (by omega)) (o_15 _ (by omega))
              replace hT : ∀ i, i < 4 → txt G g f_2 (3 * i + 117) (TL i) (TG i) := fun z hz => txt_fr (hT z hz) (o_2 _ (by omega)) (o_2 _ (by omega)) (o_2 _ (by omega))
              replace hT : ∀ i, i < 4 → txt G g f_15 (3 * i + 117) (TL i) (TG i) := fun z hz => txt_fr (hT z hz) (o_15 _ (by omega)) (o_15 _ (by omega)) (o_15 _ (by omega))
              replace hB1 : bkD G g f_1 129 N1 E1 P1 L1 S1 W1 X1 := bkD_fr hB1 (fun j _ _ => o_1 j (by omega))
              replace hB1 : bkD G g f_2 129 N1 E1 P1 L1 S1 W1 X1 := bkD_fr hB1 (fun j _ _ => o_2 j (by omega))
              replace hB1 : bkD G g f_15 129 N1 E1 P1 L1 S1 W1 X1 := bkD_fr hB1 (fun j _ _ => o_15 j (by omega))
              replace hB2 : bkD G g f_1 222 N2 E2 P2 L2 S2 W2 X2 := bkD_fr hB2 (fun j _ _ => o_1 j (by omega))
              replace hB2 : bkD G g f_2 222 N2 E2 P2 L2 S2 W2 X2 := bkD_fr hB2 (fun j _ _ => o_2 j (by omega))
              replace hB2 : bkD G g f_15 222 N2 E2 P2 L2 S2 W2 X2 := bkD_fr hB2 (fun j _ _ => o_15 j (by omega))
              replace hQn : ∀ z, z < nt → cHz G g f_15 np nf nr na dp df dr da ct LL LG z := fun z hz => okQ_fr (hQn z hz) (o_15 _ (by omega)) (o_15 _ (by omega))
              exact W.iret (v := sw7 ^^^ sw6) hx hb hr (fun _ hT9 _ => ⟨⟨_, f_15, rfl, (⟨cJ_mk (nt) (hf) (imf) (mc92) (op93) (cm94) (wu95) (mk96) (ab) (be) (mn) (le) (wt) (ww) (wb) (wf) (vv926) (lf) (tf) (hx0) (hctc) (hhs) (him) (hkp) (hrd) (hmk) (hfc6) (hwt) (hw8) (hw9) (hw10) (hw11) (hvl) (hbk) (hpr) (hpd) (hfr) (hfd) (hor) (hod) (har) (had) (htr) (hct) (hla) (hlaa) (hts0) (htsa) (by omega) (hhf) (him0) (him1) (by omega) (by omega) (by omega) (by omega) (by omega) (by omega) (by omega) (hlf) (htf) (by omega) (hH) (hSp) (hL) (hT) (hB1) (hB2) (hQn), fun j hj => (((o_15 j (by omega))).trans (o_2 j (by omega))).trans (o_1 j (by omega))⟩), by rw [hT9]; exact hP⟩, hS.F hT9⟩) hS.2.2 dX10_beside_157
        · refine lv_bipush (v := (-3)) hx hb dX10_beside_57 (by decide) ?_
          refine W_q9 hQ9 ?_
          replace hx0 := ((o_1 0 (by first | decide | omega))).trans hx0
          replace hctc := ((o_1 1 (by first | decide | omega))).trans hctc
          replace hhs := ((o_1 12 (by first | decide | omega))).trans hhs
          replace him := ((o_1 2 (by first | decide | omega))).trans him
          replace hkp := ((o_1 3 (by first | decide | omega))).trans hkp
          replace hfc6 := ((o_1 6 (by first | decide | omega))).trans hfc6
          replace hwt := ((o_1 7 (by first | decide | omega))).trans hwt
          replace hw8 := ((o_1 8 (by first | decide | omega))).trans hw8
          replace hw9 := ((o_1 9 (by first | decide | omega))).trans hw9
          replace hw10 := ((o_1 10 (by first | decide | omega))).trans hw10
          replace hw11 := ((o_1 11 (by first | decide | omega))).trans hw11
          replace hvl := ((o_1 15 (by first | decide | omega))).trans hvl
          replace hbk := ((o_1 36 (by first | decide | omega))).trans hbk
          replace hpr := ((o_1 37 (by first | decide | omega))).trans hpr
          replace hpd := ((o_1 38 (by first | decide | omega))).trans hpd
          replace hfr := ((o_1 39 (by first | decide | omega))).trans hfr
          replace hfd := ((o_1 40 (by first | decide | omega))).trans hfd
          replace hor := ((o_1 41 (by first | decide | omega))).trans hor
          replace hod := ((o_1 42 (by first | decide | omega))).trans hod
          replace har := ((o_1 43 (by first | decide | omega))).trans har
          replace had := ((o_1 44 (by first | decide | omega))).trans had
          replace htr := ((o_1 45 (by first | decide | omega))).trans htr
          replace hct := ((o_1 46 (by first | decide | omega))).trans hct
          replace hla := ((o_1 47 (by first | decide | omega))).trans hla
          replace hlaa := ((o_1 48 (by first | decide | omega))).trans hlaa
          replace hts0 := ((o_1 112 (by first | decide | omega))).trans hts0
          replace htsa := ((o_1 113 (by first | decide | omega))).trans htsa
          replace hH : ∀ i, i < 10 → okH G g f_1 (2 * i + 16) := fun z hz => okH_fr (hH z hz) (o_1 _ (by omega)) (o_1 _ (by omega))
          replace hSp : okH G g f_1 13 := okH_fr hSp (o_1 _ (by omega)) (o_1 _ (by omega))
          replace hL : ∀ i, i < 20 → ltx G g f_1 (3 * i + 52) (LL i) (LG i) (i < na) := fun z hz => ltx_fr (hL z hz) (o_1 _ (by omega)) (o_1 _ (by omega)) (o_1 _ (by omega))
          replace hB1 : bkD G g f_1 129 N1 E1 P1 L1 S1 W1 X1 := bkD_fr hB1 (fun j _ _ => o_1 j (by omega))
          replace hB2 : bkD G g f_1 222 N2 E2 P2 L2 S2 W2 X2 := bkD_fr hB2 (fun j _ _ => o_1 j (by omega))
          replace hQ : ∀ z, z < se → cHz G g f_1 np nf nr na dp df dr da ct LL LG z := fun z hz => okQ_fr (hQ z hz) (o_1 _ (by omega)) (o_1 _ (by omega))
          exact W.iret (v := (-3)) hx hb hr (fun _ hT9 _ => ⟨⟨_, f_1, rfl, (⟨cJ_mk (se) (hf) (imf) (mc92) (op93) (cm94) (wu95) (mk96) (ab) (be) (mn) (le) (wt) (ww) (wb) (wf) (vv) (lf) (tf) (hx0) (hctc) (hhs) (him) (hkp) (hrd) (hmk) (hfc6) (hwt) (hw8) (hw9) (hw10) (hw11) (hvl) (hbk) (hpr) (hpd) (hfr) (hfd) (hor) (hod) (har) (had) (htr) (hct) (hla) (hlaa) (hts0) (htsa) (by omega) (hhf) (him0) (him1) (by omega) (by omega) (by omega) (by omega) (by omega) (by omega) (by omega) (hlf) (htf) (by omega) (hH) (hSp) (hL) (hT) (hB1) (hB2) (hQ), fun j hj => (o_1 j (by omega))⟩), by rw [hT9]; exact hP⟩, hS.F hT9⟩) hS.2.2 dX10_beside_59
      · refine lv_bipush (v := (-2)) hx hb dX10_beside_28 (by decide) ?_
        refine W_q9 hQ9 ?_
        exact W.iret (v := (-2)) hx hb hr (fun _ hT9 _ => ⟨⟨_, f, rfl, (⟨cJ_mk (se) (hf) (imf) (mc) (op) (cm) (wu) (mk) (ab) (be) (mn) (le) (wt) (ww) (wb) (wf) (vv) (lf) (tf) (hx0) (hctc) (hhs) (him) (hkp) (hrd) (hmk) (hfc6) (hwt) (hw8) (hw9) (hw10) (hw11) (hvl) (hbk) (hpr) (hpd) (hfr) (hfd) (hor) (hod) (har) (had) (htr) (hct) (hla) (hlaa) (hts0) (htsa) (by omega) (hhf) (him0) (him1) (by omega) (by omega) (by omega) (by omega) (by omega) (by omega) (by omega) (hlf) (htf) (by omega) (hH) (hSp) (hL) (hT) (hB1) (hB2) (hQ), fun j hj => rfl⟩), by rw [hT9]; exact hP⟩, hS.F hT9⟩) hS.2.2 dX10_beside_30
theorem j_beside (l : Launch) (G : gW) (g : Nat → Nat) (hg : gOK g) (f : Nat → va_E) (np : Nat) (dp : Nat → Int32) (nf : Nat) (df : Nat → Int32) (nr : Nat) (dr : Nat → Int32) (nt : Nat) (ct : Nat → Int32) (pay : Int32) (fine : Int32) (kf : Nat → Int32) (na : Nat) (da : Nat → Int32) (TL : Nat → Nat) (TG : Nat → Nat → Int32) (LL : Nat → Nat) (LG : Nat → Nat → Int32) (N1 : Nat → Nat) (E1 : Nat → Nat → Int32) (P1 : Nat → Int32) (L1 : Nat → Nat) (S1 : Nat → Nat → Int32) (W1 : Nat → Nat) (X1 : Nat → Nat → Int32) (N2 : Nat → Nat) (E2 : Nat → Nat → Int32) (P2 : Nat → Int32) (L2 : Nat → Nat) (S2 : Nat → Nat → Int32) (W2 : Nat → Nat) (X2 : Nat → Nat → Int32) (a1 : Int32) (a2 : Int32) (a3 : Int32) (hI : cJ G g f np dp nf df nr dr nt ct pay fine kf na da TL TG LL LG N1 E1 P1 L1 S1 W1 X1 N2 E2 P2 L2 S2 W2 X2) (hTr : trC ct nt) : Met l yX10_beside (wsT yX10_beside cX10_beside 6 (some .int)) ({ frames := 7, cells := 0, slots := 0, locals := 176 }) (bP G g f [.ref (g 0), .int a1, .int a2, .int a3]) (bQi G g (fun (z9 : Int32) (f' : Nat → va_E) => (cJ G g f' np dp nf df nr dr nt ct pay fine kf na da TL TG LL LG N1 E1 P1 L1 S1 W1 X1 N2 E2 P2 L2 S2 W2 X2) ∧ ∀ j, 315 ≤ j → f' j = f j)) 0 0 (gA g) := cJ_elim hI (fun se hf imf mc op cm wu mk ab be mn le wt ww wb wf vv lf tf hx0 hctc hhs him hkp hrd hmk hfc6 hwt hw8 hw9 hw10 hw11 hvl hbk hpr hpd hfr hfd hor hod har had htr hct hla hlaa hts0 htsa hse hhf him0 him1 hmc hmn hnp hnf hnr hna hnt hlf htf hsn hH hSp hL hT hB1 hB2 hQ => jn_beside l G g hg f se hf imf kf mc op cm wu mk ab be mn le wt ww wb wf vv pay fine np dp nf df nr dr na da nt ct lf tf TL TG LL LG N1 E1 P1 L1 S1 W1 X1 N2 E2 P2 L2 S2 W2 X2 a1 a2 a3 hx0 hctc hhs him hkp hrd hmk hfc6 hwt hw8 hw9 hw10 hw11 hvl hbk hpr hpd hfr hfd hor hod har had htr hct hla hlaa hts0 htsa hse hhf him0 him1 hmc hmn hnp hnf hnr hna hnt hlf htf hsn hTr hH hSp hL hT hB1 hB2 hQ)
set_option maxHeartbeats 4000000 in
set_option maxRecDepth 100000 in
theorem jn_clash (l : Launch) (G : gW) (g : Nat → Nat) (hg : gOK g) (f : Nat → va_E) (se : Nat) (hf : Nat → Option Nat) (imf : Nat → Option Nat) (kf : Nat → Int32) (mc : Nat) (op : Int32) (cm : Int32) (wu : Int32) (mk : Nat → Int32) (ab : Int64) (be : Int64) (mn : Nat) (le : Int32) (wt : Nat → Int32) (ww : Nat → Int32) (wb : Nat → Int32) (wf : Nat → Int32) (vv : Nat → Int64) (pay : Int32) (fine : Int32) (np : Nat) (dp : Nat → Int32) (nf : Nat) (df : Nat → Int32) (nr : Nat) (dr : Nat → Int32) (na : Nat) (da : Nat → Int32) (nt : Nat) (ct : Nat → Int32) (lf : Nat → Option Nat) (tf : Nat → Option Nat) (TL : Nat → Nat) (TG : Nat → Nat → Int32) (LL : Nat → Nat) (LG : Nat → Nat → Int32) (N1 : Nat → Nat) (E1 : Nat → Nat → Int32) (P1 : Nat → Int32) (L1 : Nat → Nat) (S1 : Nat → Nat → Int32) (W1 : Nat → Nat) (X1 : Nat → Nat → Int32) (N2 : Nat → Nat) (E2 : Nat → Nat → Int32) (P2 : Nat → Int32) (L2 : Nat → Nat) (S2 : Nat → Nat → Int32) (W2 : Nat → Nat) (X2 : Nat → Nat → Int32) (a1 : Int32) (a2 : Int32) (hx0 : f 0 = eO 9 [.ref (g 1), .ref (g 36), .ref (g 2), .ref (g 3), .ref (g 4), .ref (g 6), .ref (g 7)]) (hctc : f 1 = eO 1 [.ref (g 36), .ref (g 12), .ref (g 13), .ref (g 15), .int (nI se)]) (hhs : f 12 = eA G 4 10 hf) (him : f 2 = eA G 3 2 imf) (hkp : f 3 = eZ G 2 kf) (hrd : f 4 = eO 4 [.ref (g 5), .int (nI mc), .int op, .int cm, .int wu]) (hmk : f 5 = eI G 50 mk) (hfc6 : f 6 = eO 2 [.long ab, .long be]) (hwt : f 7 = eO 8 [.ref (g 8), .ref (g 9), .ref (g 10), .ref (g 11), .int (nI mn), .int le]) (hw8 : f 8 = eI G 6 wt) (hw9 : f 9 = eI G 6 ww) (hw10 : f 10 = eI G 6 wb) (hw11 : f 11 = eI G 6 wf) (hvl : f 15 = eJ G 50 vv) (hbk : f 36 = eO 0 [.ref (g 37), .ref (g 39), .ref (g 41), .ref (g 43), .ref (g 45), .ref (g 47), .ref (g 112), .int pay, .int fine]) (hpr : f 37 = eO 5 [.int (nI 30), .int (nI 4), .ref (g 38), .int (nI np)]) (hpd : f 38 = eI G (30 * 4) dp) (hfr : f 39 = eO 5 [.int (nI 40), .int (nI 3), .ref (g 40), .int (nI nf)]) (hfd : f 40 = eI G (40 * 3) df) (hor : f 41 = eO 5 [.int (nI 4), .int (nI 3), .ref (g 42), .int (nI nr)]) (hod : f 42 = eI G (4 * 3) dr) (har : f 43 = eO 5 [.int (nI 20), .int (nI 3), .ref (g 44), .int (nI na)]) (had : f 44 = eI G (20 * 3) da) (htr : f 45 = eO 5 [.int (nI 10), .int (nI 70), .ref (g 46), .int (nI nt)]) (hct : f 46 = eI G (10 * 70) ct) (hla : f 47 = eO 6 [.ref (g 48), .ref (g 49)]) (hlaa : f 48 = eA G 5 20 lf) (hts0 : f 112 = eO 6 [.ref (g 113), .ref (g 114)]) (htsa : f 113 = eA G 5 4 tf) (hse : se ≤ 10) (hhf : ∀ i, i < 10 → hf i = some (g (2 * i + 16))) (him0 : imf 0 = some (g 129)) (him1 : imf 1 = some (g 222)) (hmc : mc ≤ 50) (hmn : mn ≤ 6) (hnp : np ≤ 30) (hnf : nf ≤ 40) (hnr : nr ≤ 4) (hna : na ≤ 20) (hnt : nt ≤ 10) (hlf : ∀ z, z < 20 → lf z = some (g (47 + 3 * z + 5))) (htf : ∀ z, z < 4 → tf z = some (g (112 + 3 * z + 5))) (hsn : se ≤ nt) (hTr : trC ct nt) (hH : ∀ i, i < 10 → okH G g f (2 * i + 16)) (hSp : okH G g f 13) (hL : ∀ i, i < 20 → ltx G g f (3 * i + 52) (LL i) (LG i) (i < na)) (hT : ∀ i, i < 4 → txt G g f (3 * i + 117) (TL i) (TG i)) (hB1 : bkD G g f 129 N1 E1 P1 L1 S1 W1 X1) (hB2 : bkD G g f 222 N2 E2 P2 L2 S2 W2 X2) (hQ : ∀ z, z < se → cHz G g f np nf nr na dp df dr da ct LL LG z) : Met l yX10_clash (wsT yX10_clash cX10_clash 5 (some .int)) ({ frames := 4, cells := 0, slots := 0, locals := 97 }) (bP G g f [.ref (g 0), .int a1, .int a2]) (bQi G g (fun (z9 : Int32) (f' : Nat → va_E) => (cJ G g f' np dp nf df nr dr nt ct pay fine kf na da TL TG LL LG N1 E1 P1 L1 S1 W1 X1 N2 E2 P2 L2 S2 W2 X2) ∧ ∀ j, 315 ≤ j → f' j = f j)) 0 0 (gA g) := by
  refine Met.ofW (cc := cX10_clash) (maxL := 5) (ret := (some .int)) (by decide) rfl ?_
  intro p e s m args below meth c s₁ B hml hv
  obtain ⟨rfl, hP, hG⟩ := hv
  have hx := B.exec
  have hb := B.bytes
  have hr := B.returns
  have hts := my_hts (atoms_spec (ws := wsT yX10_clash cX10_clash 5 (some .int)) B.pre)
  have hown : s.vm.findClass RX10 = some m.cls := findClass_of_methodNamed B.named
  have hlocks := B.notSynchronized
  have hS : va_S (gA g) s.heap s.heap [] := va_S.rf
  have hl := lv_entry ([.ref (g 0), .int a1, .int a2]) (n := 5) (Nat.le_of_ble_eq_true rfl)
  rw [lg_entry_eq]
  generalize (lg_sl ([.ref (g 0), .int a1, .int a2]) ++ List.replicate (5 - (lg_sl ([.ref (g 0), .int a1, .int a2])).length) Slot.unset).toArray = ls at hl ⊢
  have hl : lv_has ls 5 [(0, .ref (g 0)), (1, .int a1), (2, .int a2)] := hl
  refine W_q8 (fun Q9 hQ9 => ?_)
  refine lv_iload_n hx hb dX10_clash_0 rfl (lv_at hl 1 rfl) ?_
  refine lv_aload_n hx hb dX10_clash_1 rfl (lv_at hl 0 rfl) ?_
  refine va_get (D := G.1) (ci := 9) (v := .ref (g 36)) (C := RX10) (T := TX10) (N := 7) hx hb hts inlX10 hown hG.1 hP 0 (wl_at (by decide) hx0) rfl 1 (by decide) (hts (.fieldLink RX10 20 "SwornLists" "book" "LSwornLists$Book;") w_16) (fun _ h9 => h9) rfl dX10_clash_2 ?_
  refine va_getN (D := G.1) (ci := 0) (v := .ref (g 45)) (C := RX0) (T := TX0) (N := 9) (host := RX10) hx hb hts inlX0 hown hG.1 hP 36 (wl_at (by decide) hbk) rfl 4 (by decide) (va_Nw.use rfl (hG.2.1 (.fieldLinkNest RX10 162 RX0 "trials" "LSwornLists$Rows;" RX10) (List.mem_of_getElem? (i := 7) rfl))) (fun _ h9 => h9) rfl dX10_clash_5 ?_
  refine rd_calli (va_runV (As := []) (rest := [.int a1]) ⟨hx, hb, hml, hown, hts⟩ (r_size l G g hg f 45 10 70 nt htr (by first | assumption | omega | decide) (by first | assumption | omega | decide) (by first | assumption | omega | decide) (by first | assumption | omega | decide)) (my_cwV hts ok_X5_size w_642 rfl rfl ⟨Nat.le_of_ble_eq_true rfl, Nat.le_of_ble_eq_true rfl⟩) ⟨bP.blind, va_recv hG.1 hP (ci := 5) (q0 := 45) rfl (wl_at (by decide) htr), fun U hU hW => ⟨rfl, by rw [hU]; exact hP, kG.warm hW hG⟩⟩ rfl rfl hl.1 rfl (lv_room (Nat.le_of_ble_eq_true rfl)) dX10_clash_8 ⟨Nat.le_of_ble_eq_true rfl, Nat.le_of_ble_eq_true rfl⟩) (fun r hr9 => ?_)
  subst hr9
  refine rd_calli (va_runS (As := [.int (nI nt)]) (rest := [.int a1]) ⟨hx, hb, hml, hown, hts⟩ (s_lowBits l G g hg f (nI nt)  ) (my_cwS hts ok_X10_lowBits w_819 rfl rfl ⟨Nat.le_of_ble_eq_true rfl, Nat.le_of_ble_eq_true rfl⟩) ⟨bP.blind, fun U hU hW => ⟨rfl, by rw [hU]; exact hP, kG.warm hW hG⟩⟩ rfl rfl hl.1 rfl (lv_room (Nat.le_of_ble_eq_true rfl)) dX10_clash_11 ⟨Nat.le_of_ble_eq_true rfl, Nat.le_of_ble_eq_true rfl⟩) (fun r hr9 => ?_)
  subst hr9
  refine lv_iconst (v := (-1)) hx hb dX10_clash_14 (by decide) ?_
  refine lv_ixor hx hb dX10_clash_15 ?_
  refine lv_iand hx hb dX10_clash_16 ?_
  refine lv_if_ne (tgt := 33) hx hb dX10_clash_17 (by decide) (fun c_17 => ?_) (fun c_17 => ?_)
  · refine lv_iconst (v := 0) hx hb dX10_clash_33 (by decide) ?_
    refine lv_istore_n (lv' := [(3, .int 0), (0, .ref (g 0)), (1, .int a1), (2, .int a2)]) hx hb dX10_clash_34 rfl hl (by decide) rfl (fun ls hl => ?_)
    refine lv_iload_n hx hb dX10_clash_35 rfl (lv_at hl 3 rfl) ?_
    refine lv_iconst (v := (-1)) hx hb dX10_clash_36 (by decide) ?_
    refine lv_icmp_eq (tgt := 62) hx hb dX10_clash_37 (by decide) (fun c_37 => ?_) (fun c_37 => ?_)
    · refine lv_iconst (v := 1) hx hb dX10_clash_62 (by decide) ?_
      refine lv_goto (tgt := 67) hx hb dX10_clash_63 (by decide) ?_
      refine lv_istore (lv' := [(4, .int 1), (3, .int 0), (0, .ref (g 0)), (1, .int a1), (2, .int a2)]) hx hb dX10_clash_67 hl (by decide) rfl (fun ls hl => ?_)
      refine lv_iload_n hx hb dX10_clash_69 rfl (lv_at hl 1 rfl) ?_
      refine lv_if_eq (tgt := 78) hx hb dX10_clash_70 (by decide) (fun c_70 => ?_) (fun c_70 => absurd (by decide) c_70)
      refine lv_bipush (v := (-10)) hx hb dX10_clash_78 (by decide) ?_
      refine W_q9 hQ9 ?_
      exact W.iret (v := (-10)) hx hb hr (fun _ hT9 _ => ⟨⟨_, f, rfl, (⟨cJ_mk (se) (hf) (imf) (mc) (op) (cm) (wu) (mk) (ab) (be) (mn) (le) (wt) (ww) (wb) (wf) (vv) (lf) (tf) (hx0) (hctc) (hhs) (him) (hkp) (hrd) (hmk) (hfc6) (hwt) (hw8) (hw9) (hw10) (hw11) (hvl) (hbk) (hpr) (hpd) (hfr) (hfd) (hor) (hod) (har) (had) (htr) (hct) (hla) (hlaa) (hts0) (htsa) (by omega) (hhf) (him0) (him1) (by omega) (by omega) (by omega) (by omega) (by omega) (by omega) (by omega) (hlf) (htf) (by omega) (hH) (hSp) (hL) (hT) (hB1) (hB2) (hQ), fun j hj => rfl⟩), by rw [hT9]; exact hP⟩, hS.F hT9⟩) hS.2.2 dX10_clash_80
    · refine lv_aload_n hx hb dX10_clash_40 rfl (lv_at hl 1 rfl) ?_
      refine va_get (D := G.1) (ci := 9) (v := .ref (g 36)) (C := RX10) (T := TX10) (N := 7) hx hb hts inlX10 hown hG.1 hP 0 (wl_at (by decide) hx0) rfl 1 (by decide) (hts (.fieldLink RX10 20 "SwornLists" "book" "LSwornLists$Book;") w_16) (fun _ h9 => h9) rfl dX10_clash_41 ?_
      refine va_getN (D := G.1) (ci := 0) (v := .ref (g 45)) (C := RX0) (T := TX0) (N := 9) (host := RX10) hx hb hts inlX0 hown hG.1 hP 36 (wl_at (by decide) hbk) rfl 4 (by decide) (va_Nw.use rfl (hG.2.1 (.fieldLinkNest RX10 162 RX0 "trials" "LSwornLists$Rows;" RX10) (List.mem_of_getElem? (i := 7) rfl))) (fun _ h9 => h9) rfl dX10_clash_44 ?_
      refine lv_iload_n hx hb dX10_clash_47 rfl (lv_at hl 3 rfl) ?_
      refine rd_calli (va_runV (As := [.int a2]) (rest := []) ⟨hx, hb, hml, hown, hts⟩ (r_has l G g hg f 45 10 70 nt a2 htr (by first | assumption | omega | decide) (by first | assumption | omega | decide) (by first | assumption | omega | decide) (by first | assumption | omega | decide)) (my_cwV hts ok_X5_has w_174 rfl rfl ⟨Nat.le_of_ble_eq_true rfl, Nat.le_of_ble_eq_true rfl⟩) ⟨bP.blind, va_recv hG.1 hP (ci := 5) (q0 := 45) rfl (wl_at (by decide) htr), fun U hU hW => ⟨rfl, by rw [hU]; exact hP, kG.warm hW hG⟩⟩ rfl rfl hl.1 rfl (lv_room (Nat.le_of_ble_eq_true rfl)) dX10_clash_48 ⟨Nat.le_of_ble_eq_true rfl, Nat.le_of_ble_eq_true rfl⟩) (fun r hr9 => ?_)
      subst hr9
      refine my_ifeq (tgt := 66) hx hb dX10_clash_51 (by decide) (fun c_51 => ?_) (fun c_51 => ?_)
      · refine lv_iconst (v := 0) hx hb dX10_clash_66 (by decide) ?_
        refine lv_istore (lv' := [(4, .int 0), (3, .int 0), (0, .ref (g 0)), (1, .int a1), (2, .int a2)]) hx hb dX10_clash_67 hl (by decide) rfl (fun ls hl => ?_)
        refine lv_iload_n hx hb dX10_clash_69 rfl (lv_at hl 1 rfl) ?_
        refine lv_if_eq (tgt := 78) hx hb dX10_clash_70 (by decide) (fun c_70 => ?_) (fun c_70 => absurd (by decide) c_70)
        refine lv_bipush (v := (-10)) hx hb dX10_clash_78 (by decide) ?_
        refine W_q9 hQ9 ?_
        exact W.iret (v := (-10)) hx hb hr (fun _ hT9 _ => ⟨⟨_, f, rfl, (⟨cJ_mk (se) (hf) (imf) (mc) (op) (cm) (wu) (mk) (ab) (be) (mn) (le) (wt) (ww) (wb) (wf) (vv) (lf) (tf) (hx0) (hctc) (hhs) (him) (hkp) (hrd) (hmk) (hfc6) (hwt) (hw8) (hw9) (hw10) (hw11) (hvl) (hbk) (hpr) (hpd) (hfr) (hfd) (hor) (hod) (har) (had) (htr) (hct) (hla) (hlaa) (hts0) (htsa) (by omega) (hhf) (him0) (him1) (by omega) (by omega) (by omega) (by omega) (by omega) (by omega) (by omega) (hlf) (htf) (by omega) (hH) (hSp) (hL) (hT) (hB1) (hB2) (hQ), fun j hj => rfl⟩), by rw [hT9]; exact hP⟩, hS.F hT9⟩) hS.2.2 dX10_clash_80
      · refine lv_iload_n hx hb dX10_clash_54 rfl (lv_at hl 2 rfl) ?_
        refine lv_iload_n hx hb dX10_clash_55 rfl (lv_at hl 3 rfl) ?_
        refine rd_calli (va_runS (As := [.int a1, .int a2]) (rest := []) ⟨hx, hb, hml, hown, hts⟩ (s_hasBit l G g hg f a1 a2  ) (my_cwS hts ok_X10_hasBit w_655 rfl rfl ⟨Nat.le_of_ble_eq_true rfl, Nat.le_of_ble_eq_true rfl⟩) ⟨bP.blind, fun U hU hW => ⟨rfl, by rw [hU]; exact hP, kG.warm hW hG⟩⟩ rfl rfl hl.1 rfl (lv_room (Nat.le_of_ble_eq_true rfl)) dX10_clash_56 ⟨Nat.le_of_ble_eq_true rfl, Nat.le_of_ble_eq_true rfl⟩) (fun r hr9 => ?_)
        subst hr9
        refine my_ifeq (tgt := 66) hx hb dX10_clash_59 (by decide) (fun c_59 => ?_) (fun c_59 => ?_)
        · refine lv_iconst (v := 0) hx hb dX10_clash_66 (by decide) ?_
          refine lv_istore (lv' := [(4, .int 0), (3, .int 0), (0, .ref (g 0)), (1, .int a1), (2, .int a2)]) hx hb dX10_clash_67 hl (by decide) rfl (fun ls hl => ?_)
          refine lv_iload_n hx hb dX10_clash_69 rfl (lv_at hl 1 rfl) ?_
          refine lv_if_eq (tgt := 78) hx hb dX10_clash_70 (by decide) (fun c_70 => ?_) (fun c_70 => absurd (by decide) c_70)
          refine lv_bipush (v := (-10)) hx hb dX10_clash_78 (by decide) ?_
          refine W_q9 hQ9 ?_
          exact W.iret (v := (-10)) hx hb hr (fun _ hT9 _ => ⟨⟨_, f, rfl, (⟨cJ_mk (se) (hf) (imf) (mc) (op) (cm) (wu) (mk) (ab) (be) (mn) (le) (wt) (ww) (wb) (wf) (vv) (lf) (tf) (hx0) (hctc) (hhs) (him) (hkp) (hrd) (hmk) (hfc6) (hwt) (hw8) (hw9) (hw10) (hw11) (hvl) (hbk) (hpr) (hpd) (hfr) (hfd) (hor) (hod) (har) (had) (htr) (hct) (hla) (hlaa) (hts0) (htsa) (by omega) (hhf) (him0) (him1) (by omega) (by omega) (by omega) (by omega) (by omega) (by omega) (by omega) (hlf) (htf) (by omega) (hH) (hSp) (hL) (hT) (hB1) (hB2) (hQ), fun j hj => rfl⟩), by rw [hT9]; exact hP⟩, hS.F hT9⟩) hS.2.2 dX10_clash_80
        · refine lv_iconst (v := 1) hx hb dX10_clash_62 (by decide) ?_
          refine lv_goto (tgt := 67) hx hb dX10_clash_63 (by decide) ?_
          refine lv_istore (lv' := [(4, .int 1), (3, .int 0), (0, .ref (g 0)), (1, .int a1), (2, .int a2)]) hx hb dX10_clash_67 hl (by decide) rfl (fun ls hl => ?_)
          refine lv_iload_n hx hb dX10_clash_69 rfl (lv_at hl 1 rfl) ?_
          refine lv_if_eq (tgt := 78) hx hb dX10_clash_70 (by decide) (fun c_70 => ?_) (fun c_70 => absurd (by decide) c_70)
          refine lv_bipush (v := (-10)) hx hb dX10_clash_78 (by decide) ?_
          refine W_q9 hQ9 ?_
          exact W.iret (v := (-10)) hx hb hr (fun _ hT9 _ => ⟨⟨_, f, rfl, (⟨cJ_mk (se) (hf) (imf) (mc) (op) (cm) (wu) (mk) (ab) (be) (mn) (le) (wt) (ww) (wb) (wf) (vv) (lf) (tf) (hx0) (hctc) (hhs) (him) (hkp) (hrd) (hmk) (hfc6) (hwt) (hw8) (hw9) (hw10) (hw11) (hvl) (hbk) (hpr) (hpd) (hfr) (hfd) (hor) (hod) (har) (had) (htr) (hct) (hla) (hlaa) (hts0) (htsa) (by omega) (hhf) (him0) (him1) (by omega) (by omega) (by omega) (by omega) (by omega) (by omega) (by omega) (hlf) (htf) (by omega) (hH) (hSp) (hL) (hT) (hB1) (hB2) (hQ), fun j hj => rfl⟩), by rw [hT9]; exact hP⟩, hS.F hT9⟩) hS.2.2 dX10_clash_80
  · refine lv_iload_n hx hb dX10_clash_20 rfl (lv_at hl 1 rfl) ?_
    refine rd_calli (va_runS (As := [.int a1]) (rest := []) ⟨hx, hb, hml, hown, hts⟩ (s_bitCount l G g hg f a1  ) (my_cwS hts ok_J6_bitCount_0f7a4 w_792 rfl rfl ⟨Nat.le_of_ble_eq_true rfl, Nat.le_of_ble_eq_true rfl⟩) ⟨bP.blind, fun U hU hW => ⟨rfl, by rw [hU]; exact hP, kG.warm hW hG⟩⟩ rfl rfl hl.1 rfl (lv_room (Nat.le_of_ble_eq_true rfl)) dX10_clash_21 ⟨Nat.le_of_ble_eq_true rfl, Nat.le_of_ble_eq_true rfl⟩) (fun v1 _ => ?_)
    refine lv_bipush (v := 6) hx hb dX10_clash_24 (by decide) ?_
    refine lv_icmp_gt (tgt := 33) hx hb dX10_clash_26 (by decide) (fun c_26 => ?_) (fun c_26 => ?_)
    · refine lv_iconst (v := 0) hx hb dX10_clash_33 (by decide) ?_
      refine lv_istore_n (lv' := [(3, .int 0), (0, .ref (g 0)), (1, .int a1), (2, .int a2)]) hx hb dX10_clash_34 rfl hl (by decide) rfl (fun ls hl => ?_)
      refine lv_iload_n hx hb dX10_clash_35 rfl (lv_at hl 3 rfl) ?_
      refine lv_iconst (v := (-1)) hx hb dX10_clash_36 (by decide) ?_
      refine lv_icmp_eq (tgt := 62) hx hb dX10_clash_37 (by decide) (fun c_37 => ?_) (fun c_37 => ?_)
      · refine lv_iconst (v := 1) hx hb dX10_clash_62 (by decide) ?_
        refine lv_goto (tgt := 67) hx hb dX10_clash_63 (by decide) ?_
        refine lv_istore (lv' := [(4, .int 1), (3, .int 0), (0, .ref (g 0)), (1, .int a1), (2, .int a2)]) hx hb dX10_clash_67 hl (by decide) rfl (fun ls hl => ?_)
        refine lv_iload_n hx hb dX10_clash_69 rfl (lv_at hl 1 rfl) ?_
        refine lv_if_eq (tgt := 78) hx hb dX10_clash_70 (by decide) (fun c_70 => ?_) (fun c_70 => absurd (by decide) c_70)
        refine lv_bipush (v := (-10)) hx hb dX10_clash_78 (by decide) ?_
        refine W_q9 hQ9 ?_
        exact W.iret (v := (-10)) hx hb hr (fun _ hT9 _ => ⟨⟨_, f, rfl, (⟨cJ_mk (se) (hf) (imf) (mc) (op) (cm) (wu) (mk) (ab) (be) (mn) (le) (wt) (ww) (wb) (wf) (vv) (lf) (tf) (hx0) (hctc) (hhs) (him) (hkp) (hrd) (hmk) (hfc6) (hwt) (hw8) (hw9) (hw10) (hw11) (hvl) (hbk) (hpr) (hpd) (hfr) (hfd) (hor) (hod) (har) (had) (htr) (hct) (hla) (hlaa) (hts0) (htsa) (by omega) (hhf) (him0) (him1) (by omega) (by omega) (by omega) (by omega) (by omega) (by omega) (by omega) (hlf) (htf) (by omega) (hH) (hSp) (hL) (hT) (hB1) (hB2) (hQ), fun j hj => rfl⟩), by rw [hT9]; exact hP⟩, hS.F hT9⟩) hS.2.2 dX10_clash_80
      · refine lv_aload_n hx hb dX10_clash_40 rfl (lv_at hl 1 rfl) ?_
        refine va_get (D := G.1) (ci := 9) (v := .ref (g 36)) (C := RX10) (T := TX10) (N := 7) hx hb hts inlX10 hown hG.1 hP 0 (wl_at (by decide) hx0) rfl 1 (by decide) (hts (.fieldLink RX10 20 "SwornLists" "book" "LSwornLists$Book;") w_16) (fun _ h9 => h9) rfl dX10_clash_41 ?_
        refine va_getN (D := G.1) (ci := 0) (v := .ref (g 45)) (C := RX0) (T := TX0) (N := 9) (host := RX10) hx hb hts inlX0 hown hG.1 hP 36 (wl_at (by decide) hbk) rfl 4 (by decide) (va_Nw.use rfl (hG.2.1 (.fieldLinkNest RX10 162 RX0 "trials" "LSwornLists$Rows;" RX10) (List.mem_of_getElem? (i := 7) rfl))) (fun _ h9 => h9) rfl dX10_clash_44 ?_
        refine lv_iload_n hx hb dX10_clash_47 rfl (lv_at hl 3 rfl) ?_
        refine rd_calli (va_runV (As := [.int a2]) (rest := []) ⟨hx, hb, hml, hown, hts⟩ (r_has l G g hg f 45 10 70 nt a2 htr (by first | assumption | omega | decide) (by first | assumption | omega | decide) (by first | assumption | omega | decide) (by first | assumption | omega | decide)) (my_cwV hts ok_X5_has w_174 rfl rfl ⟨Nat.le_of_ble_eq_true rfl, Nat.le_of_ble_eq_true rfl⟩) ⟨bP.blind, va_recv hG.1 hP (ci := 5) (q0 := 45) rfl (wl_at (by decide) htr), fun U hU hW => ⟨rfl, by rw [hU]; exact hP, kG.warm hW hG⟩⟩ rfl rfl hl.1 rfl (lv_room (Nat.le_of_ble_eq_true rfl)) dX10_clash_48 ⟨Nat.le_of_ble_eq_true rfl, Nat.le_of_ble_eq_true rfl⟩) (fun r hr9 => ?_)
        subst hr9
        refine my_ifeq (tgt := 66) hx hb dX10_clash_51 (by decide) (fun c_51 => ?_) (fun c_51 => ?_)
        · refine lv_iconst (v := 0) hx hb dX10_clash_66 (by decide) ?_
          refine lv_istore (lv' := [(4, .int 0), (3, .int 0), (0, .ref (g 0)), (1, .int a1), (2, .int a2)]) hx hb dX10_clash_67 hl (by decide) rfl (fun ls hl => ?_)
          refine lv_iload_n hx hb dX10_clash_69 rfl (lv_at hl 1 rfl) ?_
          refine lv_if_eq (tgt := 78) hx hb dX10_clash_70 (by decide) (fun c_70 => ?_) (fun c_70 => absurd (by decide) c_70)
          refine lv_bipush (v := (-10)) hx hb dX10_clash_78 (by decide) ?_
          refine W_q9 hQ9 ?_
          exact W.iret (v := (-10)) hx hb hr (fun _ hT9 _ => ⟨⟨_, f, rfl, (⟨cJ_mk (se) (hf) (imf) (mc) (op) (cm) (wu) (mk) (ab) (be) (mn) (le) (wt) (ww) (wb) (wf) (vv) (lf) (tf) (hx0) (hctc) (hhs) (him) (hkp) (hrd) (hmk) (hfc6) (hwt) (hw8) (hw9) (hw10) (hw11) (hvl) (hbk) (hpr) (hpd) (hfr) (hfd) (hor) (hod) (har) (had) (htr) (hct) (hla) (hlaa) (hts0) (htsa) (by omega) (hhf) (him0) (him1) (by omega) (by omega) (by omega) (by omega) (by omega) (by omega) (by omega) (hlf) (htf) (by omega) (hH) (hSp) (hL) (hT) (hB1) (hB2) (hQ), fun j hj => rfl⟩), by rw [hT9]; exact hP⟩, hS.F hT9⟩) hS.2.2 dX10_clash_80
        · refine lv_iload_n hx hb dX10_clash_54 rfl (lv_at hl 2 rfl) ?_
          refine lv_iload_n hx hb dX10_clash_55 rfl (lv_at hl 3 rfl) ?_
          refine rd_calli (va_runS (As := [.int a1, .int a2]) (rest := []) ⟨hx, hb, hml, hown, hts⟩ (s_hasBit l G g hg f a1 a2  ) (my_cwS hts ok_X10_hasBit w_655 rfl rfl ⟨Nat.le_of_ble_eq_true rfl, Nat.le_of_ble_eq_true rfl⟩) ⟨bP.blind, fun U hU hW => ⟨rfl, by rw [hU]; exact hP, kG.warm hW hG⟩⟩ rfl rfl hl.1 rfl (lv_room (Nat.le_of_ble_eq_true rfl)) dX10_clash_56 ⟨Nat.le_of_ble_eq_true rfl, Nat.le_of_ble_eq_true rfl⟩) (fun r hr9 => ?_)
          subst hr9
          refine my_ifeq (tgt := 66) hx hb dX10_clash_59 (by decide) (fun c_59 => ?_) (fun c_59 => ?_)
          · refine lv_iconst (v := 0) hx hb dX10_clash_66 (by decide) ?_
            refine lv_istore (lv' := [(4, .int 0), (3, .int 0), (0, .ref (g 0)), (1, .int a1), (2, .int a2)]) hx hb dX10_clash_67 hl (by decide) rfl (fun ls hl => ?_)
            refine lv_iload_n hx hb dX10_clash_69 rfl (lv_at hl 1 rfl) ?_
            refine lv_if_eq (tgt := 78) hx hb dX10_clash_70 (by decide) (fun c_70 => ?_) (fun c_70 => absurd (by decide) c_70)
            refine lv_bipush (v := (-10)) hx hb dX10_clash_78 (by decide) ?_
            refine W_q9 hQ9 ?_
            exact W.iret (v := (-10)) hx hb hr (fun _ hT9 _ => ⟨⟨_, f, rfl, (⟨cJ_mk (se) (hf) (imf) (mc) (op) (cm) (wu) (mk) (ab) (be) (mn) (le) (wt) (ww) (wb) (wf) (vv) (lf) (tf) (hx0) (hctc) (hhs) (him) (hkp) (hrd) (hmk) (hfc6) (hwt) (hw8) (hw9) (hw10) (hw11) (hvl) (hbk) (hpr) (hpd) (hfr) (hfd) (hor) (hod) (har) (had) (htr) (hct) (hla) (hlaa) (hts0) (htsa) (by omega) (hhf) (him0) (him1) (by omega) (by omega) (by omega) (by omega) (by omega) (by omega) (by omega) (hlf) (htf) (by omega) (hH) (hSp) (hL) (hT) (hB1) (hB2) (hQ), fun j hj => rfl⟩), by rw [hT9]; exact hP⟩, hS.F hT9⟩) hS.2.2 dX10_clash_80
          · refine lv_iconst (v := 1) hx hb dX10_clash_62 (by decide) ?_
            refine lv_goto (tgt := 67) hx hb dX10_clash_63 (by decide) ?_
            refine lv_istore (lv' := [(4, .int 1), (3, .int 0), (0, .ref (g 0)), (1, .int a1), (2, .int a2)]) hx hb dX10_clash_67 hl (by decide) rfl (fun ls hl => ?_)
            refine lv_iload_n hx hb dX10_clash_69 rfl (lv_at hl 1 rfl) ?_
            refine lv_if_eq (tgt := 78) hx hb dX10_clash_70 (by decide) (fun c_70 => ?_) (fun c_70 => absurd (by decide) c_70)
            refine lv_bipush (v := (-10)) hx hb dX10_clash_78 (by decide) ?_
            refine W_q9 hQ9 ?_
            exact W.iret (v := (-10)) hx hb hr (fun _ hT9 _ => ⟨⟨_, f, rfl, (⟨cJ_mk (se) (hf) (imf) (mc) (op) (cm) (wu) (mk) (ab) (be) (mn) (le) (wt) (ww) (wb) (wf) (vv) (lf) (tf) (hx0) (hctc) (hhs) (him) (hkp) (hrd) (hmk) (hfc6) (hwt) (hw8) (hw9) (hw10) (hw11) (hvl) (hbk) (hpr) (hpd) (hfr) (hfd) (hor) (hod) (har) (had) (htr) (hct) (hla) (hlaa) (hts0) (htsa) (by omega) (hhf) (him0) (him1) (by omega) (by omega) (by omega) (by omega) (by omega) (by omega) (by omega) (hlf) (htf) (by omega) (hH) (hSp) (hL) (hT) (hB1) (hB2) (hQ), fun j hj => rfl⟩), by rw [hT9]; exact hP⟩, hS.F hT9⟩) hS.2.2 dX10_clash_80
    · refine lv_iconst (v := 1) hx hb dX10_clash_29 (by decide) ?_
      refine lv_goto (tgt := 34) hx hb dX10_clash_30 (by decide) ?_
      refine lv_istore_n (lv' := [(3, .int 1), (0, .ref (g 0)), (1, .int a1), (2, .int a2)]) hx hb dX10_clash_34 rfl hl (by decide) rfl (fun ls hl => ?_)
      refine lv_iload_n hx hb dX10_clash_35 rfl (lv_at hl 3 rfl) ?_
      refine lv_iconst (v := (-1)) hx hb dX10_clash_36 (by decide) ?_
      refine lv_icmp_eq (tgt := 62) hx hb dX10_clash_37 (by decide) (fun c_37 => ?_) (fun c_37 => ?_)
      · refine lv_iconst (v := 1) hx hb dX10_clash_62 (by decide) ?_
        refine lv_goto (tgt := 67) hx hb dX10_clash_63 (by decide) ?_
        refine lv_istore (lv' := [(4, .int 1), (3, .int 1), (0, .ref (g 0)), (1, .int a1), (2, .int a2)]) hx hb dX10_clash_67 hl (by decide) rfl (fun ls hl => ?_)
        refine lv_iload_n hx hb dX10_clash_69 rfl (lv_at hl 1 rfl) ?_
        refine lv_if_eq (tgt := 78) hx hb dX10_clash_70 (by decide) (fun c_70 => absurd c_70 (by decide)) (fun c_70 => ?_)
        refine lv_iload hx hb dX10_clash_73 (lv_at hl 0 rfl) ?_
        refine lv_if_ne (tgt := 81) hx hb dX10_clash_75 (by decide) (fun c_75 => ?_) (fun c_75 => absurd c_75 (by decide))
        refine lv_aload_n hx hb dX10_clash_81 rfl (lv_at hl 2 rfl) ?_
        refine va_get (D := G.1) (ci := 9) (v := .ref (g 7)) (C := RX10) (T := TX10) (N := 7) hx hb hts inlX10 hown hG.1 hP 0 (wl_at (by decide) hx0) rfl 6 (by decide) (hts (.fieldLink RX10 48 "SwornLists" "waits" "LSwornLists$Waits;") w_32) (fun _ h9 => h9) rfl dX10_clash_82 ?_
        refine lv_aload_n hx hb dX10_clash_85 rfl (lv_at hl 2 rfl) ?_
        refine va_get (D := G.1) (ci := 9) (v := .ref (g 36)) (C := RX10) (T := TX10) (N := 7) hx hb hts inlX10 hown hG.1 hP 0 (wl_at (by decide) hx0) rfl 1 (by decide) (hts (.fieldLink RX10 20 "SwornLists" "book" "LSwornLists$Book;") w_16) (fun _ h9 => h9) rfl dX10_clash_86 ?_
        refine lv_iload_n hx hb dX10_clash_89 rfl (lv_at hl 3 rfl) ?_
        refine b_callv (va_runV (As := [.ref (g 36), .int a1]) (rest := []) ⟨hx, hb, hml, hown, hts⟩ (v_seek l G g hg f mn le wt ww wb wf pay fine nt ct a1 hwt hw8 hw9 hw10 hw11 hbk htr hct (by first | assumption | omega | decide) (by first | assumption | omega | decide)) (my_cwV hts ok_X9_seek w_820 rfl rfl ⟨Nat.le_of_ble_eq_true rfl, Nat.le_of_ble_eq_true rfl⟩) ⟨bP.blind, va_recv hG.1 hP (ci := 8) (q0 := 7) rfl (wl_at (by decide) hwt), fun U hU hW => ⟨rfl, by rw [hU]; exact hP, kG.warm hW hG⟩⟩ rfl rfl hl.1 rfl (lv_room (Nat.le_of_ble_eq_true rfl)) dX10_clash_90 ⟨Nat.le_of_ble_eq_true rfl, Nat.le_of_ble_eq_true rfl⟩) hS (fun f_1 H locs hq9 hP hS => ?_)
        obtain ⟨mn92, le93, wt94, ww95, wb96, wf97, hq_1_0, hq_1_1, hq_1_2, hq_1_3, hq_1_4, hx_1_0, o_1⟩ := hq9
        have hwt : f_1 7 = eO 8 [.ref (g 8), .ref (g 9), .ref (g 10), .ref (g 11), .int (nI mn92), .int le93] := hq_1_0
        have hw8 : f_1 8 = eI G 6 wt94 := hq_1_1
        have hw9 : f_1 9 = eI G 6 ww95 := hq_1_2
        have hw10 : f_1 10 = eI G 6 wb96 := hq_1_3
        have hw11 : f_1 11 = eI G 6 wf97 := hq_1_4
        refine lv_aload_n hx hb dX10_clash_93 rfl (lv_at hl 2 rfl) ?_
        replace hx0 := ((o_1 0 (by first | decide | omega))).trans hx0
        refine va_get (D := G.1) (ci := 9) (v := .ref (g 7)) (C := RX10) (T := TX10) (N := 7) hx hb hts inlX10 hown hG.1 hP 0 (wl_at (by decide) hx0) rfl 6 (by decide) (hts (.fieldLink RX10 48 "SwornLists" "waits" "LSwornLists$Waits;") w_32) (fun _ h9 => h9) rfl dX10_clash_94 ?_
        refine va_getN (D := G.1) (ci := 8) (v := .int le93) (C := RX9) (T := TX9) (N := 6) (host := RX10) hx hb hts inlX9 hown hG.1 hP 7 (wl_at (by decide) hwt) rfl 5 (by decide) (va_Nw.use rfl (hG.2.1 (.fieldLinkNest RX10 251 RX9 "leastSum" "I" RX10) (List.mem_of_getElem? (i := 21) rfl))) (fun _ h9 => h9) rfl dX10_clash_97 ?_
        refine lv_iconst (v := (-1)) hx hb dX10_clash_100 (by decide) ?_
        refine lv_icmp_ne (tgt := 107) hx hb dX10_clash_101 (by decide) (fun c_101 => ?_) (fun c_101 => ?_)
        · refine lv_iload_n hx hb dX10_clash_107 rfl (lv_at hl 4 rfl) ?_
          refine lv_iconst (v := (-1)) hx hb dX10_clash_108 (by decide) ?_
          refine lv_icmp_ne (tgt := 122) hx hb dX10_clash_109 (by decide) (fun c_109 => ?_) (fun c_109 => ?_)
          · refine lv_aload_n hx hb dX10_clash_122 rfl (lv_at hl 2 rfl) ?_
            refine va_get (D := G.1) (ci := 9) (v := .ref (g 7)) (C := RX10) (T := TX10) (N := 7) hx hb hts inlX10 hown hG.1 hP 0 (wl_at (by decide) hx0) rfl 6 (by decide) (hts (.fieldLink RX10 48 "SwornLists" "waits" "LSwornLists$Waits;") w_32) (fun _ h9 => h9) rfl dX10_clash_123 ?_
            refine lv_iload_n hx hb dX10_clash_126 rfl (lv_at hl 3 rfl) ?_
            refine lv_iload_n hx hb dX10_clash_127 rfl (lv_at hl 4 rfl) ?_
            refine rd_calli (va_runS (As := [.int a2]) (rest := [.int a1, .ref (g 7)]) ⟨hx, hb, hml, hown, hts⟩ (s_lowBits l G g hg f_1 a2  ) (my_cwS hts ok_X10_lowBits w_819 rfl rfl ⟨Nat.le_of_ble_eq_true rfl, Nat.le_of_ble_eq_true rfl⟩) ⟨bP.blind, fun U hU hW => ⟨rfl, by rw [hU]; exact hP, kG.warm hW hG⟩⟩ rfl rfl hl.1 rfl (lv_room (Nat.le_of_ble_eq_true rfl)) dX10_clash_128 ⟨Nat.le_of_ble_eq_true rfl, Nat.le_of_ble_eq_true rfl⟩) (fun r hr9 => ?_)
            subst hr9
            refine lv_iand hx hb dX10_clash_131 ?_
            refine rd_calli (va_runS (As := [.int (a1 &&& ((1 <<< (a2 &&& 31)) - 1))]) (rest := [.ref (g 7)]) ⟨hx, hb, hml, hown, hts⟩ (s_bitCount l G g hg f_1 (a1 &&& ((1 <<< (a2 &&& 31)) - 1))  ) (my_cwS hts ok_J6_bitCount_0f7a4 w_792 rfl rfl ⟨Nat.le_of_ble_eq_true rfl, Nat.le_of_ble_eq_true rfl⟩) ⟨bP.blind, fun U hU hW => ⟨rfl, by rw [hU]; exact hP, kG.warm hW hG⟩⟩ rfl rfl hl.1 rfl (lv_room (Nat.le_of_ble_eq_true rfl)) dX10_clash_132 ⟨Nat.le_of_ble_eq_true rfl, Nat.le_of_ble_eq_true rfl⟩) (fun v8 _ => ?_)
            refine rd_calli (va_runV (As := [.int v8]) (rest := []) ⟨hx, hb, hml, hown, hts⟩ (v_bestAt l G g hg f_1 mn92 le93 wb96 v8 hwt hw10 (by first | assumption | omega | decide)) (my_cwV hts ok_X9_bestAt w_855 rfl rfl ⟨Nat.le_of_ble_eq_true rfl, Nat.le_of_ble_eq_true rfl⟩) ⟨bP.blind, va_recv hG.1 hP (ci := 8) (q0 := 7) rfl (wl_at (by decide) hwt), fun U hU hW => ⟨rfl, by rw [hU]; exact hP, kG.warm hW hG⟩⟩ rfl rfl hl.1 rfl (lv_room (Nat.le_of_ble_eq_true rfl)) dX10_clash_135 ⟨Nat.le_of_ble_eq_true rfl, Nat.le_of_ble_eq_true rfl⟩) (fun v9 _ => ?_)
            refine W_q9 hQ9 ?_
            replace hctc := ((o_1 1 (by first | decide | omega))).trans hctc
            replace hhs := ((o_1 12 (by first | decide | omega))).trans hhs
            replace him := ((o_1 2 (by first | decide | omega))).trans him
            replace hkp := ((o_1 3 (by first | decide | omega))).trans hkp
            replace hrd := ((o_1 4 (by first | decide | omega))).trans hrd
            replace hmk := ((o_1 5 (by first | decide | omega))).trans hmk
            replace hfc6 := ((o_1 6 (by first | decide | omega))).trans hfc6
            replace hvl := ((o_1 15 (by first | decide | omega))).trans hvl
            replace hbk := ((o_1 36 (by first | decide | omega))).trans hbk
            replace hpr := ((o_1 37 (by first | decide | omega))).trans hpr
            replace hpd := ((o_1 38 (by first | decide | omega))).trans hpd
            replace hfr := ((o_1 39 (by first | decide | omega))).trans hfr
            replace hfd := ((o_1 40 (by first | decide | omega))).trans hfd
            replace hor := ((o_1 41 (by first | decide | omega))).trans hor
            replace hod := ((o_1 42 (by first | decide | omega))).trans hod
            replace har := ((o_1 43 (by first | decide | omega))).trans har
            replace had := ((o_1 44 (by first | decide | omega))).trans had
            replace htr := ((o_1 45 (by first | decide | omega))).trans htr
            replace hct := ((o_1 46 (by first | decide | omega))).trans hct
            replace hla := ((o_1 47 (by first | decide | omega))).trans hla
            replace hlaa := ((o_1 48 (by first | decide | omega))).trans hlaa
            replace hts0 := ((o_1 112 (by first | decide | omega))).trans hts0
            replace htsa := ((o_1 113 (by first | decide | omega))).trans htsa
            replace hH : ∀ i, i < 10 → okH G g f_1 (2 * i + 16) := fun z hz => okH_fr (hH z hz) (o_1 _ (by omega)) (o_1 _ (by omega))
            replace hSp : okH G g f_1 13 := okH_fr hSp (o_1 _ (by omega)) (o_1 _ (by omega))
            replace hL : ∀ i, i < 20 → ltx G g f_1 (3 * i + 52) (LL i) (LG i) (i < na) := fun z hz => ltx_fr (hL z hz) (o_1 _ (by omega)) (o_1 _ (by omega)) (o_1 _ (by omega))
            replace hT : ∀ i, i < 4 → txt G g f_1 (3 * i + 117) (TL i) (TG i) := fun z hz => txt_fr (hT z hz) (o_1 _ (by omega)) (o_1 _ (by omega)) (o_1 _ (by omega))
            replace hB1 : bkD G g f_1 129 N1 E1 P1 L1 S1 W1 X1 := bkD_fr hB1 (fun j _ _ => o_1 j (by omega))
            replace hB2 : bkD G g f_1 222 N2 E2 P2 L2 S2 W2 X2 := bkD_fr hB2 (fun j _ _ => o_1 j (by omega))
            replace hQ : ∀ z, z < se → cHz G g f_1 np nf nr na dp df dr da ct LL LG z := fun z hz => okQ_fr (hQ z hz) (o_1 _ (by omega)) (o_1 _ (by omega))
            exact W.iret (v := v9) hx hb hr (fun _ hT9 _ => ⟨⟨_, f_1, rfl, (⟨cJ_mk (se) (hf) (imf) (mc) (op) (cm) (wu) (mk) (ab) (be) (mn92) (le93) (wt94) (ww95) (wb96) (wf97) (vv) (lf) (tf) (hx0) (hctc) (hhs) (him) (hkp) (hrd) (hmk) (hfc6) (hwt) (hw8) (hw9) (hw10) (hw11) (hvl) (hbk) (hpr) (hpd) (hfr) (hfd) (hor) (hod) (har) (had) (htr) (hct) (hla) (hlaa) (hts0) (htsa) (by omega) (hhf) (him0) (him1) (by omega) (by omega) (by omega) (by omega) (by omega) (by omega) (by omega) (hlf) (htf) (by omega) (hH) (hSp) (hL) (hT) (hB1) (hB2) (hQ), fun j hj => (o_1 j (by omega))⟩), by rw [hT9]; exact hP⟩, hS.F hT9⟩) hS.2.2 dX10_clash_138
          · refine lv_aload_n hx hb dX10_clash_112 rfl (lv_at hl 2 rfl) ?_
            refine va_get (D := G.1) (ci := 9) (v := .ref (g 7)) (C := RX10) (T := TX10) (N := 7) hx hb hts inlX10 hown hG.1 hP 0 (wl_at (by decide) hx0) rfl 6 (by decide) (hts (.fieldLink RX10 48 "SwornLists" "waits" "LSwornLists$Waits;") w_32) (fun _ h9 => h9) rfl dX10_clash_113 ?_
            refine va_getN (D := G.1) (ci := 8) (v := .int le93) (C := RX9) (T := TX9) (N := 6) (host := RX10) hx hb hts inlX9 hown hG.1 hP 7 (wl_at (by decide) hwt) rfl 5 (by decide) (va_Nw.use rfl (hG.2.1 (.fieldLinkNest RX10 251 RX9 "leastSum" "I" RX10) (List.mem_of_getElem? (i := 21) rfl))) (fun _ h9 => h9) rfl dX10_clash_116 ?_
            refine lv_goto (tgt := 138) hx hb dX10_clash_119 (by decide) ?_
            refine W_q9 hQ9 ?_
            replace hctc := ((o_1 1 (by first | decide | omega))).trans hctc
            replace hhs := ((o_1 12 (by first | decide | omega))).trans hhs
            replace him := ((o_1 2 (by first | decide | omega))).trans him
            replace hkp := ((o_1 3 (by first | decide | omega))).trans hkp
            replace hrd := ((o_1 4 (by first | decide | omega))).trans hrd
            replace hmk := ((o_1 5 (by first | decide | omega))).trans hmk
            replace hfc6 := ((o_1 6 (by first | decide | omega))).trans hfc6
            replace hvl := ((o_1 15 (by first | decide | omega))).trans hvl
            replace hbk := ((o_1 36 (by first | decide | omega))).trans hbk
            replace hpr := ((o_1 37 (by first | decide | omega))).trans hpr
            replace hpd := ((o_1 38 (by first | decide | omega))).trans hpd
            replace hfr := ((o_1 39 (by first | decide | omega))).trans hfr
            replace hfd := ((o_1 40 (by first | decide | omega))).trans hfd
            replace hor := ((o_1 41 (by first | decide | omega))).trans hor
            replace hod := ((o_1 42 (by first | decide | omega))).trans hod
            replace har := ((o_1 43 (by first | decide | omega))).trans har
            replace had := ((o_1 44 (by first | decide | omega))).trans had
            replace htr := ((o_1 45 (by first | decide | omega))).trans htr
            replace hct := ((o_1 46 (by first | decide | omega))).trans hct
            replace hla := ((o_1 47 (by first | decide | omega))).trans hla
            replace hlaa := ((o_1 48 (by first | decide | omega))).trans hlaa
            replace hts0 := ((o_1 112 (by first | decide | omega))).trans hts0
            replace htsa := ((o_1 113 (by first | decide | omega))).trans htsa
            replace hH : ∀ i, i < 10 → okH G g f_1 (2 * i + 16) := fun z hz => okH_fr (hH z hz) (o_1 _ (by omega)) (o_1 _ (by omega))
            replace hSp : okH G g f_1 13 := okH_fr hSp (o_1 _ (by omega)) (o_1 _ (by omega))
            replace hL : ∀ i, i < 20 → ltx G g f_1 (3 * i + 52) (LL i) (LG i) (i < na) := fun z hz => ltx_fr (hL z hz) (o_1 _ (by omega)) (o_1 _ (by omega)) (o_1 _ (by omega))
            replace hT : ∀ i, i < 4 → txt G g f_1 (3 * i + 117) (TL i) (TG i) := fun z hz => txt_fr (hT z hz) (o_1 _ (by omega)) (o_1 _ (by omega)) (o_1 _ (by omega))
            replace hB1 : bkD G g f_1 129 N1 E1 P1 L1 S1 W1 X1 := bkD_fr hB1 (fun j _ _ => o_1 j (by omega))
            replace hB2 : bkD G g f_1 222 N2 E2 P2 L2 S2 W2 X2 := bkD_fr hB2 (fun j _ _ => o_1 j (by omega))
            replace hQ : ∀ z, z < se → cHz G g f_1 np nf nr na dp df dr da ct LL LG z := fun z hz => okQ_fr (hQ z hz) (o_1 _ (by omega)) (o_1 _ (by omega))
            exact W.iret (v := le93) hx hb hr (fun _ hT9 _ => ⟨⟨_, f_1, rfl, (⟨cJ_mk (se) (hf) (imf) (mc) (op) (cm) (wu) (mk) (ab) (be) (mn92) (le93) (wt94) (ww95) (wb96) (wf97) (vv) (lf) (tf) (hx0) (hctc) (hhs) (him) (hkp) (hrd) (hmk) (hfc6) (hwt) (hw8) (hw9) (hw10) (hw11) (hvl) (hbk) (hpr) (hpd) (hfr) (hfd) (hor) (hod) (har) (had) (htr) (hct) (hla) (hlaa) (hts0) (htsa) (by omega) (hhf) (him0) (him1) (by omega) (by omega) (by omega) (by omega) (by omega) (by omega) (by omega) (hlf) (htf) (by omega) (hH) (hSp) (hL) (hT) (hB1) (hB2) (hQ), fun j hj => (o_1 j (by omega))⟩), by rw [hT9]; exact hP⟩, hS.F hT9⟩) hS.2.2 dX10_clash_138
        · refine lv_bipush (v := (-5)) hx hb dX10_clash_104 (by decide) ?_
          refine W_q9 hQ9 ?_
          replace hctc := ((o_1 1 (by first | decide | omega))).trans hctc
          replace hhs := ((o_1 12 (by first | decide | omega))).trans hhs
          replace him := ((o_1 2 (by first | decide | omega))).trans him
          replace hkp := ((o_1 3 (by first | decide | omega))).trans hkp
          replace hrd := ((o_1 4 (by first | decide | omega))).trans hrd
          replace hmk := ((o_1 5 (by first | decide | omega))).trans hmk
          replace hfc6 := ((o_1 6 (by first | decide | omega))).trans hfc6
          replace hvl := ((o_1 15 (by first | decide | omega))).trans hvl
          replace hbk := ((o_1 36 (by first | decide | omega))).trans hbk
          replace hpr := ((o_1 37 (by first | decide | omega))).trans hpr
          replace hpd := ((o_1 38 (by first | decide | omega))).trans hpd
          replace hfr := ((o_1 39 (by first | decide | omega))).trans hfr
          replace hfd := ((o_1 40 (by first | decide | omega))).trans hfd
          replace hor := ((o_1 41 (by first | decide | omega))).trans hor
          replace hod := ((o_1 42 (by first | decide | omega))).trans hod
          replace har := ((o_1 43 (by first | decide | omega))).trans har
          replace had := ((o_1 44 (by first | decide | omega))).trans had
          replace htr := ((o_1 45 (by first | decide | omega))).trans htr
          replace hct := ((o_1 46 (by first | decide | omega))).trans hct
          replace hla := ((o_1 47 (by first | decide | omega))).trans hla
          replace hlaa := ((o_1 48 (by first | decide | omega))).trans hlaa
          replace hts0 := ((o_1 112 (by first | decide | omega))).trans hts0
          replace htsa := ((o_1 113 (by first | decide | omega))).trans htsa
          replace hH : ∀ i, i < 10 → okH G g f_1 (2 * i + 16) := fun z hz => okH_fr (hH z hz) (o_1 _ (by omega)) (o_1 _ (by omega))
          replace hSp : okH G g f_1 13 := okH_fr hSp (o_1 _ (by omega)) (o_1 _ (by omega))
          replace hL : ∀ i, i < 20 → ltx G g f_1 (3 * i + 52) (LL i) (LG i) (i < na) := fun z hz => ltx_fr (hL z hz) (o_1 _ (by omega)) (o_1 _ (by omega)) (o_1 _ (by omega))
          replace hT : ∀ i, i < 4 → txt G g f_1 (3 * i + 117) (TL i) (TG i) := fun z hz => txt_fr (hT z hz) (o_1 _ (by omega)) (o_1 _ (by omega)) (o_1 _ (by omega))
          replace hB1 : bkD G g f_1 129 N1 E1 P1 L1 S1 W1 X1 := bkD_fr hB1 (fun j _ _ => o_1 j (by omega))
          replace hB2 : bkD G g f_1 222 N2 E2 P2 L2 S2 W2 X2 := bkD_fr hB2 (fun j _ _ => o_1 j (by omega))
          replace hQ : ∀ z, z < se → cHz G g f_1 np nf nr na dp df dr da ct LL LG z := fun z hz => okQ_fr (hQ z hz) (o_1 _ (by omega)) (o_1 _ (by omega))
          exact W.iret (v := (-5)) hx hb hr (fun _ hT9 _ => ⟨⟨_, f_1, rfl, (⟨cJ_mk (se) (hf) (imf) (mc) (op) (cm) (wu) (mk) (ab) (be) (mn92) (le93) (wt94) (ww95) (wb96) (wf97) (vv) (lf) (tf) (hx0) (hctc) (hhs) (him) (hkp) (hrd) (hmk) (hfc6) (hwt) (hw8) (hw9) (hw10) (hw11) (hvl) (hbk) (hpr) (hpd) (hfr) (hfd) (hor) (hod) (har) (had) (htr) (hct) (hla) (hlaa) (hts0) (htsa) (by omega) (hhf) (him0) (him1) (by omega) (by omega) (by omega) (by omega) (by omega) (by omega) (by omega) (hlf) (htf) (by omega) (hH) (hSp) (hL) (hT) (hB1) (hB2) (hQ), fun j hj => (o_1 j (by omega))⟩), by rw [hT9]; exact hP⟩, hS.F hT9⟩) hS.2.2 dX10_clash_106
      · refine lv_aload_n hx hb dX10_clash_40 rfl (lv_at hl 1 rfl) ?_
        refine va_get (D := G.1) (ci := 9) (v := .ref (g 36)) (C := RX10) (T := TX10) (N := 7) hx hb hts inlX10 hown hG.1 hP 0 (wl_at (by decide) hx0) rfl 1 (by decide) (hts (.fieldLink RX10 20 "SwornLists" "book" "LSwornLists$Book;") w_16) (fun _ h9 => h9) rfl dX10_clash_41 ?_
        refine va_getN (D := G.1) (ci := 0) (v := .ref (g 45)) (C := RX0) (T := TX0) (N := 9) (host := RX10) hx hb hts inlX0 hown hG.1 hP 36 (wl_at (by decide) hbk) rfl 4 (by decide) (va_Nw.use rfl (hG.2.1 (.fieldLinkNest RX10 162 RX0 "trials" "LSwornLists$Rows;" RX10) (List.mem_of_getElem? (i := 7) rfl))) (fun _ h9 => h9) rfl dX10_clash_44 ?_
        refine lv_iload_n hx hb dX10_clash_47 rfl (lv_at hl 3 rfl) ?_
        refine rd_calli (va_runV (As := [.int a2]) (rest := []) ⟨hx, hb, hml, hown, hts⟩ (r_has l G g hg f 45 10 70 nt a2 htr (by first | assumption | omega | decide) (by first | assumption | omega | decide) (by first | assumption | omega | decide) (by first | assumption | omega | decide)) (my_cwV hts ok_X5_has w_174 rfl rfl ⟨Nat.le_of_ble_eq_true rfl, Nat.le_of_ble_eq_true rfl⟩) ⟨bP.blind, va_recv hG.1 hP (ci := 5) (q0 := 45) rfl (wl_at (by decide) htr), fun U hU hW => ⟨rfl, by rw [hU]; exact hP, kG.warm hW hG⟩⟩ rfl rfl hl.1 rfl (lv_room (Nat.le_of_ble_eq_true rfl)) dX10_clash_48 ⟨Nat.le_of_ble_eq_true rfl, Nat.le_of_ble_eq_true rfl⟩) (fun r hr9 => ?_)
        subst hr9
        refine my_ifeq (tgt := 66) hx hb dX10_clash_51 (by decide) (fun c_51 => ?_) (fun c_51 => ?_)
        · refine lv_iconst (v := 0) hx hb dX10_clash_66 (by decide) ?_
          refine lv_istore (lv' := [(4, .int 0), (3, .int 1), (0, .ref (g 0)), (1, .int a1), (2, .int a2)]) hx hb dX10_clash_67 hl (by decide) rfl (fun ls hl => ?_)
          refine lv_iload_n hx hb dX10_clash_69 rfl (lv_at hl 1 rfl) ?_
          refine lv_if_eq (tgt := 78) hx hb dX10_clash_70 (by decide) (fun c_70 => absurd c_70 (by decide)) (fun c_70 => ?_)
          refine lv_iload hx hb dX10_clash_73 (lv_at hl 0 rfl) ?_
          refine lv_if_ne (tgt := 81) hx hb dX10_clash_75 (by decide) (fun c_75 => absurd (by decide) c_75) (fun c_75 => ?_)
          refine lv_bipush (v := (-10)) hx hb dX10_clash_78 (by decide) ?_
          refine W_q9 hQ9 ?_
          exact W.iret (v := (-10)) hx hb hr (fun _ hT9 _ => ⟨⟨_, f, rfl, (⟨cJ_mk (se) (hf) (imf) (mc) (op) (cm) (wu) (mk) (ab) (be) (mn) (le) (wt) (ww) (wb) (wf) (vv) (lf) (tf) (hx0) (hctc) (hhs) (him) (hkp) (hrd) (hmk) (hfc6) (hwt) (hw8) (hw9) (hw10) (hw11) (hvl) (hbk) (hpr) (hpd) (hfr) (hfd) (hor) (hod) (har) (had) (htr) (hct) (hla) (hlaa) (hts0) (htsa) (by omega) (hhf) (him0) (him1) (by omega) (by omega) (by omega) (by omega) (by omega) (by omega) (by omega) (hlf) (htf) (by omega) (hH) (hSp) (hL) (hT) (hB1) (hB2) (hQ), fun j hj => rfl⟩), by rw [hT9]; exact hP⟩, hS.F hT9⟩) hS.2.2 dX10_clash_80
        · refine lv_iload_n hx hb dX10_clash_54 rfl (lv_at hl 2 rfl) ?_
          refine lv_iload_n hx hb dX10_clash_55 rfl (lv_at hl 3 rfl) ?_
          refine rd_calli (va_runS (As := [.int a1, .int a2]) (rest := []) ⟨hx, hb, hml, hown, hts⟩ (s_hasBit l G g hg f a1 a2  ) (my_cwS hts ok_X10_hasBit w_655 rfl rfl ⟨Nat.le_of_ble_eq_true rfl, Nat.le_of_ble_eq_true rfl⟩) ⟨bP.blind, fun U hU hW => ⟨rfl, by rw [hU]; exact hP, kG.warm hW hG⟩⟩ rfl rfl hl.1 rfl (lv_room (Nat.le_of_ble_eq_true rfl)) dX10_clash_56 ⟨Nat.le_of_ble_eq_true rfl, Nat.le_of_ble_eq_true rfl⟩) (fun r hr9 => ?_)
          subst hr9
          refine my_ifeq (tgt := 66) hx hb dX10_clash_59 (by decide) (fun c_59 => ?_) (fun c_59 => ?_)
          · refine lv_iconst (v := 0) hx hb dX10_clash_66 (by decide) ?_
            refine lv_istore (lv' := [(4, .int 0), (3, .int 1), (0, .ref (g 0)), (1, .int a1), (2, .int a2)]) hx hb dX10_clash_67 hl (by decide) rfl (fun ls hl => ?_)
            refine lv_iload_n hx hb dX10_clash_69 rfl (lv_at hl 1 rfl) ?_
            refine lv_if_eq (tgt := 78) hx hb dX10_clash_70 (by decide) (fun c_70 => absurd c_70 (by decide)) (fun c_70 => ?_)
            refine lv_iload hx hb dX10_clash_73 (lv_at hl 0 rfl) ?_
            refine lv_if_ne (tgt := 81) hx hb dX10_clash_75 (by decide) (fun c_75 => absurd (by decide) c_75) (fun c_75 => ?_)
            refine lv_bipush (v := (-10)) hx hb dX10_clash_78 (by decide) ?_
            refine W_q9 hQ9 ?_
            exact W.iret (v := (-10)) hx hb hr (fun _ hT9 _ => ⟨⟨_, f, rfl, (⟨cJ_mk (se) (hf) (imf) (mc) (op) (cm) (wu) (mk) (ab) (be) (mn) (le) (wt) (ww) (wb) (wf) (vv) (lf) (tf) (hx0) (hctc) (hhs) (him) (hkp) (hrd) (hmk) (hfc6) (hwt) (hw8) (hw9) (hw10) (hw11) (hvl) (hbk) (hpr) (hpd) (hfr) (hfd) (hor) (hod) (har) (had) (htr) (hct) (hla) (hlaa) (hts0) (htsa) (by omega) (hhf) (him0) (him1) (by omega) (by omega) (by omega) (by omega) (by omega) (by omega) (by omega) (hlf) (htf) (by omega) (hH) (hSp) (hL) (hT) (hB1) (hB2) (hQ), fun j hj => rfl⟩), by rw [hT9]; exact hP⟩, hS.F hT9⟩) hS.2.2 dX10_clash_80
          · refine lv_iconst (v := 1) hx hb dX10_clash_62 (by decide) ?_
            refine lv_goto (tgt := 67) hx hb dX10_clash_63 (by decide) ?_
            refine lv_istore (lv' := [(4, .int 1), (3, .int 1), (0, .ref (g 0)), (1, .int a1), (2, .int a2)]) hx hb dX10_clash_67 hl (by decide) rfl (fun ls hl => ?_)
            refine lv_iload_n hx hb dX10_clash_69 rfl (lv_at hl 1 rfl) ?_
            refine lv_if_eq (tgt := 78) hx hb dX10_clash_70 (by decide) (fun c_70 => absurd c_70 (by decide)) (fun c_70 => ?_)
            refine lv_iload hx hb dX10_clash_73 (lv_at hl 0 rfl) ?_
            refine lv_if_ne (tgt := 81) hx hb dX10_clash_75 (by decide) (fun c_75 => ?_) (fun c_75 => absurd c_75 (by decide))
            refine lv_aload_n hx hb dX10_clash_81 rfl (lv_at hl 2 rfl) ?_
            refine va_get (D := G.1) (ci := 9) (v := .ref (g 7)) (C := RX10) (T := TX10) (N := 7) hx hb hts inlX10 hown hG.1 hP 0 (wl_at (by decide) hx0) rfl 6 (by decide) (hts (.fieldLink RX10 48 "SwornLists" "waits" "LSwornLists$Waits;") w_32) (fun _ h9 => h9) rfl dX10_clash_82 ?_
            refine lv_aload_n hx hb dX10_clash_85 rfl (lv_at hl 2 rfl) ?_
            refine va_get (D := G.1) (ci := 9) (v := .ref (g 36)) (C := RX10) (T := TX10) (N := 7) hx hb hts inlX10 hown hG.1 hP 0 (wl_at (by decide) hx0) rfl 1 (by decide) (hts (.fieldLink RX10 20 "SwornLists" "book" "LSwornLists$Book;") w_16) (fun _ h9 => h9) rfl dX10_clash_86 ?_
            refine lv_iload_n hx hb dX10_clash_89 rfl (lv_at hl 3 rfl) ?_
            refine b_callv (va_runV (As := [.ref (g 36), .int a1]) (rest := []) ⟨hx, hb, hml, hown, hts⟩ (v_seek l G g hg f mn le wt ww wb wf pay fine nt ct a1 hwt hw8 hw9 hw10 hw11 hbk htr hct (by first | assumption | omega | decide) (by first | assumption | omega | decide)) (my_cwV hts ok_X9_seek w_820 rfl rfl ⟨Nat.le_of_ble_eq_true rfl, Nat.le_of_ble_eq_true rfl⟩) ⟨bP.blind, va_recv hG.1 hP (ci := 8) (q0 := 7) rfl (wl_at (by decide) hwt), fun U hU hW => ⟨rfl, by rw [hU]; exact hP, kG.warm hW hG⟩⟩ rfl rfl hl.1 rfl (lv_room (Nat.le_of_ble_eq_true rfl)) dX10_clash_90 ⟨Nat.le_of_ble_eq_true rfl, Nat.le_of_ble_eq_true rfl⟩) hS (fun f_2 H locs hq9 hP hS => ?_)
            obtain ⟨mn910, le911, wt912, ww913, wb914, wf915, hq_2_0, hq_2_1, hq_2_2, hq_2_3, hq_2_4, hx_2_0, o_2⟩ := hq9
            have hwt : f_2 7 = eO 8 [.ref (g 8), .ref (g 9), .ref (g 10), .ref (g 11), .int (nI mn910), .int le911] := hq_2_0
            have hw8 : f_2 8 = eI G 6 wt912 := hq_2_1
            have hw9 : f_2 9 = eI G 6 ww913 := hq_2_2
            have hw10 : f_2 10 = eI G 6 wb914 := hq_2_3
            have hw11 : f_2 11 = eI G 6 wf915 := hq_2_4
            refine lv_aload_n hx hb dX10_clash_93 rfl (lv_at hl 2 rfl) ?_
            replace hx0 := ((o_2 0 (by first | decide | omega))).trans hx0
            refine va_get (D := G.1) (ci := 9) (v := .ref (g 7)) (C := RX10) (T := TX10) (N := 7) hx hb hts inlX10 hown hG.1 hP 0 (wl_at (by decide) hx0) rfl 6 (by decide) (hts (.fieldLink RX10 48 "SwornLists" "waits" "LSwornLists$Waits;") w_32) (fun _ h9 => h9) rfl dX10_clash_94 ?_
            refine va_getN (D := G.1) (ci := 8) (v := .int le911) (C := RX9) (T := TX9) (N := 6) (host := RX10) hx hb hts inlX9 hown hG.1 hP 7 (wl_at (by decide) hwt) rfl 5 (by decide) (va_Nw.use rfl (hG.2.1 (.fieldLinkNest RX10 251 RX9 "leastSum" "I" RX10) (List.mem_of_getElem? (i := 21) rfl))) (fun _ h9 => h9) rfl dX10_clash_97 ?_
            refine lv_iconst (v := (-1)) hx hb dX10_clash_100 (by decide) ?_
            refine lv_icmp_ne (tgt := 107) hx hb dX10_clash_101 (by decide) (fun c_101 => ?_) (fun c_101 => ?_)
            · refine lv_iload_n hx hb dX10_clash_107 rfl (lv_at hl 4 rfl) ?_
              refine lv_iconst (v := (-1)) hx hb dX10_clash_108 (by decide) ?_
              refine lv_icmp_ne (tgt := 122) hx hb dX10_clash_109 (by decide) (fun c_109 => ?_) (fun c_109 => ?_)
              · refine lv_aload_n hx hb dX10_clash_122 rfl (lv_at hl 2 rfl) ?_
                refine va_get (D := G.1) (ci := 9) (v := .ref (g 7)) (C := RX10) (T := TX10) (N := 7) hx hb hts inlX10 hown hG.1 hP 0 (wl_at (by decide) hx0) rfl 6 (by decide) (hts (.fieldLink RX10 48 "SwornLists" "waits" "LSwornLists$Waits;") w_32) (fun _ h9 => h9) rfl dX10_clash_123 ?_
                refine lv_iload_n hx hb dX10_clash_126 rfl (lv_at hl 3 rfl) ?_
                refine lv_iload_n hx hb dX10_clash_127 rfl (lv_at hl 4 rfl) ?_
                refine rd_calli (va_runS (As := [.int a2]) (rest := [.int a1, .ref (g 7)]) ⟨hx, hb, hml, hown, hts⟩ (s_lowBits l G g hg f_2 a2  ) (my_cwS hts ok_X10_lowBits w_819 rfl rfl ⟨Nat.le_of_ble_eq_true rfl, Nat.le_of_ble_eq_true rfl⟩) ⟨bP.blind, fun U hU hW => ⟨rfl, by rw [hU]; exact hP, kG.warm hW hG⟩⟩ rfl rfl hl.1 rfl (lv_room (Nat.le_of_ble_eq_true rfl)) dX10_clash_128 ⟨Nat.le_of_ble_eq_true rfl, Nat.le_of_ble_eq_true rfl⟩) (fun r hr9 => ?_)
                subst hr9
                refine lv_iand hx hb dX10_clash_131 ?_
                refine rd_calli (va_runS (As := [.int (a1 &&& ((1 <<< (a2 &&& 31)) - 1))]) (rest := [.ref (g 7)]) ⟨hx, hb, hml, hown, hts⟩ (s_bitCount l G g hg f_2 (a1 &&& ((1 <<< (a2 &&& 31)) - 1))  ) (my_cwS hts ok_J6_bitCount_0f7a4 w_792 rfl rfl ⟨Nat.le_of_ble_eq_true rfl, Nat.le_of_ble_eq_true rfl⟩) ⟨bP.blind, fun U hU hW => ⟨rfl, by rw [hU]; exact hP, kG.warm hW hG⟩⟩ rfl rfl hl.1 rfl (lv_room (Nat.le_of_ble_eq_true rfl)) dX10_clash_132 ⟨Nat.le_of_ble_eq_true rfl, Nat.le_of_ble_eq_true rfl⟩) (fun v16 _ => ?_)
                refine rd_calli (va_runV (As := [.int v16]) (rest := []) ⟨hx, hb, hml, hown, hts⟩ (v_bestAt l G g hg f_2 mn910 le911 wb914 v16 hwt hw10 (by first | assumption | omega | decide)) (my_cwV hts ok_X9_bestAt w_855 rfl rfl ⟨Nat.le_of_ble_eq_true rfl, Nat.le_of_ble_eq_true rfl⟩) ⟨bP.blind, va_recv hG.1 hP (ci := 8) (q0 := 7) rfl (wl_at (by decide) hwt), fun U hU hW => ⟨rfl, by rw [hU]; exact hP, kG.warm hW hG⟩⟩ rfl rfl hl.1 rfl (lv_room (Nat.le_of_ble_eq_true rfl)) dX10_clash_135 ⟨Nat.le_of_ble_eq_true rfl, Nat.le_of_ble_eq_true rfl⟩) (fun v17 _ => ?_)
                refine W_q9 hQ9 ?_
                replace hctc := ((o_2 1 (by first | decide | omega))).trans hctc
                replace hhs := ((o_2 12 (by first | decide | omega))).trans hhs
                replace him := ((o_2 2 (by first | decide | omega))).trans him
                replace hkp := ((o_2 3 (by first | decide | omega))).trans hkp
                replace hrd := ((o_2 4 (by first | decide | omega))).trans hrd
                replace hmk := ((o_2 5 (by first | decide | omega))).trans hmk
                replace hfc6 := ((o_2 6 (by first | decide | omega))).trans hfc6
                replace hvl := ((o_2 15 (by first | decide | omega))).trans hvl
                replace hbk := ((o_2 36 (by first | decide | omega))).trans hbk
                replace hpr := ((o_2 37 (by first | decide | omega))).trans hpr
                replace hpd := ((o_2 38 (by first | decide | omega))).trans hpd
                replace hfr := ((o_2 39 (by first | decide | omega))).trans hfr
                replace hfd := ((o_2 40 (by first | decide | omega))).trans hfd
                replace hor := ((o_2 41 (by first | decide | omega))).trans hor
                replace hod := ((o_2 42 (by first | decide | omega))).trans hod
                replace har := ((o_2 43 (by first | decide | omega))).trans har
                replace had := ((o_2 44 (by first | decide | omega))).trans had
                replace htr := ((o_2 45 (by first | decide | omega))).trans htr
                replace hct := ((o_2 46 (by first | decide | omega))).trans hct
                replace hla := ((o_2 47 (by first | decide | omega))).trans hla
                replace hlaa := ((o_2 48 (by first | decide | omega))).trans hlaa
                replace hts0 := ((o_2 112 (by first | decide | omega))).trans hts0
                replace htsa := ((o_2 113 (by first | decide | omega))).trans htsa
                replace hH : ∀ i, i < 10 → okH G g f_2 (2 * i + 16) := fun z hz => okH_fr (hH z hz) (o_2 _ (by omega)) (o_2 _ (by omega))
                replace hSp : okH G g f_2 13 := okH_fr hSp (o_2 _ (by omega)) (o_2 _ (by omega))
                replace hL : ∀ i, i < 20 → ltx G g f_2 (3 * i + 52) (LL i) (LG i) (i < na) := fun z hz => ltx_fr (hL z hz) (o_2 _ (by omega)) (o_2 _ (by omega)) (o_2 _ (by omega))
                replace hT : ∀ i, i < 4 → txt G g f_2 (3 * i + 117) (TL i) (TG i) := fun z hz => txt_fr (hT z hz) (o_2 _ (by omega)) (o_2 _ (by omega)) (o_2 _ (by omega))
                replace hB1 : bkD G g f_2 129 N1 E1 P1 L1 S1 W1 X1 := bkD_fr hB1 (fun j _ _ => o_2 j (by omega))
                replace hB2 : bkD G g f_2 222 N2 E2 P2 L2 S2 W2 X2 := bkD_fr hB2 (fun j _ _ => o_2 j (by omega))
                replace hQ : ∀ z, z < se → cHz G g f_2 np nf nr na dp df dr da ct LL LG z := fun z hz => okQ_fr (hQ z hz) (o_2 _ (by omega)) (o_2 _ (by omega))
                exact W.iret (v := v17) hx hb hr (fun _ hT9 _ => ⟨⟨_, f_2, rfl, (⟨cJ_mk (se) (hf) (imf) (mc) (op) (cm) (wu) (mk) (ab) (be) (mn910) (le911) (wt912) (ww913) (wb914) (wf915) (vv) (lf) (tf) (hx0) (hctc) (hhs) (him) (hkp) (hrd) (hmk) (hfc6) (hwt) (hw8) (hw9) (hw10) (hw11) (hvl) (hbk) (hpr) (hpd) (hfr) (hfd) (hor) (hod) (har) (had) (htr) (hct) (hla) (hlaa) (hts0) (htsa) (by omega) (hhf) (him0) (him1) (by omega) (by omega) (by omega) (by omega) (by omega) (by omega) (by omega) (hlf) (htf) (by omega) (hH) (hSp) (hL) (hT) (hB1) (hB2) (hQ), fun j hj => (o_2 j (by omega))⟩), by rw [hT9]; exact hP⟩, hS.F hT9⟩) hS.2.2 dX10_clash_138
              · refine lv_aload_n hx hb dX10_clash_112 rfl (lv_at hl 2 rfl) ?_
                refine va_get (D := G.1) (ci := 9) (v := .ref (g 7)) (C := RX10) (T := TX10) (N := 7) hx hb hts inlX10 hown hG.1 hP 0 (wl_at (by decide) hx0) rfl 6 (by decide) (hts (.fieldLink RX10 48 "SwornLists" "waits" "LSwornLists$Waits;") w_32) (fun _ h9 => h9) rfl dX10_clash_113 ?_
                refine va_getN (D := G.1) (ci := 8) (v := .int le911) (C := RX9) (T := TX9) (N := 6) (host := RX10) hx hb hts inlX9 hown hG.1 hP 7 (wl_at (by decide) hwt) rfl 5 (by decide) (va_Nw.use rfl (hG.2.1 (.fieldLinkNest RX10 251 RX9 "leastSum" "I" RX10) (List.mem_of_getElem? (i := 21) rfl))) (fun _ h9 => h9) rfl dX10_clash_116 ?_
                refine lv_goto (tgt := 138) hx hb dX10_clash_119 (by decide) ?_
                refine W_q9 hQ9 ?_
                replace hctc := ((o_2 1 (by first | decide | omega))).trans hctc
                replace hhs := ((o_2 12 (by first | decide | omega))).trans hhs
                replace him := ((o_2 2 (by first | decide | omega))).trans him
                replace hkp := ((o_2 3 (by first | decide | omega))).trans hkp
                replace hrd := ((o_2 4 (by first | decide | omega))).trans hrd
                replace hmk := ((o_2 5 (by first | decide | omega))).trans hmk
                replace hfc6 := ((o_2 6 (by first | decide | omega))).trans hfc6
                replace hvl := ((o_2 15 (by first | decide | omega))).trans hvl
                replace hbk := ((o_2 36 (by first | decide | omega))).trans hbk
                replace hpr := ((o_2 37 (by first | decide | omega))).trans hpr
                replace hpd := ((o_2 38 (by first | decide | omega))).trans hpd
                replace hfr := ((o_2 39 (by first | decide | omega))).trans hfr
                replace hfd := ((o_2 40 (by first | decide | omega))).trans hfd
                replace hor := ((o_2 41 (by first | decide | omega))).trans hor
                replace hod := ((o_2 42 (by first | decide | omega))).trans hod
                replace har := ((o_2 43 (by first | decide | omega))).trans har
                replace had := ((o_2 44 (by first | decide | omega))).trans had
                replace htr := ((o_2 45 (by first | decide | omega))).trans htr
                replace hct := ((o_2 46 (by first | decide | omega))).trans hct
                replace hla := ((o_2 47 (by first | decide | omega))).trans hla
                replace hlaa := ((o_2 48 (by first | decide | omega))).trans hlaa
                replace hts0 := ((o_2 112 (by first | decide | omega))).trans hts0
                replace htsa := ((o_2 113 (by first | decide | omega))).trans htsa
                replace hH : ∀ i, i < 10 → okH G g f_2 (2 * i + 16) := fun z hz => okH_fr (hH z hz) (o_2 _ (by omega)) (o_2 _ (by omega))
                replace hSp : okH G g f_2 13 := okH_fr hSp (o_2 _ (by omega)) (o_2 _ (by omega))
                replace hL : ∀ i, i < 20 → ltx G g f_2 (3 * i + 52) (LL i) (LG i) (i < na) := fun z hz => ltx_fr (hL z hz) (o_2 _ (by omega)) (o_2 _ (by omega)) (o_2 _ (by omega))
                replace hT : ∀ i, i < 4 → txt G g f_2 (3 * i + 117) (TL i) (TG i) := fun z hz => txt_fr (hT z hz) (o_2 _ (by omega)) (o_2 _ (by omega)) (o_2 _ (by omega))
                replace hB1 : bkD G g f_2 129 N1 E1 P1 L1 S1 W1 X1 := bkD_fr hB1 (fun j _ _ => o_2 j (by omega))
                replace hB2 : bkD G g f_2 222 N2 E2 P2 L2 S2 W2 X2 := bkD_fr hB2 (fun j _ _ => o_2 j (by omega))
                replace hQ : ∀ z, z < se → cHz G g f_2 np nf nr na dp df dr da ct LL LG z := fun z hz => okQ_fr (hQ z hz) (o_2 _ (by omega)) (o_2 _ (by omega))
                exact W.iret (v := le911) hx hb hr (fun _ hT9 _ => ⟨⟨_, f_2, rfl, (⟨cJ_mk (se) (hf) (imf) (mc) (op) (cm) (wu) (mk) (ab) (be) (mn910) (le911) (wt912) (ww913) (wb914) (wf915) (vv) (lf) (tf) (hx0) (hctc) (hhs) (him) (hkp) (hrd) (hmk) (hfc6) (hwt) (hw8) (hw9) (hw10) (hw11) (hvl) (hbk) (hpr) (hpd) (hfr) (hfd) (hor) (hod) (har) (had) (htr) (hct) (hla) (hlaa) (hts0) (htsa) (by omega) (hhf) (him0) (him1) (by omega) (by omega) (by omega) (by omega) (by omega) (by omega) (by omega) (hlf) (htf) (by omega) (hH) (hSp) (hL) (hT) (hB1) (hB2) (hQ), fun j hj => (o_2 j (by omega))⟩), by rw [hT9]; exact hP⟩, hS.F hT9⟩) hS.2.2 dX10_clash_138
            · refine lv_bipush (v := (-5)) hx hb dX10_clash_104 (by decide) ?_
              refine W_q9 hQ9 ?_
              replace hctc := ((o_2 1 (by first | decide | omega))).trans hctc
              replace hhs := ((o_2 12 (by first | decide | omega))).trans hhs
              replace him := ((o_2 2 (by first | decide | omega))).trans him
              replace hkp := ((o_2 3 (by first | decide | omega))).trans hkp
              replace hrd := ((o_2 4 (by first | decide | omega))).trans hrd
              replace hmk := ((o_2 5 (by first | decide | omega))).trans hmk
              replace hfc6 := ((o_2 6 (by first | decide | omega))).trans hfc6
              replace hvl := ((o_2 15 (by first | decide | omega))).trans hvl
              replace hbk := ((o_2 36 (by first | decide | omega))).trans hbk
              replace hpr := ((o_2 37 (by first | decide | omega))).trans hpr
              replace hpd := ((o_2 38 (by first | decide | omega))).trans hpd
              replace hfr := ((o_2 39 (by first | decide | omega))).trans hfr
              replace hfd := ((o_2 40 (by first | decide | omega))).trans hfd
              replace hor := ((o_2 41 (by first | decide | omega))).trans hor
              replace hod := ((o_2 42 (by first | decide | omega))).trans hod
              replace har := ((o_2 43 (by first | decide | omega))).trans har
              replace had := ((o_2 44 (by first | decide | omega))).trans had
              replace htr := ((o_2 45 (by first | decide | omega))).trans htr
              replace hct := ((o_2 46 (by first | decide | omega))).trans hct
              replace hla := ((o_2 47 (by first | decide | omega))).trans hla
              replace hlaa := ((o_2 48 (by first | decide | omega))).trans hlaa
              replace hts0 := ((o_2 112 (by first | decide | omega))).trans hts0
              replace htsa := ((o_2 113 (by first | decide | omega))).trans htsa
              replace hH : ∀ i, i < 10 → okH G g f_2 (2 * i + 16) := fun z hz => okH_fr (hH z hz) (o_2 _ (by omega)) (o_2 _ (by omega))
              replace hSp : okH G g f_2 13 := okH_fr hSp (o_2 _ (by omega)) (o_2 _ (by omega))
              replace hL : ∀ i, i < 20 → ltx G g f_2 (3 * i + 52) (LL i) (LG i) (i < na) := fun z hz => ltx_fr (hL z hz) (o_2 _ (by omega)) (o_2 _ (by omega)) (o_2 _ (by omega))
              replace hT : ∀ i, i < 4 → txt G g f_2 (3 * i + 117) (TL i) (TG i) := fun z hz => txt_fr (hT z hz) (o_2 _ (by omega)) (o_2 _ (by omega)) (o_2 _ (by omega))
              replace hB1 : bkD G g f_2 129 N1 E1 P1 L1 S1 W1 X1 := bkD_fr hB1 (fun j _ _ => o_2 j (by omega))
              replace hB2 : bkD G g f_2 222 N2 E2 P2 L2 S2 W2 X2 := bkD_fr hB2 (fun j _ _ => o_2 j (by omega))
              replace hQ : ∀ z, z < se → cHz G g f_2 np nf nr na dp df dr da ct LL LG z := fun z hz => okQ_fr (hQ z hz) (o_2 _ (by omega)) (o_2 _ (by omega))
              exact W.iret (v := (-5)) hx hb hr (fun _ hT9 _ => ⟨⟨_, f_2, rfl, (⟨cJ_mk (se) (hf) (imf) (mc) (op) (cm) (wu) (mk) (ab) (be) (mn910) (le911) (wt912) (ww913) (wb914) (wf915) (vv) (lf) (tf) (hx0) (hctc) (hhs) (him) (hkp) (hrd) (hmk) (hfc6) (hwt) (hw8) (hw9) (hw10) (hw11) (hvl) (hbk) (hpr) (hpd) (hfr) (hfd) (hor) (hod) (har) (had) (htr) (hct) (hla) (hlaa) (hts0) (htsa) (by omega) (hhf) (him0) (him1) (by omega) (by omega) (by omega) (by omega) (by omega) (by omega) (by omega) (hlf) (htf) (by omega) (hH) (hSp) (hL) (hT) (hB1) (hB2) (hQ), fun j hj => (o_2 j (by omega))⟩), by rw [hT9]; exact hP⟩, hS.F hT9⟩) hS.2.2 dX10_clash_106
theorem j_clash (l : Launch) (G : gW) (g : Nat → Nat) (hg : gOK g) (f : Nat → va_E) (np : Nat) (dp : Nat → Int32) (nf : Nat) (df : Nat → Int32) (nr : Nat) (dr : Nat → Int32) (nt : Nat) (ct : Nat → Int32) (pay : Int32) (fine : Int32) (kf : Nat → Int32) (na : Nat) (da : Nat → Int32) (TL : Nat → Nat) (TG : Nat → Nat → Int32) (LL : Nat → Nat) (LG : Nat → Nat → Int32) (N1 : Nat → Nat) (E1 : Nat → Nat → Int32) (P1 : Nat → Int32) (L1 : Nat → Nat) (S1 : Nat → Nat → Int32) (W1 : Nat → Nat) (X1 : Nat → Nat → Int32) (N2 : Nat → Nat) (E2 : Nat → Nat → Int32) (P2 : Nat → Int32) (L2 : Nat → Nat) (S2 : Nat → Nat → Int32) (W2 : Nat → Nat) (X2 : Nat → Nat → Int32) (a1 : Int32) (a2 : Int32) (hI : cJ G g f np dp nf df nr dr nt ct pay fine kf na da TL TG LL LG N1 E1 P1 L1 S1 W1 X1 N2 E2 P2 L2 S2 W2 X2) (hTr : trC ct nt) : Met l yX10_clash (wsT yX10_clash cX10_clash 5 (some .int)) ({ frames := 4, cells := 0, slots := 0, locals := 97 }) (bP G g f [.ref (g 0), .int a1, .int a2]) (bQi G g (fun (z9 : Int32) (f' : Nat → va_E) => (cJ G g f' np dp nf df nr dr nt ct pay fine kf na da TL TG LL LG N1 E1 P1 L1 S1 W1 X1 N2 E2 P2 L2 S2 W2 X2) ∧ ∀ j, 315 ≤ j → f' j = f j)) 0 0 (gA g) := cJ_elim hI (fun se hf imf mc op cm wu mk ab be mn le wt ww wb wf vv lf tf hx0 hctc hhs him hkp hrd hmk hfc6 hwt hw8 hw9 hw10 hw11 hvl hbk hpr hpd hfr hfd hor hod har had htr hct hla hlaa hts0 htsa hse hhf him0 him1 hmc hmn hnp hnf hnr hna hnt hlf htf hsn hH hSp hL hT hB1 hB2 hQ => jn_clash l G g hg f se hf imf kf mc op cm wu mk ab be mn le wt ww wb wf vv pay fine np dp nf df nr dr na da nt ct lf tf TL TG LL LG N1 E1 P1 L1 S1 W1 X1 N2 E2 P2 L2 S2 W2 X2 a1 a2 hx0 hctc hhs him hkp hrd hmk hfc6 hwt hw8 hw9 hw10 hw11 hvl hbk hpr hpd hfr hfd hor hod har had htr hct hla hlaa hts0 htsa hse hhf him0 him1 hmc hmn hnp hnf hnr hna hnt hlf htf hsn hTr hH hSp hL hT hB1 hB2 hQ)


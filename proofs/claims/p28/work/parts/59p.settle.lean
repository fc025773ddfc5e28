set_option maxHeartbeats 4000000 in
set_option maxRecDepth 100000 in
theorem u_settleE (l : Launch) (G : gW) (g : Nat → Nat) (hg : gOK g) (f : Nat → va_E) (se : Nat) (hf : Nat → Option Nat) (pay : Int32) (fine : Int32) (nt : Nat) (ct : Nat → Int32) (np : Nat) (dp : Nat → Int32) (nf : Nat) (df : Nat → Int32) (nr : Nat) (dr : Nat → Int32) (na : Nat) (da : Nat → Int32) (lf : Nat → Option Nat) (vv : Nat → Int64) (LL : Nat → Nat) (LG : Nat → Nat → Int32) (hctc : f 1 = eO 1 [.ref (g 36), .ref (g 12), .ref (g 13), .ref (g 15), .int (nI se)]) (hhs : f 12 = eA G 4 10 hf) (hbk : f 36 = eO 0 [.ref (g 37), .ref (g 39), .ref (g 41), .ref (g 43), .ref (g 45), .ref (g 47), .ref (g 112), .int pay, .int fine]) (htr : f 45 = eO 5 [.int (nI 10), .int (nI 70), .ref (g 46), .int (nI nt)]) (hct : f 46 = eI G (10 * 70) ct) (hpr : f 37 = eO 5 [.int (nI 30), .int (nI 4), .ref (g 38), .int (nI np)]) (hpd : f 38 = eI G (30 * 4) dp) (hfr : f 39 = eO 5 [.int (nI 40), .int (nI 3), .ref (g 40), .int (nI nf)]) (hfd : f 40 = eI G (40 * 3) df) (hor : f 41 = eO 5 [.int (nI 4), .int (nI 3), .ref (g 42), .int (nI nr)]) (hod : f 42 = eI G (4 * 3) dr) (har : f 43 = eO 5 [.int (nI 20), .int (nI 3), .ref (g 44), .int (nI na)]) (had : f 44 = eI G (20 * 3) da) (hla : f 47 = eO 6 [.ref (g 48), .ref (g 49)]) (hlaa : f 48 = eA G 5 20 lf) (hvl : f 15 = eJ G 50 vv) (hse : se ≤ 10) (hhf : ∀ i, i < 10 → hf i = some (g (2 * i + 16))) (hnt : nt ≤ 10) (hnp : np ≤ 30) (hnf : nf ≤ 40) (hnr : nr ≤ 4) (hna : na ≤ 20) (hlf : ∀ z, z < 20 → lf z = some (g (47 + 3 * z + 5))) (hrg : ∀ z, z < nt → ∃ q8 q6 ks : Nat, ct (70 * z + 8) = nI q8 ∧ q8 ≤ 24 ∧ ct (70 * z + 6) = nI q6 ∧ q6 ≤ 4 ∧ ct (70 * z + 2) = nI ks ∧ ks ≤ 8) (hday : ∀ a b, a ≤ b → b < nt → ¬ ct (70 * b + 0) < ct (70 * a + 0)) (h8 : ∀ z, z < nt → (ct (70 * z + 8)).toNatClampNeg ≤ 24) (hsn : se ≤ nt) (hQ : ∀ z, z < se → cHz G g f np nf nr na dp df dr da ct LL LG z) (hH : ∀ i, i < 10 → okH G g f (2 * i + 16)) (hLx : ∀ i, i < 20 → ltx G g f (3 * i + 52) (LL i) (LG i) (i < na)) : Met l yX1_settle (wsT yX1_settle cX1_settle 3 none) ({ frames := 6, cells := 0, slots := 0, locals := 154 }) (bP G g f [.ref (g 1)]) (bQv G g (fun (f' : Nat → va_E) => ∃ vv9 : Nat → Int64, f' 1 = eO 1 [.ref (g 36), .ref (g 12), .ref (g 13), .ref (g 15), .int (nI nt)] ∧ f' 15 = eJ G 50 vv9 ∧ (∀ i, i < 10 → okH G g f' (2 * i + 16)) ∧ (∀ z, z < nt → cHz G g f' np nf nr na dp df dr da ct LL LG z) ∧ ∀ j, (j ≠ 1 ∧ j ≠ 15 ∧ (j < 16 ∨ 36 ≤ j)) → f' j = f j)) 0 0 (gA g) := by
  refine Met.ofW (cc := cX1_settle) (maxL := 3) (ret := none) (by decide) rfl ?_
  intro p e s m args below meth c s₁ B hml hv
  obtain ⟨rfl, hP, hG⟩ := hv
  have hx := B.exec
  have hb := B.bytes
  have hr := B.returns
  have hts := my_hts (atoms_spec (ws := wsT yX1_settle cX1_settle 3 none) B.pre)
  have hown : s.vm.findClass RX1 = some m.cls := findClass_of_methodNamed B.named
  have hlocks := B.notSynchronized
  have hS : va_S (gA g) s.heap s.heap [] := va_S.rf
  have hl := lv_entry ([.ref (g 1)]) (n := 3) (Nat.le_of_ble_eq_true rfl)
  rw [lg_entry_eq]
  generalize (lg_sl ([.ref (g 1)]) ++ List.replicate (3 - (lg_sl ([.ref (g 1)])).length) Slot.unset).toArray = ls at hl ⊢
  have hl : lv_has ls 3 [(0, .ref (g 1))] := hl
  refine W_q8 (fun Q9 hQ9 => ?_)
  refine lv_aload_n hx hb dX1_settle_0 rfl (lv_at hl 0 rfl) ?_
  refine va_get (D := G.1) (ci := 1) (v := .int (nI se)) (C := RX1) (T := TX1) (N := 5) hx hb hts inlX1 hown hG.1 hP 1 (wl_at (by decide) hctc) rfl 4 (by decide) (hts (.fieldLink RX1 33 "SwornLists$Court" "settled" "I") w_150) (fun _ h9 => h9) rfl dX1_settle_1 ?_
  refine lv_istore_n (lv' := [(1, .int (nI se)), (0, .ref (g 1))]) hx hb dX1_settle_4 rfl hl (by decide) rfl (fun ls hl => ?_)
  have key1 : ∀ (n9_1 : Nat) (i : Nat) (vv1 : Nat → Int64) (f_1 : Nat → va_E) (H : Heap) (locs : List Loc) (ls : Array Slot), (i ≤ nt) → (∀ z, z < i → cHz G g f_1 np nf nr na dp df dr da ct LL LG z) → (∀ i, i < 10 → okH G g f_1 (2 * i + 16)) → (∀ i, i < 20 → ltx G g f_1 (3 * i + 52) (LL i) (LG i) (i < na)) → 10 - i < n9_1 → f_1 1 = eO 1 [.ref (g 36), .ref (g 12), .ref (g 13), .ref (g 15), .int (nI se)] → f_1 12 = eA G 4 10 hf → f_1 36 = eO 0 [.ref (g 37), .ref (g 39), .ref (g 41), .ref (g 43), .ref (g 45), .ref (g 47), .ref (g 112), .int pay, .int fine] → f_1 45 = eO 5 [.int (nI 10), .int (nI 70), .ref (g 46), .int (nI nt)] → f_1 46 = eI G (10 * 70) ct → f_1 37 = eO 5 [.int (nI 30), .int (nI 4), .ref (g 38), .int (nI np)] → f_1 38 = eI G (30 * 4) dp → f_1 39 = eO 5 [.int (nI 40), .int (nI 3), .ref (g 40), .int (nI nf)] → f_1 40 = eI G (40 * 3) df → f_1 41 = eO 5 [.int (nI 4), .int (nI 3), .ref (g 42), .int (nI nr)] → f_1 42 = eI G (4 * 3) dr → f_1 43 = eO 5 [.int (nI 20), .int (nI 3), .ref (g 44), .int (nI na)] → f_1 44 = eI G (20 * 3) da → f_1 47 = eO 6 [.ref (g 48), .ref (g 49)] → f_1 48 = eA G 5 20 lf → f_1 15 = eJ G 50 vv1 → (∀ j, (j ≠ 15 ∧ (j < 16 ∨ 36 ≤ j)) → f_1 j = f j) → va_P G.1 vwCl (wl g f_1) H → va_S (gA g) s.heap H locs → lv_has ls 3 [(0, .ref (g 1)), (1, .int (nI i))] → W p l e (headSpec (wsT yX1_settle cX1_settle 3 none) ({ frames := 6, cells := 0, slots := 0, locals := 154 })).room s m ([.ref (g 1)] : List Value).toArray below meth c H locs 0 0 Q9 (F0 m 5 ls []) := by
    intro n9_1
    induction n9_1 with
    | zero => intro i vv1 f_1 H locs ls hi hQ1 hH hLx hn9_1; exact absurd hn9_1 (Nat.not_lt_zero _)
    | succ n9_1 ih_1 =>
      intro i vv1 f_1 H locs ls hi hQ1 hH hLx hn9_1 hctc hhs hbk htr hct hpr hpd hfr hfd hor hod har had hla hlaa hvl o_1 hP hS hl
      refine lv_iload_n hx hb dX1_settle_5 rfl (lv_at hl 1 rfl) ?_
      refine lv_aload_n hx hb dX1_settle_6 rfl (lv_at hl 0 rfl) ?_
      refine va_get (D := G.1) (ci := 1) (v := .ref (g 36)) (C := RX1) (T := TX1) (N := 5) hx hb hts inlX1 hown hG.1 hP 1 (wl_at (by decide) hctc) rfl 0 (by decide) (hts (.fieldLink RX1 12 "SwornLists$Court" "book" "LSwornLists$Book;") w_40) (fun _ h9 => h9) rfl dX1_settle_7 ?_
      refine va_getN (D := G.1) (ci := 0) (v := .ref (g 45)) (C := RX0) (T := TX0) (N := 9) (host := RX10) hx hb hts inlX0 hown hG.1 hP 36 (wl_at (by decide) hbk) rfl 4 (by decide) (va_Nw.use rfl (hG.2.1 (.fieldLinkNest RX1 43 RX0 "trials" "LSwornLists$Rows;" RX10) (List.mem_of_getElem? (i := 6) rfl))) (fun _ h9 => h9) rfl dX1_settle_10 ?_
      refine rd_calli (va_runV (As := []) (rest := [.int (nI i)]) ⟨hx, hb, hml, hown, hts⟩ (r_size l G g hg f_1 45 10 70 nt htr (by first | assumption | omega | decide) (by first | assumption | omega | decide) (by first | assumption | omega | decide) (by first | assumption | omega | decide)) (my_cwV hts ok_X5_size w_388 rfl rfl ⟨Nat.le_of_ble_eq_true rfl, Nat.le_of_ble_eq_true rfl⟩) ⟨bP.blind, va_recv hG.1 hP (ci := 5) (q0 := 45) rfl (wl_at (by decide) htr), fun U hU hW => ⟨rfl, by rw [hU]; exact hP, kG.warm hW hG⟩⟩ rfl rfl hl.1 rfl (lv_room (Nat.le_of_ble_eq_true rfl)) dX1_settle_13 ⟨Nat.le_of_ble_eq_true rfl, Nat.le_of_ble_eq_true rfl⟩) (fun r hr9 => ?_)
      subst hr9
      refine lv_icmp_ge (tgt := 66) hx hb dX1_settle_16 (by decide) (fun c_16 => ?_) (fun c_16 => ?_)
      · have hin : i = nt := by
          have h9 := (nI_leI (by omega) (by omega)).mp c_16
          omega
        refine lv_aload_n hx hb dX1_settle_66 rfl (lv_at hl 0 rfl) ?_
        refine lv_aload_n hx hb dX1_settle_67 rfl (lv_at hl 0 rfl) ?_
        refine va_get (D := G.1) (ci := 1) (v := .ref (g 36)) (C := RX1) (T := TX1) (N := 5) hx hb hts inlX1 hown hG.1 hP 1 (wl_at (by decide) hctc) rfl 0 (by decide) (hts (.fieldLink RX1 12 "SwornLists$Court" "book" "LSwornLists$Book;") w_40) (fun _ h9 => h9) rfl dX1_settle_68 ?_
        refine va_getN (D := G.1) (ci := 0) (v := .ref (g 45)) (C := RX0) (T := TX0) (N := 9) (host := RX10) hx hb hts inlX0 hown hG.1 hP 36 (wl_at (by decide) hbk) rfl 4 (by decide) (va_Nw.use rfl (hG.2.1 (.fieldLinkNest RX1 43 RX0 "trials" "LSwornLists$Rows;" RX10) (List.mem_of_getElem? (i := 6) rfl))) (fun _ h9 => h9) rfl dX1_settle_71 ?_
        refine rd_calli (va_runV (As := []) (rest := [.ref (g 1)]) ⟨hx, hb, hml, hown, hts⟩ (r_size l G g hg f_1 45 10 70 nt htr (by first | assumption | omega | decide) (by first | assumption | omega | decide) (by first | assumption | omega | decide) (by first | assumption | omega | decide)) (my_cwV hts ok_X5_size w_388 rfl rfl ⟨Nat.le_of_ble_eq_true rfl, Nat.le_of_ble_eq_true rfl⟩) ⟨bP.blind, va_recv hG.1 hP (ci := 5) (q0 := 45) rfl (wl_at (by decide) htr), fun U hU hW => ⟨rfl, by rw [hU]; exact hP, kG.warm hW hG⟩⟩ rfl rfl hl.1 rfl (lv_room (Nat.le_of_ble_eq_true rfl)) dX1_settle_74 ⟨Nat.le_of_ble_eq_true rfl, Nat.le_of_ble_eq_true rfl⟩) (fun r hr9 => ?_)
        subst hr9
        refine va_put (D := G.1) (ci := 1) (v := .int (nI nt)) (ty := .int) (C := RX1) (T := TX1) (N := 5) hx hb hts inlX1 tyX1 tyX1_ok nmX1 hown hG.1 hP (wl_D hg f_1) hS 1 (wl_at (by decide) hctc) rfl 4 (by decide) (hts (.fieldLink RX1 33 "SwornLists$Court" "settled" "I") w_150) (fun _ h9 => h9) rfl (by decide +kernel) rfl rfl (Nat.le_of_ble_eq_true rfl) dX1_settle_77 (fun H locs hP _ hS => ?_)
        obtain ⟨f_2, hP, e_2, o_2⟩ := b_put (by decide) hP
        have hctc : f_2 1 = eO 1 [.ref (g 36), .ref (g 12), .ref (g 13), .ref (g 15), .int (nI nt)] := e_2
        replace hvl := ((o_2 15 (by decide))).trans hvl
        refine W_q9 hQ9 ?_
        replace hH : ∀ i, i < 10 → okH G g f_2 (2 * i + 16) := fun z hz => okH_fr (hH z hz) (o_2 _ (by omega)) (o_2 _ (by omega))
        exact W.vret hx hb hr (fun _ hT9 _ => ⟨⟨f_2, rfl, (⟨vv1, hctc, hvl, hH, fun z hz => okQ_fr (hQ1 z (by omega)) (o_2 _ (by omega)) (o_2 _ (by omega)), fun j hj => ((o_2 j (by omega))).trans (o_1 j (by omega))⟩), by rw [hT9]; exact hP⟩, hS.F hT9⟩) hS.2.2 dX1_settle_80
      · have hi9 : i < nt := Nat.not_le.mp (fun z => c_16 (nI_le z (by omega)))
        obtain ⟨sl7, lo7, ib7, ca7, mi7, s07, s17, sw7, od7, hh7, ho7, hs7⟩ := hH i (by omega)
        obtain ⟨q8, q6, ks, hq8, hq88, hq6, hq64, hq2, hks⟩ := hrg i hi9
        obtain ⟨sw, hZ, hJ⟩ := okZ_J (Nat.le_of_lt hi9) hH hQ1 h8
        refine lv_aload_n hx hb dX1_settle_19 rfl (lv_at hl 0 rfl) ?_
        refine va_get (D := G.1) (ci := 1) (v := .ref (g 36)) (C := RX1) (T := TX1) (N := 5) hx hb hts inlX1 hown hG.1 hP 1 (wl_at (by decide) hctc) rfl 0 (by decide) (hts (.fieldLink RX1 12 "SwornLists$Court" "book" "LSwornLists$Book;") w_40) (fun _ h9 => h9) rfl dX1_settle_20 ?_
        refine va_getN (D := G.1) (ci := 0) (v := .ref (g 45)) (C := RX0) (T := TX0) (N := 9) (host := RX10) hx hb hts inlX0 hown hG.1 hP 36 (wl_at (by decide) hbk) rfl 4 (by decide) (va_Nw.use rfl (hG.2.1 (.fieldLinkNest RX1 43 RX0 "trials" "LSwornLists$Rows;" RX10) (List.mem_of_getElem? (i := 6) rfl))) (fun _ h9 => h9) rfl dX1_settle_23 ?_
        refine lv_iload_n hx hb dX1_settle_26 rfl (lv_at hl 1 rfl) ?_
        refine lv_iconst (v := 0) hx hb dX1_settle_27 (by decide) ?_
        refine rd_calli (va_runV (As := [.int (nI i), .int 0]) (rest := []) ⟨hx, hb, hml, hown, hts⟩ (r_at l G g hg f_1 45 10 70 nt ct (nI i) 0 htr hct (by first | assumption | omega | decide) (by first | assumption | omega | decide) (by first | assumption | omega | decide) (by first | assumption | omega | decide)) (my_cwV hts ok_X5_at w_389 rfl rfl ⟨Nat.le_of_ble_eq_true rfl, Nat.le_of_ble_eq_true rfl⟩) ⟨bP.blind, va_recv hG.1 hP (ci := 5) (q0 := 45) rfl (wl_at (by decide) htr), fun U hU hW => ⟨rfl, by rw [hU]; exact hP, kG.warm hW hG⟩⟩ rfl rfl hl.1 rfl (lv_room (Nat.le_of_ble_eq_true rfl)) dX1_settle_28 ⟨Nat.le_of_ble_eq_true rfl, Nat.le_of_ble_eq_true rfl⟩) (fun r hr9 => ?_)
        subst hr9
        refine my_bei (v := ct (70 * i + 0)) (atQ (d := ct) (w := 70) (i := i) (c := 0) hi9 (by omega) (by omega) (by omega)) ?_
        refine lv_istore_n (lv' := [(2, .int (ct (70 * i + 0))), (0, .ref (g 1)), (1, .int (nI i))]) hx hb dX1_settle_31 rfl hl (by decide) rfl (fun ls hl => ?_)
        refine lv_aload_n hx hb dX1_settle_32 rfl (lv_at hl 1 rfl) ?_
        refine lv_iload_n hx hb dX1_settle_33 rfl (lv_at hl 2 rfl) ?_
        refine lv_aload_n hx hb dX1_settle_34 rfl (lv_at hl 1 rfl) ?_
        refine lv_iload_n hx hb dX1_settle_35 rfl (lv_at hl 2 rfl) ?_
        refine rd_calla (va_runV (As := [.int (nI i)]) (rest := [.int (nI i), .ref (g 1)]) ⟨hx, hb, hml, hown, hts⟩ (u_hearing l G g hg f_1 se hf i hctc hhs (by first | assumption | omega | decide) (by first | assumption | omega | decide) (by first | assumption | omega | decide)) (my_cwV hts ok_X1_hearing w_390 rfl rfl ⟨Nat.le_of_ble_eq_true rfl, Nat.le_of_ble_eq_true rfl⟩) ⟨bP.blind, va_recv hG.1 hP (ci := 1) (q0 := 1) rfl (wl_at (by decide) hctc), fun U hU hW => ⟨rfl, by rw [hU]; exact hP, kG.warm hW hG⟩⟩ rfl rfl hl.1 rfl (lv_room (Nat.le_of_ble_eq_true rfl)) dX1_settle_36 ⟨Nat.le_of_ble_eq_true rfl, Nat.le_of_ble_eq_true rfl⟩) (fun r hr9 => ?_)
        subst hr9
        refine lv_aload_n hx hb dX1_settle_39 rfl (lv_at hl 1 rfl) ?_
        refine va_get (D := G.1) (ci := 1) (v := .ref (g 36)) (C := RX1) (T := TX1) (N := 5) hx hb hts inlX1 hown hG.1 hP 1 (wl_at (by decide) hctc) rfl 0 (by decide) (hts (.fieldLink RX1 12 "SwornLists$Court" "book" "LSwornLists$Book;") w_40) (fun _ h9 => h9) rfl dX1_settle_40 ?_
        refine lv_iconst (v := 0) hx hb dX1_settle_43 (by decide) ?_
        refine lv_iload_n hx hb dX1_settle_44 rfl (lv_at hl 0 rfl) ?_
        refine rd_calla (va_runV (As := [.int 0, .int (ct (70 * i + 0))]) (rest := [.ref (g (2 * i + 16)), .int (nI i), .ref (g 1)]) ⟨hx, hb, hml, hown, hts⟩ (k_lawOfE l G g hg f_1 pay fine na da lf 0 (ct (70 * i + 0)) hbk har had hla hlaa (by first | assumption | omega | decide) (by first | assumption | omega | decide)) (my_cwV hts ok_X0_lawOf w_394 rfl rfl ⟨Nat.le_of_ble_eq_true rfl, Nat.le_of_ble_eq_true rfl⟩) ⟨bP.blind, va_recv hG.1 hP (ci := 0) (q0 := 36) rfl (wl_at (by decide) hbk), fun U hU hW => ⟨rfl, by rw [hU]; exact hP, kG.warm hW hG⟩⟩ rfl rfl hl.1 rfl (lv_room (Nat.le_of_ble_eq_true rfl)) dX1_settle_45 ⟨Nat.le_of_ble_eq_true rfl, Nat.le_of_ble_eq_true rfl⟩) (fun r hr9 => ?_)
        obtain ⟨o92, rfl, hx_3_0, hx_3_1⟩ := hr9
        rcases o92 with _ | i3
        · refine my_bea (v := .null) rfl ?_
          refine lv_aload_n hx hb dX1_settle_48 rfl (lv_at hl 1 rfl) ?_
          refine va_get (D := G.1) (ci := 1) (v := .ref (g 36)) (C := RX1) (T := TX1) (N := 5) hx hb hts inlX1 hown hG.1 hP 1 (wl_at (by decide) hctc) rfl 0 (by decide) (hts (.fieldLink RX1 12 "SwornLists$Court" "book" "LSwornLists$Book;") w_40) (fun _ h9 => h9) rfl dX1_settle_49 ?_
          refine lv_iconst (v := 1) hx hb dX1_settle_52 (by decide) ?_
          refine lv_iload_n hx hb dX1_settle_53 rfl (lv_at hl 0 rfl) ?_
          refine rd_calla (va_runV (As := [.int 1, .int (ct (70 * i + 0))]) (rest := [.null, .ref (g (2 * i + 16)), .int (nI i), .ref (g 1)]) ⟨hx, hb, hml, hown, hts⟩ (k_lawOfE l G g hg f_1 pay fine na da lf 1 (ct (70 * i + 0)) hbk har had hla hlaa (by first | assumption | omega | decide) (by first | assumption | omega | decide)) (my_cwV hts ok_X0_lawOf w_394 rfl rfl ⟨Nat.le_of_ble_eq_true rfl, Nat.le_of_ble_eq_true rfl⟩) ⟨bP.blind, va_recv hG.1 hP (ci := 0) (q0 := 36) rfl (wl_at (by decide) hbk), fun U hU hW => ⟨rfl, by rw [hU]; exact hP, kG.warm hW hG⟩⟩ rfl rfl hl.1 rfl (lv_room (Nat.le_of_ble_eq_true rfl)) dX1_settle_54 ⟨Nat.le_of_ble_eq_true rfl, Nat.le_of_ble_eq_true rfl⟩) (fun r hr9 => ?_)
          obtain ⟨o94, rfl, hx_4_0, hx_4_1⟩ := hr9
          rcases o94 with _ | i5
          · refine my_bea (v := .null) rfl ?_
            refine b_callv (va_runV (As := [.int (nI i), .ref (g (2 * i + 16)), .null, .null]) (rest := []) ⟨hx, hb, hml, hown, hts⟩ (u_hearE00 l G g hg f_1 se hf pay fine nt ct np dp nf df nr dr (2 * i + 16) sl7 lo7 ib7 ca7 mi7 s07 s17 sw7 od7 vv1 sw i q8 q6 ks (cFt np nf nr na dp df dr da ct LL LG i) (cBx np nf nr na dp df dr da ct LL LG i) hctc hhs hbk htr hct hpr hpd hfr hfd hor hod hvl hh7 ho7 (by first | assumption | omega | decide) (by first | assumption | omega | decide) (by first | assumption | omega | decide) (by first | assumption | omega | decide) (by first | assumption | omega | decide) (by first | assumption | omega | decide) (by first | assumption | omega | decide) (by first | assumption | omega | decide) (by first | assumption | omega | decide) (by first | assumption | omega | decide) (by first | assumption | omega | decide) (hq8) (hq88) (hq6) (hq64) (hq2) (hks) (cFt_at (cLw_0 rfl hx_3_1) (by omega) (fun b9 h9 h10 => hday i b9 h9 h10) hJ) (cBx_at' (cLw_0 rfl hx_3_1) (cLw_0 rfl hx_4_1) (by omega) (fun b9 h9 h10 => hday i b9 h9 h10) hJ) (cBx_hi hnp) (hZ)) (my_cwV hts ok_X1_hear w_403 rfl rfl ⟨Nat.le_of_ble_eq_true rfl, Nat.le_of_ble_eq_true rfl⟩) ⟨bP.blind, va_recv hG.1 hP (ci := 1) (q0 := 1) rfl (wl_at (by decide) hctc), fun U hU hW => ⟨rfl, by rw [hU]; exact hP, kG.warm hW hG⟩⟩ rfl rfl hl.1 rfl (lv_room (Nat.le_of_ble_eq_true rfl)) dX1_settle_57 ⟨Nat.le_of_ble_eq_true rfl, Nat.le_of_ble_eq_true rfl⟩) hS (fun f_5 H locs hq9 hP hS => ?_)
            obtain ⟨vv96, hq_5_0, hx_5_0, o_5⟩ := hq9
            have hvl : f_5 15 = eJ G 50 vv96 := hq_5_0
            have hH : ∀ i, i < 10 → okH G g f_5 (2 * i + 16) := fun z hz => if e9 : z = i then (by rw [e9]; exact (okQ.okZ hx_5_0 (h8 i hi9)).ok) else okH_fr (hH z hz) (o_5 _ (by omega)) (o_5 _ (by omega))
            refine lv_iinc (v := nI (i + 1)) (lv' := [(1, .int (nI (i + 1))), (2, .int (ct (70 * i + 0))), (0, .ref (g 1))]) hx hb dX1_settle_60 hl (k := 2) rfl (nI_1 i) (by decide) rfl (fun ls hl => ?_)
            refine lv_goto (tgt := 5) hx hb dX1_settle_63 (by decide) ?_
            replace hLx : ∀ i, i < 20 → ltx G g f_5 (3 * i + 52) (LL i) (LG i) (i < na) := fun z hz => ltx_fr (hLx z hz) (o_5 _ (by omega)) (o_5 _ (by omega)) (o_5 _ (by omega))
            replace hctc := ((o_5 1 (by first | decide | omega))).trans hctc
            replace hhs := ((o_5 12 (by first | decide | omega))).trans hhs
            replace hbk := ((o_5 36 (by first | decide | omega))).trans hbk
            replace htr := ((o_5 45 (by first | decide | omega))).trans htr
            replace hct := ((o_5 46 (by first | decide | omega))).trans hct
            replace hpr := ((o_5 37 (by first | decide | omega))).trans hpr
            replace hpd := ((o_5 38 (by first | decide | omega))).trans hpd
            replace hfr := ((o_5 39 (by first | decide | omega))).trans hfr
            replace hfd := ((o_5 40 (by first | decide | omega))).trans hfd
            replace hor := ((o_5 41 (by first | decide | omega))).trans hor
            replace hod := ((o_5 42 (by first | decide | omega))).trans hod
            replace har := ((o_5 43 (by first | decide | omega))).trans har
            replace had := ((o_5 44 (by first | decide | omega))).trans had
            replace hla := ((o_5 47 (by first | decide | omega))).trans hla
            replace hlaa := ((o_5 48 (by first | decide | omega))).trans hlaa
            exact ih_1 (i + 1) vv96 f_5 _ _ _ (by omega) (fun z hz => if e9 : z = i then (by rw [e9]; exact hx_5_0) else okQ_fr (hQ1 z (by omega)) (o_5 _ (by omega)) (o_5 _ (by omega))) (hH) (hLx) (by omega) (hctc) (hhs) (hbk) (htr) (hct) (hpr) (hpd) (hfr) (hfd) (hor) (hod) (har) (had) (hla) (hlaa) (hvl) (fun j hj => ((o_5 j (by omega))).trans (o_1 j (by omega))) hP hS (lv_sub hl [2, 0] rfl)
          · have hiL5 := hx_4_0 i5 rfl
            obtain ⟨sc5, sp5, ⟨htx5, hsx5, hpx5, hln5, hsc5⟩, hls5, hlen5, hdl5, hol5⟩ := ltx_go (hLx i5 (by omega)) (by omega)
            refine my_bea (v := .ref (g (3 * i5 + 52))) rfl ?_
            refine b_callv (va_runV (As := [.int (nI i), .ref (g (2 * i + 16)), .null, .ref (g (3 * i5 + 52))]) (rest := []) ⟨hx, hb, hml, hown, hts⟩ (u_hearE01 l G g hg f_1 se hf pay fine nt ct np dp nf df nr dr (2 * i + 16) sl7 lo7 ib7 ca7 mi7 s07 s17 sw7 od7 vv1 sw i q8 q6 ks (cFt np nf nr na dp df dr da ct LL LG i) (cBx np nf nr na dp df dr da ct LL LG i) (3 * i5 + 52) (LL i5) sc5 sp5 (rdO (LL i5) (LG i5)) hctc hhs hbk htr hct hpr hpd hfr hfd hor hod hvl hh7 ho7 htx5 hpx5 (by first | assumption | omega | decide) (by first | assumption | omega | decide) (by first | assumption | omega | decide) (by first | assumption | omega | decide) (by first | assumption | omega | decide) (by first | assumption | omega | decide) (by first | assumption | omega | decide) (by first | assumption | omega | decide) (by first | assumption | omega | decide) (by first | assumption | omega | decide) (by first | assumption | omega | decide) (hq8) (hq88) (hq6) (hq64) (hq2) (hks) (by first | assumption | omega | decide) (by first | assumption | omega | decide) (hln5) (hsc5) (hls5) (hlen5) (hdl5) (hol5) (cFt_at (cLw_0 rfl hx_3_1) (by omega) (fun b9 h9 h10 => hday i b9 h9 h10) hJ) (cBx_at' (cLw_0 rfl hx_3_1) (cLw_1 rfl hx_4_1) (by omega) (fun b9 h9 h10 => hday i b9 h9 h10) hJ) (cBx_hi hnp) (hZ)) (my_cwV hts ok_X1_hear w_403 rfl rfl ⟨Nat.le_of_ble_eq_true rfl, Nat.le_of_ble_eq_true rfl⟩) ⟨bP.blind, va_recv hG.1 hP (ci := 1) (q0 := 1) rfl (wl_at (by decide) hctc), fun U hU hW => ⟨rfl, by rw [hU]; exact hP, kG.warm hW hG⟩⟩ rfl rfl hl.1 rfl (lv_room (Nat.le_of_ble_eq_true rfl)) dX1_settle_57 ⟨Nat.le_of_ble_eq_true rfl, Nat.le_of_ble_eq_true rfl⟩) hS (fun f_6 H locs hq9 hP hS => ?_)
            obtain ⟨vv97, hq_6_0, hx_6_0, o_6⟩ := hq9
            have hvl : f_6 15 = eJ G 50 vv97 := hq_6_0
            have hH : ∀ i, i < 10 → okH G g f_6 (2 * i + 16) := fun z hz => if e9 : z = i then (by rw [e9]; exact (okQ.okZ hx_6_0 (h8 i hi9)).ok) else okH_fr (hH z hz) (o_6 _ (by omega)) (o_6 _ (by omega))
            refine lv_iinc (v := nI (i + 1)) (lv' := [(1, .int (nI (i + 1))), (2, .int (ct (70 * i + 0))), (0, .ref (g 1))]) hx hb dX1_settle_60 hl (k := 2) rfl (nI_1 i) (by decide) rfl (fun ls hl => ?_)
            refine lv_goto (tgt := 5) hx hb dX1_settle_63 (by decide) ?_
            replace hLx : ∀ i, i < 20 → ltx G g f_6 (3 * i + 52) (LL i) (LG i) (i < na) := fun z hz => ltx_fr (hLx z hz) (o_6 _ (by omega)) (o_6 _ (by omega)) (o_6 _ (by omega))
            replace hctc := ((o_6 1 (by first | decide | omega))).trans hctc
            replace hhs := ((o_6 12 (by first | decide | omega))).trans hhs
            replace hbk := ((o_6 36 (by first | decide | omega))).trans hbk
            replace htr := ((o_6 45 (by first | decide | omega))).trans htr
            replace hct := ((o_6 46 (by first | decide | omega))).trans hct
            replace hpr := ((o_6 37 (by first | decide | omega))).trans hpr
            replace hpd := ((o_6 38 (by first | decide | omega))).trans hpd
            replace hfr := ((o_6 39 (by first | decide | omega))).trans hfr
            replace hfd := ((o_6 40 (by first | decide | omega))).trans hfd
            replace hor := ((o_6 41 (by first | decide | omega))).trans hor
            replace hod := ((o_6 42 (by first | decide | omega))).trans hod
            replace har := ((o_6 43 (by first | decide | omega))).trans har
            replace had := ((o_6 44 (by first | decide | omega))).trans had
            replace hla := ((o_6 47 (by first | decide | omega))).trans hla
            replace hlaa := ((o_6 48 (by first | decide | omega))).trans hlaa
            exact ih_1 (i + 1) vv97 f_6 _ _ _ (by omega) (fun z hz => if e9 : z = i then (by rw [e9]; exact hx_6_0) else okQ_fr (hQ1 z (by omega)) (o_6 _ (by omega)) (o_6 _ (by omega))) (hH) (hLx) (by omega) (hctc) (hhs) (hbk) (htr) (hct) (hpr) (hpd) (hfr) (hfd) (hor) (hod) (har) (had) (hla) (hlaa) (hvl) (fun j hj => ((o_6 j (by omega))).trans (o_1 j (by omega))) hP hS (lv_sub hl [2, 0] rfl)
        · have hiL3 := hx_3_0 i3 rfl
          obtain ⟨sc3, sp3, ⟨htx3, hsx3, hpx3, hln3, hsc3⟩, hls3, hlen3, hdl3, hol3⟩ := ltx_go (hLx i3 (by omega)) (by omega)
          refine my_bea (v := .ref (g (3 * i3 + 52))) rfl ?_
          refine lv_aload_n hx hb dX1_settle_48 rfl (lv_at hl 1 rfl) ?_
          refine va_get (D := G.1) (ci := 1) (v := .ref (g 36)) (C := RX1) (T := TX1) (N := 5) hx hb hts inlX1 hown hG.1 hP 1 (wl_at (by decide) hctc) rfl 0 (by decide) (hts (.fieldLink RX1 12 "SwornLists$Court" "book" "LSwornLists$Book;") w_40) (fun _ h9 => h9) rfl dX1_settle_49 ?_
          refine lv_iconst (v := 1) hx hb dX1_settle_52 (by decide) ?_
          refine lv_iload_n hx hb dX1_settle_53 rfl (lv_at hl 0 rfl) ?_
          refine rd_calla (va_runV (As := [.int 1, .int (ct (70 * i + 0))]) (rest := [.ref (g (3 * i3 + 52)), .ref (g (2 * i + 16)), .int (nI i), .ref (g 1)]) ⟨hx, hb, hml, hown, hts⟩ (k_lawOfE l G g hg f_1 pay fine na da lf 1 (ct (70 * i + 0)) hbk har had hla hlaa (by first | assumption | omega | decide) (by first | assumption | omega | decide)) (my_cwV hts ok_X0_lawOf w_394 rfl rfl ⟨Nat.le_of_ble_eq_true rfl, Nat.le_of_ble_eq_true rfl⟩) ⟨bP.blind, va_recv hG.1 hP (ci := 0) (q0 := 36) rfl (wl_at (by decide) hbk), fun U hU hW => ⟨rfl, by rw [hU]; exact hP, kG.warm hW hG⟩⟩ rfl rfl hl.1 rfl (lv_room (Nat.le_of_ble_eq_true rfl)) dX1_settle_54 ⟨Nat.le_of_ble_eq_true rfl, Nat.le_of_ble_eq_true rfl⟩) (fun r hr9 => ?_)
          obtain ⟨o98, rfl, hx_7_0, hx_7_1⟩ := hr9
          rcases o98 with _ | i9
          · refine my_bea (v := .null) rfl ?_
            refine b_callv (va_runV (As := [.int (nI i), .ref (g (2 * i + 16)), .ref (g (3 * i3 + 52)), .null]) (rest := []) ⟨hx, hb, hml, hown, hts⟩ (u_hearE10 l G g hg f_1 se hf pay fine nt ct np dp nf df nr dr (2 * i + 16) sl7 lo7 ib7 ca7 mi7 s07 s17 sw7 od7 vv1 sw i q8 q6 ks (cFt np nf nr na dp df dr da ct LL LG i) (cBx np nf nr na dp df dr da ct LL LG i) (3 * i3 + 52) (LL i3) sc3 sp3 (rdO (LL i3) (LG i3)) hctc hhs hbk htr hct hpr hpd hfr hfd hor hod hvl hh7 ho7 htx3 hpx3 (by first | assumption | omega | decide) (by first | assumption | omega | decide) (by first | assumption | omega | decide) (by first | assumption | omega | decide) (by first | assumption | omega | decide) (by first | assumption | omega | decide) (by first | assumption | omega | decide) (by first | assumption | omega | decide) (by first | assumption | omega | decide) (by first | assumption | omega | decide) (by first | assumption | omega | decide) (hq8) (hq88) (hq6) (hq64) (hq2) (hks) (by first | assumption | omega | decide) (by first | assumption | omega | decide) (hln3) (hsc3) (hls3) (hlen3) (hdl3) (hol3) (cFt_at (cLw_1 rfl hx_3_1) (by omega) (fun b9 h9 h10 => hday i b9 h9 h10) hJ) (cBx_at' (cLw_1 rfl hx_3_1) (cLw_0 rfl hx_7_1) (by omega) (fun b9 h9 h10 => hday i b9 h9 h10) hJ) (cBx_hi hnp) (hZ)) (my_cwV hts ok_X1_hear w_403 rfl rfl ⟨Nat.le_of_ble_eq_true rfl, Nat.le_of_ble_eq_true rfl⟩) ⟨bP.blind, va_recv hG.1 hP (ci := 1) (q0 := 1) rfl (wl_at (by decide) hctc), fun U hU hW => ⟨rfl, by rw [hU]; exact hP, kG.warm hW hG⟩⟩ rfl rfl hl.1 rfl (lv_room (Nat.le_of_ble_eq_true rfl)) dX1_settle_57 ⟨Nat.le_of_ble_eq_true rfl, Nat.le_of_ble_eq_true rfl⟩) hS (fun f_8 H locs hq9 hP hS => ?_)
            obtain ⟨vv910, hq_8_0, hx_8_0, o_8⟩ := hq9
            have hvl : f_8 15 = eJ G 50 vv910 := hq_8_0
            have hH : ∀ i, i < 10 → okH G g f_8 (2 * i + 16) := fun z hz => if e9 : z = i then (by rw [e9]; exact (okQ.okZ hx_8_0 (h8 i hi9)).ok) else okH_fr (hH z hz) (o_8 _ (by omega)) (o_8 _ (by omega))
            refine lv_iinc (v := nI (i + 1)) (lv' := [(1, .int (nI (i + 1))), (2, .int (ct (70 * i + 0))), (0, .ref (g 1))]) hx hb dX1_settle_60 hl (k := 2) rfl (nI_1 i) (by decide) rfl (fun ls hl => ?_)
            refine lv_goto (tgt := 5) hx hb dX1_settle_63 (by decide) ?_
            replace hLx : ∀ i, i < 20 → ltx G g f_8 (3 * i + 52) (LL i) (LG i) (i < na) := fun z hz => ltx_fr (hLx z hz) (o_8 _ (by omega)) (o_8 _ (by omega)) (o_8 _ (by omega))
            replace hctc := ((o_8 1 (by first | decide | omega))).trans hctc
            replace hhs := ((o_8 12 (by first | decide | omega))).trans hhs
            replace hbk := ((o_8 36 (by first | decide | omega))).trans hbk
            replace htr := ((o_8 45 (by first | decide | omega))).trans htr
            replace hct := ((o_8 46 (by first | decide | omega))).trans hct
            replace hpr := ((o_8 37 (by first | decide | omega))).trans hpr
            replace hpd := ((o_8 38 (by first | decide | omega))).trans hpd
            replace hfr := ((o_8 39 (by first | decide | omega))).trans hfr
            replace hfd := ((o_8 40 (by first | decide | omega))).trans hfd
            replace hor := ((o_8 41 (by first | decide | omega))).trans hor
            replace hod := ((o_8 42 (by first | decide | omega))).trans hod
            replace har := ((o_8 43 (by first | decide | omega))).trans har
            replace had := ((o_8 44 (by first | decide | omega))).trans had
            replace hla := ((o_8 47 (by first | decide | omega))).trans hla
            replace hlaa := ((o_8 48 (by first | decide | omega))).trans hlaa
            exact ih_1 (i + 1) vv910 f_8 _ _ _ (by omega) (fun z hz => if e9 : z = i then (by rw [e9]; exact hx_8_0) else okQ_fr (hQ1 z (by omega)) (o_8 _ (by omega)) (o_8 _ (by omega))) (hH) (hLx) (by omega) (hctc) (hhs) (hbk) (htr) (hct) (hpr) (hpd) (hfr) (hfd) (hor) (hod) (har) (had) (hla) (hlaa) (hvl) (fun j hj => ((o_8 j (by omega))).trans (o_1 j (by omega))) hP hS (lv_sub hl [2, 0] rfl)
          · have hiL9 := hx_7_0 i9 rfl
            obtain ⟨sc9, sp9, ⟨htx9, hsx9, hpx9, hln9, hsc9⟩, hls9, hlen9, hdl9, hol9⟩ := ltx_go (hLx i9 (by omega)) (by omega)
            refine my_bea (v := .ref (g (3 * i9 + 52))) rfl ?_
            refine b_callv (va_runV (As := [.int (nI i), .ref (g (2 * i + 16)), .ref (g (3 * i3 + 52)), .ref (g (3 * i9 + 52))]) (rest := []) ⟨hx, hb, hml, hown, hts⟩ (u_hearE11 l G g hg f_1 se hf pay fine nt ct np dp nf df nr dr (2 * i + 16) sl7 lo7 ib7 ca7 mi7 s07 s17 sw7 od7 vv1 sw i q8 q6 ks (cFt np nf nr na dp df dr da ct LL LG i) (cBx np nf nr na dp df dr da ct LL LG i) (3 * i3 + 52) (LL i3) sc3 sp3 (rdO (LL i3) (LG i3)) (3 * i9 + 52) (LL i9) sc9 sp9 (rdO (LL i9) (LG i9)) hctc hhs hbk htr hct hpr hpd hfr hfd hor hod hvl hh7 ho7 htx3 hpx3 htx9 hpx9 (by first | assumption | omega | decide) (by first | assumption | omega | decide) (by first | assumption | omega | decide) (by first | assumption | omega | decide) (by first | assumption | omega | decide) (by first | assumption | omega | decide) (by first | assumption | omega | decide) (by first | assumption | omega | decide) (by first | assumption | omega | decide) (by first | assumption | omega | decide) (by first | assumption | omega | decide) (hq8) (hq88) (hq6) (hq64) (hq2) (hks) (by first | assumption | omega | decide) (by first | assumption | omega | decide) (hln3) (hsc3) (hls3) (hlen3) (hdl3) (hol3) (by first | assumption | omega | decide) (by first | assumption | omega | decide) (hln9) (hsc9) (hls9) (hlen9) (hdl9) (hol9) (cFt_at (cLw_1 rfl hx_3_1) (by omega) (fun b9 h9 h10 => hday i b9 h9 h10) hJ) (cBx_at' (cLw_1 rfl hx_3_1) (cLw_1 rfl hx_7_1) (by omega) (fun b9 h9 h10 => hday i b9 h9 h10) hJ) (cBx_hi hnp) (hZ)) (my_cwV hts ok_X1_hear w_403 rfl rfl ⟨Nat.le_of_ble_eq_true rfl, Nat.le_of_ble_eq_true rfl⟩) ⟨bP.blind, va_recv hG.1 hP (ci := 1) (q0 := 1) rfl (wl_at (by decide) hctc), fun U hU hW => ⟨rfl, by rw [hU]; exact hP, kG.warm hW hG⟩⟩ rfl rfl hl.1 rfl (lv_room (Nat.le_of_ble_eq_true rfl)) dX1_settle_57 ⟨Nat.le_of_ble_eq_true rfl, Nat.le_of_ble_eq_true rfl⟩) hS (fun f_9 H locs hq9 hP hS => ?_)
            obtain ⟨vv911, hq_9_0, hx_9_0, o_9⟩ := hq9
            have hvl : f_9 15 = eJ G 50 vv911 := hq_9_0
            have hH : ∀ i, i < 10 → okH G g f_9 (2 * i + 16) := fun z hz => if e9 : z = i then (by rw [e9]; exact (okQ.okZ hx_9_0 (h8 i hi9)).ok) else okH_fr (hH z hz) (o_9 _ (by omega)) (o_9 _ (by omega))
            refine lv_iinc (v := nI (i + 1)) (lv' := [(1, .int (nI (i + 1))), (2, .int (ct (70 * i + 0))), (0, .ref (g 1))]) hx hb dX1_settle_60 hl (k := 2) rfl (nI_1 i) (by decide) rfl (fun ls hl => ?_)
            refine lv_goto (tgt := 5) hx hb dX1_settle_63 (by decide) ?_
            replace hLx : ∀ i, i < 20 → ltx G g f_9 (3 * i + 52) (LL i) (LG i) (i < na) := fun z hz => ltx_fr (hLx z hz) (o_9 _ (by omega)) (o_9 _ (by omega)) (o_9 _ (by omega))
            replace hctc := ((o_9 1 (by first | decide | omega))).trans hctc
            replace hhs := ((o_9 12 (by first | decide | omega))).trans hhs
            replace hbk := ((o_9 36 (by first | decide | omega))).trans hbk
            replace htr := ((o_9 45 (by first | decide | omega))).trans htr
            replace hct := ((o_9 46 (by first | decide | omega))).trans hct
            replace hpr := ((o_9 37 (by first | decide | omega))).trans hpr
            replace hpd := ((o_9 38 (by first | decide | omega))).trans hpd
            replace hfr := ((o_9 39 (by first | decide | omega))).trans hfr
            replace hfd := ((o_9 40 (by first | decide | omega))).trans hfd
            replace hor := ((o_9 41 (by first | decide | omega))).trans hor
            replace hod := ((o_9 42 (by first | decide | omega))).trans hod
            replace har := ((o_9 43 (by first | decide | omega))).trans har
            replace had := ((o_9 44 (by first | decide | omega))).trans had
            replace hla := ((o_9 47 (by first | decide | omega))).trans hla
            replace hlaa := ((o_9 48 (by first | decide | omega))).trans hlaa
            exact ih_1 (i + 1) vv911 f_9 _ _ _ (by omega) (fun z hz => if e9 : z = i then (by rw [e9]; exact hx_9_0) else okQ_fr (hQ1 z (by omega)) (o_9 _ (by omega)) (o_9 _ (by omega))) (hH) (hLx) (by omega) (hctc) (hhs) (hbk) (htr) (hct) (hpr) (hpd) (hfr) (hfd) (hor) (hod) (har) (had) (hla) (hlaa) (hvl) (fun j hj => ((o_9 j (by omega))).trans (o_1 j (by omega))) hP hS (lv_sub hl [2, 0] rfl)
  exact key1 (10 + 1) se vv f _ _ _ (hsn) (hQ) (hH) (hLx) (by omega) (hctc) (hhs) (hbk) (htr) (hct) (hpr) (hpd) (hfr) (hfd) (hor) (hod) (har) (had) (hla) (hlaa) (hvl) (fun j _ => rfl) hP hS (lv_sub hl [1, 0] rfl)


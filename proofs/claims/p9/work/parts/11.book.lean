theorem ok_X0_everyone : okV yX0_everyone cX0_everyone 1 (some .int) 0 := ⟨⟨w_201, w_34, ⟨by decide +kernel, by decide +kernel, by decide +kernel⟩⟩, trivial, w_199, w_200⟩
theorem ok_X0_peopleWith : okV yX0_peopleWith cX0_peopleWith 5 (some .int) 2 := ⟨⟨w_472, w_34, ⟨by decide +kernel, by decide +kernel, by decide +kernel⟩⟩, trivial, w_470, w_471⟩
theorem ok_X0_listedOn : okV yX0_listedOn cX0_listedOn 5 (some .int) 1 := ⟨⟨w_224, w_34, ⟨by decide +kernel, by decide +kernel, by decide +kernel⟩⟩, trivial, w_222, w_223⟩
theorem ok_X0_kinOfSides : okV yX0_kinOfSides cX0_kinOfSides 7 (some .int) 2 := ⟨⟨w_411, w_34, ⟨by decide +kernel, by decide +kernel, by decide +kernel⟩⟩, trivial, w_409, w_410⟩
theorem ok_X0_ofTradeWanted : okV yX0_ofTradeWanted cX0_ofTradeWanted 3 (some .int) 1 := ⟨⟨w_468, w_34, ⟨by decide +kernel, by decide +kernel, by decide +kernel⟩⟩, trivial, w_466, w_467⟩
theorem ok_X0_lastDayOf : okV yX0_lastDayOf cX0_lastDayOf 2 (some .int) 1 := ⟨⟨w_423, w_34, ⟨by decide +kernel, by decide +kernel, by decide +kernel⟩⟩, trivial, w_421, w_422⟩
theorem ok_X0_overlap : okV yX0_overlap cX0_overlap 3 (some .boolean) 2 := ⟨⟨w_419, w_34, ⟨by decide +kernel, by decide +kernel, by decide +kernel⟩⟩, trivial, w_417, w_418⟩
theorem ok_X0_shareFamily : okV yX0_shareFamily cX0_shareFamily 6 (some .boolean) 2 := ⟨⟨w_836, w_34, ⟨by decide +kernel, by decide +kernel, by decide +kernel⟩⟩, trivial, w_834, w_835⟩
theorem ok_X0_shareTrade : okV yX0_shareTrade cX0_shareTrade 4 (some .boolean) 2 := ⟨⟨w_840, w_34, ⟨by decide +kernel, by decide +kernel, by decide +kernel⟩⟩, trivial, w_838, w_839⟩
set_option maxHeartbeats 4000000 in
set_option maxRecDepth 100000 in
theorem k_everyone (l : Launch) (G : gW) (g : Nat → Nat) (hg : gOK g) (f : Nat → va_E) (pay : Int32) (fine : Int32) (np : Nat) (dp : Nat → Int32) (hbk : f 36 = eO 0 [.ref (g 37), .ref (g 39), .ref (g 41), .ref (g 43), .ref (g 45), .ref (g 47), .ref (g 112), .int pay, .int fine]) (hpr : f 37 = eO 5 [.int (nI 30), .int (nI 4), .ref (g 38), .int (nI np)]) (hpd : f 38 = eI G (30 * 4) dp) (hnp : np ≤ 30) : Met l yX0_everyone (wsT yX0_everyone cX0_everyone 1 (some .int)) ({ frames := 1, cells := 0, slots := 0, locals := 20 }) (bP G g f [.ref (g 36)]) (rQi (fun z9 => True)) 0 0 fr0 := by
  refine Met.ofW (cc := cX0_everyone) (maxL := 1) (ret := (some .int)) (by decide) rfl ?_
  intro p e s m args below meth c s₁ B hml hv
  obtain ⟨rfl, hP, hG⟩ := hv
  have hx := B.exec
  have hb := B.bytes
  have hr := B.returns
  have hts := my_hts (atoms_spec (ws := wsT yX0_everyone cX0_everyone 1 (some .int)) B.pre)
  have hown : s.vm.findClass RX0 = some m.cls := findClass_of_methodNamed B.named
  have hlocks := B.notSynchronized
  have hl := lv_entry ([.ref (g 36)]) (n := 1) (Nat.le_of_ble_eq_true rfl)
  rw [lg_entry_eq]
  generalize (lg_sl ([.ref (g 36)]) ++ List.replicate (1 - (lg_sl ([.ref (g 36)])).length) Slot.unset).toArray = ls at hl ⊢
  have hl : lv_has ls 1 [(0, .ref (g 36))] := hl
  refine lv_aload_n hx hb dX0_everyone_0 rfl (lv_at hl 0 rfl) ?_
  refine va_get (D := G.1) (ci := 0) (v := .ref (g 37)) (C := RX0) (T := TX0) (N := 9) hx hb hts inlX0 hown hG.1 hP 36 (wl_at (by decide) hbk) rfl 0 (by decide) (hts (.fieldLink RX0 14 "SwornLists$Book" "people" "LSwornLists$Rows;") w_54) (fun _ h9 => h9) rfl dX0_everyone_1 ?_
  refine rd_calli (va_runV (As := []) (rest := []) ⟨hx, hb, hml, hown, hts⟩ (r_size l G g hg f 37 30 4 np hpr (by first | assumption | omega | decide) (by first | assumption | omega | decide) (by first | assumption | omega | decide) (by first | assumption | omega | decide)) (my_cwV hts ok_X5_size w_202 rfl rfl ⟨Nat.le_of_ble_eq_true rfl, Nat.le_of_ble_eq_true rfl⟩) ⟨bP.blind, va_recv hG.1 hP (ci := 5) (q0 := 37) rfl (wl_at (by decide) hpr), fun U hU hW => ⟨rfl, by rw [hU]; exact hP, kG.warm hW hG⟩⟩ rfl rfl hl.1 rfl (lv_room (Nat.le_of_ble_eq_true rfl)) dX0_everyone_4 ⟨Nat.le_of_ble_eq_true rfl, Nat.le_of_ble_eq_true rfl⟩) (fun r hr9 => ?_)
  subst hr9
  refine rd_calli (va_runSN (As := [.int (nI np)]) (rest := []) ⟨hx, hb, hml, hown, hts⟩ (s_lowBits l G g hg f (nI np)  ) (⟨my_cn hts ok_X10_lowBits.1 (hG.2.1 (.methodLinkNest RX0 62 yX10_lowBits RX10) (List.mem_of_getElem? (i := 29) rfl)) rfl rfl ⟨Nat.le_of_ble_eq_true rfl, Nat.le_of_ble_eq_true rfl⟩, hts _ ok_X10_lowBits.2.2.1, trivial⟩) ⟨bP.blind, fun U hU hW => ⟨rfl, by rw [hU]; exact hP, kG.warm hW hG⟩⟩ rfl rfl hl.1 rfl (lv_room (Nat.le_of_ble_eq_true rfl)) dX0_everyone_7 ⟨Nat.le_of_ble_eq_true rfl, Nat.le_of_ble_eq_true rfl⟩) (fun r hr9 => ?_)
  subst hr9
  exact W.iret (v := (1 <<< ((nI np) &&& 31)) - 1) hx hb hr (fun t ht hW => ⟨_, rfl, (trivial), ht⟩) (fun _ h => absurd h List.not_mem_nil) dX0_everyone_10
set_option maxHeartbeats 4000000 in
set_option maxRecDepth 100000 in
theorem k_peopleWith (l : Launch) (G : gW) (g : Nat → Nat) (hg : gOK g) (f : Nat → va_E) (pay : Int32) (fine : Int32) (np : Nat) (dp : Nat → Int32) (n : Int32) (q : Int32) (hbk : f 36 = eO 0 [.ref (g 37), .ref (g 39), .ref (g 41), .ref (g 43), .ref (g 45), .ref (g 47), .ref (g 112), .int pay, .int fine]) (hpr : f 37 = eO 5 [.int (nI 30), .int (nI 4), .ref (g 38), .int (nI np)]) (hpd : f 38 = eI G (30 * 4) dp) (hnp : np ≤ 30) : Met l yX0_peopleWith (wsT yX0_peopleWith cX0_peopleWith 5 (some .int)) ({ frames := 1, cells := 0, slots := 0, locals := 23 }) (bP G g f [.ref (g 36), .int n, .int q]) (rQi (fun z9 => True)) 0 0 fr0 := by
  refine Met.ofW (cc := cX0_peopleWith) (maxL := 5) (ret := (some .int)) (by decide) rfl ?_
  intro p e s m args below meth c s₁ B hml hv
  obtain ⟨rfl, hP, hG⟩ := hv
  have hx := B.exec
  have hb := B.bytes
  have hr := B.returns
  have hts := my_hts (atoms_spec (ws := wsT yX0_peopleWith cX0_peopleWith 5 (some .int)) B.pre)
  have hown : s.vm.findClass RX0 = some m.cls := findClass_of_methodNamed B.named
  have hlocks := B.notSynchronized
  have hl := lv_entry ([.ref (g 36), .int n, .int q]) (n := 5) (Nat.le_of_ble_eq_true rfl)
  rw [lg_entry_eq]
  generalize (lg_sl ([.ref (g 36), .int n, .int q]) ++ List.replicate (5 - (lg_sl ([.ref (g 36), .int n, .int q])).length) Slot.unset).toArray = ls at hl ⊢
  have hl : lv_has ls 5 [(0, .ref (g 36)), (1, .int n), (2, .int q)] := hl
  refine lv_iconst (v := 0) hx hb dX0_peopleWith_0 (by decide) ?_
  refine lv_istore_n (lv' := [(3, .int 0), (0, .ref (g 36)), (1, .int n), (2, .int q)]) hx hb dX0_peopleWith_1 rfl hl (by decide) rfl (fun ls hl => ?_)
  refine lv_iconst (v := 0) hx hb dX0_peopleWith_2 (by decide) ?_
  refine lv_istore (lv' := [(4, .int 0), (3, .int 0), (0, .ref (g 36)), (1, .int n), (2, .int q)]) hx hb dX0_peopleWith_3 hl (by decide) rfl (fun ls hl => ?_)
  have key1 : ∀ (n9 : Nat) (u : Int32) (i : Nat) (ls : Array Slot), (i ≤ np) → np - i < n9 → lv_has ls 5 [(0, .ref (g 36)), (1, .int n), (2, .int q), (3, .int u), (4, .int (nI i))] → W p l e (headSpec (wsT yX0_peopleWith cX0_peopleWith 5 (some .int)) ({ frames := 1, cells := 0, slots := 0, locals := 23 })).room s m ([.ref (g 36), .int n, .int q] : List Value).toArray below meth c s.heap [] 0 0 (MQ below (rQi (fun z9 => True)) ([.ref (g 36), .int n, .int q] : List Value).toArray s 0 0 fr0) (F0 m 5 ls []) := by
    intro n9
    induction n9 with
    | zero => intro u i ls hi hn9; exact absurd hn9 (Nat.not_lt_zero _)
    | succ n9 ih =>
      intro u i ls hi hn9 hl
      refine lv_iload hx hb dX0_peopleWith_5 (lv_at hl 4 rfl) ?_
      refine lv_aload_n hx hb dX0_peopleWith_7 rfl (lv_at hl 0 rfl) ?_
      refine va_get (D := G.1) (ci := 0) (v := .ref (g 37)) (C := RX0) (T := TX0) (N := 9) hx hb hts inlX0 hown hG.1 hP 36 (wl_at (by decide) hbk) rfl 0 (by decide) (hts (.fieldLink RX0 14 "SwornLists$Book" "people" "LSwornLists$Rows;") w_54) (fun _ h9 => h9) rfl dX0_peopleWith_8 ?_
      refine rd_calli (va_runV (As := []) (rest := [.int (nI i)]) ⟨hx, hb, hml, hown, hts⟩ (r_size l G g hg f 37 30 4 np hpr (by first | assumption | omega | decide) (by first | assumption | omega | decide) (by first | assumption | omega | decide) (by first | assumption | omega | decide)) (my_cwV hts ok_X5_size w_202 rfl rfl ⟨Nat.le_of_ble_eq_true rfl, Nat.le_of_ble_eq_true rfl⟩) ⟨bP.blind, va_recv hG.1 hP (ci := 5) (q0 := 37) rfl (wl_at (by decide) hpr), fun U hU hW => ⟨rfl, by rw [hU]; exact hP, kG.warm hW hG⟩⟩ rfl rfl hl.1 rfl (lv_room (Nat.le_of_ble_eq_true rfl)) dX0_peopleWith_11 ⟨Nat.le_of_ble_eq_true rfl, Nat.le_of_ble_eq_true rfl⟩) (fun r hr9 => ?_)
      subst hr9
      refine lv_icmp_ge (tgt := 44) hx hb dX0_peopleWith_14 (by decide) (fun c_14 => ?_) (fun c_14 => ?_)
      · refine lv_iload_n hx hb dX0_peopleWith_44 rfl (lv_at hl 3 rfl) ?_
        exact W.iret (v := u) hx hb hr (fun t ht hW => ⟨_, rfl, (trivial), ht⟩) (fun _ h => absurd h List.not_mem_nil) dX0_peopleWith_45
      · have hi9 : i < np := Nat.not_le.mp (fun z => c_14 (nI_le z (by omega)))
        refine lv_aload_n hx hb dX0_peopleWith_17 rfl (lv_at hl 0 rfl) ?_
        refine va_get (D := G.1) (ci := 0) (v := .ref (g 37)) (C := RX0) (T := TX0) (N := 9) hx hb hts inlX0 hown hG.1 hP 36 (wl_at (by decide) hbk) rfl 0 (by decide) (hts (.fieldLink RX0 14 "SwornLists$Book" "people" "LSwornLists$Rows;") w_54) (fun _ h9 => h9) rfl dX0_peopleWith_18 ?_
        refine lv_iload hx hb dX0_peopleWith_21 (lv_at hl 4 rfl) ?_
        refine lv_iload_n hx hb dX0_peopleWith_23 rfl (lv_at hl 1 rfl) ?_
        refine rd_calli (va_runV (As := [.int (nI i), .int n]) (rest := []) ⟨hx, hb, hml, hown, hts⟩ (r_at l G g hg f 37 30 4 np dp (nI i) n hpr hpd (by first | assumption | omega | decide) (by first | assumption | omega | decide) (by first | assumption | omega | decide) (by first | assumption | omega | decide)) (my_cwV hts ok_X5_at w_225 rfl rfl ⟨Nat.le_of_ble_eq_true rfl, Nat.le_of_ble_eq_true rfl⟩) ⟨bP.blind, va_recv hG.1 hP (ci := 5) (q0 := 37) rfl (wl_at (by decide) hpr), fun U hU hW => ⟨rfl, by rw [hU]; exact hP, kG.warm hW hG⟩⟩ rfl rfl hl.1 rfl (lv_room (Nat.le_of_ble_eq_true rfl)) dX0_peopleWith_24 ⟨Nat.le_of_ble_eq_true rfl, Nat.le_of_ble_eq_true rfl⟩) (fun r hr9 => ?_)
        subst hr9
        refine lv_iload_n hx hb dX0_peopleWith_27 rfl (lv_at hl 2 rfl) ?_
        refine lv_icmp_ne (tgt := 38) hx hb dX0_peopleWith_28 (by decide) (fun c_28 => ?_) (fun c_28 => ?_)
        · refine lv_iinc (v := nI (i + 1)) (lv' := [(4, .int (nI (i + 1))), (0, .ref (g 36)), (1, .int n), (2, .int q), (3, .int u)]) hx hb dX0_peopleWith_38 hl (k := 4) rfl (nI_1 i) (by decide) rfl (fun ls hl => ?_)
          refine lv_goto (tgt := 5) hx hb dX0_peopleWith_41 (by decide) ?_
          exact ih u (i + 1) _ (hi9) (by omega) (lv_sub hl [1, 2, 3, 4, 0] rfl)
        · refine lv_iload_n hx hb dX0_peopleWith_31 rfl (lv_at hl 3 rfl) ?_
          refine lv_iconst (v := 1) hx hb dX0_peopleWith_32 (by decide) ?_
          refine lv_iload hx hb dX0_peopleWith_33 (lv_at hl 4 rfl) ?_
          refine lv_ishl hx hb dX0_peopleWith_35 ?_
          refine lv_ior hx hb dX0_peopleWith_36 ?_
          refine lv_istore_n (lv' := [(3, .int (u ||| (1 <<< ((nI i) &&& 31)))), (0, .ref (g 36)), (1, .int n), (2, .int q), (4, .int (nI i))]) hx hb dX0_peopleWith_37 rfl hl (by decide) rfl (fun ls hl => ?_)
          refine lv_iinc (v := nI (i + 1)) (lv' := [(4, .int (nI (i + 1))), (3, .int (u ||| (1 <<< ((nI i) &&& 31)))), (0, .ref (g 36)), (1, .int n), (2, .int q)]) hx hb dX0_peopleWith_38 hl (k := 4) rfl (nI_1 i) (by decide) rfl (fun ls hl => ?_)
          refine lv_goto (tgt := 5) hx hb dX0_peopleWith_41 (by decide) ?_
          exact ih (u ||| (1 <<< ((nI i) &&& 31))) (i + 1) _ (hi9) (by omega) (lv_sub hl [2, 3, 4, 1, 0] rfl)
  exact key1 (np + 1) 0 0 _ (Nat.zero_le _) (by omega) (lv_sub hl [2, 3, 4, 1, 0] rfl)
set_option maxHeartbeats 4000000 in
set_option maxRecDepth 100000 in
theorem k_listedOn (l : Launch) (G : gW) (g : Nat → Nat) (hg : gOK g) (f : Nat → va_E) (pay : Int32) (fine : Int32) (np : Nat) (dp : Nat → Int32) (nr : Nat) (dr : Nat → Int32) (n : Int32) (hbk : f 36 = eO 0 [.ref (g 37), .ref (g 39), .ref (g 41), .ref (g 43), .ref (g 45), .ref (g 47), .ref (g 112), .int pay, .int fine]) (hpr : f 37 = eO 5 [.int (nI 30), .int (nI 4), .ref (g 38), .int (nI np)]) (hpd : f 38 = eI G (30 * 4) dp) (hor : f 41 = eO 5 [.int (nI 4), .int (nI 3), .ref (g 42), .int (nI nr)]) (hod : f 42 = eI G (4 * 3) dr) (hnp : np ≤ 30) (hnr : nr ≤ 4) : Met l yX0_listedOn (wsT yX0_listedOn cX0_listedOn 5 (some .int)) ({ frames := 2, cells := 0, slots := 0, locals := 40 }) (bP G g f [.ref (g 36), .int n]) (rQi (fun z9 => True)) 0 0 fr0 := by
  refine Met.ofW (cc := cX0_listedOn) (maxL := 5) (ret := (some .int)) (by decide) rfl ?_
  intro p e s m args below meth c s₁ B hml hv
  obtain ⟨rfl, hP, hG⟩ := hv
  have hx := B.exec
  have hb := B.bytes
  have hr := B.returns
  have hts := my_hts (atoms_spec (ws := wsT yX0_listedOn cX0_listedOn 5 (some .int)) B.pre)
  have hown : s.vm.findClass RX0 = some m.cls := findClass_of_methodNamed B.named
  have hlocks := B.notSynchronized
  have hl := lv_entry ([.ref (g 36), .int n]) (n := 5) (Nat.le_of_ble_eq_true rfl)
  rw [lg_entry_eq]
  generalize (lg_sl ([.ref (g 36), .int n]) ++ List.replicate (5 - (lg_sl ([.ref (g 36), .int n])).length) Slot.unset).toArray = ls at hl ⊢
  have hl : lv_has ls 5 [(0, .ref (g 36)), (1, .int n)] := hl
  refine lv_iconst (v := (-1)) hx hb dX0_listedOn_0 (by decide) ?_
  refine lv_istore_n (lv' := [(2, .int (-1)), (0, .ref (g 36)), (1, .int n)]) hx hb dX0_listedOn_1 rfl hl (by decide) rfl (fun ls hl => ?_)
  refine lv_iconst (v := 0) hx hb dX0_listedOn_2 (by decide) ?_
  refine lv_istore_n (lv' := [(3, .int 0), (2, .int (-1)), (0, .ref (g 36)), (1, .int n)]) hx hb dX0_listedOn_3 rfl hl (by decide) rfl (fun ls hl => ?_)
  have key1 : ∀ (n9 : Nat) (u : Int32) (i : Nat) (ls : Array Slot), (i ≤ nr) → nr - i < n9 → lv_has ls 5 [(0, .ref (g 36)), (1, .int n), (2, .int u), (3, .int (nI i))] → W p l e (headSpec (wsT yX0_listedOn cX0_listedOn 5 (some .int)) ({ frames := 2, cells := 0, slots := 0, locals := 40 })).room s m ([.ref (g 36), .int n] : List Value).toArray below meth c s.heap [] 0 0 (MQ below (rQi (fun z9 => True)) ([.ref (g 36), .int n] : List Value).toArray s 0 0 fr0) (F0 m 4 ls []) := by
    intro n9
    induction n9 with
    | zero => intro u i ls hi hn9; exact absurd hn9 (Nat.not_lt_zero _)
    | succ n9 ih =>
      intro u i ls hi hn9 hl
      refine lv_iload_n hx hb dX0_listedOn_4 rfl (lv_at hl 3 rfl) ?_
      refine lv_aload_n hx hb dX0_listedOn_5 rfl (lv_at hl 0 rfl) ?_
      refine va_get (D := G.1) (ci := 0) (v := .ref (g 41)) (C := RX0) (T := TX0) (N := 9) hx hb hts inlX0 hown hG.1 hP 36 (wl_at (by decide) hbk) rfl 2 (by decide) (hts (.fieldLink RX0 23 "SwornLists$Book" "rolls" "LSwornLists$Rows;") w_56) (fun _ h9 => h9) rfl dX0_listedOn_6 ?_
      refine rd_calli (va_runV (As := []) (rest := [.int (nI i)]) ⟨hx, hb, hml, hown, hts⟩ (r_size l G g hg f 41 4 3 nr hor (by first | assumption | omega | decide) (by first | assumption | omega | decide) (by first | assumption | omega | decide) (by first | assumption | omega | decide)) (my_cwV hts ok_X5_size w_202 rfl rfl ⟨Nat.le_of_ble_eq_true rfl, Nat.le_of_ble_eq_true rfl⟩) ⟨bP.blind, va_recv hG.1 hP (ci := 5) (q0 := 41) rfl (wl_at (by decide) hor), fun U hU hW => ⟨rfl, by rw [hU]; exact hP, kG.warm hW hG⟩⟩ rfl rfl hl.1 rfl (lv_room (Nat.le_of_ble_eq_true rfl)) dX0_listedOn_9 ⟨Nat.le_of_ble_eq_true rfl, Nat.le_of_ble_eq_true rfl⟩) (fun r hr9 => ?_)
      subst hr9
      refine lv_icmp_ge (tgt := 74) hx hb dX0_listedOn_12 (by decide) (fun c_12 => ?_) (fun c_12 => ?_)
      · refine lv_iload_n hx hb dX0_listedOn_74 rfl (lv_at hl 2 rfl) ?_
        refine lv_iconst (v := (-1)) hx hb dX0_listedOn_75 (by decide) ?_
        refine lv_icmp_ne (tgt := 86) hx hb dX0_listedOn_76 (by decide) (fun c_76 => ?_) (fun c_76 => ?_)
        · refine lv_aload_n hx hb dX0_listedOn_86 rfl (lv_at hl 0 rfl) ?_
          refine va_get (D := G.1) (ci := 0) (v := .ref (g 41)) (C := RX0) (T := TX0) (N := 9) hx hb hts inlX0 hown hG.1 hP 36 (wl_at (by decide) hbk) rfl 2 (by decide) (hts (.fieldLink RX0 23 "SwornLists$Book" "rolls" "LSwornLists$Rows;") w_56) (fun _ h9 => h9) rfl dX0_listedOn_87 ?_
          refine lv_iload_n hx hb dX0_listedOn_90 rfl (lv_at hl 2 rfl) ?_
          refine lv_iconst (v := 0) hx hb dX0_listedOn_91 (by decide) ?_
          refine rd_calli (va_runV (As := [.int u, .int 0]) (rest := []) ⟨hx, hb, hml, hown, hts⟩ (r_at l G g hg f 41 4 3 nr dr u 0 hor hod (by first | assumption | omega | decide) (by first | assumption | omega | decide) (by first | assumption | omega | decide) (by first | assumption | omega | decide)) (my_cwV hts ok_X5_at w_225 rfl rfl ⟨Nat.le_of_ble_eq_true rfl, Nat.le_of_ble_eq_true rfl⟩) ⟨bP.blind, va_recv hG.1 hP (ci := 5) (q0 := 41) rfl (wl_at (by decide) hor), fun U hU hW => ⟨rfl, by rw [hU]; exact hP, kG.warm hW hG⟩⟩ rfl rfl hl.1 rfl (lv_room (Nat.le_of_ble_eq_true rfl)) dX0_listedOn_92 ⟨Nat.le_of_ble_eq_true rfl, Nat.le_of_ble_eq_true rfl⟩) (fun r hr9 => ?_)
          subst hr9
          exact W.iret (v := atv dr nr 3 u 0) hx hb hr (fun t ht hW => ⟨_, rfl, (trivial), ht⟩) (fun _ h => absurd h List.not_mem_nil) dX0_listedOn_95
        · refine lv_aload_n hx hb dX0_listedOn_79 rfl (lv_at hl 0 rfl) ?_
          refine rd_calli (va_runV (As := []) (rest := []) ⟨hx, hb, hml, hown, hts⟩ (k_everyone l G g hg f pay fine np dp hbk hpr hpd (by first | assumption | omega | decide)) (my_cwV hts ok_X0_everyone w_229 rfl rfl ⟨Nat.le_of_ble_eq_true rfl, Nat.le_of_ble_eq_true rfl⟩) ⟨bP.blind, va_recv hG.1 hP (ci := 0) (q0 := 36) rfl (wl_at (by decide) hbk), fun U hU hW => ⟨rfl, by rw [hU]; exact hP, kG.warm hW hG⟩⟩ rfl rfl hl.1 rfl (lv_room (Nat.le_of_ble_eq_true rfl)) dX0_listedOn_80 ⟨Nat.le_of_ble_eq_true rfl, Nat.le_of_ble_eq_true rfl⟩) (fun v2 _ => ?_)
          refine lv_goto (tgt := 95) hx hb dX0_listedOn_83 (by decide) ?_
          exact W.iret (v := v2) hx hb hr (fun t ht hW => ⟨_, rfl, (trivial), ht⟩) (fun _ h => absurd h List.not_mem_nil) dX0_listedOn_95
      · have hi9 : i < nr := Nat.not_le.mp (fun z => c_12 (nI_le z (by omega)))
        refine lv_aload_n hx hb dX0_listedOn_15 rfl (lv_at hl 0 rfl) ?_
        refine va_get (D := G.1) (ci := 0) (v := .ref (g 41)) (C := RX0) (T := TX0) (N := 9) hx hb hts inlX0 hown hG.1 hP 36 (wl_at (by decide) hbk) rfl 2 (by decide) (hts (.fieldLink RX0 23 "SwornLists$Book" "rolls" "LSwornLists$Rows;") w_56) (fun _ h9 => h9) rfl dX0_listedOn_16 ?_
        refine lv_iload_n hx hb dX0_listedOn_19 rfl (lv_at hl 3 rfl) ?_
        refine lv_iconst (v := 2) hx hb dX0_listedOn_20 (by decide) ?_
        refine rd_calli (va_runV (As := [.int (nI i), .int 2]) (rest := []) ⟨hx, hb, hml, hown, hts⟩ (r_at l G g hg f 41 4 3 nr dr (nI i) 2 hor hod (by first | assumption | omega | decide) (by first | assumption | omega | decide) (by first | assumption | omega | decide) (by first | assumption | omega | decide)) (my_cwV hts ok_X5_at w_225 rfl rfl ⟨Nat.le_of_ble_eq_true rfl, Nat.le_of_ble_eq_true rfl⟩) ⟨bP.blind, va_recv hG.1 hP (ci := 5) (q0 := 41) rfl (wl_at (by decide) hor), fun U hU hW => ⟨rfl, by rw [hU]; exact hP, kG.warm hW hG⟩⟩ rfl rfl hl.1 rfl (lv_room (Nat.le_of_ble_eq_true rfl)) dX0_listedOn_21 ⟨Nat.le_of_ble_eq_true rfl, Nat.le_of_ble_eq_true rfl⟩) (fun r hr9 => ?_)
        subst hr9
        refine lv_iload_n hx hb dX0_listedOn_24 rfl (lv_at hl 1 rfl) ?_
        refine lv_icmp_gt (tgt := 32) hx hb dX0_listedOn_25 (by decide) (fun c_25 => ?_) (fun c_25 => ?_)
        · refine lv_iconst (v := 0) hx hb dX0_listedOn_32 (by decide) ?_
          refine lv_istore (lv' := [(4, .int 0), (0, .ref (g 36)), (1, .int n), (2, .int u), (3, .int (nI i))]) hx hb dX0_listedOn_33 hl (by decide) rfl (fun ls hl => ?_)
          refine lv_iload hx hb dX0_listedOn_35 (lv_at hl 0 rfl) ?_
          refine lv_if_eq (tgt := 68) hx hb dX0_listedOn_37 (by decide) (fun c_37 => ?_) (fun c_37 => absurd (by decide) c_37)
          refine lv_iinc (v := nI (i + 1)) (lv' := [(3, .int (nI (i + 1))), (4, .int 0), (0, .ref (g 36)), (1, .int n), (2, .int u)]) hx hb dX0_listedOn_68 hl (k := 4) rfl (nI_1 i) (by decide) rfl (fun ls hl => ?_)
          refine lv_goto (tgt := 4) hx hb dX0_listedOn_71 (by decide) ?_
          exact ih u (i + 1) _ (hi9) (by omega) (lv_sub hl [2, 3, 4, 0] rfl)
        · refine lv_iconst (v := 1) hx hb dX0_listedOn_28 (by decide) ?_
          refine lv_goto (tgt := 33) hx hb dX0_listedOn_29 (by decide) ?_
          refine lv_istore (lv' := [(4, .int 1), (0, .ref (g 36)), (1, .int n), (2, .int u), (3, .int (nI i))]) hx hb dX0_listedOn_33 hl (by decide) rfl (fun ls hl => ?_)
          refine lv_iload hx hb dX0_listedOn_35 (lv_at hl 0 rfl) ?_
          refine lv_if_eq (tgt := 68) hx hb dX0_listedOn_37 (by decide) (fun c_37 => absurd c_37 (by decide)) (fun c_37 => ?_)
          refine lv_iload_n hx hb dX0_listedOn_40 rfl (lv_at hl 3 rfl) ?_
          refine lv_iconst (v := (-1)) hx hb dX0_listedOn_41 (by decide) ?_
          refine lv_icmp_eq (tgt := 66) hx hb dX0_listedOn_42 (by decide) (fun c_42 => ?_) (fun c_42 => ?_)
          · refine lv_iload_n hx hb dX0_listedOn_66 rfl (lv_at hl 4 rfl) ?_
            refine lv_istore_n (lv' := [(2, .int (nI i)), (4, .int 1), (0, .ref (g 36)), (1, .int n), (3, .int (nI i))]) hx hb dX0_listedOn_67 rfl hl (by decide) rfl (fun ls hl => ?_)
            refine lv_iinc (v := nI (i + 1)) (lv' := [(3, .int (nI (i + 1))), (2, .int (nI i)), (4, .int 1), (0, .ref (g 36)), (1, .int n)]) hx hb dX0_listedOn_68 hl (k := 4) rfl (nI_1 i) (by decide) rfl (fun ls hl => ?_)
            refine lv_goto (tgt := 4) hx hb dX0_listedOn_71 (by decide) ?_
            exact ih (nI i) (i + 1) _ (hi9) (by omega) (lv_sub hl [3, 4, 1, 0] rfl)
          · refine lv_aload_n hx hb dX0_listedOn_45 rfl (lv_at hl 1 rfl) ?_
            refine va_get (D := G.1) (ci := 0) (v := .ref (g 41)) (C := RX0) (T := TX0) (N := 9) hx hb hts inlX0 hown hG.1 hP 36 (wl_at (by decide) hbk) rfl 2 (by decide) (hts (.fieldLink RX0 23 "SwornLists$Book" "rolls" "LSwornLists$Rows;") w_56) (fun _ h9 => h9) rfl dX0_listedOn_46 ?_
            refine lv_iload_n hx hb dX0_listedOn_49 rfl (lv_at hl 4 rfl) ?_
            refine lv_iconst (v := 1) hx hb dX0_listedOn_50 (by decide) ?_
            refine rd_calli (va_runV (As := [.int (nI i), .int 1]) (rest := []) ⟨hx, hb, hml, hown, hts⟩ (r_at l G g hg f 41 4 3 nr dr (nI i) 1 hor hod (by first | assumption | omega | decide) (by first | assumption | omega | decide) (by first | assumption | omega | decide) (by first | assumption | omega | decide)) (my_cwV hts ok_X5_at w_225 rfl rfl ⟨Nat.le_of_ble_eq_true rfl, Nat.le_of_ble_eq_true rfl⟩) ⟨bP.blind, va_recv hG.1 hP (ci := 5) (q0 := 41) rfl (wl_at (by decide) hor), fun U hU hW => ⟨rfl, by rw [hU]; exact hP, kG.warm hW hG⟩⟩ rfl rfl hl.1 rfl (lv_room (Nat.le_of_ble_eq_true rfl)) dX0_listedOn_51 ⟨Nat.le_of_ble_eq_true rfl, Nat.le_of_ble_eq_true rfl⟩) (fun r hr9 => ?_)
            subst hr9
            refine lv_aload_n hx hb dX0_listedOn_54 rfl (lv_at hl 1 rfl) ?_
            refine va_get (D := G.1) (ci := 0) (v := .ref (g 41)) (C := RX0) (T := TX0) (N := 9) hx hb hts inlX0 hown hG.1 hP 36 (wl_at (by decide) hbk) rfl 2 (by decide) (hts (.fieldLink RX0 23 "SwornLists$Book" "rolls" "LSwornLists$Rows;") w_56) (fun _ h9 => h9) rfl dX0_listedOn_55 ?_
            refine lv_iload_n hx hb dX0_listedOn_58 rfl (lv_at hl 3 rfl) ?_
            refine lv_iconst (v := 1) hx hb dX0_listedOn_59 (by decide) ?_
            refine rd_calli (va_runV (As := [.int u, .int 1]) (rest := [.int (atv dr nr 3 (nI i) 1)]) ⟨hx, hb, hml, hown, hts⟩ (r_at l G g hg f 41 4 3 nr dr u 1 hor hod (by first | assumption | omega | decide) (by first | assumption | omega | decide) (by first | assumption | omega | decide) (by first | assumption | omega | decide)) (my_cwV hts ok_X5_at w_225 rfl rfl ⟨Nat.le_of_ble_eq_true rfl, Nat.le_of_ble_eq_true rfl⟩) ⟨bP.blind, va_recv hG.1 hP (ci := 5) (q0 := 41) rfl (wl_at (by decide) hor), fun U hU hW => ⟨rfl, by rw [hU]; exact hP, kG.warm hW hG⟩⟩ rfl rfl hl.1 rfl (lv_room (Nat.le_of_ble_eq_true rfl)) dX0_listedOn_60 ⟨Nat.le_of_ble_eq_true rfl, Nat.le_of_ble_eq_true rfl⟩) (fun r hr9 => ?_)
            subst hr9
            refine lv_icmp_lt (tgt := 68) hx hb dX0_listedOn_63 (by decide) (fun c_63 => ?_) (fun c_63 => ?_)
            · refine lv_iinc (v := nI (i + 1)) (lv' := [(3, .int (nI (i + 1))), (4, .int 1), (0, .ref (g 36)), (1, .int n), (2, .int u)]) hx hb dX0_listedOn_68 hl (k := 4) rfl (nI_1 i) (by decide) rfl (fun ls hl => ?_)
              refine lv_goto (tgt := 4) hx hb dX0_listedOn_71 (by decide) ?_
              exact ih u (i + 1) _ (hi9) (by omega) (lv_sub hl [2, 3, 4, 0] rfl)
            · refine lv_iload_n hx hb dX0_listedOn_66 rfl (lv_at hl 4 rfl) ?_
              refine lv_istore_n (lv' := [(2, .int (nI i)), (4, .int 1), (0, .ref (g 36)), (1, .int n), (3, .int (nI i))]) hx hb dX0_listedOn_67 rfl hl (by decide) rfl (fun ls hl => ?_)
              refine lv_iinc (v := nI (i + 1)) (lv' := [(3, .int (nI (i + 1))), (2, .int (nI i)), (4, .int 1), (0, .ref (g 36)), (1, .int n)]) hx hb dX0_listedOn_68 hl (k := 4) rfl (nI_1 i) (by decide) rfl (fun ls hl => ?_)
              refine lv_goto (tgt := 4) hx hb dX0_listedOn_71 (by decide) ?_
              exact ih (nI i) (i + 1) _ (hi9) (by omega) (lv_sub hl [3, 4, 1, 0] rfl)
  exact key1 (nr + 1) (-1) 0 _ (Nat.zero_le _) (by omega) (lv_sub hl [2, 3, 1, 0] rfl)
set_option maxHeartbeats 4000000 in
set_option maxRecDepth 100000 in
theorem k_kinOfSides (l : Launch) (G : gW) (g : Nat → Nat) (hg : gOK g) (f : Nat → va_E) (pay : Int32) (fine : Int32) (nf : Nat) (df : Nat → Int32) (nt : Nat) (ct : Nat → Int32) (n : Int32) (q : Int32) (hbk : f 36 = eO 0 [.ref (g 37), .ref (g 39), .ref (g 41), .ref (g 43), .ref (g 45), .ref (g 47), .ref (g 112), .int pay, .int fine]) (hfr : f 39 = eO 5 [.int (nI 40), .int (nI 3), .ref (g 40), .int (nI nf)]) (hfd : f 40 = eI G (40 * 3) df) (htr : f 45 = eO 5 [.int (nI 10), .int (nI 70), .ref (g 46), .int (nI nt)]) (hct : f 46 = eI G (10 * 70) ct) (hnf : nf ≤ 40) (hnt : nt ≤ 10) : Met l yX0_kinOfSides (wsT yX0_kinOfSides cX0_kinOfSides 7 (some .int)) ({ frames := 1, cells := 0, slots := 0, locals := 23 }) (bP G g f [.ref (g 36), .int n, .int q]) (rQi (fun z9 => True)) 0 0 fr0 := by
  refine Met.ofW (cc := cX0_kinOfSides) (maxL := 7) (ret := (some .int)) (by decide) rfl ?_
  intro p e s m args below meth c s₁ B hml hv
  obtain ⟨rfl, hP, hG⟩ := hv
  have hx := B.exec
  have hb := B.bytes
  have hr := B.returns
  have hts := my_hts (atoms_spec (ws := wsT yX0_kinOfSides cX0_kinOfSides 7 (some .int)) B.pre)
  have hown : s.vm.findClass RX0 = some m.cls := findClass_of_methodNamed B.named
  have hlocks := B.notSynchronized
  have hl := lv_entry ([.ref (g 36), .int n, .int q]) (n := 7) (Nat.le_of_ble_eq_true rfl)
  rw [lg_entry_eq]
  generalize (lg_sl ([.ref (g 36), .int n, .int q]) ++ List.replicate (7 - (lg_sl ([.ref (g 36), .int n, .int q])).length) Slot.unset).toArray = ls at hl ⊢
  have hl : lv_has ls 7 [(0, .ref (g 36)), (1, .int n), (2, .int q)] := hl
  refine lv_iconst (v := 0) hx hb dX0_kinOfSides_0 (by decide) ?_
  refine lv_istore_n (lv' := [(3, .int 0), (0, .ref (g 36)), (1, .int n), (2, .int q)]) hx hb dX0_kinOfSides_1 rfl hl (by decide) rfl (fun ls hl => ?_)
  refine lv_iconst (v := 0) hx hb dX0_kinOfSides_2 (by decide) ?_
  refine lv_istore (lv' := [(4, .int 0), (3, .int 0), (0, .ref (g 36)), (1, .int n), (2, .int q)]) hx hb dX0_kinOfSides_3 hl (by decide) rfl (fun ls hl => ?_)
  have key1 : ∀ (n9 : Nat) (u : Int32) (i : Nat) (ls : Array Slot), (i ≤ nf) → nf - i < n9 → lv_has ls 7 [(0, .ref (g 36)), (1, .int n), (2, .int q), (3, .int u), (4, .int (nI i))] → W p l e (headSpec (wsT yX0_kinOfSides cX0_kinOfSides 7 (some .int)) ({ frames := 1, cells := 0, slots := 0, locals := 23 })).room s m ([.ref (g 36), .int n, .int q] : List Value).toArray below meth c s.heap [] 0 0 (MQ below (rQi (fun z9 => True)) ([.ref (g 36), .int n, .int q] : List Value).toArray s 0 0 fr0) (F0 m 5 ls []) := by
    intro n9
    induction n9 with
    | zero => intro u i ls hi hn9; exact absurd hn9 (Nat.not_lt_zero _)
    | succ n9 ih =>
      intro u i ls hi hn9 hl
      refine lv_iload hx hb dX0_kinOfSides_5 (lv_at hl 4 rfl) ?_
      refine lv_aload_n hx hb dX0_kinOfSides_7 rfl (lv_at hl 0 rfl) ?_
      refine va_get (D := G.1) (ci := 0) (v := .ref (g 39)) (C := RX0) (T := TX0) (N := 9) hx hb hts inlX0 hown hG.1 hP 36 (wl_at (by decide) hbk) rfl 1 (by decide) (hts (.fieldLink RX0 20 "SwornLists$Book" "facts" "LSwornLists$Rows;") w_55) (fun _ h9 => h9) rfl dX0_kinOfSides_8 ?_
      refine rd_calli (va_runV (As := []) (rest := [.int (nI i)]) ⟨hx, hb, hml, hown, hts⟩ (r_size l G g hg f 39 40 3 nf hfr (by first | assumption | omega | decide) (by first | assumption | omega | decide) (by first | assumption | omega | decide) (by first | assumption | omega | decide)) (my_cwV hts ok_X5_size w_202 rfl rfl ⟨Nat.le_of_ble_eq_true rfl, Nat.le_of_ble_eq_true rfl⟩) ⟨bP.blind, va_recv hG.1 hP (ci := 5) (q0 := 39) rfl (wl_at (by decide) hfr), fun U hU hW => ⟨rfl, by rw [hU]; exact hP, kG.warm hW hG⟩⟩ rfl rfl hl.1 rfl (lv_room (Nat.le_of_ble_eq_true rfl)) dX0_kinOfSides_11 ⟨Nat.le_of_ble_eq_true rfl, Nat.le_of_ble_eq_true rfl⟩) (fun r hr9 => ?_)
      subst hr9
      refine lv_icmp_ge (tgt := 104) hx hb dX0_kinOfSides_14 (by decide) (fun c_14 => ?_) (fun c_14 => ?_)
      · refine lv_iload_n hx hb dX0_kinOfSides_104 rfl (lv_at hl 3 rfl) ?_
        exact W.iret (v := u) hx hb hr (fun t ht hW => ⟨_, rfl, (trivial), ht⟩) (fun _ h => absurd h List.not_mem_nil) dX0_kinOfSides_105
      · have hi9 : i < nf := Nat.not_le.mp (fun z => c_14 (nI_le z (by omega)))
        refine lv_aload_n hx hb dX0_kinOfSides_17 rfl (lv_at hl 0 rfl) ?_
        refine va_get (D := G.1) (ci := 0) (v := .ref (g 39)) (C := RX0) (T := TX0) (N := 9) hx hb hts inlX0 hown hG.1 hP 36 (wl_at (by decide) hbk) rfl 1 (by decide) (hts (.fieldLink RX0 20 "SwornLists$Book" "facts" "LSwornLists$Rows;") w_55) (fun _ h9 => h9) rfl dX0_kinOfSides_18 ?_
        refine lv_iload hx hb dX0_kinOfSides_21 (lv_at hl 4 rfl) ?_
        refine lv_iconst (v := 1) hx hb dX0_kinOfSides_23 (by decide) ?_
        refine rd_calli (va_runV (As := [.int (nI i), .int 1]) (rest := []) ⟨hx, hb, hml, hown, hts⟩ (r_at l G g hg f 39 40 3 nf df (nI i) 1 hfr hfd (by first | assumption | omega | decide) (by first | assumption | omega | decide) (by first | assumption | omega | decide) (by first | assumption | omega | decide)) (my_cwV hts ok_X5_at w_225 rfl rfl ⟨Nat.le_of_ble_eq_true rfl, Nat.le_of_ble_eq_true rfl⟩) ⟨bP.blind, va_recv hG.1 hP (ci := 5) (q0 := 39) rfl (wl_at (by decide) hfr), fun U hU hW => ⟨rfl, by rw [hU]; exact hP, kG.warm hW hG⟩⟩ rfl rfl hl.1 rfl (lv_room (Nat.le_of_ble_eq_true rfl)) dX0_kinOfSides_24 ⟨Nat.le_of_ble_eq_true rfl, Nat.le_of_ble_eq_true rfl⟩) (fun r hr9 => ?_)
        subst hr9
        refine lv_istore (lv' := [(5, .int (atv df nf 3 (nI i) 1)), (0, .ref (g 36)), (1, .int n), (2, .int q), (3, .int u), (4, .int (nI i))]) hx hb dX0_kinOfSides_27 hl (by decide) rfl (fun ls hl => ?_)
        refine lv_iload hx hb dX0_kinOfSides_29 (lv_at hl 0 rfl) ?_
        refine lv_aload_n hx hb dX0_kinOfSides_31 rfl (lv_at hl 1 rfl) ?_
        refine va_get (D := G.1) (ci := 0) (v := .ref (g 45)) (C := RX0) (T := TX0) (N := 9) hx hb hts inlX0 hown hG.1 hP 36 (wl_at (by decide) hbk) rfl 4 (by decide) (hts (.fieldLink RX0 29 "SwornLists$Book" "trials" "LSwornLists$Rows;") w_58) (fun _ h9 => h9) rfl dX0_kinOfSides_32 ?_
        refine lv_iload_n hx hb dX0_kinOfSides_35 rfl (lv_at hl 2 rfl) ?_
        refine lv_iconst (v := 3) hx hb dX0_kinOfSides_36 (by decide) ?_
        refine rd_calli (va_runV (As := [.int n, .int 3]) (rest := [.int (atv df nf 3 (nI i) 1)]) ⟨hx, hb, hml, hown, hts⟩ (r_at l G g hg f 45 10 70 nt ct n 3 htr hct (by first | assumption | omega | decide) (by first | assumption | omega | decide) (by first | assumption | omega | decide) (by first | assumption | omega | decide)) (my_cwV hts ok_X5_at w_225 rfl rfl ⟨Nat.le_of_ble_eq_true rfl, Nat.le_of_ble_eq_true rfl⟩) ⟨bP.blind, va_recv hG.1 hP (ci := 5) (q0 := 45) rfl (wl_at (by decide) htr), fun U hU hW => ⟨rfl, by rw [hU]; exact hP, kG.warm hW hG⟩⟩ rfl rfl hl.1 rfl (lv_room (Nat.le_of_ble_eq_true rfl)) dX0_kinOfSides_37 ⟨Nat.le_of_ble_eq_true rfl, Nat.le_of_ble_eq_true rfl⟩) (fun r hr9 => ?_)
        subst hr9
        refine lv_icmp_eq (tgt := 57) hx hb dX0_kinOfSides_40 (by decide) (fun c_40 => ?_) (fun c_40 => ?_)
        · refine lv_iconst (v := 1) hx hb dX0_kinOfSides_57 (by decide) ?_
          refine lv_goto (tgt := 62) hx hb dX0_kinOfSides_58 (by decide) ?_
          refine lv_istore (lv' := [(6, .int 1), (5, .int (atv df nf 3 (nI i) 1)), (0, .ref (g 36)), (1, .int n), (2, .int q), (3, .int u), (4, .int (nI i))]) hx hb dX0_kinOfSides_62 hl (by decide) rfl (fun ls hl => ?_)
          refine lv_iload hx hb dX0_kinOfSides_64 (lv_at hl 0 rfl) ?_
          refine lv_if_eq (tgt := 98) hx hb dX0_kinOfSides_66 (by decide) (fun c_66 => absurd c_66 (by decide)) (fun c_66 => ?_)
          refine lv_aload_n hx hb dX0_kinOfSides_69 rfl (lv_at hl 2 rfl) ?_
          refine va_get (D := G.1) (ci := 0) (v := .ref (g 39)) (C := RX0) (T := TX0) (N := 9) hx hb hts inlX0 hown hG.1 hP 36 (wl_at (by decide) hbk) rfl 1 (by decide) (hts (.fieldLink RX0 20 "SwornLists$Book" "facts" "LSwornLists$Rows;") w_55) (fun _ h9 => h9) rfl dX0_kinOfSides_70 ?_
          refine lv_iload hx hb dX0_kinOfSides_73 (lv_at hl 6 rfl) ?_
          refine lv_iconst (v := 2) hx hb dX0_kinOfSides_75 (by decide) ?_
          refine rd_calli (va_runV (As := [.int (nI i), .int 2]) (rest := []) ⟨hx, hb, hml, hown, hts⟩ (r_at l G g hg f 39 40 3 nf df (nI i) 2 hfr hfd (by first | assumption | omega | decide) (by first | assumption | omega | decide) (by first | assumption | omega | decide) (by first | assumption | omega | decide)) (my_cwV hts ok_X5_at w_225 rfl rfl ⟨Nat.le_of_ble_eq_true rfl, Nat.le_of_ble_eq_true rfl⟩) ⟨bP.blind, va_recv hG.1 hP (ci := 5) (q0 := 39) rfl (wl_at (by decide) hfr), fun U hU hW => ⟨rfl, by rw [hU]; exact hP, kG.warm hW hG⟩⟩ rfl rfl hl.1 rfl (lv_room (Nat.le_of_ble_eq_true rfl)) dX0_kinOfSides_76 ⟨Nat.le_of_ble_eq_true rfl, Nat.le_of_ble_eq_true rfl⟩) (fun r hr9 => ?_)
          subst hr9
          refine lv_iload_n hx hb dX0_kinOfSides_79 rfl (lv_at hl 4 rfl) ?_
          refine lv_icmp_gt (tgt := 98) hx hb dX0_kinOfSides_80 (by decide) (fun c_80 => ?_) (fun c_80 => ?_)
          · refine lv_iinc (v := nI (i + 1)) (lv' := [(4, .int (nI (i + 1))), (6, .int 1), (5, .int (atv df nf 3 (nI i) 1)), (0, .ref (g 36)), (1, .int n), (2, .int q), (3, .int u)]) hx hb dX0_kinOfSides_98 hl (k := 6) rfl (nI_1 i) (by decide) rfl (fun ls hl => ?_)
            refine lv_goto (tgt := 5) hx hb dX0_kinOfSides_101 (by decide) ?_
            exact ih u (i + 1) _ (hi9) (by omega) (lv_sub hl [3, 4, 5, 6, 0] rfl)
          · refine lv_iload_n hx hb dX0_kinOfSides_83 rfl (lv_at hl 5 rfl) ?_
            refine lv_iconst (v := 1) hx hb dX0_kinOfSides_84 (by decide) ?_
            refine lv_aload_n hx hb dX0_kinOfSides_85 rfl (lv_at hl 2 rfl) ?_
            refine va_get (D := G.1) (ci := 0) (v := .ref (g 39)) (C := RX0) (T := TX0) (N := 9) hx hb hts inlX0 hown hG.1 hP 36 (wl_at (by decide) hbk) rfl 1 (by decide) (hts (.fieldLink RX0 20 "SwornLists$Book" "facts" "LSwornLists$Rows;") w_55) (fun _ h9 => h9) rfl dX0_kinOfSides_86 ?_
            refine lv_iload hx hb dX0_kinOfSides_89 (lv_at hl 6 rfl) ?_
            refine lv_iconst (v := 0) hx hb dX0_kinOfSides_91 (by decide) ?_
            refine rd_calli (va_runV (As := [.int (nI i), .int 0]) (rest := [.int 1, .int u]) ⟨hx, hb, hml, hown, hts⟩ (r_at l G g hg f 39 40 3 nf df (nI i) 0 hfr hfd (by first | assumption | omega | decide) (by first | assumption | omega | decide) (by first | assumption | omega | decide) (by first | assumption | omega | decide)) (my_cwV hts ok_X5_at w_225 rfl rfl ⟨Nat.le_of_ble_eq_true rfl, Nat.le_of_ble_eq_true rfl⟩) ⟨bP.blind, va_recv hG.1 hP (ci := 5) (q0 := 39) rfl (wl_at (by decide) hfr), fun U hU hW => ⟨rfl, by rw [hU]; exact hP, kG.warm hW hG⟩⟩ rfl rfl hl.1 rfl (lv_room (Nat.le_of_ble_eq_true rfl)) dX0_kinOfSides_92 ⟨Nat.le_of_ble_eq_true rfl, Nat.le_of_ble_eq_true rfl⟩) (fun r hr9 => ?_)
            subst hr9
            refine lv_ishl hx hb dX0_kinOfSides_95 ?_
            refine lv_ior hx hb dX0_kinOfSides_96 ?_
            refine lv_istore_n (lv' := [(3, .int (u ||| (1 <<< ((atv df nf 3 (nI i) 0) &&& 31)))), (6, .int 1), (5, .int (atv df nf 3 (nI i) 1)), (0, .ref (g 36)), (1, .int n), (2, .int q), (4, .int (nI i))]) hx hb dX0_kinOfSides_97 rfl hl (by decide) rfl (fun ls hl => ?_)
            refine lv_iinc (v := nI (i + 1)) (lv' := [(4, .int (nI (i + 1))), (3, .int (u ||| (1 <<< ((atv df nf 3 (nI i) 0) &&& 31)))), (6, .int 1), (5, .int (atv df nf 3 (nI i) 1)), (0, .ref (g 36)), (1, .int n), (2, .int q)]) hx hb dX0_kinOfSides_98 hl (k := 6) rfl (nI_1 i) (by decide) rfl (fun ls hl => ?_)
            refine lv_goto (tgt := 5) hx hb dX0_kinOfSides_101 (by decide) ?_
            exact ih (u ||| (1 <<< ((atv df nf 3 (nI i) 0) &&& 31))) (i + 1) _ (hi9) (by omega) (lv_sub hl [4, 5, 6, 1, 0] rfl)
        · refine lv_iload hx hb dX0_kinOfSides_43 (lv_at hl 0 rfl) ?_
          refine lv_aload_n hx hb dX0_kinOfSides_45 rfl (lv_at hl 1 rfl) ?_
          refine va_get (D := G.1) (ci := 0) (v := .ref (g 45)) (C := RX0) (T := TX0) (N := 9) hx hb hts inlX0 hown hG.1 hP 36 (wl_at (by decide) hbk) rfl 4 (by decide) (hts (.fieldLink RX0 29 "SwornLists$Book" "trials" "LSwornLists$Rows;") w_58) (fun _ h9 => h9) rfl dX0_kinOfSides_46 ?_
          refine lv_iload_n hx hb dX0_kinOfSides_49 rfl (lv_at hl 2 rfl) ?_
          refine lv_iconst (v := 4) hx hb dX0_kinOfSides_50 (by decide) ?_
          refine rd_calli (va_runV (As := [.int n, .int 4]) (rest := [.int (atv df nf 3 (nI i) 1)]) ⟨hx, hb, hml, hown, hts⟩ (r_at l G g hg f 45 10 70 nt ct n 4 htr hct (by first | assumption | omega | decide) (by first | assumption | omega | decide) (by first | assumption | omega | decide) (by first | assumption | omega | decide)) (my_cwV hts ok_X5_at w_225 rfl rfl ⟨Nat.le_of_ble_eq_true rfl, Nat.le_of_ble_eq_true rfl⟩) ⟨bP.blind, va_recv hG.1 hP (ci := 5) (q0 := 45) rfl (wl_at (by decide) htr), fun U hU hW => ⟨rfl, by rw [hU]; exact hP, kG.warm hW hG⟩⟩ rfl rfl hl.1 rfl (lv_room (Nat.le_of_ble_eq_true rfl)) dX0_kinOfSides_51 ⟨Nat.le_of_ble_eq_true rfl, Nat.le_of_ble_eq_true rfl⟩) (fun r hr9 => ?_)
          subst hr9
          refine lv_icmp_ne (tgt := 61) hx hb dX0_kinOfSides_54 (by decide) (fun c_54 => ?_) (fun c_54 => ?_)
          · refine lv_iconst (v := 0) hx hb dX0_kinOfSides_61 (by decide) ?_
            refine lv_istore (lv' := [(6, .int 0), (5, .int (atv df nf 3 (nI i) 1)), (0, .ref (g 36)), (1, .int n), (2, .int q), (3, .int u), (4, .int (nI i))]) hx hb dX0_kinOfSides_62 hl (by decide) rfl (fun ls hl => ?_)
            refine lv_iload hx hb dX0_kinOfSides_64 (lv_at hl 0 rfl) ?_
            refine lv_if_eq (tgt := 98) hx hb dX0_kinOfSides_66 (by decide) (fun c_66 => ?_) (fun c_66 => absurd (by decide) c_66)
            refine lv_iinc (v := nI (i + 1)) (lv' := [(4, .int (nI (i + 1))), (6, .int 0), (5, .int (atv df nf 3 (nI i) 1)), (0, .ref (g 36)), (1, .int n), (2, .int q), (3, .int u)]) hx hb dX0_kinOfSides_98 hl (k := 6) rfl (nI_1 i) (by decide) rfl (fun ls hl => ?_)
            refine lv_goto (tgt := 5) hx hb dX0_kinOfSides_101 (by decide) ?_
            exact ih u (i + 1) _ (hi9) (by omega) (lv_sub hl [3, 4, 5, 6, 0] rfl)
          · refine lv_iconst (v := 1) hx hb dX0_kinOfSides_57 (by decide) ?_
            refine lv_goto (tgt := 62) hx hb dX0_kinOfSides_58 (by decide) ?_
            refine lv_istore (lv' := [(6, .int 1), (5, .int (atv df nf 3 (nI i) 1)), (0, .ref (g 36)), (1, .int n), (2, .int q), (3, .int u), (4, .int (nI i))]) hx hb dX0_kinOfSides_62 hl (by decide) rfl (fun ls hl => ?_)
            refine lv_iload hx hb dX0_kinOfSides_64 (lv_at hl 0 rfl) ?_
            refine lv_if_eq (tgt := 98) hx hb dX0_kinOfSides_66 (by decide) (fun c_66 => absurd c_66 (by decide)) (fun c_66 => ?_)
            refine lv_aload_n hx hb dX0_kinOfSides_69 rfl (lv_at hl 2 rfl) ?_
            refine va_get (D := G.1) (ci := 0) (v := .ref (g 39)) (C := RX0) (T := TX0) (N := 9) hx hb hts inlX0 hown hG.1 hP 36 (wl_at (by decide) hbk) rfl 1 (by decide) (hts (.fieldLink RX0 20 "SwornLists$Book" "facts" "LSwornLists$Rows;") w_55) (fun _ h9 => h9) rfl dX0_kinOfSides_70 ?_
            refine lv_iload hx hb dX0_kinOfSides_73 (lv_at hl 6 rfl) ?_
            refine lv_iconst (v := 2) hx hb dX0_kinOfSides_75 (by decide) ?_
            refine rd_calli (va_runV (As := [.int (nI i), .int 2]) (rest := []) ⟨hx, hb, hml, hown, hts⟩ (r_at l G g hg f 39 40 3 nf df (nI i) 2 hfr hfd (by first | assumption | omega | decide) (by first | assumption | omega | decide) (by first | assumption | omega | decide) (by first | assumption | omega | decide)) (my_cwV hts ok_X5_at w_225 rfl rfl ⟨Nat.le_of_ble_eq_true rfl, Nat.le_of_ble_eq_true rfl⟩) ⟨bP.blind, va_recv hG.1 hP (ci := 5) (q0 := 39) rfl (wl_at (by decide) hfr), fun U hU hW => ⟨rfl, by rw [hU]; exact hP, kG.warm hW hG⟩⟩ rfl rfl hl.1 rfl (lv_room (Nat.le_of_ble_eq_true rfl)) dX0_kinOfSides_76 ⟨Nat.le_of_ble_eq_true rfl, Nat.le_of_ble_eq_true rfl⟩) (fun r hr9 => ?_)
            subst hr9
            refine lv_iload_n hx hb dX0_kinOfSides_79 rfl (lv_at hl 4 rfl) ?_
            refine lv_icmp_gt (tgt := 98) hx hb dX0_kinOfSides_80 (by decide) (fun c_80 => ?_) (fun c_80 => ?_)
            · refine lv_iinc (v := nI (i + 1)) (lv' := [(4, .int (nI (i + 1))), (6, .int 1), (5, .int (atv df nf 3 (nI i) 1)), (0, .ref (g 36)), (1, .int n), (2, .int q), (3, .int u)]) hx hb dX0_kinOfSides_98 hl (k := 6) rfl (nI_1 i) (by decide) rfl (fun ls hl => ?_)
              refine lv_goto (tgt := 5) hx hb dX0_kinOfSides_101 (by decide) ?_
              exact ih u (i + 1) _ (hi9) (by omega) (lv_sub hl [3, 4, 5, 6, 0] rfl)
            · refine lv_iload_n hx hb dX0_kinOfSides_83 rfl (lv_at hl 5 rfl) ?_
              refine lv_iconst (v := 1) hx hb dX0_kinOfSides_84 (by decide) ?_
              refine lv_aload_n hx hb dX0_kinOfSides_85 rfl (lv_at hl 2 rfl) ?_
              refine va_get (D := G.1) (ci := 0) (v := .ref (g 39)) (C := RX0) (T := TX0) (N := 9) hx hb hts inlX0 hown hG.1 hP 36 (wl_at (by decide) hbk) rfl 1 (by decide) (hts (.fieldLink RX0 20 "SwornLists$Book" "facts" "LSwornLists$Rows;") w_55) (fun _ h9 => h9) rfl dX0_kinOfSides_86 ?_
              refine lv_iload hx hb dX0_kinOfSides_89 (lv_at hl 6 rfl) ?_
              refine lv_iconst (v := 0) hx hb dX0_kinOfSides_91 (by decide) ?_
              refine rd_calli (va_runV (As := [.int (nI i), .int 0]) (rest := [.int 1, .int u]) ⟨hx, hb, hml, hown, hts⟩ (r_at l G g hg f 39 40 3 nf df (nI i) 0 hfr hfd (by first | assumption | omega | decide) (by first | assumption | omega | decide) (by first | assumption | omega | decide) (by first | assumption | omega | decide)) (my_cwV hts ok_X5_at w_225 rfl rfl ⟨Nat.le_of_ble_eq_true rfl, Nat.le_of_ble_eq_true rfl⟩) ⟨bP.blind, va_recv hG.1 hP (ci := 5) (q0 := 39) rfl (wl_at (by decide) hfr), fun U hU hW => ⟨rfl, by rw [hU]; exact hP, kG.warm hW hG⟩⟩ rfl rfl hl.1 rfl (lv_room (Nat.le_of_ble_eq_true rfl)) dX0_kinOfSides_92 ⟨Nat.le_of_ble_eq_true rfl, Nat.le_of_ble_eq_true rfl⟩) (fun r hr9 => ?_)
              subst hr9
              refine lv_ishl hx hb dX0_kinOfSides_95 ?_
              refine lv_ior hx hb dX0_kinOfSides_96 ?_
              refine lv_istore_n (lv' := [(3, .int (u ||| (1 <<< ((atv df nf 3 (nI i) 0) &&& 31)))), (6, .int 1), (5, .int (atv df nf 3 (nI i) 1)), (0, .ref (g 36)), (1, .int n), (2, .int q), (4, .int (nI i))]) hx hb dX0_kinOfSides_97 rfl hl (by decide) rfl (fun ls hl => ?_)
              refine lv_iinc (v := nI (i + 1)) (lv' := [(4, .int (nI (i + 1))), (3, .int (u ||| (1 <<< ((atv df nf 3 (nI i) 0) &&& 31)))), (6, .int 1), (5, .int (atv df nf 3 (nI i) 1)), (0, .ref (g 36)), (1, .int n), (2, .int q)]) hx hb dX0_kinOfSides_98 hl (k := 6) rfl (nI_1 i) (by decide) rfl (fun ls hl => ?_)
              refine lv_goto (tgt := 5) hx hb dX0_kinOfSides_101 (by decide) ?_
              exact ih (u ||| (1 <<< ((atv df nf 3 (nI i) 0) &&& 31))) (i + 1) _ (hi9) (by omega) (lv_sub hl [4, 5, 6, 1, 0] rfl)
  exact key1 (nf + 1) 0 0 _ (Nat.zero_le _) (by omega) (lv_sub hl [2, 3, 4, 1, 0] rfl)
set_option maxHeartbeats 4000000 in
set_option maxRecDepth 100000 in
theorem k_lastDayOf (l : Launch) (G : gW) (g : Nat → Nat) (hg : gOK g) (f : Nat → va_E) (pay : Int32) (fine : Int32) (nt : Nat) (ct : Nat → Int32) (n : Int32) (hbk : f 36 = eO 0 [.ref (g 37), .ref (g 39), .ref (g 41), .ref (g 43), .ref (g 45), .ref (g 47), .ref (g 112), .int pay, .int fine]) (htr : f 45 = eO 5 [.int (nI 10), .int (nI 70), .ref (g 46), .int (nI nt)]) (hct : f 46 = eI G (10 * 70) ct) (hnt : nt ≤ 10) : Met l yX0_lastDayOf (wsT yX0_lastDayOf cX0_lastDayOf 2 (some .int)) ({ frames := 1, cells := 0, slots := 0, locals := 23 }) (bP G g f [.ref (g 36), .int n]) (rQi (fun z9 => True)) 0 0 fr0 := by
  refine Met.ofW (cc := cX0_lastDayOf) (maxL := 2) (ret := (some .int)) (by decide) rfl ?_
  intro p e s m args below meth c s₁ B hml hv
  obtain ⟨rfl, hP, hG⟩ := hv
  have hx := B.exec
  have hb := B.bytes
  have hr := B.returns
  have hts := my_hts (atoms_spec (ws := wsT yX0_lastDayOf cX0_lastDayOf 2 (some .int)) B.pre)
  have hown : s.vm.findClass RX0 = some m.cls := findClass_of_methodNamed B.named
  have hlocks := B.notSynchronized
  have hl := lv_entry ([.ref (g 36), .int n]) (n := 2) (Nat.le_of_ble_eq_true rfl)
  rw [lg_entry_eq]
  generalize (lg_sl ([.ref (g 36), .int n]) ++ List.replicate (2 - (lg_sl ([.ref (g 36), .int n])).length) Slot.unset).toArray = ls at hl ⊢
  have hl : lv_has ls 2 [(0, .ref (g 36)), (1, .int n)] := hl
  refine lv_aload_n hx hb dX0_lastDayOf_0 rfl (lv_at hl 0 rfl) ?_
  refine va_get (D := G.1) (ci := 0) (v := .ref (g 45)) (C := RX0) (T := TX0) (N := 9) hx hb hts inlX0 hown hG.1 hP 36 (wl_at (by decide) hbk) rfl 4 (by decide) (hts (.fieldLink RX0 29 "SwornLists$Book" "trials" "LSwornLists$Rows;") w_58) (fun _ h9 => h9) rfl dX0_lastDayOf_1 ?_
  refine lv_iload_n hx hb dX0_lastDayOf_4 rfl (lv_at hl 1 rfl) ?_
  refine lv_iconst (v := 0) hx hb dX0_lastDayOf_5 (by decide) ?_
  refine rd_calli (va_runV (As := [.int n, .int 0]) (rest := []) ⟨hx, hb, hml, hown, hts⟩ (r_at l G g hg f 45 10 70 nt ct n 0 htr hct (by first | assumption | omega | decide) (by first | assumption | omega | decide) (by first | assumption | omega | decide) (by first | assumption | omega | decide)) (my_cwV hts ok_X5_at w_225 rfl rfl ⟨Nat.le_of_ble_eq_true rfl, Nat.le_of_ble_eq_true rfl⟩) ⟨bP.blind, va_recv hG.1 hP (ci := 5) (q0 := 45) rfl (wl_at (by decide) htr), fun U hU hW => ⟨rfl, by rw [hU]; exact hP, kG.warm hW hG⟩⟩ rfl rfl hl.1 rfl (lv_room (Nat.le_of_ble_eq_true rfl)) dX0_lastDayOf_6 ⟨Nat.le_of_ble_eq_true rfl, Nat.le_of_ble_eq_true rfl⟩) (fun r hr9 => ?_)
  subst hr9
  refine lv_aload_n hx hb dX0_lastDayOf_9 rfl (lv_at hl 0 rfl) ?_
  refine va_get (D := G.1) (ci := 0) (v := .ref (g 45)) (C := RX0) (T := TX0) (N := 9) hx hb hts inlX0 hown hG.1 hP 36 (wl_at (by decide) hbk) rfl 4 (by decide) (hts (.fieldLink RX0 29 "SwornLists$Book" "trials" "LSwornLists$Rows;") w_58) (fun _ h9 => h9) rfl dX0_lastDayOf_10 ?_
  refine lv_iload_n hx hb dX0_lastDayOf_13 rfl (lv_at hl 1 rfl) ?_
  refine lv_iconst (v := 1) hx hb dX0_lastDayOf_14 (by decide) ?_
  refine rd_calli (va_runV (As := [.int n, .int 1]) (rest := [.int (atv ct nt 70 n 0)]) ⟨hx, hb, hml, hown, hts⟩ (r_at l G g hg f 45 10 70 nt ct n 1 htr hct (by first | assumption | omega | decide) (by first | assumption | omega | decide) (by first | assumption | omega | decide) (by first | assumption | omega | decide)) (my_cwV hts ok_X5_at w_225 rfl rfl ⟨Nat.le_of_ble_eq_true rfl, Nat.le_of_ble_eq_true rfl⟩) ⟨bP.blind, va_recv hG.1 hP (ci := 5) (q0 := 45) rfl (wl_at (by decide) htr), fun U hU hW => ⟨rfl, by rw [hU]; exact hP, kG.warm hW hG⟩⟩ rfl rfl hl.1 rfl (lv_room (Nat.le_of_ble_eq_true rfl)) dX0_lastDayOf_15 ⟨Nat.le_of_ble_eq_true rfl, Nat.le_of_ble_eq_true rfl⟩) (fun r hr9 => ?_)
  subst hr9
  refine lv_iadd hx hb dX0_lastDayOf_18 ?_
  refine lv_iconst (v := 1) hx hb dX0_lastDayOf_19 (by decide) ?_
  refine lv_isub hx hb dX0_lastDayOf_20 ?_
  exact W.iret (v := ((atv ct nt 70 n 0) + (atv ct nt 70 n 1)) - 1) hx hb hr (fun t ht hW => ⟨_, rfl, (trivial), ht⟩) (fun _ h => absurd h List.not_mem_nil) dX0_lastDayOf_21
set_option maxHeartbeats 4000000 in
set_option maxRecDepth 100000 in
theorem k_overlap (l : Launch) (G : gW) (g : Nat → Nat) (hg : gOK g) (f : Nat → va_E) (pay : Int32) (fine : Int32) (nt : Nat) (ct : Nat → Int32) (n : Int32) (q : Int32) (hbk : f 36 = eO 0 [.ref (g 37), .ref (g 39), .ref (g 41), .ref (g 43), .ref (g 45), .ref (g 47), .ref (g 112), .int pay, .int fine]) (htr : f 45 = eO 5 [.int (nI 10), .int (nI 70), .ref (g 46), .int (nI nt)]) (hct : f 46 = eI G (10 * 70) ct) (hnt : nt ≤ 10) : Met l yX0_overlap (wsT yX0_overlap cX0_overlap 3 (some .boolean)) ({ frames := 2, cells := 0, slots := 0, locals := 44 }) (bP G g f [.ref (g 36), .int n, .int q]) (rQi (fun z9 => ∃ bz : Bool, z9 = b2 (bz = true))) 0 0 fr0 := by
  refine Met.ofW (cc := cX0_overlap) (maxL := 3) (ret := (some .boolean)) (by decide) rfl ?_
  intro p e s m args below meth c s₁ B hml hv
  obtain ⟨rfl, hP, hG⟩ := hv
  have hx := B.exec
  have hb := B.bytes
  have hr := B.returns
  have hts := my_hts (atoms_spec (ws := wsT yX0_overlap cX0_overlap 3 (some .boolean)) B.pre)
  have hown : s.vm.findClass RX0 = some m.cls := findClass_of_methodNamed B.named
  have hlocks := B.notSynchronized
  have hl := lv_entry ([.ref (g 36), .int n, .int q]) (n := 3) (Nat.le_of_ble_eq_true rfl)
  rw [lg_entry_eq]
  generalize (lg_sl ([.ref (g 36), .int n, .int q]) ++ List.replicate (3 - (lg_sl ([.ref (g 36), .int n, .int q])).length) Slot.unset).toArray = ls at hl ⊢
  have hl : lv_has ls 3 [(0, .ref (g 36)), (1, .int n), (2, .int q)] := hl
  refine lv_aload_n hx hb dX0_overlap_0 rfl (lv_at hl 0 rfl) ?_
  refine lv_iload_n hx hb dX0_overlap_1 rfl (lv_at hl 1 rfl) ?_
  refine rd_calli (va_runV (As := [.int n]) (rest := []) ⟨hx, hb, hml, hown, hts⟩ (k_lastDayOf l G g hg f pay fine nt ct n hbk htr hct (by first | assumption | omega | decide)) (my_cwV hts ok_X0_lastDayOf w_420 rfl rfl ⟨Nat.le_of_ble_eq_true rfl, Nat.le_of_ble_eq_true rfl⟩) ⟨bP.blind, va_recv hG.1 hP (ci := 0) (q0 := 36) rfl (wl_at (by decide) hbk), fun U hU hW => ⟨rfl, by rw [hU]; exact hP, kG.warm hW hG⟩⟩ rfl rfl hl.1 rfl (lv_room (Nat.le_of_ble_eq_true rfl)) dX0_overlap_2 ⟨Nat.le_of_ble_eq_true rfl, Nat.le_of_ble_eq_true rfl⟩) (fun v1 _ => ?_)
  refine lv_aload_n hx hb dX0_overlap_5 rfl (lv_at hl 0 rfl) ?_
  refine va_get (D := G.1) (ci := 0) (v := .ref (g 45)) (C := RX0) (T := TX0) (N := 9) hx hb hts inlX0 hown hG.1 hP 36 (wl_at (by decide) hbk) rfl 4 (by decide) (hts (.fieldLink RX0 29 "SwornLists$Book" "trials" "LSwornLists$Rows;") w_58) (fun _ h9 => h9) rfl dX0_overlap_6 ?_
  refine lv_iload_n hx hb dX0_overlap_9 rfl (lv_at hl 2 rfl) ?_
  refine lv_iconst (v := 0) hx hb dX0_overlap_10 (by decide) ?_
  refine rd_calli (va_runV (As := [.int q, .int 0]) (rest := [.int v1]) ⟨hx, hb, hml, hown, hts⟩ (r_at l G g hg f 45 10 70 nt ct q 0 htr hct (by first | assumption | omega | decide) (by first | assumption | omega | decide) (by first | assumption | omega | decide) (by first | assumption | omega | decide)) (my_cwV hts ok_X5_at w_225 rfl rfl ⟨Nat.le_of_ble_eq_true rfl, Nat.le_of_ble_eq_true rfl⟩) ⟨bP.blind, va_recv hG.1 hP (ci := 5) (q0 := 45) rfl (wl_at (by decide) htr), fun U hU hW => ⟨rfl, by rw [hU]; exact hP, kG.warm hW hG⟩⟩ rfl rfl hl.1 rfl (lv_room (Nat.le_of_ble_eq_true rfl)) dX0_overlap_11 ⟨Nat.le_of_ble_eq_true rfl, Nat.le_of_ble_eq_true rfl⟩) (fun r hr9 => ?_)
  subst hr9
  refine lv_icmp_lt (tgt := 21) hx hb dX0_overlap_14 (by decide) (fun c_14 => ?_) (fun c_14 => ?_)
  · refine lv_iconst (v := 0) hx hb dX0_overlap_21 (by decide) ?_
    exact W.zret (v := 0) hx hb hr (rfl) (fun t ht hW => ⟨_, rfl, (⟨false, (b2_f (by decide)).symm⟩), ht⟩) (fun _ h => absurd h List.not_mem_nil) dX0_overlap_22
  · refine lv_iconst (v := 1) hx hb dX0_overlap_17 (by decide) ?_
    refine lv_goto (tgt := 22) hx hb dX0_overlap_18 (by decide) ?_
    exact W.zret (v := 1) hx hb hr (rfl) (fun t ht hW => ⟨_, rfl, (⟨true, (b2_t rfl).symm⟩), ht⟩) (fun _ h => absurd h List.not_mem_nil) dX0_overlap_22
set_option maxHeartbeats 4000000 in
set_option maxRecDepth 100000 in
theorem k_shareTrade (l : Launch) (G : gW) (g : Nat → Nat) (hg : gOK g) (f : Nat → va_E) (pay : Int32) (fine : Int32) (nt : Nat) (ct : Nat → Int32) (n : Int32) (q : Int32) (hbk : f 36 = eO 0 [.ref (g 37), .ref (g 39), .ref (g 41), .ref (g 43), .ref (g 45), .ref (g 47), .ref (g 112), .int pay, .int fine]) (htr : f 45 = eO 5 [.int (nI 10), .int (nI 70), .ref (g 46), .int (nI nt)]) (hct : f 46 = eI G (10 * 70) ct) (hnt : nt ≤ 10) : Met l yX0_shareTrade (wsT yX0_shareTrade cX0_shareTrade 4 (some .boolean)) ({ frames := 1, cells := 0, slots := 0, locals := 23 }) (bP G g f [.ref (g 36), .int n, .int q]) (rQi (fun z9 => ∃ bz : Bool, z9 = b2 (bz = true))) 0 0 fr0 := by
  refine Met.ofW (cc := cX0_shareTrade) (maxL := 4) (ret := (some .boolean)) (by decide) rfl ?_
  intro p e s m args below meth c s₁ B hml hv
  obtain ⟨rfl, hP, hG⟩ := hv
  have hx := B.exec
  have hb := B.bytes
  have hr := B.returns
  have hts := my_hts (atoms_spec (ws := wsT yX0_shareTrade cX0_shareTrade 4 (some .boolean)) B.pre)
  have hown : s.vm.findClass RX0 = some m.cls := findClass_of_methodNamed B.named
  have hlocks := B.notSynchronized
  have hl := lv_entry ([.ref (g 36), .int n, .int q]) (n := 4) (Nat.le_of_ble_eq_true rfl)
  rw [lg_entry_eq]
  generalize (lg_sl ([.ref (g 36), .int n, .int q]) ++ List.replicate (4 - (lg_sl ([.ref (g 36), .int n, .int q])).length) Slot.unset).toArray = ls at hl ⊢
  have hl : lv_has ls 4 [(0, .ref (g 36)), (1, .int n), (2, .int q)] := hl
  refine lv_aload_n hx hb dX0_shareTrade_0 rfl (lv_at hl 0 rfl) ?_
  refine va_get (D := G.1) (ci := 0) (v := .ref (g 45)) (C := RX0) (T := TX0) (N := 9) hx hb hts inlX0 hown hG.1 hP 36 (wl_at (by decide) hbk) rfl 4 (by decide) (hts (.fieldLink RX0 29 "SwornLists$Book" "trials" "LSwornLists$Rows;") w_58) (fun _ h9 => h9) rfl dX0_shareTrade_1 ?_
  refine lv_iload_n hx hb dX0_shareTrade_4 rfl (lv_at hl 1 rfl) ?_
  refine lv_iconst (v := 5) hx hb dX0_shareTrade_5 (by decide) ?_
  refine rd_calli (va_runV (As := [.int n, .int 5]) (rest := []) ⟨hx, hb, hml, hown, hts⟩ (r_at l G g hg f 45 10 70 nt ct n 5 htr hct (by first | assumption | omega | decide) (by first | assumption | omega | decide) (by first | assumption | omega | decide) (by first | assumption | omega | decide)) (my_cwV hts ok_X5_at w_225 rfl rfl ⟨Nat.le_of_ble_eq_true rfl, Nat.le_of_ble_eq_true rfl⟩) ⟨bP.blind, va_recv hG.1 hP (ci := 5) (q0 := 45) rfl (wl_at (by decide) htr), fun U hU hW => ⟨rfl, by rw [hU]; exact hP, kG.warm hW hG⟩⟩ rfl rfl hl.1 rfl (lv_room (Nat.le_of_ble_eq_true rfl)) dX0_shareTrade_6 ⟨Nat.le_of_ble_eq_true rfl, Nat.le_of_ble_eq_true rfl⟩) (fun r hr9 => ?_)
  subst hr9
  refine lv_istore_n (lv' := [(3, .int (atv ct nt 70 n 5)), (0, .ref (g 36)), (1, .int n), (2, .int q)]) hx hb dX0_shareTrade_9 rfl hl (by decide) rfl (fun ls hl => ?_)
  refine lv_iload_n hx hb dX0_shareTrade_10 rfl (lv_at hl 0 rfl) ?_
  refine lv_iconst (v := (-1)) hx hb dX0_shareTrade_11 (by decide) ?_
  refine lv_icmp_eq (tgt := 32) hx hb dX0_shareTrade_12 (by decide) (fun c_12 => ?_) (fun c_12 => ?_)
  · refine lv_iconst (v := 0) hx hb dX0_shareTrade_32 (by decide) ?_
    exact W.zret (v := 0) hx hb hr (rfl) (fun t ht hW => ⟨_, rfl, (⟨false, (b2_f (by decide)).symm⟩), ht⟩) (fun _ h => absurd h List.not_mem_nil) dX0_shareTrade_33
  · refine lv_iload_n hx hb dX0_shareTrade_15 rfl (lv_at hl 0 rfl) ?_
    refine lv_aload_n hx hb dX0_shareTrade_16 rfl (lv_at hl 1 rfl) ?_
    refine va_get (D := G.1) (ci := 0) (v := .ref (g 45)) (C := RX0) (T := TX0) (N := 9) hx hb hts inlX0 hown hG.1 hP 36 (wl_at (by decide) hbk) rfl 4 (by decide) (hts (.fieldLink RX0 29 "SwornLists$Book" "trials" "LSwornLists$Rows;") w_58) (fun _ h9 => h9) rfl dX0_shareTrade_17 ?_
    refine lv_iload_n hx hb dX0_shareTrade_20 rfl (lv_at hl 3 rfl) ?_
    refine lv_iconst (v := 5) hx hb dX0_shareTrade_21 (by decide) ?_
    refine rd_calli (va_runV (As := [.int q, .int 5]) (rest := [.int (atv ct nt 70 n 5)]) ⟨hx, hb, hml, hown, hts⟩ (r_at l G g hg f 45 10 70 nt ct q 5 htr hct (by first | assumption | omega | decide) (by first | assumption | omega | decide) (by first | assumption | omega | decide) (by first | assumption | omega | decide)) (my_cwV hts ok_X5_at w_225 rfl rfl ⟨Nat.le_of_ble_eq_true rfl, Nat.le_of_ble_eq_true rfl⟩) ⟨bP.blind, va_recv hG.1 hP (ci := 5) (q0 := 45) rfl (wl_at (by decide) htr), fun U hU hW => ⟨rfl, by rw [hU]; exact hP, kG.warm hW hG⟩⟩ rfl rfl hl.1 rfl (lv_room (Nat.le_of_ble_eq_true rfl)) dX0_shareTrade_22 ⟨Nat.le_of_ble_eq_true rfl, Nat.le_of_ble_eq_true rfl⟩) (fun r hr9 => ?_)
    subst hr9
    refine lv_icmp_ne (tgt := 32) hx hb dX0_shareTrade_25 (by decide) (fun c_25 => ?_) (fun c_25 => ?_)
    · refine lv_iconst (v := 0) hx hb dX0_shareTrade_32 (by decide) ?_
      exact W.zret (v := 0) hx hb hr (rfl) (fun t ht hW => ⟨_, rfl, (⟨false, (b2_f (by decide)).symm⟩), ht⟩) (fun _ h => absurd h List.not_mem_nil) dX0_shareTrade_33
    · refine lv_iconst (v := 1) hx hb dX0_shareTrade_28 (by decide) ?_
      refine lv_goto (tgt := 33) hx hb dX0_shareTrade_29 (by decide) ?_
      exact W.zret (v := 1) hx hb hr (rfl) (fun t ht hW => ⟨_, rfl, (⟨true, (b2_t rfl).symm⟩), ht⟩) (fun _ h => absurd h List.not_mem_nil) dX0_shareTrade_33
set_option maxHeartbeats 4000000 in
set_option maxRecDepth 100000 in
theorem k_ofTradeWanted (l : Launch) (G : gW) (g : Nat → Nat) (hg : gOK g) (f : Nat → va_E) (pay : Int32) (fine : Int32) (np : Nat) (dp : Nat → Int32) (nt : Nat) (ct : Nat → Int32) (n : Int32) (hbk : f 36 = eO 0 [.ref (g 37), .ref (g 39), .ref (g 41), .ref (g 43), .ref (g 45), .ref (g 47), .ref (g 112), .int pay, .int fine]) (hpr : f 37 = eO 5 [.int (nI 30), .int (nI 4), .ref (g 38), .int (nI np)]) (hpd : f 38 = eI G (30 * 4) dp) (htr : f 45 = eO 5 [.int (nI 10), .int (nI 70), .ref (g 46), .int (nI nt)]) (hct : f 46 = eI G (10 * 70) ct) (hnp : np ≤ 30) (hnt : nt ≤ 10) : Met l yX0_ofTradeWanted (wsT yX0_ofTradeWanted cX0_ofTradeWanted 3 (some .int)) ({ frames := 2, cells := 0, slots := 0, locals := 47 }) (bP G g f [.ref (g 36), .int n]) (rQi (fun z9 => True)) 0 0 fr0 := by
  refine Met.ofW (cc := cX0_ofTradeWanted) (maxL := 3) (ret := (some .int)) (by decide) rfl ?_
  intro p e s m args below meth c s₁ B hml hv
  obtain ⟨rfl, hP, hG⟩ := hv
  have hx := B.exec
  have hb := B.bytes
  have hr := B.returns
  have hts := my_hts (atoms_spec (ws := wsT yX0_ofTradeWanted cX0_ofTradeWanted 3 (some .int)) B.pre)
  have hown : s.vm.findClass RX0 = some m.cls := findClass_of_methodNamed B.named
  have hlocks := B.notSynchronized
  have hl := lv_entry ([.ref (g 36), .int n]) (n := 3) (Nat.le_of_ble_eq_true rfl)
  rw [lg_entry_eq]
  generalize (lg_sl ([.ref (g 36), .int n]) ++ List.replicate (3 - (lg_sl ([.ref (g 36), .int n])).length) Slot.unset).toArray = ls at hl ⊢
  have hl : lv_has ls 3 [(0, .ref (g 36)), (1, .int n)] := hl
  refine lv_aload_n hx hb dX0_ofTradeWanted_0 rfl (lv_at hl 0 rfl) ?_
  refine va_get (D := G.1) (ci := 0) (v := .ref (g 45)) (C := RX0) (T := TX0) (N := 9) hx hb hts inlX0 hown hG.1 hP 36 (wl_at (by decide) hbk) rfl 4 (by decide) (hts (.fieldLink RX0 29 "SwornLists$Book" "trials" "LSwornLists$Rows;") w_58) (fun _ h9 => h9) rfl dX0_ofTradeWanted_1 ?_
  refine lv_iload_n hx hb dX0_ofTradeWanted_4 rfl (lv_at hl 1 rfl) ?_
  refine lv_iconst (v := 5) hx hb dX0_ofTradeWanted_5 (by decide) ?_
  refine rd_calli (va_runV (As := [.int n, .int 5]) (rest := []) ⟨hx, hb, hml, hown, hts⟩ (r_at l G g hg f 45 10 70 nt ct n 5 htr hct (by first | assumption | omega | decide) (by first | assumption | omega | decide) (by first | assumption | omega | decide) (by first | assumption | omega | decide)) (my_cwV hts ok_X5_at w_225 rfl rfl ⟨Nat.le_of_ble_eq_true rfl, Nat.le_of_ble_eq_true rfl⟩) ⟨bP.blind, va_recv hG.1 hP (ci := 5) (q0 := 45) rfl (wl_at (by decide) htr), fun U hU hW => ⟨rfl, by rw [hU]; exact hP, kG.warm hW hG⟩⟩ rfl rfl hl.1 rfl (lv_room (Nat.le_of_ble_eq_true rfl)) dX0_ofTradeWanted_6 ⟨Nat.le_of_ble_eq_true rfl, Nat.le_of_ble_eq_true rfl⟩) (fun r hr9 => ?_)
  subst hr9
  refine lv_istore_n (lv' := [(2, .int (atv ct nt 70 n 5)), (0, .ref (g 36)), (1, .int n)]) hx hb dX0_ofTradeWanted_9 rfl hl (by decide) rfl (fun ls hl => ?_)
  refine lv_iload_n hx hb dX0_ofTradeWanted_10 rfl (lv_at hl 0 rfl) ?_
  refine lv_iconst (v := (-1)) hx hb dX0_ofTradeWanted_11 (by decide) ?_
  refine lv_icmp_ne (tgt := 22) hx hb dX0_ofTradeWanted_12 (by decide) (fun c_12 => ?_) (fun c_12 => ?_)
  · refine lv_aload_n hx hb dX0_ofTradeWanted_22 rfl (lv_at hl 1 rfl) ?_
    refine lv_iconst (v := 1) hx hb dX0_ofTradeWanted_23 (by decide) ?_
    refine lv_iload_n hx hb dX0_ofTradeWanted_24 rfl (lv_at hl 0 rfl) ?_
    refine rd_calli (va_runV (As := [.int 1, .int (atv ct nt 70 n 5)]) (rest := []) ⟨hx, hb, hml, hown, hts⟩ (k_peopleWith l G g hg f pay fine np dp 1 (atv ct nt 70 n 5) hbk hpr hpd (by first | assumption | omega | decide)) (my_cwV hts ok_X0_peopleWith w_469 rfl rfl ⟨Nat.le_of_ble_eq_true rfl, Nat.le_of_ble_eq_true rfl⟩) ⟨bP.blind, va_recv hG.1 hP (ci := 0) (q0 := 36) rfl (wl_at (by decide) hbk), fun U hU hW => ⟨rfl, by rw [hU]; exact hP, kG.warm hW hG⟩⟩ rfl rfl hl.1 rfl (lv_room (Nat.le_of_ble_eq_true rfl)) dX0_ofTradeWanted_25 ⟨Nat.le_of_ble_eq_true rfl, Nat.le_of_ble_eq_true rfl⟩) (fun v1 _ => ?_)
    exact W.iret (v := v1) hx hb hr (fun t ht hW => ⟨_, rfl, (trivial), ht⟩) (fun _ h => absurd h List.not_mem_nil) dX0_ofTradeWanted_28
  · refine lv_aload_n hx hb dX0_ofTradeWanted_15 rfl (lv_at hl 1 rfl) ?_
    refine rd_calli (va_runV (As := []) (rest := []) ⟨hx, hb, hml, hown, hts⟩ (k_everyone l G g hg f pay fine np dp hbk hpr hpd (by first | assumption | omega | decide)) (my_cwV hts ok_X0_everyone w_229 rfl rfl ⟨Nat.le_of_ble_eq_true rfl, Nat.le_of_ble_eq_true rfl⟩) ⟨bP.blind, va_recv hG.1 hP (ci := 0) (q0 := 36) rfl (wl_at (by decide) hbk), fun U hU hW => ⟨rfl, by rw [hU]; exact hP, kG.warm hW hG⟩⟩ rfl rfl hl.1 rfl (lv_room (Nat.le_of_ble_eq_true rfl)) dX0_ofTradeWanted_16 ⟨Nat.le_of_ble_eq_true rfl, Nat.le_of_ble_eq_true rfl⟩) (fun v2 _ => ?_)
    refine lv_goto (tgt := 28) hx hb dX0_ofTradeWanted_19 (by decide) ?_
    exact W.iret (v := v2) hx hb hr (fun t ht hW => ⟨_, rfl, (trivial), ht⟩) (fun _ h => absurd h List.not_mem_nil) dX0_ofTradeWanted_28
set_option maxHeartbeats 4000000 in
set_option maxRecDepth 100000 in
theorem k_shareFamily (l : Launch) (G : gW) (g : Nat → Nat) (hg : gOK g) (f : Nat → va_E) (pay : Int32) (fine : Int32) (nt : Nat) (ct : Nat → Int32) (n : Int32) (q : Int32) (hbk : f 36 = eO 0 [.ref (g 37), .ref (g 39), .ref (g 41), .ref (g 43), .ref (g 45), .ref (g 47), .ref (g 112), .int pay, .int fine]) (htr : f 45 = eO 5 [.int (nI 10), .int (nI 70), .ref (g 46), .int (nI nt)]) (hct : f 46 = eI G (10 * 70) ct) (hnt : nt ≤ 10) : Met l yX0_shareFamily (wsT yX0_shareFamily cX0_shareFamily 6 (some .boolean)) ({ frames := 1, cells := 0, slots := 0, locals := 23 }) (bP G g f [.ref (g 36), .int n, .int q]) (rQi (fun z9 => ∃ bz : Bool, z9 = b2 (bz = true))) 0 0 fr0 := by
  refine Met.ofW (cc := cX0_shareFamily) (maxL := 6) (ret := (some .boolean)) (by decide) rfl ?_
  intro p e s m args below meth c s₁ B hml hv
  obtain ⟨rfl, hP, hG⟩ := hv
  have hx := B.exec
  have hb := B.bytes
  have hr := B.returns
  have hts := my_hts (atoms_spec (ws := wsT yX0_shareFamily cX0_shareFamily 6 (some .boolean)) B.pre)
  have hown : s.vm.findClass RX0 = some m.cls := findClass_of_methodNamed B.named
  have hlocks := B.notSynchronized
  have hl := lv_entry ([.ref (g 36), .int n, .int q]) (n := 6) (Nat.le_of_ble_eq_true rfl)
  rw [lg_entry_eq]
  generalize (lg_sl ([.ref (g 36), .int n, .int q]) ++ List.replicate (6 - (lg_sl ([.ref (g 36), .int n, .int q])).length) Slot.unset).toArray = ls at hl ⊢
  have hl : lv_has ls 6 [(0, .ref (g 36)), (1, .int n), (2, .int q)] := hl
  refine lv_iconst (v := 0) hx hb dX0_shareFamily_0 (by decide) ?_
  refine lv_istore_n (lv' := [(3, .int 0), (0, .ref (g 36)), (1, .int n), (2, .int q)]) hx hb dX0_shareFamily_1 rfl hl (by decide) rfl (fun ls hl => ?_)
  refine lv_iload_n hx hb dX0_shareFamily_2 rfl (lv_at hl 0 rfl) ?_
  refine lv_iconst (v := 1) hx hb dX0_shareFamily_3 (by decide) ?_
  refine lv_icmp_gt (tgt := 74) hx hb dX0_shareFamily_4 (by decide) (fun c_4 => absurd c_4 (by decide)) (fun c_4 => ?_)
  refine lv_aload_n hx hb dX0_shareFamily_7 rfl (lv_at hl 1 rfl) ?_
  refine va_get (D := G.1) (ci := 0) (v := .ref (g 45)) (C := RX0) (T := TX0) (N := 9) hx hb hts inlX0 hown hG.1 hP 36 (wl_at (by decide) hbk) rfl 4 (by decide) (hts (.fieldLink RX0 29 "SwornLists$Book" "trials" "LSwornLists$Rows;") w_58) (fun _ h9 => h9) rfl dX0_shareFamily_8 ?_
  refine lv_iload_n hx hb dX0_shareFamily_11 rfl (lv_at hl 2 rfl) ?_
  refine lv_iconst (v := 3) hx hb dX0_shareFamily_12 (by decide) ?_
  refine lv_iload_n hx hb dX0_shareFamily_13 rfl (lv_at hl 0 rfl) ?_
  refine lv_iadd hx hb dX0_shareFamily_14 ?_
  refine my_bei (v := 3) (by decide) ?_
  refine rd_calli (va_runV (As := [.int n, .int 3]) (rest := []) ⟨hx, hb, hml, hown, hts⟩ (r_at l G g hg f 45 10 70 nt ct n 3 htr hct (by first | assumption | omega | decide) (by first | assumption | omega | decide) (by first | assumption | omega | decide) (by first | assumption | omega | decide)) (my_cwV hts ok_X5_at w_225 rfl rfl ⟨Nat.le_of_ble_eq_true rfl, Nat.le_of_ble_eq_true rfl⟩) ⟨bP.blind, va_recv hG.1 hP (ci := 5) (q0 := 45) rfl (wl_at (by decide) htr), fun U hU hW => ⟨rfl, by rw [hU]; exact hP, kG.warm hW hG⟩⟩ rfl rfl hl.1 rfl (lv_room (Nat.le_of_ble_eq_true rfl)) dX0_shareFamily_15 ⟨Nat.le_of_ble_eq_true rfl, Nat.le_of_ble_eq_true rfl⟩) (fun r hr9 => ?_)
  subst hr9
  refine lv_istore (lv' := [(4, .int (atv ct nt 70 n 3)), (3, .int 0), (0, .ref (g 36)), (1, .int n), (2, .int q)]) hx hb dX0_shareFamily_18 hl (by decide) rfl (fun ls hl => ?_)
  refine lv_iload hx hb dX0_shareFamily_20 (lv_at hl 0 rfl) ?_
  refine lv_aload_n hx hb dX0_shareFamily_22 rfl (lv_at hl 2 rfl) ?_
  refine va_get (D := G.1) (ci := 0) (v := .ref (g 45)) (C := RX0) (T := TX0) (N := 9) hx hb hts inlX0 hown hG.1 hP 36 (wl_at (by decide) hbk) rfl 4 (by decide) (hts (.fieldLink RX0 29 "SwornLists$Book" "trials" "LSwornLists$Rows;") w_58) (fun _ h9 => h9) rfl dX0_shareFamily_23 ?_
  refine lv_iload_n hx hb dX0_shareFamily_26 rfl (lv_at hl 4 rfl) ?_
  refine lv_iconst (v := 3) hx hb dX0_shareFamily_27 (by decide) ?_
  refine rd_calli (va_runV (As := [.int q, .int 3]) (rest := [.int (atv ct nt 70 n 3)]) ⟨hx, hb, hml, hown, hts⟩ (r_at l G g hg f 45 10 70 nt ct q 3 htr hct (by first | assumption | omega | decide) (by first | assumption | omega | decide) (by first | assumption | omega | decide) (by first | assumption | omega | decide)) (my_cwV hts ok_X5_at w_225 rfl rfl ⟨Nat.le_of_ble_eq_true rfl, Nat.le_of_ble_eq_true rfl⟩) ⟨bP.blind, va_recv hG.1 hP (ci := 5) (q0 := 45) rfl (wl_at (by decide) htr), fun U hU hW => ⟨rfl, by rw [hU]; exact hP, kG.warm hW hG⟩⟩ rfl rfl hl.1 rfl (lv_room (Nat.le_of_ble_eq_true rfl)) dX0_shareFamily_28 ⟨Nat.le_of_ble_eq_true rfl, Nat.le_of_ble_eq_true rfl⟩) (fun r hr9 => ?_)
  subst hr9
  refine lv_icmp_eq (tgt := 48) hx hb dX0_shareFamily_31 (by decide) (fun c_31 => ?_) (fun c_31 => ?_)
  · refine lv_iconst (v := 1) hx hb dX0_shareFamily_48 (by decide) ?_
    refine lv_goto (tgt := 53) hx hb dX0_shareFamily_49 (by decide) ?_
    refine lv_istore (lv' := [(5, .int 1), (4, .int (atv ct nt 70 n 3)), (3, .int 0), (0, .ref (g 36)), (1, .int n), (2, .int q)]) hx hb dX0_shareFamily_53 hl (by decide) rfl (fun ls hl => ?_)
    refine lv_iload hx hb dX0_shareFamily_55 (lv_at hl 1 rfl) ?_
    refine lv_iconst (v := (-1)) hx hb dX0_shareFamily_57 (by decide) ?_
    refine lv_icmp_eq (tgt := 68) hx hb dX0_shareFamily_58 (by decide) (fun c_58 => ?_) (fun c_58 => ?_)
    · refine lv_iinc (v := 1) (lv' := [(3, .int 1), (5, .int 1), (4, .int (atv ct nt 70 n 3)), (0, .ref (g 36)), (1, .int n), (2, .int q)]) hx hb dX0_shareFamily_68 hl (k := 2) rfl (by decide) (by decide) rfl (fun ls hl => ?_)
      refine lv_goto (tgt := 2) hx hb dX0_shareFamily_71 (by decide) ?_
      refine lv_iload_n hx hb dX0_shareFamily_2 rfl (lv_at hl 0 rfl) ?_
      refine lv_iconst (v := 1) hx hb dX0_shareFamily_3 (by decide) ?_
      refine lv_icmp_gt (tgt := 74) hx hb dX0_shareFamily_4 (by decide) (fun c_4 => absurd c_4 (by decide)) (fun c_4 => ?_)
      refine lv_aload_n hx hb dX0_shareFamily_7 rfl (lv_at hl 3 rfl) ?_
      refine va_get (D := G.1) (ci := 0) (v := .ref (g 45)) (C := RX0) (T := TX0) (N := 9) hx hb hts inlX0 hown hG.1 hP 36 (wl_at (by decide) hbk) rfl 4 (by decide) (hts (.fieldLink RX0 29 "SwornLists$Book" "trials" "LSwornLists$Rows;") w_58) (fun _ h9 => h9) rfl dX0_shareFamily_8 ?_
      refine lv_iload_n hx hb dX0_shareFamily_11 rfl (lv_at hl 4 rfl) ?_
      refine lv_iconst (v := 3) hx hb dX0_shareFamily_12 (by decide) ?_
      refine lv_iload_n hx hb dX0_shareFamily_13 rfl (lv_at hl 0 rfl) ?_
      refine lv_iadd hx hb dX0_shareFamily_14 ?_
      refine my_bei (v := 4) (by decide) ?_
      refine rd_calli (va_runV (As := [.int n, .int 4]) (rest := []) ⟨hx, hb, hml, hown, hts⟩ (r_at l G g hg f 45 10 70 nt ct n 4 htr hct (by first | assumption | omega | decide) (by first | assumption | omega | decide) (by first | assumption | omega | decide) (by first | assumption | omega | decide)) (my_cwV hts ok_X5_at w_225 rfl rfl ⟨Nat.le_of_ble_eq_true rfl, Nat.le_of_ble_eq_true rfl⟩) ⟨bP.blind, va_recv hG.1 hP (ci := 5) (q0 := 45) rfl (wl_at (by decide) htr), fun U hU hW => ⟨rfl, by rw [hU]; exact hP, kG.warm hW hG⟩⟩ rfl rfl hl.1 rfl (lv_room (Nat.le_of_ble_eq_true rfl)) dX0_shareFamily_15 ⟨Nat.le_of_ble_eq_true rfl, Nat.le_of_ble_eq_true rfl⟩) (fun r hr9 => ?_)
      subst hr9
      refine lv_istore (lv' := [(4, .int (atv ct nt 70 n 4)), (3, .int 1), (5, .int 1), (0, .ref (g 36)), (1, .int n), (2, .int q)]) hx hb dX0_shareFamily_18 hl (by decide) rfl (fun ls hl => ?_)
      refine lv_iload hx hb dX0_shareFamily_20 (lv_at hl 0 rfl) ?_
      refine lv_aload_n hx hb dX0_shareFamily_22 rfl (lv_at hl 3 rfl) ?_
      refine va_get (D := G.1) (ci := 0) (v := .ref (g 45)) (C := RX0) (T := TX0) (N := 9) hx hb hts inlX0 hown hG.1 hP 36 (wl_at (by decide) hbk) rfl 4 (by decide) (hts (.fieldLink RX0 29 "SwornLists$Book" "trials" "LSwornLists$Rows;") w_58) (fun _ h9 => h9) rfl dX0_shareFamily_23 ?_
      refine lv_iload_n hx hb dX0_shareFamily_26 rfl (lv_at hl 5 rfl) ?_
      refine lv_iconst (v := 3) hx hb dX0_shareFamily_27 (by decide) ?_
      refine rd_calli (va_runV (As := [.int q, .int 3]) (rest := [.int (atv ct nt 70 n 4)]) ⟨hx, hb, hml, hown, hts⟩ (r_at l G g hg f 45 10 70 nt ct q 3 htr hct (by first | assumption | omega | decide) (by first | assumption | omega | decide) (by first | assumption | omega | decide) (by first | assumption | omega | decide)) (my_cwV hts ok_X5_at w_225 rfl rfl ⟨Nat.le_of_ble_eq_true rfl, Nat.le_of_ble_eq_true rfl⟩) ⟨bP.blind, va_recv hG.1 hP (ci := 5) (q0 := 45) rfl (wl_at (by decide) htr), fun U hU hW => ⟨rfl, by rw [hU]; exact hP, kG.warm hW hG⟩⟩ rfl rfl hl.1 rfl (lv_room (Nat.le_of_ble_eq_true rfl)) dX0_shareFamily_28 ⟨Nat.le_of_ble_eq_true rfl, Nat.le_of_ble_eq_true rfl⟩) (fun r hr9 => ?_)
      subst hr9
      refine lv_icmp_eq (tgt := 48) hx hb dX0_shareFamily_31 (by decide) (fun c_31 => ?_) (fun c_31 => ?_)
      · refine lv_iconst (v := 1) hx hb dX0_shareFamily_48 (by decide) ?_
        refine lv_goto (tgt := 53) hx hb dX0_shareFamily_49 (by decide) ?_
        refine lv_istore (lv' := [(5, .int 1), (4, .int (atv ct nt 70 n 4)), (3, .int 1), (0, .ref (g 36)), (1, .int n), (2, .int q)]) hx hb dX0_shareFamily_53 hl (by decide) rfl (fun ls hl => ?_)
        refine lv_iload hx hb dX0_shareFamily_55 (lv_at hl 1 rfl) ?_
        refine lv_iconst (v := (-1)) hx hb dX0_shareFamily_57 (by decide) ?_
        refine lv_icmp_eq (tgt := 68) hx hb dX0_shareFamily_58 (by decide) (fun c_58 => ?_) (fun c_58 => ?_)
        · refine lv_iinc (v := 2) (lv' := [(3, .int 2), (5, .int 1), (4, .int (atv ct nt 70 n 4)), (0, .ref (g 36)), (1, .int n), (2, .int q)]) hx hb dX0_shareFamily_68 hl (k := 2) rfl (by decide) (by decide) rfl (fun ls hl => ?_)
          refine lv_goto (tgt := 2) hx hb dX0_shareFamily_71 (by decide) ?_
          refine lv_iload_n hx hb dX0_shareFamily_2 rfl (lv_at hl 0 rfl) ?_
          refine lv_iconst (v := 1) hx hb dX0_shareFamily_3 (by decide) ?_
          refine lv_icmp_gt (tgt := 74) hx hb dX0_shareFamily_4 (by decide) (fun c_4 => ?_) (fun c_4 => absurd (by decide) c_4)
          refine lv_iconst (v := 0) hx hb dX0_shareFamily_74 (by decide) ?_
          exact W.zret (v := 0) hx hb hr (rfl) (fun t ht hW => ⟨_, rfl, (⟨false, (b2_f (by decide)).symm⟩), ht⟩) (fun _ h => absurd h List.not_mem_nil) dX0_shareFamily_75
        · refine lv_iload hx hb dX0_shareFamily_61 (lv_at hl 0 rfl) ?_
          refine lv_if_eq (tgt := 68) hx hb dX0_shareFamily_63 (by decide) (fun c_63 => absurd c_63 (by decide)) (fun c_63 => ?_)
          refine lv_iconst (v := 1) hx hb dX0_shareFamily_66 (by decide) ?_
          exact W.zret (v := 1) hx hb hr (rfl) (fun t ht hW => ⟨_, rfl, (⟨true, (b2_t rfl).symm⟩), ht⟩) (fun _ h => absurd h List.not_mem_nil) dX0_shareFamily_67
      · refine lv_iload hx hb dX0_shareFamily_34 (lv_at hl 0 rfl) ?_
        refine lv_aload_n hx hb dX0_shareFamily_36 rfl (lv_at hl 3 rfl) ?_
        refine va_get (D := G.1) (ci := 0) (v := .ref (g 45)) (C := RX0) (T := TX0) (N := 9) hx hb hts inlX0 hown hG.1 hP 36 (wl_at (by decide) hbk) rfl 4 (by decide) (hts (.fieldLink RX0 29 "SwornLists$Book" "trials" "LSwornLists$Rows;") w_58) (fun _ h9 => h9) rfl dX0_shareFamily_37 ?_
        refine lv_iload_n hx hb dX0_shareFamily_40 rfl (lv_at hl 5 rfl) ?_
        refine lv_iconst (v := 4) hx hb dX0_shareFamily_41 (by decide) ?_
        refine rd_calli (va_runV (As := [.int q, .int 4]) (rest := [.int (atv ct nt 70 n 4)]) ⟨hx, hb, hml, hown, hts⟩ (r_at l G g hg f 45 10 70 nt ct q 4 htr hct (by first | assumption | omega | decide) (by first | assumption | omega | decide) (by first | assumption | omega | decide) (by first | assumption | omega | decide)) (my_cwV hts ok_X5_at w_225 rfl rfl ⟨Nat.le_of_ble_eq_true rfl, Nat.le_of_ble_eq_true rfl⟩) ⟨bP.blind, va_recv hG.1 hP (ci := 5) (q0 := 45) rfl (wl_at (by decide) htr), fun U hU hW => ⟨rfl, by rw [hU]; exact hP, kG.warm hW hG⟩⟩ rfl rfl hl.1 rfl (lv_room (Nat.le_of_ble_eq_true rfl)) dX0_shareFamily_42 ⟨Nat.le_of_ble_eq_true rfl, Nat.le_of_ble_eq_true rfl⟩) (fun r hr9 => ?_)
        subst hr9
        refine lv_icmp_ne (tgt := 52) hx hb dX0_shareFamily_45 (by decide) (fun c_45 => ?_) (fun c_45 => ?_)
        · refine lv_iconst (v := 0) hx hb dX0_shareFamily_52 (by decide) ?_
          refine lv_istore (lv' := [(5, .int 0), (4, .int (atv ct nt 70 n 4)), (3, .int 1), (0, .ref (g 36)), (1, .int n), (2, .int q)]) hx hb dX0_shareFamily_53 hl (by decide) rfl (fun ls hl => ?_)
          refine lv_iload hx hb dX0_shareFamily_55 (lv_at hl 1 rfl) ?_
          refine lv_iconst (v := (-1)) hx hb dX0_shareFamily_57 (by decide) ?_
          refine lv_icmp_eq (tgt := 68) hx hb dX0_shareFamily_58 (by decide) (fun c_58 => ?_) (fun c_58 => ?_)
          · refine lv_iinc (v := 2) (lv' := [(3, .int 2), (5, .int 0), (4, .int (atv ct nt 70 n 4)), (0, .ref (g 36)), (1, .int n), (2, .int q)]) hx hb dX0_shareFamily_68 hl (k := 2) rfl (by decide) (by decide) rfl (fun ls hl => ?_)
            refine lv_goto (tgt := 2) hx hb dX0_shareFamily_71 (by decide) ?_
            refine lv_iload_n hx hb dX0_shareFamily_2 rfl (lv_at hl 0 rfl) ?_
            refine lv_iconst (v := 1) hx hb dX0_shareFamily_3 (by decide) ?_
            refine lv_icmp_gt (tgt := 74) hx hb dX0_shareFamily_4 (by decide) (fun c_4 => ?_) (fun c_4 => absurd (by decide) c_4)
            refine lv_iconst (v := 0) hx hb dX0_shareFamily_74 (by decide) ?_
            exact W.zret (v := 0) hx hb hr (rfl) (fun t ht hW => ⟨_, rfl, (⟨false, (b2_f (by decide)).symm⟩), ht⟩) (fun _ h => absurd h List.not_mem_nil) dX0_shareFamily_75
          · refine lv_iload hx hb dX0_shareFamily_61 (lv_at hl 0 rfl) ?_
            refine lv_if_eq (tgt := 68) hx hb dX0_shareFamily_63 (by decide) (fun c_63 => ?_) (fun c_63 => absurd (by decide) c_63)
            refine lv_iinc (v := 2) (lv' := [(3, .int 2), (5, .int 0), (4, .int (atv ct nt 70 n 4)), (0, .ref (g 36)), (1, .int n), (2, .int q)]) hx hb dX0_shareFamily_68 hl (k := 2) rfl (by decide) (by decide) rfl (fun ls hl => ?_)
            refine lv_goto (tgt := 2) hx hb dX0_shareFamily_71 (by decide) ?_
            refine lv_iload_n hx hb dX0_shareFamily_2 rfl (lv_at hl 0 rfl) ?_
            refine lv_iconst (v := 1) hx hb dX0_shareFamily_3 (by decide) ?_
            refine lv_icmp_gt (tgt := 74) hx hb dX0_shareFamily_4 (by decide) (fun c_4 => ?_) (fun c_4 => absurd (by decide) c_4)
            refine lv_iconst (v := 0) hx hb dX0_shareFamily_74 (by decide) ?_
            exact W.zret (v := 0) hx hb hr (rfl) (fun t ht hW => ⟨_, rfl, (⟨false, (b2_f (by decide)).symm⟩), ht⟩) (fun _ h => absurd h List.not_mem_nil) dX0_shareFamily_75
        · refine lv_iconst (v := 1) hx hb dX0_shareFamily_48 (by decide) ?_
          refine lv_goto (tgt := 53) hx hb dX0_shareFamily_49 (by decide) ?_
          refine lv_istore (lv' := [(5, .int 1), (4, .int (atv ct nt 70 n 4)), (3, .int 1), (0, .ref (g 36)), (1, .int n), (2, .int q)]) hx hb dX0_shareFamily_53 hl (by decide) rfl (fun ls hl => ?_)
          refine lv_iload hx hb dX0_shareFamily_55 (lv_at hl 1 rfl) ?_
          refine lv_iconst (v := (-1)) hx hb dX0_shareFamily_57 (by decide) ?_
          refine lv_icmp_eq (tgt := 68) hx hb dX0_shareFamily_58 (by decide) (fun c_58 => ?_) (fun c_58 => ?_)
          · refine lv_iinc (v := 2) (lv' := [(3, .int 2), (5, .int 1), (4, .int (atv ct nt 70 n 4)), (0, .ref (g 36)), (1, .int n), (2, .int q)]) hx hb dX0_shareFamily_68 hl (k := 2) rfl (by decide) (by decide) rfl (fun ls hl => ?_)
            refine lv_goto (tgt := 2) hx hb dX0_shareFamily_71 (by decide) ?_
            refine lv_iload_n hx hb dX0_shareFamily_2 rfl (lv_at hl 0 rfl) ?_
            refine lv_iconst (v := 1) hx hb dX0_shareFamily_3 (by decide) ?_
            refine lv_icmp_gt (tgt := 74) hx hb dX0_shareFamily_4 (by decide) (fun c_4 => ?_) (fun c_4 => absurd (by decide) c_4)
            refine lv_iconst (v := 0) hx hb dX0_shareFamily_74 (by decide) ?_
            exact W.zret (v := 0) hx hb hr (rfl) (fun t ht hW => ⟨_, rfl, (⟨false, (b2_f (by decide)).symm⟩), ht⟩) (fun _ h => absurd h List.not_mem_nil) dX0_shareFamily_75
          · refine lv_iload hx hb dX0_shareFamily_61 (lv_at hl 0 rfl) ?_
            refine lv_if_eq (tgt := 68) hx hb dX0_shareFamily_63 (by decide) (fun c_63 => absurd c_63 (by decide)) (fun c_63 => ?_)
            refine lv_iconst (v := 1) hx hb dX0_shareFamily_66 (by decide) ?_
            exact W.zret (v := 1) hx hb hr (rfl) (fun t ht hW => ⟨_, rfl, (⟨true, (b2_t rfl).symm⟩), ht⟩) (fun _ h => absurd h List.not_mem_nil) dX0_shareFamily_67
    · refine lv_iload hx hb dX0_shareFamily_61 (lv_at hl 0 rfl) ?_
      refine lv_if_eq (tgt := 68) hx hb dX0_shareFamily_63 (by decide) (fun c_63 => absurd c_63 (by decide)) (fun c_63 => ?_)
      refine lv_iconst (v := 1) hx hb dX0_shareFamily_66 (by decide) ?_
      exact W.zret (v := 1) hx hb hr (rfl) (fun t ht hW => ⟨_, rfl, (⟨true, (b2_t rfl).symm⟩), ht⟩) (fun _ h => absurd h List.not_mem_nil) dX0_shareFamily_67
  · refine lv_iload hx hb dX0_shareFamily_34 (lv_at hl 0 rfl) ?_
    refine lv_aload_n hx hb dX0_shareFamily_36 rfl (lv_at hl 2 rfl) ?_
    refine va_get (D := G.1) (ci := 0) (v := .ref (g 45)) (C := RX0) (T := TX0) (N := 9) hx hb hts inlX0 hown hG.1 hP 36 (wl_at (by decide) hbk) rfl 4 (by decide) (hts (.fieldLink RX0 29 "SwornLists$Book" "trials" "LSwornLists$Rows;") w_58) (fun _ h9 => h9) rfl dX0_shareFamily_37 ?_
    refine lv_iload_n hx hb dX0_shareFamily_40 rfl (lv_at hl 4 rfl) ?_
    refine lv_iconst (v := 4) hx hb dX0_shareFamily_41 (by decide) ?_
    refine rd_calli (va_runV (As := [.int q, .int 4]) (rest := [.int (atv ct nt 70 n 3)]) ⟨hx, hb, hml, hown, hts⟩ (r_at l G g hg f 45 10 70 nt ct q 4 htr hct (by first | assumption | omega | decide) (by first | assumption | omega | decide) (by first | assumption | omega | decide) (by first | assumption | omega | decide)) (my_cwV hts ok_X5_at w_225 rfl rfl ⟨Nat.le_of_ble_eq_true rfl, Nat.le_of_ble_eq_true rfl⟩) ⟨bP.blind, va_recv hG.1 hP (ci := 5) (q0 := 45) rfl (wl_at (by decide) htr), fun U hU hW => ⟨rfl, by rw [hU]; exact hP, kG.warm hW hG⟩⟩ rfl rfl hl.1 rfl (lv_room (Nat.le_of_ble_eq_true rfl)) dX0_shareFamily_42 ⟨Nat.le_of_ble_eq_true rfl, Nat.le_of_ble_eq_true rfl⟩) (fun r hr9 => ?_)
    subst hr9
    refine lv_icmp_ne (tgt := 52) hx hb dX0_shareFamily_45 (by decide) (fun c_45 => ?_) (fun c_45 => ?_)
    · refine lv_iconst (v := 0) hx hb dX0_shareFamily_52 (by decide) ?_
      refine lv_istore (lv' := [(5, .int 0), (4, .int (atv ct nt 70 n 3)), (3, .int 0), (0, .ref (g 36)), (1, .int n), (2, .int q)]) hx hb dX0_shareFamily_53 hl (by decide) rfl (fun ls hl => ?_)
      refine lv_iload hx hb dX0_shareFamily_55 (lv_at hl 1 rfl) ?_
      refine lv_iconst (v := (-1)) hx hb dX0_shareFamily_57 (by decide) ?_
      refine lv_icmp_eq (tgt := 68) hx hb dX0_shareFamily_58 (by decide) (fun c_58 => ?_) (fun c_58 => ?_)
      · refine lv_iinc (v := 1) (lv' := [(3, .int 1), (5, .int 0), (4, .int (atv ct nt 70 n 3)), (0, .ref (g 36)), (1, .int n), (2, .int q)]) hx hb dX0_shareFamily_68 hl (k := 2) rfl (by decide) (by decide) rfl (fun ls hl => ?_)
        refine lv_goto (tgt := 2) hx hb dX0_shareFamily_71 (by decide) ?_
        refine lv_iload_n hx hb dX0_shareFamily_2 rfl (lv_at hl 0 rfl) ?_
        refine lv_iconst (v := 1) hx hb dX0_shareFamily_3 (by decide) ?_
        refine lv_icmp_gt (tgt := 74) hx hb dX0_shareFamily_4 (by decide) (fun c_4 => absurd c_4 (by decide)) (fun c_4 => ?_)
        refine lv_aload_n hx hb dX0_shareFamily_7 rfl (lv_at hl 3 rfl) ?_
        refine va_get (D := G.1) (ci := 0) (v := .ref (g 45)) (C := RX0) (T := TX0) (N := 9) hx hb hts inlX0 hown hG.1 hP 36 (wl_at (by decide) hbk) rfl 4 (by decide) (hts (.fieldLink RX0 29 "SwornLists$Book" "trials" "LSwornLists$Rows;") w_58) (fun _ h9 => h9) rfl dX0_shareFamily_8 ?_
        refine lv_iload_n hx hb dX0_shareFamily_11 rfl (lv_at hl 4 rfl) ?_
        refine lv_iconst (v := 3) hx hb dX0_shareFamily_12 (by decide) ?_
        refine lv_iload_n hx hb dX0_shareFamily_13 rfl (lv_at hl 0 rfl) ?_
        refine lv_iadd hx hb dX0_shareFamily_14 ?_
        refine my_bei (v := 4) (by decide) ?_
        refine rd_calli (va_runV (As := [.int n, .int 4]) (rest := []) ⟨hx, hb, hml, hown, hts⟩ (r_at l G g hg f 45 10 70 nt ct n 4 htr hct (by first | assumption | omega | decide) (by first | assumption | omega | decide) (by first | assumption | omega | decide) (by first | assumption | omega | decide)) (my_cwV hts ok_X5_at w_225 rfl rfl ⟨Nat.le_of_ble_eq_true rfl, Nat.le_of_ble_eq_true rfl⟩) ⟨bP.blind, va_recv hG.1 hP (ci := 5) (q0 := 45) rfl (wl_at (by decide) htr), fun U hU hW => ⟨rfl, by rw [hU]; exact hP, kG.warm hW hG⟩⟩ rfl rfl hl.1 rfl (lv_room (Nat.le_of_ble_eq_true rfl)) dX0_shareFamily_15 ⟨Nat.le_of_ble_eq_true rfl, Nat.le_of_ble_eq_true rfl⟩) (fun r hr9 => ?_)
        subst hr9
        refine lv_istore (lv' := [(4, .int (atv ct nt 70 n 4)), (3, .int 1), (5, .int 0), (0, .ref (g 36)), (1, .int n), (2, .int q)]) hx hb dX0_shareFamily_18 hl (by decide) rfl (fun ls hl => ?_)
        refine lv_iload hx hb dX0_shareFamily_20 (lv_at hl 0 rfl) ?_
        refine lv_aload_n hx hb dX0_shareFamily_22 rfl (lv_at hl 3 rfl) ?_
        refine va_get (D := G.1) (ci := 0) (v := .ref (g 45)) (C := RX0) (T := TX0) (N := 9) hx hb hts inlX0 hown hG.1 hP 36 (wl_at (by decide) hbk) rfl 4 (by decide) (hts (.fieldLink RX0 29 "SwornLists$Book" "trials" "LSwornLists$Rows;") w_58) (fun _ h9 => h9) rfl dX0_shareFamily_23 ?_
        refine lv_iload_n hx hb dX0_shareFamily_26 rfl (lv_at hl 5 rfl) ?_
        refine lv_iconst (v := 3) hx hb dX0_shareFamily_27 (by decide) ?_
        refine rd_calli (va_runV (As := [.int q, .int 3]) (rest := [.int (atv ct nt 70 n 4)]) ⟨hx, hb, hml, hown, hts⟩ (r_at l G g hg f 45 10 70 nt ct q 3 htr hct (by first | assumption | omega | decide) (by first | assumption | omega | decide) (by first | assumption | omega | decide) (by first | assumption | omega | decide)) (my_cwV hts ok_X5_at w_225 rfl rfl ⟨Nat.le_of_ble_eq_true rfl, Nat.le_of_ble_eq_true rfl⟩) ⟨bP.blind, va_recv hG.1 hP (ci := 5) (q0 := 45) rfl (wl_at (by decide) htr), fun U hU hW => ⟨rfl, by rw [hU]; exact hP, kG.warm hW hG⟩⟩ rfl rfl hl.1 rfl (lv_room (Nat.le_of_ble_eq_true rfl)) dX0_shareFamily_28 ⟨Nat.le_of_ble_eq_true rfl, Nat.le_of_ble_eq_true rfl⟩) (fun r hr9 => ?_)
        subst hr9
        refine lv_icmp_eq (tgt := 48) hx hb dX0_shareFamily_31 (by decide) (fun c_31 => ?_) (fun c_31 => ?_)
        · refine lv_iconst (v := 1) hx hb dX0_shareFamily_48 (by decide) ?_
          refine lv_goto (tgt := 53) hx hb dX0_shareFamily_49 (by decide) ?_
          refine lv_istore (lv' := [(5, .int 1), (4, .int (atv ct nt 70 n 4)), (3, .int 1), (0, .ref (g 36)), (1, .int n), (2, .int q)]) hx hb dX0_shareFamily_53 hl (by decide) rfl (fun ls hl => ?_)
          refine lv_iload hx hb dX0_shareFamily_55 (lv_at hl 1 rfl) ?_
          refine lv_iconst (v := (-1)) hx hb dX0_shareFamily_57 (by decide) ?_
          refine lv_icmp_eq (tgt := 68) hx hb dX0_shareFamily_58 (by decide) (fun c_58 => ?_) (fun c_58 => ?_)
          · refine lv_iinc (v := 2) (lv' := [(3, .int 2), (5, .int 1), (4, .int (atv ct nt 70 n 4)), (0, .ref (g 36)), (1, .int n), (2, .int q)]) hx hb dX0_shareFamily_68 hl (k := 2) rfl (by decide) (by decide) rfl (fun ls hl => ?_)
            refine lv_goto (tgt := 2) hx hb dX0_shareFamily_71 (by decide) ?_
            refine lv_iload_n hx hb dX0_shareFamily_2 rfl (lv_at hl 0 rfl) ?_
            refine lv_iconst (v := 1) hx hb dX0_shareFamily_3 (by decide) ?_
            refine lv_icmp_gt (tgt := 74) hx hb dX0_shareFamily_4 (by decide) (fun c_4 => ?_) (fun c_4 => absurd (by decide) c_4)
            refine lv_iconst (v := 0) hx hb dX0_shareFamily_74 (by decide) ?_
            exact W.zret (v := 0) hx hb hr (rfl) (fun t ht hW => ⟨_, rfl, (⟨false, (b2_f (by decide)).symm⟩), ht⟩) (fun _ h => absurd h List.not_mem_nil) dX0_shareFamily_75
          · refine lv_iload hx hb dX0_shareFamily_61 (lv_at hl 0 rfl) ?_
            refine lv_if_eq (tgt := 68) hx hb dX0_shareFamily_63 (by decide) (fun c_63 => absurd c_63 (by decide)) (fun c_63 => ?_)
            refine lv_iconst (v := 1) hx hb dX0_shareFamily_66 (by decide) ?_
            exact W.zret (v := 1) hx hb hr (rfl) (fun t ht hW => ⟨_, rfl, (⟨true, (b2_t rfl).symm⟩), ht⟩) (fun _ h => absurd h List.not_mem_nil) dX0_shareFamily_67
        · refine lv_iload hx hb dX0_shareFamily_34 (lv_at hl 0 rfl) ?_
          refine lv_aload_n hx hb dX0_shareFamily_36 rfl (lv_at hl 3 rfl) ?_
          refine va_get (D := G.1) (ci := 0) (v := .ref (g 45)) (C := RX0) (T := TX0) (N := 9) hx hb hts inlX0 hown hG.1 hP 36 (wl_at (by decide) hbk) rfl 4 (by decide) (hts (.fieldLink RX0 29 "SwornLists$Book" "trials" "LSwornLists$Rows;") w_58) (fun _ h9 => h9) rfl dX0_shareFamily_37 ?_
          refine lv_iload_n hx hb dX0_shareFamily_40 rfl (lv_at hl 5 rfl) ?_
          refine lv_iconst (v := 4) hx hb dX0_shareFamily_41 (by decide) ?_
          refine rd_calli (va_runV (As := [.int q, .int 4]) (rest := [.int (atv ct nt 70 n 4)]) ⟨hx, hb, hml, hown, hts⟩ (r_at l G g hg f 45 10 70 nt ct q 4 htr hct (by first | assumption | omega | decide) (by first | assumption | omega | decide) (by first | assumption | omega | decide) (by first | assumption | omega | decide)) (my_cwV hts ok_X5_at w_225 rfl rfl ⟨Nat.le_of_ble_eq_true rfl, Nat.le_of_ble_eq_true rfl⟩) ⟨bP.blind, va_recv hG.1 hP (ci := 5) (q0 := 45) rfl (wl_at (by decide) htr), fun U hU hW => ⟨rfl, by rw [hU]; exact hP, kG.warm hW hG⟩⟩ rfl rfl hl.1 rfl (lv_room (Nat.le_of_ble_eq_true rfl)) dX0_shareFamily_42 ⟨Nat.le_of_ble_eq_true rfl, Nat.le_of_ble_eq_true rfl⟩) (fun r hr9 => ?_)
          subst hr9
          refine lv_icmp_ne (tgt := 52) hx hb dX0_shareFamily_45 (by decide) (fun c_45 => ?_) (fun c_45 => ?_)
          · refine lv_iconst (v := 0) hx hb dX0_shareFamily_52 (by decide) ?_
            refine lv_istore (lv' := [(5, .int 0), (4, .int (atv ct nt 70 n 4)), (3, .int 1), (0, .ref (g 36)), (1, .int n), (2, .int q)]) hx hb dX0_shareFamily_53 hl (by decide) rfl (fun ls hl => ?_)
            refine lv_iload hx hb dX0_shareFamily_55 (lv_at hl 1 rfl) ?_
            refine lv_iconst (v := (-1)) hx hb dX0_shareFamily_57 (by decide) ?_
            refine lv_icmp_eq (tgt := 68) hx hb dX0_shareFamily_58 (by decide) (fun c_58 => ?_) (fun c_58 => ?_)
            · refine lv_iinc (v := 2) (lv' := [(3, .int 2), (5, .int 0), (4, .int (atv ct nt 70 n 4)), (0, .ref (g 36)), (1, .int n), (2, .int q)]) hx hb dX0_shareFamily_68 hl (k := 2) rfl (by decide) (by decide) rfl (fun ls hl => ?_)
              refine lv_goto (tgt := 2) hx hb dX0_shareFamily_71 (by decide) ?_
              refine lv_iload_n hx hb dX0_shareFamily_2 rfl (lv_at hl 0 rfl) ?_
              refine lv_iconst (v := 1) hx hb dX0_shareFamily_3 (by decide) ?_
              refine lv_icmp_gt (tgt := 74) hx hb dX0_shareFamily_4 (by decide) (fun c_4 => ?_) (fun c_4 => absurd (by decide) c_4)
              refine lv_iconst (v := 0) hx hb dX0_shareFamily_74 (by decide) ?_
              exact W.zret (v := 0) hx hb hr (rfl) (fun t ht hW => ⟨_, rfl, (⟨false, (b2_f (by decide)).symm⟩), ht⟩) (fun _ h => absurd h List.not_mem_nil) dX0_shareFamily_75
            · refine lv_iload hx hb dX0_shareFamily_61 (lv_at hl 0 rfl) ?_
              refine lv_if_eq (tgt := 68) hx hb dX0_shareFamily_63 (by decide) (fun c_63 => ?_) (fun c_63 => absurd (by decide) c_63)
              refine lv_iinc (v := 2) (lv' := [(3, .int 2), (5, .int 0), (4, .int (atv ct nt 70 n 4)), (0, .ref (g 36)), (1, .int n), (2, .int q)]) hx hb dX0_shareFamily_68 hl (k := 2) rfl (by decide) (by decide) rfl (fun ls hl => ?_)
              refine lv_goto (tgt := 2) hx hb dX0_shareFamily_71 (by decide) ?_
              refine lv_iload_n hx hb dX0_shareFamily_2 rfl (lv_at hl 0 rfl) ?_
              refine lv_iconst (v := 1) hx hb dX0_shareFamily_3 (by decide) ?_
              refine lv_icmp_gt (tgt := 74) hx hb dX0_shareFamily_4 (by decide) (fun c_4 => ?_) (fun c_4 => absurd (by decide) c_4)
              refine lv_iconst (v := 0) hx hb dX0_shareFamily_74 (by decide) ?_
              exact W.zret (v := 0) hx hb hr (rfl) (fun t ht hW => ⟨_, rfl, (⟨false, (b2_f (by decide)).symm⟩), ht⟩) (fun _ h => absurd h List.not_mem_nil) dX0_shareFamily_75
          · refine lv_iconst (v := 1) hx hb dX0_shareFamily_48 (by decide) ?_
            refine lv_goto (tgt := 53) hx hb dX0_shareFamily_49 (by decide) ?_
            refine lv_istore (lv' := [(5, .int 1), (4, .int (atv ct nt 70 n 4)), (3, .int 1), (0, .ref (g 36)), (1, .int n), (2, .int q)]) hx hb dX0_shareFamily_53 hl (by decide) rfl (fun ls hl => ?_)
            refine lv_iload hx hb dX0_shareFamily_55 (lv_at hl 1 rfl) ?_
            refine lv_iconst (v := (-1)) hx hb dX0_shareFamily_57 (by decide) ?_
            refine lv_icmp_eq (tgt := 68) hx hb dX0_shareFamily_58 (by decide) (fun c_58 => ?_) (fun c_58 => ?_)
            · refine lv_iinc (v := 2) (lv' := [(3, .int 2), (5, .int 1), (4, .int (atv ct nt 70 n 4)), (0, .ref (g 36)), (1, .int n), (2, .int q)]) hx hb dX0_shareFamily_68 hl (k := 2) rfl (by decide) (by decide) rfl (fun ls hl => ?_)
              refine lv_goto (tgt := 2) hx hb dX0_shareFamily_71 (by decide) ?_
              refine lv_iload_n hx hb dX0_shareFamily_2 rfl (lv_at hl 0 rfl) ?_
              refine lv_iconst (v := 1) hx hb dX0_shareFamily_3 (by decide) ?_
              refine lv_icmp_gt (tgt := 74) hx hb dX0_shareFamily_4 (by decide) (fun c_4 => ?_) (fun c_4 => absurd (by decide) c_4)
              refine lv_iconst (v := 0) hx hb dX0_shareFamily_74 (by decide) ?_
              exact W.zret (v := 0) hx hb hr (rfl) (fun t ht hW => ⟨_, rfl, (⟨false, (b2_f (by decide)).symm⟩), ht⟩) (fun _ h => absurd h List.not_mem_nil) dX0_shareFamily_75
            · refine lv_iload hx hb dX0_shareFamily_61 (lv_at hl 0 rfl) ?_
              refine lv_if_eq (tgt := 68) hx hb dX0_shareFamily_63 (by decide) (fun c_63 => absurd c_63 (by decide)) (fun c_63 => ?_)
              refine lv_iconst (v := 1) hx hb dX0_shareFamily_66 (by decide) ?_
              exact W.zret (v := 1) hx hb hr (rfl) (fun t ht hW => ⟨_, rfl, (⟨true, (b2_t rfl).symm⟩), ht⟩) (fun _ h => absurd h List.not_mem_nil) dX0_shareFamily_67
      · refine lv_iload hx hb dX0_shareFamily_61 (lv_at hl 0 rfl) ?_
        refine lv_if_eq (tgt := 68) hx hb dX0_shareFamily_63 (by decide) (fun c_63 => ?_) (fun c_63 => absurd (by decide) c_63)
        refine lv_iinc (v := 1) (lv' := [(3, .int 1), (5, .int 0), (4, .int (atv ct nt 70 n 3)), (0, .ref (g 36)), (1, .int n), (2, .int q)]) hx hb dX0_shareFamily_68 hl (k := 2) rfl (by decide) (by decide) rfl (fun ls hl => ?_)
        refine lv_goto (tgt := 2) hx hb dX0_shareFamily_71 (by decide) ?_
        refine lv_iload_n hx hb dX0_shareFamily_2 rfl (lv_at hl 0 rfl) ?_
        refine lv_iconst (v := 1) hx hb dX0_shareFamily_3 (by decide) ?_
        refine lv_icmp_gt (tgt := 74) hx hb dX0_shareFamily_4 (by decide) (fun c_4 => absurd c_4 (by decide)) (fun c_4 => ?_)
        refine lv_aload_n hx hb dX0_shareFamily_7 rfl (lv_at hl 3 rfl) ?_
        refine va_get (D := G.1) (ci := 0) (v := .ref (g 45)) (C := RX0) (T := TX0) (N := 9) hx hb hts inlX0 hown hG.1 hP 36 (wl_at (by decide) hbk) rfl 4 (by decide) (hts (.fieldLink RX0 29 "SwornLists$Book" "trials" "LSwornLists$Rows;") w_58) (fun _ h9 => h9) rfl dX0_shareFamily_8 ?_
        refine lv_iload_n hx hb dX0_shareFamily_11 rfl (lv_at hl 4 rfl) ?_
        refine lv_iconst (v := 3) hx hb dX0_shareFamily_12 (by decide) ?_
        refine lv_iload_n hx hb dX0_shareFamily_13 rfl (lv_at hl 0 rfl) ?_
        refine lv_iadd hx hb dX0_shareFamily_14 ?_
        refine my_bei (v := 4) (by decide) ?_
        refine rd_calli (va_runV (As := [.int n, .int 4]) (rest := []) ⟨hx, hb, hml, hown, hts⟩ (r_at l G g hg f 45 10 70 nt ct n 4 htr hct (by first | assumption | omega | decide) (by first | assumption | omega | decide) (by first | assumption | omega | decide) (by first | assumption | omega | decide)) (my_cwV hts ok_X5_at w_225 rfl rfl ⟨Nat.le_of_ble_eq_true rfl, Nat.le_of_ble_eq_true rfl⟩) ⟨bP.blind, va_recv hG.1 hP (ci := 5) (q0 := 45) rfl (wl_at (by decide) htr), fun U hU hW => ⟨rfl, by rw [hU]; exact hP, kG.warm hW hG⟩⟩ rfl rfl hl.1 rfl (lv_room (Nat.le_of_ble_eq_true rfl)) dX0_shareFamily_15 ⟨Nat.le_of_ble_eq_true rfl, Nat.le_of_ble_eq_true rfl⟩) (fun r hr9 => ?_)
        subst hr9
        refine lv_istore (lv' := [(4, .int (atv ct nt 70 n 4)), (3, .int 1), (5, .int 0), (0, .ref (g 36)), (1, .int n), (2, .int q)]) hx hb dX0_shareFamily_18 hl (by decide) rfl (fun ls hl => ?_)
        refine lv_iload hx hb dX0_shareFamily_20 (lv_at hl 0 rfl) ?_
        refine lv_aload_n hx hb dX0_shareFamily_22 rfl (lv_at hl 3 rfl) ?_
        refine va_get (D := G.1) (ci := 0) (v := .ref (g 45)) (C := RX0) (T := TX0) (N := 9) hx hb hts inlX0 hown hG.1 hP 36 (wl_at (by decide) hbk) rfl 4 (by decide) (hts (.fieldLink RX0 29 "SwornLists$Book" "trials" "LSwornLists$Rows;") w_58) (fun _ h9 => h9) rfl dX0_shareFamily_23 ?_
        refine lv_iload_n hx hb dX0_shareFamily_26 rfl (lv_at hl 5 rfl) ?_
        refine lv_iconst (v := 3) hx hb dX0_shareFamily_27 (by decide) ?_
        refine rd_calli (va_runV (As := [.int q, .int 3]) (rest := [.int (atv ct nt 70 n 4)]) ⟨hx, hb, hml, hown, hts⟩ (r_at l G g hg f 45 10 70 nt ct q 3 htr hct (by first | assumption | omega | decide) (by first | assumption | omega | decide) (by first | assumption | omega | decide) (by first | assumption | omega | decide)) (my_cwV hts ok_X5_at w_225 rfl rfl ⟨Nat.le_of_ble_eq_true rfl, Nat.le_of_ble_eq_true rfl⟩) ⟨bP.blind, va_recv hG.1 hP (ci := 5) (q0 := 45) rfl (wl_at (by decide) htr), fun U hU hW => ⟨rfl, by rw [hU]; exact hP, kG.warm hW hG⟩⟩ rfl rfl hl.1 rfl (lv_room (Nat.le_of_ble_eq_true rfl)) dX0_shareFamily_28 ⟨Nat.le_of_ble_eq_true rfl, Nat.le_of_ble_eq_true rfl⟩) (fun r hr9 => ?_)
        subst hr9
        refine lv_icmp_eq (tgt := 48) hx hb dX0_shareFamily_31 (by decide) (fun c_31 => ?_) (fun c_31 => ?_)
        · refine lv_iconst (v := 1) hx hb dX0_shareFamily_48 (by decide) ?_
          refine lv_goto (tgt := 53) hx hb dX0_shareFamily_49 (by decide) ?_
          refine lv_istore (lv' := [(5, .int 1), (4, .int (atv ct nt 70 n 4)), (3, .int 1), (0, .ref (g 36)), (1, .int n), (2, .int q)]) hx hb dX0_shareFamily_53 hl (by decide) rfl (fun ls hl => ?_)
          refine lv_iload hx hb dX0_shareFamily_55 (lv_at hl 1 rfl) ?_
          refine lv_iconst (v := (-1)) hx hb dX0_shareFamily_57 (by decide) ?_
          refine lv_icmp_eq (tgt := 68) hx hb dX0_shareFamily_58 (by decide) (fun c_58 => ?_) (fun c_58 => ?_)
          · refine lv_iinc (v := 2) (lv' := [(3, .int 2), (5, .int 1), (4, .int (atv ct nt 70 n 4)), (0, .ref (g 36)), (1, .int n), (2, .int q)]) hx hb dX0_shareFamily_68 hl (k := 2) rfl (by decide) (by decide) rfl (fun ls hl => ?_)
            refine lv_goto (tgt := 2) hx hb dX0_shareFamily_71 (by decide) ?_
            refine lv_iload_n hx hb dX0_shareFamily_2 rfl (lv_at hl 0 rfl) ?_
            refine lv_iconst (v := 1) hx hb dX0_shareFamily_3 (by decide) ?_
            refine lv_icmp_gt (tgt := 74) hx hb dX0_shareFamily_4 (by decide) (fun c_4 => ?_) (fun c_4 => absurd (by decide) c_4)
            refine lv_iconst (v := 0) hx hb dX0_shareFamily_74 (by decide) ?_
            exact W.zret (v := 0) hx hb hr (rfl) (fun t ht hW => ⟨_, rfl, (⟨false, (b2_f (by decide)).symm⟩), ht⟩) (fun _ h => absurd h List.not_mem_nil) dX0_shareFamily_75
          · refine lv_iload hx hb dX0_shareFamily_61 (lv_at hl 0 rfl) ?_
            refine lv_if_eq (tgt := 68) hx hb dX0_shareFamily_63 (by decide) (fun c_63 => absurd c_63 (by decide)) (fun c_63 => ?_)
            refine lv_iconst (v := 1) hx hb dX0_shareFamily_66 (by decide) ?_
            exact W.zret (v := 1) hx hb hr (rfl) (fun t ht hW => ⟨_, rfl, (⟨true, (b2_t rfl).symm⟩), ht⟩) (fun _ h => absurd h List.not_mem_nil) dX0_shareFamily_67
        · refine lv_iload hx hb dX0_shareFamily_34 (lv_at hl 0 rfl) ?_
          refine lv_aload_n hx hb dX0_shareFamily_36 rfl (lv_at hl 3 rfl) ?_
          refine va_get (D := G.1) (ci := 0) (v := .ref (g 45)) (C := RX0) (T := TX0) (N := 9) hx hb hts inlX0 hown hG.1 hP 36 (wl_at (by decide) hbk) rfl 4 (by decide) (hts (.fieldLink RX0 29 "SwornLists$Book" "trials" "LSwornLists$Rows;") w_58) (fun _ h9 => h9) rfl dX0_shareFamily_37 ?_
          refine lv_iload_n hx hb dX0_shareFamily_40 rfl (lv_at hl 5 rfl) ?_
          refine lv_iconst (v := 4) hx hb dX0_shareFamily_41 (by decide) ?_
          refine rd_calli (va_runV (As := [.int q, .int 4]) (rest := [.int (atv ct nt 70 n 4)]) ⟨hx, hb, hml, hown, hts⟩ (r_at l G g hg f 45 10 70 nt ct q 4 htr hct (by first | assumption | omega | decide) (by first | assumption | omega | decide) (by first | assumption | omega | decide) (by first | assumption | omega | decide)) (my_cwV hts ok_X5_at w_225 rfl rfl ⟨Nat.le_of_ble_eq_true rfl, Nat.le_of_ble_eq_true rfl⟩) ⟨bP.blind, va_recv hG.1 hP (ci := 5) (q0 := 45) rfl (wl_at (by decide) htr), fun U hU hW => ⟨rfl, by rw [hU]; exact hP, kG.warm hW hG⟩⟩ rfl rfl hl.1 rfl (lv_room (Nat.le_of_ble_eq_true rfl)) dX0_shareFamily_42 ⟨Nat.le_of_ble_eq_true rfl, Nat.le_of_ble_eq_true rfl⟩) (fun r hr9 => ?_)
          subst hr9
          refine lv_icmp_ne (tgt := 52) hx hb dX0_shareFamily_45 (by decide) (fun c_45 => ?_) (fun c_45 => ?_)
          · refine lv_iconst (v := 0) hx hb dX0_shareFamily_52 (by decide) ?_
            refine lv_istore (lv' := [(5, .int 0), (4, .int (atv ct nt 70 n 4)), (3, .int 1), (0, .ref (g 36)), (1, .int n), (2, .int q)]) hx hb dX0_shareFamily_53 hl (by decide) rfl (fun ls hl => ?_)
            refine lv_iload hx hb dX0_shareFamily_55 (lv_at hl 1 rfl) ?_
            refine lv_iconst (v := (-1)) hx hb dX0_shareFamily_57 (by decide) ?_
            refine lv_icmp_eq (tgt := 68) hx hb dX0_shareFamily_58 (by decide) (fun c_58 => ?_) (fun c_58 => ?_)
            · refine lv_iinc (v := 2) (lv' := [(3, .int 2), (5, .int 0), (4, .int (atv ct nt 70 n 4)), (0, .ref (g 36)), (1, .int n), (2, .int q)]) hx hb dX0_shareFamily_68 hl (k := 2) rfl (by decide) (by decide) rfl (fun ls hl => ?_)
              refine lv_goto (tgt := 2) hx hb dX0_shareFamily_71 (by decide) ?_
              refine lv_iload_n hx hb dX0_shareFamily_2 rfl (lv_at hl 0 rfl) ?_
              refine lv_iconst (v := 1) hx hb dX0_shareFamily_3 (by decide) ?_
              refine lv_icmp_gt (tgt := 74) hx hb dX0_shareFamily_4 (by decide) (fun c_4 => ?_) (fun c_4 => absurd (by decide) c_4)
              refine lv_iconst (v := 0) hx hb dX0_shareFamily_74 (by decide) ?_
              exact W.zret (v := 0) hx hb hr (rfl) (fun t ht hW => ⟨_, rfl, (⟨false, (b2_f (by decide)).symm⟩), ht⟩) (fun _ h => absurd h List.not_mem_nil) dX0_shareFamily_75
            · refine lv_iload hx hb dX0_shareFamily_61 (lv_at hl 0 rfl) ?_
              refine lv_if_eq (tgt := 68) hx hb dX0_shareFamily_63 (by decide) (fun c_63 => ?_) (fun c_63 => absurd (by decide) c_63)
              refine lv_iinc (v := 2) (lv' := [(3, .int 2), (5, .int 0), (4, .int (atv ct nt 70 n 4)), (0, .ref (g 36)), (1, .int n), (2, .int q)]) hx hb dX0_shareFamily_68 hl (k := 2) rfl (by decide) (by decide) rfl (fun ls hl => ?_)
              refine lv_goto (tgt := 2) hx hb dX0_shareFamily_71 (by decide) ?_
              refine lv_iload_n hx hb dX0_shareFamily_2 rfl (lv_at hl 0 rfl) ?_
              refine lv_iconst (v := 1) hx hb dX0_shareFamily_3 (by decide) ?_
              refine lv_icmp_gt (tgt := 74) hx hb dX0_shareFamily_4 (by decide) (fun c_4 => ?_) (fun c_4 => absurd (by decide) c_4)
              refine lv_iconst (v := 0) hx hb dX0_shareFamily_74 (by decide) ?_
              exact W.zret (v := 0) hx hb hr (rfl) (fun t ht hW => ⟨_, rfl, (⟨false, (b2_f (by decide)).symm⟩), ht⟩) (fun _ h => absurd h List.not_mem_nil) dX0_shareFamily_75
          · refine lv_iconst (v := 1) hx hb dX0_shareFamily_48 (by decide) ?_
            refine lv_goto (tgt := 53) hx hb dX0_shareFamily_49 (by decide) ?_
            refine lv_istore (lv' := [(5, .int 1), (4, .int (atv ct nt 70 n 4)), (3, .int 1), (0, .ref (g 36)), (1, .int n), (2, .int q)]) hx hb dX0_shareFamily_53 hl (by decide) rfl (fun ls hl => ?_)
            refine lv_iload hx hb dX0_shareFamily_55 (lv_at hl 1 rfl) ?_
            refine lv_iconst (v := (-1)) hx hb dX0_shareFamily_57 (by decide) ?_
            refine lv_icmp_eq (tgt := 68) hx hb dX0_shareFamily_58 (by decide) (fun c_58 => ?_) (fun c_58 => ?_)
            · refine lv_iinc (v := 2) (lv' := [(3, .int 2), (5, .int 1), (4, .int (atv ct nt 70 n 4)), (0, .ref (g 36)), (1, .int n), (2, .int q)]) hx hb dX0_shareFamily_68 hl (k := 2) rfl (by decide) (by decide) rfl (fun ls hl => ?_)
              refine lv_goto (tgt := 2) hx hb dX0_shareFamily_71 (by decide) ?_
              refine lv_iload_n hx hb dX0_shareFamily_2 rfl (lv_at hl 0 rfl) ?_
              refine lv_iconst (v := 1) hx hb dX0_shareFamily_3 (by decide) ?_
              refine lv_icmp_gt (tgt := 74) hx hb dX0_shareFamily_4 (by decide) (fun c_4 => ?_) (fun c_4 => absurd (by decide) c_4)
              refine lv_iconst (v := 0) hx hb dX0_shareFamily_74 (by decide) ?_
              exact W.zret (v := 0) hx hb hr (rfl) (fun t ht hW => ⟨_, rfl, (⟨false, (b2_f (by decide)).symm⟩), ht⟩) (fun _ h => absurd h List.not_mem_nil) dX0_shareFamily_75
            · refine lv_iload hx hb dX0_shareFamily_61 (lv_at hl 0 rfl) ?_
              refine lv_if_eq (tgt := 68) hx hb dX0_shareFamily_63 (by decide) (fun c_63 => absurd c_63 (by decide)) (fun c_63 => ?_)
              refine lv_iconst (v := 1) hx hb dX0_shareFamily_66 (by decide) ?_
              exact W.zret (v := 1) hx hb hr (rfl) (fun t ht hW => ⟨_, rfl, (⟨true, (b2_t rfl).symm⟩), ht⟩) (fun _ h => absurd h List.not_mem_nil) dX0_shareFamily_67
    · refine lv_iconst (v := 1) hx hb dX0_shareFamily_48 (by decide) ?_
      refine lv_goto (tgt := 53) hx hb dX0_shareFamily_49 (by decide) ?_
      refine lv_istore (lv' := [(5, .int 1), (4, .int (atv ct nt 70 n 3)), (3, .int 0), (0, .ref (g 36)), (1, .int n), (2, .int q)]) hx hb dX0_shareFamily_53 hl (by decide) rfl (fun ls hl => ?_)
      refine lv_iload hx hb dX0_shareFamily_55 (lv_at hl 1 rfl) ?_
      refine lv_iconst (v := (-1)) hx hb dX0_shareFamily_57 (by decide) ?_
      refine lv_icmp_eq (tgt := 68) hx hb dX0_shareFamily_58 (by decide) (fun c_58 => ?_) (fun c_58 => ?_)
      · refine lv_iinc (v := 1) (lv' := [(3, .int 1), (5, .int 1), (4, .int (atv ct nt 70 n 3)), (0, .ref (g 36)), (1, .int n), (2, .int q)]) hx hb dX0_shareFamily_68 hl (k := 2) rfl (by decide) (by decide) rfl (fun ls hl => ?_)
        refine lv_goto (tgt := 2) hx hb dX0_shareFamily_71 (by decide) ?_
        refine lv_iload_n hx hb dX0_shareFamily_2 rfl (lv_at hl 0 rfl) ?_
        refine lv_iconst (v := 1) hx hb dX0_shareFamily_3 (by decide) ?_
        refine lv_icmp_gt (tgt := 74) hx hb dX0_shareFamily_4 (by decide) (fun c_4 => absurd c_4 (by decide)) (fun c_4 => ?_)
        refine lv_aload_n hx hb dX0_shareFamily_7 rfl (lv_at hl 3 rfl) ?_
        refine va_get (D := G.1) (ci := 0) (v := .ref (g 45)) (C := RX0) (T := TX0) (N := 9) hx hb hts inlX0 hown hG.1 hP 36 (wl_at (by decide) hbk) rfl 4 (by decide) (hts (.fieldLink RX0 29 "SwornLists$Book" "trials" "LSwornLists$Rows;") w_58) (fun _ h9 => h9) rfl dX0_shareFamily_8 ?_
        refine lv_iload_n hx hb dX0_shareFamily_11 rfl (lv_at hl 4 rfl) ?_
        refine lv_iconst (v := 3) hx hb dX0_shareFamily_12 (by decide) ?_
        refine lv_iload_n hx hb dX0_shareFamily_13 rfl (lv_at hl 0 rfl) ?_
        refine lv_iadd hx hb dX0_shareFamily_14 ?_
        refine my_bei (v := 4) (by decide) ?_
        refine rd_calli (va_runV (As := [.int n, .int 4]) (rest := []) ⟨hx, hb, hml, hown, hts⟩ (r_at l G g hg f 45 10 70 nt ct n 4 htr hct (by first | assumption | omega | decide) (by first | assumption | omega | decide) (by first | assumption | omega | decide) (by first | assumption | omega | decide)) (my_cwV hts ok_X5_at w_225 rfl rfl ⟨Nat.le_of_ble_eq_true rfl, Nat.le_of_ble_eq_true rfl⟩) ⟨bP.blind, va_recv hG.1 hP (ci := 5) (q0 := 45) rfl (wl_at (by decide) htr), fun U hU hW => ⟨rfl, by rw [hU]; exact hP, kG.warm hW hG⟩⟩ rfl rfl hl.1 rfl (lv_room (Nat.le_of_ble_eq_true rfl)) dX0_shareFamily_15 ⟨Nat.le_of_ble_eq_true rfl, Nat.le_of_ble_eq_true rfl⟩) (fun r hr9 => ?_)
        subst hr9
        refine lv_istore (lv' := [(4, .int (atv ct nt 70 n 4)), (3, .int 1), (5, .int 1), (0, .ref (g 36)), (1, .int n), (2, .int q)]) hx hb dX0_shareFamily_18 hl (by decide) rfl (fun ls hl => ?_)
        refine lv_iload hx hb dX0_shareFamily_20 (lv_at hl 0 rfl) ?_
        refine lv_aload_n hx hb dX0_shareFamily_22 rfl (lv_at hl 3 rfl) ?_
        refine va_get (D := G.1) (ci := 0) (v := .ref (g 45)) (C := RX0) (T := TX0) (N := 9) hx hb hts inlX0 hown hG.1 hP 36 (wl_at (by decide) hbk) rfl 4 (by decide) (hts (.fieldLink RX0 29 "SwornLists$Book" "trials" "LSwornLists$Rows;") w_58) (fun _ h9 => h9) rfl dX0_shareFamily_23 ?_
        refine lv_iload_n hx hb dX0_shareFamily_26 rfl (lv_at hl 5 rfl) ?_
        refine lv_iconst (v := 3) hx hb dX0_shareFamily_27 (by decide) ?_
        refine rd_calli (va_runV (As := [.int q, .int 3]) (rest := [.int (atv ct nt 70 n 4)]) ⟨hx, hb, hml, hown, hts⟩ (r_at l G g hg f 45 10 70 nt ct q 3 htr hct (by first | assumption | omega | decide) (by first | assumption | omega | decide) (by first | assumption | omega | decide) (by first | assumption | omega | decide)) (my_cwV hts ok_X5_at w_225 rfl rfl ⟨Nat.le_of_ble_eq_true rfl, Nat.le_of_ble_eq_true rfl⟩) ⟨bP.blind, va_recv hG.1 hP (ci := 5) (q0 := 45) rfl (wl_at (by decide) htr), fun U hU hW => ⟨rfl, by rw [hU]; exact hP, kG.warm hW hG⟩⟩ rfl rfl hl.1 rfl (lv_room (Nat.le_of_ble_eq_true rfl)) dX0_shareFamily_28 ⟨Nat.le_of_ble_eq_true rfl, Nat.le_of_ble_eq_true rfl⟩) (fun r hr9 => ?_)
        subst hr9
        refine lv_icmp_eq (tgt := 48) hx hb dX0_shareFamily_31 (by decide) (fun c_31 => ?_) (fun c_31 => ?_)
        · refine lv_iconst (v := 1) hx hb dX0_shareFamily_48 (by decide) ?_
          refine lv_goto (tgt := 53) hx hb dX0_shareFamily_49 (by decide) ?_
          refine lv_istore (lv' := [(5, .int 1), (4, .int (atv ct nt 70 n 4)), (3, .int 1), (0, .ref (g 36)), (1, .int n), (2, .int q)]) hx hb dX0_shareFamily_53 hl (by decide) rfl (fun ls hl => ?_)
          refine lv_iload hx hb dX0_shareFamily_55 (lv_at hl 1 rfl) ?_
          refine lv_iconst (v := (-1)) hx hb dX0_shareFamily_57 (by decide) ?_
          refine lv_icmp_eq (tgt := 68) hx hb dX0_shareFamily_58 (by decide) (fun c_58 => ?_) (fun c_58 => ?_)
          · refine lv_iinc (v := 2) (lv' := [(3, .int 2), (5, .int 1), (4, .int (atv ct nt 70 n 4)), (0, .ref (g 36)), (1, .int n), (2, .int q)]) hx hb dX0_shareFamily_68 hl (k := 2) rfl (by decide) (by decide) rfl (fun ls hl => ?_)
            refine lv_goto (tgt := 2) hx hb dX0_shareFamily_71 (by decide) ?_
            refine lv_iload_n hx hb dX0_shareFamily_2 rfl (lv_at hl 0 rfl) ?_
            refine lv_iconst (v := 1) hx hb dX0_shareFamily_3 (by decide) ?_
            refine lv_icmp_gt (tgt := 74) hx hb dX0_shareFamily_4 (by decide) (fun c_4 => ?_) (fun c_4 => absurd (by decide) c_4)
            refine lv_iconst (v := 0) hx hb dX0_shareFamily_74 (by decide) ?_
            exact W.zret (v := 0) hx hb hr (rfl) (fun t ht hW => ⟨_, rfl, (⟨false, (b2_f (by decide)).symm⟩), ht⟩) (fun _ h => absurd h List.not_mem_nil) dX0_shareFamily_75
          · refine lv_iload hx hb dX0_shareFamily_61 (lv_at hl 0 rfl) ?_
            refine lv_if_eq (tgt := 68) hx hb dX0_shareFamily_63 (by decide) (fun c_63 => absurd c_63 (by decide)) (fun c_63 => ?_)
            refine lv_iconst (v := 1) hx hb dX0_shareFamily_66 (by decide) ?_
            exact W.zret (v := 1) hx hb hr (rfl) (fun t ht hW => ⟨_, rfl, (⟨true, (b2_t rfl).symm⟩), ht⟩) (fun _ h => absurd h List.not_mem_nil) dX0_shareFamily_67
        · refine lv_iload hx hb dX0_shareFamily_34 (lv_at hl 0 rfl) ?_
          refine lv_aload_n hx hb dX0_shareFamily_36 rfl (lv_at hl 3 rfl) ?_
          refine va_get (D := G.1) (ci := 0) (v := .ref (g 45)) (C := RX0) (T := TX0) (N := 9) hx hb hts inlX0 hown hG.1 hP 36 (wl_at (by decide) hbk) rfl 4 (by decide) (hts (.fieldLink RX0 29 "SwornLists$Book" "trials" "LSwornLists$Rows;") w_58) (fun _ h9 => h9) rfl dX0_shareFamily_37 ?_
          refine lv_iload_n hx hb dX0_shareFamily_40 rfl (lv_at hl 5 rfl) ?_
          refine lv_iconst (v := 4) hx hb dX0_shareFamily_41 (by decide) ?_
          refine rd_calli (va_runV (As := [.int q, .int 4]) (rest := [.int (atv ct nt 70 n 4)]) ⟨hx, hb, hml, hown, hts⟩ (r_at l G g hg f 45 10 70 nt ct q 4 htr hct (by first | assumption | omega | decide) (by first | assumption | omega | decide) (by first | assumption | omega | decide) (by first | assumption | omega | decide)) (my_cwV hts ok_X5_at w_225 rfl rfl ⟨Nat.le_of_ble_eq_true rfl, Nat.le_of_ble_eq_true rfl⟩) ⟨bP.blind, va_recv hG.1 hP (ci := 5) (q0 := 45) rfl (wl_at (by decide) htr), fun U hU hW => ⟨rfl, by rw [hU]; exact hP, kG.warm hW hG⟩⟩ rfl rfl hl.1 rfl (lv_room (Nat.le_of_ble_eq_true rfl)) dX0_shareFamily_42 ⟨Nat.le_of_ble_eq_true rfl, Nat.le_of_ble_eq_true rfl⟩) (fun r hr9 => ?_)
          subst hr9
          refine lv_icmp_ne (tgt := 52) hx hb dX0_shareFamily_45 (by decide) (fun c_45 => ?_) (fun c_45 => ?_)
          · refine lv_iconst (v := 0) hx hb dX0_shareFamily_52 (by decide) ?_
            refine lv_istore (lv' := [(5, .int 0), (4, .int (atv ct nt 70 n 4)), (3, .int 1), (0, .ref (g 36)), (1, .int n), (2, .int q)]) hx hb dX0_shareFamily_53 hl (by decide) rfl (fun ls hl => ?_)
            refine lv_iload hx hb dX0_shareFamily_55 (lv_at hl 1 rfl) ?_
            refine lv_iconst (v := (-1)) hx hb dX0_shareFamily_57 (by decide) ?_
            refine lv_icmp_eq (tgt := 68) hx hb dX0_shareFamily_58 (by decide) (fun c_58 => ?_) (fun c_58 => ?_)
            · refine lv_iinc (v := 2) (lv' := [(3, .int 2), (5, .int 0), (4, .int (atv ct nt 70 n 4)), (0, .ref (g 36)), (1, .int n), (2, .int q)]) hx hb dX0_shareFamily_68 hl (k := 2) rfl (by decide) (by decide) rfl (fun ls hl => ?_)
              refine lv_goto (tgt := 2) hx hb dX0_shareFamily_71 (by decide) ?_
              refine lv_iload_n hx hb dX0_shareFamily_2 rfl (lv_at hl 0 rfl) ?_
              refine lv_iconst (v := 1) hx hb dX0_shareFamily_3 (by decide) ?_
              refine lv_icmp_gt (tgt := 74) hx hb dX0_shareFamily_4 (by decide) (fun c_4 => ?_) (fun c_4 => absurd (by decide) c_4)
              refine lv_iconst (v := 0) hx hb dX0_shareFamily_74 (by decide) ?_
              exact W.zret (v := 0) hx hb hr (rfl) (fun t ht hW => ⟨_, rfl, (⟨false, (b2_f (by decide)).symm⟩), ht⟩) (fun _ h => absurd h List.not_mem_nil) dX0_shareFamily_75
            · refine lv_iload hx hb dX0_shareFamily_61 (lv_at hl 0 rfl) ?_
              refine lv_if_eq (tgt := 68) hx hb dX0_shareFamily_63 (by decide) (fun c_63 => ?_) (fun c_63 => absurd (by decide) c_63)
              refine lv_iinc (v := 2) (lv' := [(3, .int 2), (5, .int 0), (4, .int (atv ct nt 70 n 4)), (0, .ref (g 36)), (1, .int n), (2, .int q)]) hx hb dX0_shareFamily_68 hl (k := 2) rfl (by decide) (by decide) rfl (fun ls hl => ?_)
              refine lv_goto (tgt := 2) hx hb dX0_shareFamily_71 (by decide) ?_
              refine lv_iload_n hx hb dX0_shareFamily_2 rfl (lv_at hl 0 rfl) ?_
              refine lv_iconst (v := 1) hx hb dX0_shareFamily_3 (by decide) ?_
              refine lv_icmp_gt (tgt := 74) hx hb dX0_shareFamily_4 (by decide) (fun c_4 => ?_) (fun c_4 => absurd (by decide) c_4)
              refine lv_iconst (v := 0) hx hb dX0_shareFamily_74 (by decide) ?_
              exact W.zret (v := 0) hx hb hr (rfl) (fun t ht hW => ⟨_, rfl, (⟨false, (b2_f (by decide)).symm⟩), ht⟩) (fun _ h => absurd h List.not_mem_nil) dX0_shareFamily_75
          · refine lv_iconst (v := 1) hx hb dX0_shareFamily_48 (by decide) ?_
            refine lv_goto (tgt := 53) hx hb dX0_shareFamily_49 (by decide) ?_
            refine lv_istore (lv' := [(5, .int 1), (4, .int (atv ct nt 70 n 4)), (3, .int 1), (0, .ref (g 36)), (1, .int n), (2, .int q)]) hx hb dX0_shareFamily_53 hl (by decide) rfl (fun ls hl => ?_)
            refine lv_iload hx hb dX0_shareFamily_55 (lv_at hl 1 rfl) ?_
            refine lv_iconst (v := (-1)) hx hb dX0_shareFamily_57 (by decide) ?_
            refine lv_icmp_eq (tgt := 68) hx hb dX0_shareFamily_58 (by decide) (fun c_58 => ?_) (fun c_58 => ?_)
            · refine lv_iinc (v := 2) (lv' := [(3, .int 2), (5, .int 1), (4, .int (atv ct nt 70 n 4)), (0, .ref (g 36)), (1, .int n), (2, .int q)]) hx hb dX0_shareFamily_68 hl (k := 2) rfl (by decide) (by decide) rfl (fun ls hl => ?_)
              refine lv_goto (tgt := 2) hx hb dX0_shareFamily_71 (by decide) ?_
              refine lv_iload_n hx hb dX0_shareFamily_2 rfl (lv_at hl 0 rfl) ?_
              refine lv_iconst (v := 1) hx hb dX0_shareFamily_3 (by decide) ?_
              refine lv_icmp_gt (tgt := 74) hx hb dX0_shareFamily_4 (by decide) (fun c_4 => ?_) (fun c_4 => absurd (by decide) c_4)
              refine lv_iconst (v := 0) hx hb dX0_shareFamily_74 (by decide) ?_
              exact W.zret (v := 0) hx hb hr (rfl) (fun t ht hW => ⟨_, rfl, (⟨false, (b2_f (by decide)).symm⟩), ht⟩) (fun _ h => absurd h List.not_mem_nil) dX0_shareFamily_75
            · refine lv_iload hx hb dX0_shareFamily_61 (lv_at hl 0 rfl) ?_
              refine lv_if_eq (tgt := 68) hx hb dX0_shareFamily_63 (by decide) (fun c_63 => absurd c_63 (by decide)) (fun c_63 => ?_)
              refine lv_iconst (v := 1) hx hb dX0_shareFamily_66 (by decide) ?_
              exact W.zret (v := 1) hx hb hr (rfl) (fun t ht hW => ⟨_, rfl, (⟨true, (b2_t rfl).symm⟩), ht⟩) (fun _ h => absurd h List.not_mem_nil) dX0_shareFamily_67
      · refine lv_iload hx hb dX0_shareFamily_61 (lv_at hl 0 rfl) ?_
        refine lv_if_eq (tgt := 68) hx hb dX0_shareFamily_63 (by decide) (fun c_63 => absurd c_63 (by decide)) (fun c_63 => ?_)
        refine lv_iconst (v := 1) hx hb dX0_shareFamily_66 (by decide) ?_
        exact W.zret (v := 1) hx hb hr (rfl) (fun t ht hW => ⟨_, rfl, (⟨true, (b2_t rfl).symm⟩), ht⟩) (fun _ h => absurd h List.not_mem_nil) dX0_shareFamily_67


set_option maxHeartbeats 4000000 in
set_option maxRecDepth 100000 in
theorem k_everyoneE (l : Launch) (G : gW) (g : Nat → Nat) (hg : gOK g) (f : Nat → va_E) (pay : Int32) (fine : Int32) (np : Nat) (dp : Nat → Int32) (hbk : f 36 = eO 0 [.ref (g 37), .ref (g 39), .ref (g 41), .ref (g 43), .ref (g 45), .ref (g 47), .ref (g 112), .int pay, .int fine]) (hpr : f 37 = eO 5 [.int (nI 30), .int (nI 4), .ref (g 38), .int (nI np)]) (hpd : f 38 = eI G (30 * 4) dp) (hnp : np ≤ 30) : Met l yX0_everyone (wsT yX0_everyone cX0_everyone 1 (some .int)) ({ frames := 1, cells := 0, slots := 0, locals := 20 }) (bP G g f [.ref (g 36)]) (rQi (fun z9 => z9 = (1 <<< (nI np &&& 31)) - 1)) 0 0 fr0 := by
  refine Met.ofW (cc := cX0_everyone) (maxL := 1) (ret := (some .int)) (by decide) rfl ?_
  intro p e s m args below meth c s₁ B hml hv
  obtain ⟨rfl, hP, hG⟩ := hv
  have hx := B.exec
  have hb := B.bytes
  have hr := B.returns
  have hts := my_hts (atoms_spec (ws := wsT yX0_everyone cX0_everyone 1 (some .int)) B.pre)
  have hown : s.vm.findClass RX0 = some m.cls := findClass_of_methodNamed B.named
  have hlocks := B.notSynchronized
  have hl := lv_entry ([.ref (g 36)]) (n := 1) (Nat.le_of_ble_eq_true rfl)
  rw [lg_entry_eq]
  generalize (lg_sl ([.ref (g 36)]) ++ List.replicate (1 - (lg_sl ([.ref (g 36)])).length) Slot.unset).toArray = ls at hl ⊢
  have hl : lv_has ls 1 [(0, .ref (g 36))] := hl
  refine W_q8 (fun Q9 hQ9 => ?_)
  refine lv_aload_n hx hb dX0_everyone_0 rfl (lv_at hl 0 rfl) ?_
  refine va_get (D := G.1) (ci := 0) (v := .ref (g 37)) (C := RX0) (T := TX0) (N := 9) hx hb hts inlX0 hown hG.1 hP 36 (wl_at (by decide) hbk) rfl 0 (by decide) (hts (.fieldLink RX0 14 "SwornLists$Book" "people" "LSwornLists$Rows;") w_54) (fun _ h9 => h9) rfl dX0_everyone_1 ?_
  refine rd_calli (va_runV (As := []) (rest := []) ⟨hx, hb, hml, hown, hts⟩ (r_size l G g hg f 37 30 4 np hpr (by first | assumption | omega | decide) (by first | assumption | omega | decide) (by first | assumption | omega | decide) (by first | assumption | omega | decide)) (my_cwV hts ok_X5_size w_202 rfl rfl ⟨Nat.le_of_ble_eq_true rfl, Nat.le_of_ble_eq_true rfl⟩) ⟨bP.blind, va_recv hG.1 hP (ci := 5) (q0 := 37) rfl (wl_at (by decide) hpr), fun U hU hW => ⟨rfl, by rw [hU]; exact hP, kG.warm hW hG⟩⟩ rfl rfl hl.1 rfl (lv_room (Nat.le_of_ble_eq_true rfl)) dX0_everyone_4 ⟨Nat.le_of_ble_eq_true rfl, Nat.le_of_ble_eq_true rfl⟩) (fun r hr9 => ?_)
  subst hr9
  refine rd_calli (va_runSN (As := [.int (nI np)]) (rest := []) ⟨hx, hb, hml, hown, hts⟩ (s_lowBits l G g hg f (nI np)  ) (⟨my_cn hts ok_X10_lowBits.1 (hG.2.1 (.methodLinkNest RX0 62 yX10_lowBits RX10) (List.mem_of_getElem? (i := 29) rfl)) rfl rfl ⟨Nat.le_of_ble_eq_true rfl, Nat.le_of_ble_eq_true rfl⟩, hts _ ok_X10_lowBits.2.2.1, trivial⟩) ⟨bP.blind, fun U hU hW => ⟨rfl, by rw [hU]; exact hP, kG.warm hW hG⟩⟩ rfl rfl hl.1 rfl (lv_room (Nat.le_of_ble_eq_true rfl)) dX0_everyone_7 ⟨Nat.le_of_ble_eq_true rfl, Nat.le_of_ble_eq_true rfl⟩) (fun r hr9 => ?_)
  subst hr9
  refine W_q9 hQ9 ?_
  exact W.iret (v := (1 <<< ((nI np) &&& 31)) - 1) hx hb hr (fun _ hT9 _ => ⟨_, rfl, (rfl), hT9⟩) (fun _ h => absurd h List.not_mem_nil) dX0_everyone_10
set_option maxHeartbeats 4000000 in
set_option maxRecDepth 100000 in
theorem k_listedOnE (l : Launch) (G : gW) (g : Nat → Nat) (hg : gOK g) (f : Nat → va_E) (pay : Int32) (fine : Int32) (np : Nat) (dp : Nat → Int32) (nr : Nat) (dr : Nat → Int32) (n : Int32) (hbk : f 36 = eO 0 [.ref (g 37), .ref (g 39), .ref (g 41), .ref (g 43), .ref (g 45), .ref (g 47), .ref (g 112), .int pay, .int fine]) (hpr : f 37 = eO 5 [.int (nI 30), .int (nI 4), .ref (g 38), .int (nI np)]) (hpd : f 38 = eI G (30 * 4) dp) (hor : f 41 = eO 5 [.int (nI 4), .int (nI 3), .ref (g 42), .int (nI nr)]) (hod : f 42 = eI G (4 * 3) dr) (hnp : np ≤ 30) (hnr : nr ≤ 4) : Met l yX0_listedOn (wsT yX0_listedOn cX0_listedOn 5 (some .int)) ({ frames := 2, cells := 0, slots := 0, locals := 40 }) (bP G g f [.ref (g 36), .int n]) (rQi (fun z9 => z9 = rlV np nr (fun i c => dr (3 * i + c)) n)) 0 0 fr0 := by
  refine Met.ofW (cc := cX0_listedOn) (maxL := 5) (ret := (some .int)) (by decide) rfl ?_
  intro p e s m args below meth c s₁ B hml hv
  obtain ⟨rfl, hP, hG⟩ := hv
  have hx := B.exec
  have hb := B.bytes
  have hr := B.returns
  have hts := my_hts (atoms_spec (ws := wsT yX0_listedOn cX0_listedOn 5 (some .int)) B.pre)
  have hown : s.vm.findClass RX0 = some m.cls := findClass_of_methodNamed B.named
  have hlocks := B.notSynchronized
  have hl := lv_entry ([.ref (g 36), .int n]) (n := 5) (Nat.le_of_ble_eq_true rfl)
  rw [lg_entry_eq]
  generalize (lg_sl ([.ref (g 36), .int n]) ++ List.replicate (5 - (lg_sl ([.ref (g 36), .int n])).length) Slot.unset).toArray = ls at hl ⊢
  have hl : lv_has ls 5 [(0, .ref (g 36)), (1, .int n)] := hl
  refine W_q8 (fun Q9 hQ9 => ?_)
  refine lv_iconst (v := (-1)) hx hb dX0_listedOn_0 (by decide) ?_
  refine lv_istore_n (lv' := [(2, .int (-1)), (0, .ref (g 36)), (1, .int n)]) hx hb dX0_listedOn_1 rfl hl (by decide) rfl (fun ls hl => ?_)
  refine lv_iconst (v := 0) hx hb dX0_listedOn_2 (by decide) ?_
  refine lv_istore_n (lv' := [(3, .int 0), (2, .int (-1)), (0, .ref (g 36)), (1, .int n)]) hx hb dX0_listedOn_3 rfl hl (by decide) rfl (fun ls hl => ?_)
  have key1 : ∀ (n9_1 : Nat) (o1 : Option Nat) (i : Nat) (ls : Array Slot), (i ≤ nr) → (∀ z, o1 = some z → z < nr) → (rlB (fun i c => dr (3 * i + c)) n i = o1) → nr - i < n9_1 → lv_has ls 5 [(0, .ref (g 36)), (1, .int n), (2, .int (fo o1)), (3, .int (nI i))] → W p l e (headSpec (wsT yX0_listedOn cX0_listedOn 5 (some .int)) ({ frames := 2, cells := 0, slots := 0, locals := 40 })).room s m ([.ref (g 36), .int n] : List Value).toArray below meth c s.heap [] 0 0 Q9 (F0 m 4 ls []) := by
    intro n9_1
    induction n9_1 with
    | zero => intro o1 i ls hi ho hB hn9_1; exact absurd hn9_1 (Nat.not_lt_zero _)
    | succ n9_1 ih_1 =>
      intro o1 i ls hi ho hB hn9_1 hl
      refine lv_iload_n hx hb dX0_listedOn_4 rfl (lv_at hl 3 rfl) ?_
      refine lv_aload_n hx hb dX0_listedOn_5 rfl (lv_at hl 0 rfl) ?_
      refine va_get (D := G.1) (ci := 0) (v := .ref (g 41)) (C := RX0) (T := TX0) (N := 9) hx hb hts inlX0 hown hG.1 hP 36 (wl_at (by decide) hbk) rfl 2 (by decide) (hts (.fieldLink RX0 23 "SwornLists$Book" "rolls" "LSwornLists$Rows;") w_56) (fun _ h9 => h9) rfl dX0_listedOn_6 ?_
      refine rd_calli (va_runV (As := []) (rest := [.int (nI i)]) ⟨hx, hb, hml, hown, hts⟩ (r_size l G g hg f 41 4 3 nr hor (by first | assumption | omega | decide) (by first | assumption | omega | decide) (by first | assumption | omega | decide) (by first | assumption | omega | decide)) (my_cwV hts ok_X5_size w_202 rfl rfl ⟨Nat.le_of_ble_eq_true rfl, Nat.le_of_ble_eq_true rfl⟩) ⟨bP.blind, va_recv hG.1 hP (ci := 5) (q0 := 41) rfl (wl_at (by decide) hor), fun U hU hW => ⟨rfl, by rw [hU]; exact hP, kG.warm hW hG⟩⟩ rfl rfl hl.1 rfl (lv_room (Nat.le_of_ble_eq_true rfl)) dX0_listedOn_9 ⟨Nat.le_of_ble_eq_true rfl, Nat.le_of_ble_eq_true rfl⟩) (fun r hr9 => ?_)
      subst hr9
      refine lv_icmp_ge (tgt := 74) hx hb dX0_listedOn_12 (by decide) (fun c_12 => ?_) (fun c_12 => ?_)
      · have hin : i = nr := by
          have h9 := (nI_leI (by omega) (by omega)).mp c_12
          omega
        rw [hin] at hB
        refine lv_iload_n hx hb dX0_listedOn_74 rfl (lv_at hl 2 rfl) ?_
        refine lv_iconst (v := (-1)) hx hb dX0_listedOn_75 (by decide) ?_
        refine lv_icmp_ne (tgt := 86) hx hb dX0_listedOn_76 (by decide) (fun c_76 => ?_) (fun c_76 => ?_)
        · obtain ⟨b9, rfl⟩ : ∃ b, o1 = some b := by
            cases o1 with
            | none => exact absurd rfl c_76
            | some z => exact ⟨z, rfl⟩
          have hb9 := ho b9 rfl
          refine lv_aload_n hx hb dX0_listedOn_86 rfl (lv_at hl 0 rfl) ?_
          refine va_get (D := G.1) (ci := 0) (v := .ref (g 41)) (C := RX0) (T := TX0) (N := 9) hx hb hts inlX0 hown hG.1 hP 36 (wl_at (by decide) hbk) rfl 2 (by decide) (hts (.fieldLink RX0 23 "SwornLists$Book" "rolls" "LSwornLists$Rows;") w_56) (fun _ h9 => h9) rfl dX0_listedOn_87 ?_
          refine lv_iload_n hx hb dX0_listedOn_90 rfl (lv_at hl 2 rfl) ?_
          refine lv_iconst (v := 0) hx hb dX0_listedOn_91 (by decide) ?_
          refine rd_calli (va_runV (As := [.int (nI b9), .int 0]) (rest := []) ⟨hx, hb, hml, hown, hts⟩ (r_at l G g hg f 41 4 3 nr dr (nI b9) 0 hor hod (by first | assumption | omega | decide) (by first | assumption | omega | decide) (by first | assumption | omega | decide) (by first | assumption | omega | decide)) (my_cwV hts ok_X5_at w_225 rfl rfl ⟨Nat.le_of_ble_eq_true rfl, Nat.le_of_ble_eq_true rfl⟩) ⟨bP.blind, va_recv hG.1 hP (ci := 5) (q0 := 41) rfl (wl_at (by decide) hor), fun U hU hW => ⟨rfl, by rw [hU]; exact hP, kG.warm hW hG⟩⟩ rfl rfl hl.1 rfl (lv_room (Nat.le_of_ble_eq_true rfl)) dX0_listedOn_92 ⟨Nat.le_of_ble_eq_true rfl, Nat.le_of_ble_eq_true rfl⟩) (fun r hr9 => ?_)
          subst hr9
          refine my_bei (v := dr (3 * b9 + 0)) (atQ (d := dr) (w := 3) (i := b9) (c := 0) hb9 (by omega) (by omega) (by omega)) ?_
          refine W_q9 hQ9 ?_
          exact W.iret (v := dr (3 * b9 + 0)) hx hb hr (fun _ hT9 _ => ⟨_, rfl, ((rlV_1 (R := (fun i c => dr (3 * i + c))) hB).symm), hT9⟩) (fun _ h => absurd h List.not_mem_nil) dX0_listedOn_95
        · refine lv_aload_n hx hb dX0_listedOn_79 rfl (lv_at hl 0 rfl) ?_
          refine rd_calli (va_runV (As := []) (rest := []) ⟨hx, hb, hml, hown, hts⟩ (k_everyoneE l G g hg f pay fine np dp hbk hpr hpd (by first | assumption | omega | decide)) (my_cwV hts ok_X0_everyone w_229 rfl rfl ⟨Nat.le_of_ble_eq_true rfl, Nat.le_of_ble_eq_true rfl⟩) ⟨bP.blind, va_recv hG.1 hP (ci := 0) (q0 := 36) rfl (wl_at (by decide) hbk), fun U hU hW => ⟨rfl, by rw [hU]; exact hP, kG.warm hW hG⟩⟩ rfl rfl hl.1 rfl (lv_room (Nat.le_of_ble_eq_true rfl)) dX0_listedOn_80 ⟨Nat.le_of_ble_eq_true rfl, Nat.le_of_ble_eq_true rfl⟩) (fun r hr9 => ?_)
          subst hr9
          refine lv_goto (tgt := 95) hx hb dX0_listedOn_83 (by decide) ?_
          refine W_q9 hQ9 ?_
          exact W.iret (v := (1 <<< (nI np &&& 31)) - 1) hx hb hr (fun _ hT9 _ => ⟨_, rfl, ((rlV_0 (R := (fun i c => dr (3 * i + c))) (hB.trans (fo_none (by omega) ho c_76))).symm), hT9⟩) (fun _ h => absurd h List.not_mem_nil) dX0_listedOn_95
      · have hi9 : i < nr := Nat.not_le.mp (fun z => c_12 (nI_le z (by omega)))
        refine lv_aload_n hx hb dX0_listedOn_15 rfl (lv_at hl 0 rfl) ?_
        refine va_get (D := G.1) (ci := 0) (v := .ref (g 41)) (C := RX0) (T := TX0) (N := 9) hx hb hts inlX0 hown hG.1 hP 36 (wl_at (by decide) hbk) rfl 2 (by decide) (hts (.fieldLink RX0 23 "SwornLists$Book" "rolls" "LSwornLists$Rows;") w_56) (fun _ h9 => h9) rfl dX0_listedOn_16 ?_
        refine lv_iload_n hx hb dX0_listedOn_19 rfl (lv_at hl 3 rfl) ?_
        refine lv_iconst (v := 2) hx hb dX0_listedOn_20 (by decide) ?_
        refine rd_calli (va_runV (As := [.int (nI i), .int 2]) (rest := []) ⟨hx, hb, hml, hown, hts⟩ (r_at l G g hg f 41 4 3 nr dr (nI i) 2 hor hod (by first | assumption | omega | decide) (by first | assumption | omega | decide) (by first | assumption | omega | decide) (by first | assumption | omega | decide)) (my_cwV hts ok_X5_at w_225 rfl rfl ⟨Nat.le_of_ble_eq_true rfl, Nat.le_of_ble_eq_true rfl⟩) ⟨bP.blind, va_recv hG.1 hP (ci := 5) (q0 := 41) rfl (wl_at (by decide) hor), fun U hU hW => ⟨rfl, by rw [hU]; exact hP, kG.warm hW hG⟩⟩ rfl rfl hl.1 rfl (lv_room (Nat.le_of_ble_eq_true rfl)) dX0_listedOn_21 ⟨Nat.le_of_ble_eq_true rfl, Nat.le_of_ble_eq_true rfl⟩) (fun r hr9 => ?_)
        subst hr9
        refine my_bei (v := dr (3 * i + 2)) (atQ (d := dr) (w := 3) (i := i) (c := 2) hi9 (by omega) (by omega) (by omega)) ?_
        refine lv_iload_n hx hb dX0_listedOn_24 rfl (lv_at hl 1 rfl) ?_
        refine lv_icmp_gt (tgt := 32) hx hb dX0_listedOn_25 (by decide) (fun c_25 => ?_) (fun c_25 => ?_)
        · refine lv_iconst (v := 0) hx hb dX0_listedOn_32 (by decide) ?_
          refine lv_istore (lv' := [(4, .int 0), (0, .ref (g 36)), (1, .int n), (2, .int (fo o1)), (3, .int (nI i))]) hx hb dX0_listedOn_33 hl (by decide) rfl (fun ls hl => ?_)
          refine lv_iload hx hb dX0_listedOn_35 (lv_at hl 0 rfl) ?_
          refine lv_if_eq (tgt := 68) hx hb dX0_listedOn_37 (by decide) (fun c_37 => ?_) (fun c_37 => absurd (by decide) c_37)
          refine lv_iinc (v := nI (i + 1)) (lv' := [(3, .int (nI (i + 1))), (4, .int 0), (0, .ref (g 36)), (1, .int n), (2, .int (fo o1))]) hx hb dX0_listedOn_68 hl (k := 4) rfl (nI_1 i) (by decide) rfl (fun ls hl => ?_)
          refine lv_goto (tgt := 4) hx hb dX0_listedOn_71 (by decide) ?_
          exact ih_1 o1 (i + 1) _ (by omega) (ho) (rlB_n (R := (fun i c => dr (3 * i + c))) hB (rlc_k (R := (fun i c => dr (3 * i + c))) _ c_25)) (by omega) (lv_sub hl [2, 3, 4, 0] rfl)
        · refine lv_iconst (v := 1) hx hb dX0_listedOn_28 (by decide) ?_
          refine lv_goto (tgt := 33) hx hb dX0_listedOn_29 (by decide) ?_
          refine lv_istore (lv' := [(4, .int 1), (0, .ref (g 36)), (1, .int n), (2, .int (fo o1)), (3, .int (nI i))]) hx hb dX0_listedOn_33 hl (by decide) rfl (fun ls hl => ?_)
          refine lv_iload hx hb dX0_listedOn_35 (lv_at hl 0 rfl) ?_
          refine lv_if_eq (tgt := 68) hx hb dX0_listedOn_37 (by decide) (fun c_37 => absurd c_37 (by decide)) (fun c_37 => ?_)
          refine lv_iload_n hx hb dX0_listedOn_40 rfl (lv_at hl 3 rfl) ?_
          refine lv_iconst (v := (-1)) hx hb dX0_listedOn_41 (by decide) ?_
          refine lv_icmp_eq (tgt := 66) hx hb dX0_listedOn_42 (by decide) (fun c_42 => ?_) (fun c_42 => ?_)
          · refine lv_iload_n hx hb dX0_listedOn_66 rfl (lv_at hl 4 rfl) ?_
            refine lv_istore_n (lv' := [(2, .int (nI i)), (4, .int 1), (0, .ref (g 36)), (1, .int n), (3, .int (nI i))]) hx hb dX0_listedOn_67 rfl hl (by decide) rfl (fun ls hl => ?_)
            refine lv_iinc (v := nI (i + 1)) (lv' := [(3, .int (nI (i + 1))), (2, .int (nI i)), (4, .int 1), (0, .ref (g 36)), (1, .int n)]) hx hb dX0_listedOn_68 hl (k := 4) rfl (nI_1 i) (by decide) rfl (fun ls hl => ?_)
            refine lv_goto (tgt := 4) hx hb dX0_listedOn_71 (by decide) ?_
            exact ih_1 (some i) (i + 1) _ (by omega) (fun z hz => by cases hz; omega) (rlB_y (R := (fun i c => dr (3 * i + c))) (hB.trans (fo_none (by omega) ho c_42)) (rlc_0 (R := (fun i c => dr (3 * i + c))) c_25)) (by omega) (lv_sub hl [3, 4, 1, 0] rfl)
          · obtain ⟨b9, rfl⟩ : ∃ b, o1 = some b := by
              cases o1 with
              | none => exact absurd rfl c_42
              | some z => exact ⟨z, rfl⟩
            have hb9 := ho b9 rfl
            refine lv_aload_n hx hb dX0_listedOn_45 rfl (lv_at hl 1 rfl) ?_
            refine va_get (D := G.1) (ci := 0) (v := .ref (g 41)) (C := RX0) (T := TX0) (N := 9) hx hb hts inlX0 hown hG.1 hP 36 (wl_at (by decide) hbk) rfl 2 (by decide) (hts (.fieldLink RX0 23 "SwornLists$Book" "rolls" "LSwornLists$Rows;") w_56) (fun _ h9 => h9) rfl dX0_listedOn_46 ?_
            refine lv_iload_n hx hb dX0_listedOn_49 rfl (lv_at hl 4 rfl) ?_
            refine lv_iconst (v := 1) hx hb dX0_listedOn_50 (by decide) ?_
            refine rd_calli (va_runV (As := [.int (nI i), .int 1]) (rest := []) ⟨hx, hb, hml, hown, hts⟩ (r_at l G g hg f 41 4 3 nr dr (nI i) 1 hor hod (by first | assumption | omega | decide) (by first | assumption | omega | decide) (by first | assumption | omega | decide) (by first | assumption | omega | decide)) (my_cwV hts ok_X5_at w_225 rfl rfl ⟨Nat.le_of_ble_eq_true rfl, Nat.le_of_ble_eq_true rfl⟩) ⟨bP.blind, va_recv hG.1 hP (ci := 5) (q0 := 41) rfl (wl_at (by decide) hor), fun U hU hW => ⟨rfl, by rw [hU]; exact hP, kG.warm hW hG⟩⟩ rfl rfl hl.1 rfl (lv_room (Nat.le_of_ble_eq_true rfl)) dX0_listedOn_51 ⟨Nat.le_of_ble_eq_true rfl, Nat.le_of_ble_eq_true rfl⟩) (fun r hr9 => ?_)
            subst hr9
            refine my_bei (v := dr (3 * i + 1)) (atQ (d := dr) (w := 3) (i := i) (c := 1) hi9 (by omega) (by omega) (by omega)) ?_
            refine lv_aload_n hx hb dX0_listedOn_54 rfl (lv_at hl 1 rfl) ?_
            refine va_get (D := G.1) (ci := 0) (v := .ref (g 41)) (C := RX0) (T := TX0) (N := 9) hx hb hts inlX0 hown hG.1 hP 36 (wl_at (by decide) hbk) rfl 2 (by decide) (hts (.fieldLink RX0 23 "SwornLists$Book" "rolls" "LSwornLists$Rows;") w_56) (fun _ h9 => h9) rfl dX0_listedOn_55 ?_
            refine lv_iload_n hx hb dX0_listedOn_58 rfl (lv_at hl 3 rfl) ?_
            refine lv_iconst (v := 1) hx hb dX0_listedOn_59 (by decide) ?_
            refine rd_calli (va_runV (As := [.int (nI b9), .int 1]) (rest := [.int (dr (3 * i + 1))]) ⟨hx, hb, hml, hown, hts⟩ (r_at l G g hg f 41 4 3 nr dr (nI b9) 1 hor hod (by first | assumption | omega | decide) (by first | assumption | omega | decide) (by first | assumption | omega | decide) (by first | assumption | omega | decide)) (my_cwV hts ok_X5_at w_225 rfl rfl ⟨Nat.le_of_ble_eq_true rfl, Nat.le_of_ble_eq_true rfl⟩) ⟨bP.blind, va_recv hG.1 hP (ci := 5) (q0 := 41) rfl (wl_at (by decide) hor), fun U hU hW => ⟨rfl, by rw [hU]; exact hP, kG.warm hW hG⟩⟩ rfl rfl hl.1 rfl (lv_room (Nat.le_of_ble_eq_true rfl)) dX0_listedOn_60 ⟨Nat.le_of_ble_eq_true rfl, Nat.le_of_ble_eq_true rfl⟩) (fun r hr9 => ?_)
            subst hr9
            refine my_bei (v := dr (3 * b9 + 1)) (atQ (d := dr) (w := 3) (i := b9) (c := 1) hb9 (by omega) (by omega) (by omega)) ?_
            refine lv_icmp_lt (tgt := 68) hx hb dX0_listedOn_63 (by decide) (fun c_63 => ?_) (fun c_63 => ?_)
            · refine lv_iinc (v := nI (i + 1)) (lv' := [(3, .int (nI (i + 1))), (4, .int 1), (0, .ref (g 36)), (1, .int n), (2, .int (nI b9))]) hx hb dX0_listedOn_68 hl (k := 4) rfl (nI_1 i) (by decide) rfl (fun ls hl => ?_)
              refine lv_goto (tgt := 4) hx hb dX0_listedOn_71 (by decide) ?_
              exact ih_1 (some b9) (i + 1) _ (by omega) (ho) (rlB_n (R := (fun i c => dr (3 * i + c))) hB (rlc_2 (R := (fun i c => dr (3 * i + c))) c_63)) (by omega) (lv_sub hl [2, 3, 4, 0] rfl)
            · refine lv_iload_n hx hb dX0_listedOn_66 rfl (lv_at hl 4 rfl) ?_
              refine lv_istore_n (lv' := [(2, .int (nI i)), (4, .int 1), (0, .ref (g 36)), (1, .int n), (3, .int (nI i))]) hx hb dX0_listedOn_67 rfl hl (by decide) rfl (fun ls hl => ?_)
              refine lv_iinc (v := nI (i + 1)) (lv' := [(3, .int (nI (i + 1))), (2, .int (nI i)), (4, .int 1), (0, .ref (g 36)), (1, .int n)]) hx hb dX0_listedOn_68 hl (k := 4) rfl (nI_1 i) (by decide) rfl (fun ls hl => ?_)
              refine lv_goto (tgt := 4) hx hb dX0_listedOn_71 (by decide) ?_
              exact ih_1 (some i) (i + 1) _ (by omega) (fun z hz => by cases hz; omega) (rlB_y (R := (fun i c => dr (3 * i + c))) hB (rlc_1 (R := (fun i c => dr (3 * i + c))) c_25 c_63)) (by omega) (lv_sub hl [3, 4, 1, 0] rfl)
  exact key1 (nr + 1) none 0 _ (Nat.zero_le _) (fun z hz => by cases hz) (rfl) (by omega) (lv_sub hl [2, 3, 1, 0] rfl)
set_option maxHeartbeats 4000000 in
set_option maxRecDepth 100000 in
theorem k_inForceE (l : Launch) (G : gW) (g : Nat → Nat) (hg : gOK g) (f : Nat → va_E) (pay : Int32) (fine : Int32) (na : Nat) (da : Nat → Int32) (n : Int32) (q : Int32) (hbk : f 36 = eO 0 [.ref (g 37), .ref (g 39), .ref (g 41), .ref (g 43), .ref (g 45), .ref (g 47), .ref (g 112), .int pay, .int fine]) (har : f 43 = eO 5 [.int (nI 20), .int (nI 3), .ref (g 44), .int (nI na)]) (had : f 44 = eI G (20 * 3) da) (hna : na ≤ 20) : Met l yX0_inForce (wsT yX0_inForce cX0_inForce 7 (some .int)) ({ frames := 1, cells := 0, slots := 0, locals := 23 }) (bP G g f [.ref (g 36), .int n, .int q]) (rQi (fun z9 => ∃ o9 : Option Nat, z9 = fo o9 ∧ (∀ z, o9 = some z → z < na) ∧ (fcB (fun i c => da (3 * i + c)) n q na = o9))) 0 0 fr0 := by
  refine Met.ofW (cc := cX0_inForce) (maxL := 7) (ret := (some .int)) (by decide) rfl ?_
  intro p e s m args below meth c s₁ B hml hv
  obtain ⟨rfl, hP, hG⟩ := hv
  have hx := B.exec
  have hb := B.bytes
  have hr := B.returns
  have hts := my_hts (atoms_spec (ws := wsT yX0_inForce cX0_inForce 7 (some .int)) B.pre)
  have hown : s.vm.findClass RX0 = some m.cls := findClass_of_methodNamed B.named
  have hlocks := B.notSynchronized
  have hl := lv_entry ([.ref (g 36), .int n, .int q]) (n := 7) (Nat.le_of_ble_eq_true rfl)
  rw [lg_entry_eq]
  generalize (lg_sl ([.ref (g 36), .int n, .int q]) ++ List.replicate (7 - (lg_sl ([.ref (g 36), .int n, .int q])).length) Slot.unset).toArray = ls at hl ⊢
  have hl : lv_has ls 7 [(0, .ref (g 36)), (1, .int n), (2, .int q)] := hl
  refine W_q8 (fun Q9 hQ9 => ?_)
  refine lv_iconst (v := (-1)) hx hb dX0_inForce_0 (by decide) ?_
  refine lv_istore_n (lv' := [(3, .int (-1)), (0, .ref (g 36)), (1, .int n), (2, .int q)]) hx hb dX0_inForce_1 rfl hl (by decide) rfl (fun ls hl => ?_)
  refine lv_iconst (v := 0) hx hb dX0_inForce_2 (by decide) ?_
  refine lv_istore (lv' := [(4, .int 0), (3, .int (-1)), (0, .ref (g 36)), (1, .int n), (2, .int q)]) hx hb dX0_inForce_3 hl (by decide) rfl (fun ls hl => ?_)
  have key1 : ∀ (n9_1 : Nat) (o1 : Option Nat) (i : Nat) (ls : Array Slot), (i ≤ na) → (∀ z, o1 = some z → z < na) → (fcB (fun i c => da (3 * i + c)) n q i = o1) → na - i < n9_1 → lv_has ls 7 [(0, .ref (g 36)), (1, .int n), (2, .int q), (3, .int (fo o1)), (4, .int (nI i))] → W p l e (headSpec (wsT yX0_inForce cX0_inForce 7 (some .int)) ({ frames := 1, cells := 0, slots := 0, locals := 23 })).room s m ([.ref (g 36), .int n, .int q] : List Value).toArray below meth c s.heap [] 0 0 Q9 (F0 m 5 ls []) := by
    intro n9_1
    induction n9_1 with
    | zero => intro o1 i ls hi ho hB hn9_1; exact absurd hn9_1 (Nat.not_lt_zero _)
    | succ n9_1 ih_1 =>
      intro o1 i ls hi ho hB hn9_1 hl
      refine lv_iload hx hb dX0_inForce_5 (lv_at hl 4 rfl) ?_
      refine lv_aload_n hx hb dX0_inForce_7 rfl (lv_at hl 0 rfl) ?_
      refine va_get (D := G.1) (ci := 0) (v := .ref (g 43)) (C := RX0) (T := TX0) (N := 9) hx hb hts inlX0 hown hG.1 hP 36 (wl_at (by decide) hbk) rfl 3 (by decide) (hts (.fieldLink RX0 26 "SwornLists$Book" "acts" "LSwornLists$Rows;") w_57) (fun _ h9 => h9) rfl dX0_inForce_8 ?_
      refine rd_calli (va_runV (As := []) (rest := [.int (nI i)]) ⟨hx, hb, hml, hown, hts⟩ (r_size l G g hg f 43 20 3 na har (by first | assumption | omega | decide) (by first | assumption | omega | decide) (by first | assumption | omega | decide) (by first | assumption | omega | decide)) (my_cwV hts ok_X5_size w_202 rfl rfl ⟨Nat.le_of_ble_eq_true rfl, Nat.le_of_ble_eq_true rfl⟩) ⟨bP.blind, va_recv hG.1 hP (ci := 5) (q0 := 43) rfl (wl_at (by decide) har), fun U hU hW => ⟨rfl, by rw [hU]; exact hP, kG.warm hW hG⟩⟩ rfl rfl hl.1 rfl (lv_room (Nat.le_of_ble_eq_true rfl)) dX0_inForce_11 ⟨Nat.le_of_ble_eq_true rfl, Nat.le_of_ble_eq_true rfl⟩) (fun r hr9 => ?_)
      subst hr9
      refine lv_icmp_ge (tgt := 117) hx hb dX0_inForce_14 (by decide) (fun c_14 => ?_) (fun c_14 => ?_)
      · have hin : i = na := by
          have h9 := (nI_leI (by omega) (by omega)).mp c_14
          omega
        rw [hin] at hB
        refine lv_iload_n hx hb dX0_inForce_117 rfl (lv_at hl 3 rfl) ?_
        refine W_q9 hQ9 ?_
        exact W.iret (v := fo o1) hx hb hr (fun _ hT9 _ => ⟨_, rfl, (⟨o1, rfl, ho, hB⟩), hT9⟩) (fun _ h => absurd h List.not_mem_nil) dX0_inForce_118
      · have hi9 : i < na := Nat.not_le.mp (fun z => c_14 (nI_le z (by omega)))
        refine lv_aload_n hx hb dX0_inForce_17 rfl (lv_at hl 0 rfl) ?_
        refine va_get (D := G.1) (ci := 0) (v := .ref (g 43)) (C := RX0) (T := TX0) (N := 9) hx hb hts inlX0 hown hG.1 hP 36 (wl_at (by decide) hbk) rfl 3 (by decide) (hts (.fieldLink RX0 26 "SwornLists$Book" "acts" "LSwornLists$Rows;") w_57) (fun _ h9 => h9) rfl dX0_inForce_18 ?_
        refine lv_iload hx hb dX0_inForce_21 (lv_at hl 4 rfl) ?_
        refine lv_iconst (v := 2) hx hb dX0_inForce_23 (by decide) ?_
        refine rd_calli (va_runV (As := [.int (nI i), .int 2]) (rest := []) ⟨hx, hb, hml, hown, hts⟩ (r_at l G g hg f 43 20 3 na da (nI i) 2 har had (by first | assumption | omega | decide) (by first | assumption | omega | decide) (by first | assumption | omega | decide) (by first | assumption | omega | decide)) (my_cwV hts ok_X5_at w_225 rfl rfl ⟨Nat.le_of_ble_eq_true rfl, Nat.le_of_ble_eq_true rfl⟩) ⟨bP.blind, va_recv hG.1 hP (ci := 5) (q0 := 43) rfl (wl_at (by decide) har), fun U hU hW => ⟨rfl, by rw [hU]; exact hP, kG.warm hW hG⟩⟩ rfl rfl hl.1 rfl (lv_room (Nat.le_of_ble_eq_true rfl)) dX0_inForce_24 ⟨Nat.le_of_ble_eq_true rfl, Nat.le_of_ble_eq_true rfl⟩) (fun r hr9 => ?_)
        subst hr9
        refine my_bei (v := da (3 * i + 2)) (atQ (d := da) (w := 3) (i := i) (c := 2) hi9 (by omega) (by omega) (by omega)) ?_
        refine lv_istore (lv' := [(5, .int (da (3 * i + 2))), (0, .ref (g 36)), (1, .int n), (2, .int q), (3, .int (fo o1)), (4, .int (nI i))]) hx hb dX0_inForce_27 hl (by decide) rfl (fun ls hl => ?_)
        refine lv_aload_n hx hb dX0_inForce_29 rfl (lv_at hl 1 rfl) ?_
        refine va_get (D := G.1) (ci := 0) (v := .ref (g 43)) (C := RX0) (T := TX0) (N := 9) hx hb hts inlX0 hown hG.1 hP 36 (wl_at (by decide) hbk) rfl 3 (by decide) (hts (.fieldLink RX0 26 "SwornLists$Book" "acts" "LSwornLists$Rows;") w_57) (fun _ h9 => h9) rfl dX0_inForce_30 ?_
        refine lv_iload hx hb dX0_inForce_33 (lv_at hl 5 rfl) ?_
        refine lv_iconst (v := 0) hx hb dX0_inForce_35 (by decide) ?_
        refine rd_calli (va_runV (As := [.int (nI i), .int 0]) (rest := []) ⟨hx, hb, hml, hown, hts⟩ (r_at l G g hg f 43 20 3 na da (nI i) 0 har had (by first | assumption | omega | decide) (by first | assumption | omega | decide) (by first | assumption | omega | decide) (by first | assumption | omega | decide)) (my_cwV hts ok_X5_at w_225 rfl rfl ⟨Nat.le_of_ble_eq_true rfl, Nat.le_of_ble_eq_true rfl⟩) ⟨bP.blind, va_recv hG.1 hP (ci := 5) (q0 := 43) rfl (wl_at (by decide) har), fun U hU hW => ⟨rfl, by rw [hU]; exact hP, kG.warm hW hG⟩⟩ rfl rfl hl.1 rfl (lv_room (Nat.le_of_ble_eq_true rfl)) dX0_inForce_36 ⟨Nat.le_of_ble_eq_true rfl, Nat.le_of_ble_eq_true rfl⟩) (fun r hr9 => ?_)
        subst hr9
        refine my_bei (v := da (3 * i + 0)) (atQ (d := da) (w := 3) (i := i) (c := 0) hi9 (by omega) (by omega) (by omega)) ?_
        refine lv_iload_n hx hb dX0_inForce_39 rfl (lv_at hl 2 rfl) ?_
        refine lv_icmp_ne (tgt := 73) hx hb dX0_inForce_40 (by decide) (fun c_40 => ?_) (fun c_40 => ?_)
        · refine lv_iconst (v := 0) hx hb dX0_inForce_73 (by decide) ?_
          refine lv_istore (lv' := [(6, .int 0), (5, .int (da (3 * i + 2))), (0, .ref (g 36)), (1, .int n), (2, .int q), (3, .int (fo o1)), (4, .int (nI i))]) hx hb dX0_inForce_74 hl (by decide) rfl (fun ls hl => ?_)
          refine lv_iload hx hb dX0_inForce_76 (lv_at hl 0 rfl) ?_
          refine lv_if_eq (tgt := 111) hx hb dX0_inForce_78 (by decide) (fun c_78 => ?_) (fun c_78 => absurd (by decide) c_78)
          refine lv_iinc (v := nI (i + 1)) (lv' := [(4, .int (nI (i + 1))), (6, .int 0), (5, .int (da (3 * i + 2))), (0, .ref (g 36)), (1, .int n), (2, .int q), (3, .int (fo o1))]) hx hb dX0_inForce_111 hl (k := 6) rfl (nI_1 i) (by decide) rfl (fun ls hl => ?_)
          refine lv_goto (tgt := 5) hx hb dX0_inForce_114 (by decide) ?_
          exact ih_1 o1 (i + 1) _ (by omega) (ho) (fcB_n (A := (fun i c => da (3 * i + c))) hB (fcc_k (A := (fun i c => da (3 * i + c))) _ (fch_f (A := (fun i c => da (3 * i + c))) (Or.inl c_40)))) (by omega) (lv_sub hl [3, 4, 5, 6, 0] rfl)
        · refine lv_aload_n hx hb dX0_inForce_43 rfl (lv_at hl 1 rfl) ?_
          refine va_get (D := G.1) (ci := 0) (v := .ref (g 43)) (C := RX0) (T := TX0) (N := 9) hx hb hts inlX0 hown hG.1 hP 36 (wl_at (by decide) hbk) rfl 3 (by decide) (hts (.fieldLink RX0 26 "SwornLists$Book" "acts" "LSwornLists$Rows;") w_57) (fun _ h9 => h9) rfl dX0_inForce_44 ?_
          refine lv_iload hx hb dX0_inForce_47 (lv_at hl 5 rfl) ?_
          refine lv_iconst (v := 1) hx hb dX0_inForce_49 (by decide) ?_
          refine rd_calli (va_runV (As := [.int (nI i), .int 1]) (rest := []) ⟨hx, hb, hml, hown, hts⟩ (r_at l G g hg f 43 20 3 na da (nI i) 1 har had (by first | assumption | omega | decide) (by first | assumption | omega | decide) (by first | assumption | omega | decide) (by first | assumption | omega | decide)) (my_cwV hts ok_X5_at w_225 rfl rfl ⟨Nat.le_of_ble_eq_true rfl, Nat.le_of_ble_eq_true rfl⟩) ⟨bP.blind, va_recv hG.1 hP (ci := 5) (q0 := 43) rfl (wl_at (by decide) har), fun U hU hW => ⟨rfl, by rw [hU]; exact hP, kG.warm hW hG⟩⟩ rfl rfl hl.1 rfl (lv_room (Nat.le_of_ble_eq_true rfl)) dX0_inForce_50 ⟨Nat.le_of_ble_eq_true rfl, Nat.le_of_ble_eq_true rfl⟩) (fun r hr9 => ?_)
          subst hr9
          refine my_bei (v := da (3 * i + 1)) (atQ (d := da) (w := 3) (i := i) (c := 1) hi9 (by omega) (by omega) (by omega)) ?_
          refine lv_iload_n hx hb dX0_inForce_53 rfl (lv_at hl 3 rfl) ?_
          refine lv_icmp_gt (tgt := 73) hx hb dX0_inForce_54 (by decide) (fun c_54 => ?_) (fun c_54 => ?_)
          · refine lv_iconst (v := 0) hx hb dX0_inForce_73 (by decide) ?_
            refine lv_istore (lv' := [(6, .int 0), (5, .int (da (3 * i + 2))), (0, .ref (g 36)), (1, .int n), (2, .int q), (3, .int (fo o1)), (4, .int (nI i))]) hx hb dX0_inForce_74 hl (by decide) rfl (fun ls hl => ?_)
            refine lv_iload hx hb dX0_inForce_76 (lv_at hl 0 rfl) ?_
            refine lv_if_eq (tgt := 111) hx hb dX0_inForce_78 (by decide) (fun c_78 => ?_) (fun c_78 => absurd (by decide) c_78)
            refine lv_iinc (v := nI (i + 1)) (lv' := [(4, .int (nI (i + 1))), (6, .int 0), (5, .int (da (3 * i + 2))), (0, .ref (g 36)), (1, .int n), (2, .int q), (3, .int (fo o1))]) hx hb dX0_inForce_111 hl (k := 6) rfl (nI_1 i) (by decide) rfl (fun ls hl => ?_)
            refine lv_goto (tgt := 5) hx hb dX0_inForce_114 (by decide) ?_
            exact ih_1 o1 (i + 1) _ (by omega) (ho) (fcB_n (A := (fun i c => da (3 * i + c))) hB (fcc_k (A := (fun i c => da (3 * i + c))) _ (fch_f (A := (fun i c => da (3 * i + c))) (Or.inr (Or.inl c_54))))) (by omega) (lv_sub hl [3, 4, 5, 6, 0] rfl)
          · refine lv_iload hx hb dX0_inForce_57 (lv_at hl 0 rfl) ?_
            refine lv_iconst (v := (-1)) hx hb dX0_inForce_59 (by decide) ?_
            refine lv_icmp_eq (tgt := 69) hx hb dX0_inForce_60 (by decide) (fun c_60 => ?_) (fun c_60 => ?_)
            · refine lv_iconst (v := 1) hx hb dX0_inForce_69 (by decide) ?_
              refine lv_goto (tgt := 74) hx hb dX0_inForce_70 (by decide) ?_
              refine lv_istore (lv' := [(6, .int 1), (5, .int (da (3 * i + 2))), (0, .ref (g 36)), (1, .int n), (2, .int q), (3, .int (fo o1)), (4, .int (nI i))]) hx hb dX0_inForce_74 hl (by decide) rfl (fun ls hl => ?_)
              refine lv_iload hx hb dX0_inForce_76 (lv_at hl 0 rfl) ?_
              refine lv_if_eq (tgt := 111) hx hb dX0_inForce_78 (by decide) (fun c_78 => absurd c_78 (by decide)) (fun c_78 => ?_)
              refine lv_iload_n hx hb dX0_inForce_81 rfl (lv_at hl 5 rfl) ?_
              refine lv_iconst (v := (-1)) hx hb dX0_inForce_82 (by decide) ?_
              refine lv_icmp_eq (tgt := 108) hx hb dX0_inForce_83 (by decide) (fun c_83 => ?_) (fun c_83 => ?_)
              · refine lv_iload hx hb dX0_inForce_108 (lv_at hl 6 rfl) ?_
                refine lv_istore_n (lv' := [(3, .int (nI i)), (6, .int 1), (5, .int (da (3 * i + 2))), (0, .ref (g 36)), (1, .int n), (2, .int q), (4, .int (nI i))]) hx hb dX0_inForce_110 rfl hl (by decide) rfl (fun ls hl => ?_)
                refine lv_iinc (v := nI (i + 1)) (lv' := [(4, .int (nI (i + 1))), (3, .int (nI i)), (6, .int 1), (5, .int (da (3 * i + 2))), (0, .ref (g 36)), (1, .int n), (2, .int q)]) hx hb dX0_inForce_111 hl (k := 6) rfl (nI_1 i) (by decide) rfl (fun ls hl => ?_)
                refine lv_goto (tgt := 5) hx hb dX0_inForce_114 (by decide) ?_
                exact ih_1 (some i) (i + 1) _ (by omega) (fun z hz => by cases hz; omega) (fcB_y (A := (fun i c => da (3 * i + c))) (hB.trans (fo_none (by omega) ho c_83)) (fch_t (A := (fun i c => da (3 * i + c))) c_40 c_54 (Or.inl c_60))) (by omega) (lv_sub hl [4, 5, 6, 1, 0] rfl)
              · obtain ⟨b9, rfl⟩ : ∃ b, o1 = some b := by
                  cases o1 with
                  | none => exact absurd rfl c_83
                  | some z => exact ⟨z, rfl⟩
                have hb9 := ho b9 rfl
                refine lv_aload_n hx hb dX0_inForce_86 rfl (lv_at hl 2 rfl) ?_
                refine va_get (D := G.1) (ci := 0) (v := .ref (g 43)) (C := RX0) (T := TX0) (N := 9) hx hb hts inlX0 hown hG.1 hP 36 (wl_at (by decide) hbk) rfl 3 (by decide) (hts (.fieldLink RX0 26 "SwornLists$Book" "acts" "LSwornLists$Rows;") w_57) (fun _ h9 => h9) rfl dX0_inForce_87 ?_
                refine lv_iload hx hb dX0_inForce_90 (lv_at hl 6 rfl) ?_
                refine lv_iconst (v := 1) hx hb dX0_inForce_92 (by decide) ?_
                refine rd_calli (va_runV (As := [.int (nI i), .int 1]) (rest := []) ⟨hx, hb, hml, hown, hts⟩ (r_at l G g hg f 43 20 3 na da (nI i) 1 har had (by first | assumption | omega | decide) (by first | assumption | omega | decide) (by first | assumption | omega | decide) (by first | assumption | omega | decide)) (my_cwV hts ok_X5_at w_225 rfl rfl ⟨Nat.le_of_ble_eq_true rfl, Nat.le_of_ble_eq_true rfl⟩) ⟨bP.blind, va_recv hG.1 hP (ci := 5) (q0 := 43) rfl (wl_at (by decide) har), fun U hU hW => ⟨rfl, by rw [hU]; exact hP, kG.warm hW hG⟩⟩ rfl rfl hl.1 rfl (lv_room (Nat.le_of_ble_eq_true rfl)) dX0_inForce_93 ⟨Nat.le_of_ble_eq_true rfl, Nat.le_of_ble_eq_true rfl⟩) (fun r hr9 => ?_)
                subst hr9
                refine my_bei (v := da (3 * i + 1)) (atQ (d := da) (w := 3) (i := i) (c := 1) hi9 (by omega) (by omega) (by omega)) ?_
                refine lv_aload_n hx hb dX0_inForce_96 rfl (lv_at hl 2 rfl) ?_
                refine va_get (D := G.1) (ci := 0) (v := .ref (g 43)) (C := RX0) (T := TX0) (N := 9) hx hb hts inlX0 hown hG.1 hP 36 (wl_at (by decide) hbk) rfl 3 (by decide) (hts (.fieldLink RX0 26 "SwornLists$Book" "acts" "LSwornLists$Rows;") w_57) (fun _ h9 => h9) rfl dX0_inForce_97 ?_
                refine lv_iload_n hx hb dX0_inForce_100 rfl (lv_at hl 5 rfl) ?_
                refine lv_iconst (v := 1) hx hb dX0_inForce_101 (by decide) ?_
                refine rd_calli (va_runV (As := [.int (nI b9), .int 1]) (rest := [.int (da (3 * i + 1))]) ⟨hx, hb, hml, hown, hts⟩ (r_at l G g hg f 43 20 3 na da (nI b9) 1 har had (by first | assumption | omega | decide) (by first | assumption | omega | decide) (by first | assumption | omega | decide) (by first | assumption | omega | decide)) (my_cwV hts ok_X5_at w_225 rfl rfl ⟨Nat.le_of_ble_eq_true rfl, Nat.le_of_ble_eq_true rfl⟩) ⟨bP.blind, va_recv hG.1 hP (ci := 5) (q0 := 43) rfl (wl_at (by decide) har), fun U hU hW => ⟨rfl, by rw [hU]; exact hP, kG.warm hW hG⟩⟩ rfl rfl hl.1 rfl (lv_room (Nat.le_of_ble_eq_true rfl)) dX0_inForce_102 ⟨Nat.le_of_ble_eq_true rfl, Nat.le_of_ble_eq_true rfl⟩) (fun r hr9 => ?_)
                subst hr9
                refine my_bei (v := da (3 * b9 + 1)) (atQ (d := da) (w := 3) (i := b9) (c := 1) hb9 (by omega) (by omega) (by omega)) ?_
                refine lv_icmp_lt (tgt := 111) hx hb dX0_inForce_105 (by decide) (fun c_105 => ?_) (fun c_105 => ?_)
                · refine lv_iinc (v := nI (i + 1)) (lv' := [(4, .int (nI (i + 1))), (6, .int 1), (5, .int (da (3 * i + 2))), (0, .ref (g 36)), (1, .int n), (2, .int q), (3, .int (nI b9))]) hx hb dX0_inForce_111 hl (k := 6) rfl (nI_1 i) (by decide) rfl (fun ls hl => ?_)
                  refine lv_goto (tgt := 5) hx hb dX0_inForce_114 (by decide) ?_
                  exact ih_1 (some b9) (i + 1) _ (by omega) (ho) (fcB_n (A := (fun i c => da (3 * i + c))) hB (fcc_2 (A := (fun i c => da (3 * i + c))) c_105)) (by omega) (lv_sub hl [3, 4, 5, 6, 0] rfl)
                · refine lv_iload hx hb dX0_inForce_108 (lv_at hl 6 rfl) ?_
                  refine lv_istore_n (lv' := [(3, .int (nI i)), (6, .int 1), (5, .int (da (3 * i + 2))), (0, .ref (g 36)), (1, .int n), (2, .int q), (4, .int (nI i))]) hx hb dX0_inForce_110 rfl hl (by decide) rfl (fun ls hl => ?_)
                  refine lv_iinc (v := nI (i + 1)) (lv' := [(4, .int (nI (i + 1))), (3, .int (nI i)), (6, .int 1), (5, .int (da (3 * i + 2))), (0, .ref (g 36)), (1, .int n), (2, .int q)]) hx hb dX0_inForce_111 hl (k := 6) rfl (nI_1 i) (by decide) rfl (fun ls hl => ?_)
                  refine lv_goto (tgt := 5) hx hb dX0_inForce_114 (by decide) ?_
                  exact ih_1 (some i) (i + 1) _ (by omega) (fun z hz => by cases hz; omega) (fcB_y (A := (fun i c => da (3 * i + c))) hB (fcc_1 (A := (fun i c => da (3 * i + c))) (fch_t (A := (fun i c => da (3 * i + c))) c_40 c_54 (Or.inl c_60)) c_105)) (by omega) (lv_sub hl [4, 5, 6, 1, 0] rfl)
            · refine lv_iload hx hb dX0_inForce_63 (lv_at hl 0 rfl) ?_
              refine lv_iload_n hx hb dX0_inForce_65 rfl (lv_at hl 3 rfl) ?_
              refine lv_icmp_le (tgt := 73) hx hb dX0_inForce_66 (by decide) (fun c_66 => ?_) (fun c_66 => ?_)
              · refine lv_iconst (v := 0) hx hb dX0_inForce_73 (by decide) ?_
                refine lv_istore (lv' := [(6, .int 0), (5, .int (da (3 * i + 2))), (0, .ref (g 36)), (1, .int n), (2, .int q), (3, .int (fo o1)), (4, .int (nI i))]) hx hb dX0_inForce_74 hl (by decide) rfl (fun ls hl => ?_)
                refine lv_iload hx hb dX0_inForce_76 (lv_at hl 0 rfl) ?_
                refine lv_if_eq (tgt := 111) hx hb dX0_inForce_78 (by decide) (fun c_78 => ?_) (fun c_78 => absurd (by decide) c_78)
                refine lv_iinc (v := nI (i + 1)) (lv' := [(4, .int (nI (i + 1))), (6, .int 0), (5, .int (da (3 * i + 2))), (0, .ref (g 36)), (1, .int n), (2, .int q), (3, .int (fo o1))]) hx hb dX0_inForce_111 hl (k := 6) rfl (nI_1 i) (by decide) rfl (fun ls hl => ?_)
                refine lv_goto (tgt := 5) hx hb dX0_inForce_114 (by decide) ?_
                exact ih_1 o1 (i + 1) _ (by omega) (ho) (fcB_n (A := (fun i c => da (3 * i + c))) hB (fcc_k (A := (fun i c => da (3 * i + c))) _ (fch_f (A := (fun i c => da (3 * i + c))) (Or.inr (Or.inr ⟨c_60, c_66⟩))))) (by omega) (lv_sub hl [3, 4, 5, 6, 0] rfl)
              · refine lv_iconst (v := 1) hx hb dX0_inForce_69 (by decide) ?_
                refine lv_goto (tgt := 74) hx hb dX0_inForce_70 (by decide) ?_
                refine lv_istore (lv' := [(6, .int 1), (5, .int (da (3 * i + 2))), (0, .ref (g 36)), (1, .int n), (2, .int q), (3, .int (fo o1)), (4, .int (nI i))]) hx hb dX0_inForce_74 hl (by decide) rfl (fun ls hl => ?_)
                refine lv_iload hx hb dX0_inForce_76 (lv_at hl 0 rfl) ?_
                refine lv_if_eq (tgt := 111) hx hb dX0_inForce_78 (by decide) (fun c_78 => absurd c_78 (by decide)) (fun c_78 => ?_)
                refine lv_iload_n hx hb dX0_inForce_81 rfl (lv_at hl 5 rfl) ?_
                refine lv_iconst (v := (-1)) hx hb dX0_inForce_82 (by decide) ?_
                refine lv_icmp_eq (tgt := 108) hx hb dX0_inForce_83 (by decide) (fun c_83 => ?_) (fun c_83 => ?_)
                · refine lv_iload hx hb dX0_inForce_108 (lv_at hl 6 rfl) ?_
                  refine lv_istore_n (lv' := [(3, .int (nI i)), (6, .int 1), (5, .int (da (3 * i + 2))), (0, .ref (g 36)), (1, .int n), (2, .int q), (4, .int (nI i))]) hx hb dX0_inForce_110 rfl hl (by decide) rfl (fun ls hl => ?_)
                  refine lv_iinc (v := nI (i + 1)) (lv' := [(4, .int (nI (i + 1))), (3, .int (nI i)), (6, .int 1), (5, .int (da (3 * i + 2))), (0, .ref (g 36)), (1, .int n), (2, .int q)]) hx hb dX0_inForce_111 hl (k := 6) rfl (nI_1 i) (by decide) rfl (fun ls hl => ?_)
                  refine lv_goto (tgt := 5) hx hb dX0_inForce_114 (by decide) ?_
                  exact ih_1 (some i) (i + 1) _ (by omega) (fun z hz => by cases hz; omega) (fcB_y (A := (fun i c => da (3 * i + c))) (hB.trans (fo_none (by omega) ho c_83)) (fch_t (A := (fun i c => da (3 * i + c))) c_40 c_54 (Or.inr c_66))) (by omega) (lv_sub hl [4, 5, 6, 1, 0] rfl)
                · obtain ⟨b9, rfl⟩ : ∃ b, o1 = some b := by
                    cases o1 with
                    | none => exact absurd rfl c_83
                    | some z => exact ⟨z, rfl⟩
                  have hb9 := ho b9 rfl
                  refine lv_aload_n hx hb dX0_inForce_86 rfl (lv_at hl 2 rfl) ?_
                  refine va_get (D := G.1) (ci := 0) (v := .ref (g 43)) (C := RX0) (T := TX0) (N := 9) hx hb hts inlX0 hown hG.1 hP 36 (wl_at (by decide) hbk) rfl 3 (by decide) (hts (.fieldLink RX0 26 "SwornLists$Book" "acts" "LSwornLists$Rows;") w_57) (fun _ h9 => h9) rfl dX0_inForce_87 ?_
                  refine lv_iload hx hb dX0_inForce_90 (lv_at hl 6 rfl) ?_
                  refine lv_iconst (v := 1) hx hb dX0_inForce_92 (by decide) ?_
                  refine rd_calli (va_runV (As := [.int (nI i), .int 1]) (rest := []) ⟨hx, hb, hml, hown, hts⟩ (r_at l G g hg f 43 20 3 na da (nI i) 1 har had (by first | assumption | omega | decide) (by first | assumption | omega | decide) (by first | assumption | omega | decide) (by first | assumption | omega | decide)) (my_cwV hts ok_X5_at w_225 rfl rfl ⟨Nat.le_of_ble_eq_true rfl, Nat.le_of_ble_eq_true rfl⟩) ⟨bP.blind, va_recv hG.1 hP (ci := 5) (q0 := 43) rfl (wl_at (by decide) har), fun U hU hW => ⟨rfl, by rw [hU]; exact hP, kG.warm hW hG⟩⟩ rfl rfl hl.1 rfl (lv_room (Nat.le_of_ble_eq_true rfl)) dX0_inForce_93 ⟨Nat.le_of_ble_eq_true rfl, Nat.le_of_ble_eq_true rfl⟩) (fun r hr9 => ?_)
                  subst hr9
                  refine my_bei (v := da (3 * i + 1)) (atQ (d := da) (w := 3) (i := i) (c := 1) hi9 (by omega) (by omega) (by omega)) ?_
                  refine lv_aload_n hx hb dX0_inForce_96 rfl (lv_at hl 2 rfl) ?_
                  refine va_get (D := G.1) (ci := 0) (v := .ref (g 43)) (C := RX0) (T := TX0) (N := 9) hx hb hts inlX0 hown hG.1 hP 36 (wl_at (by decide) hbk) rfl 3 (by decide) (hts (.fieldLink RX0 26 "SwornLists$Book" "acts" "LSwornLists$Rows;") w_57) (fun _ h9 => h9) rfl dX0_inForce_97 ?_
                  refine lv_iload_n hx hb dX0_inForce_100 rfl (lv_at hl 5 rfl) ?_
                  refine lv_iconst (v := 1) hx hb dX0_inForce_101 (by decide) ?_
                  refine rd_calli (va_runV (As := [.int (nI b9), .int 1]) (rest := [.int (da (3 * i + 1))]) ⟨hx, hb, hml, hown, hts⟩ (r_at l G g hg f 43 20 3 na da (nI b9) 1 har had (by first | assumption | omega | decide) (by first | assumption | omega | decide) (by first | assumption | omega | decide) (by first | assumption | omega | decide)) (my_cwV hts ok_X5_at w_225 rfl rfl ⟨Nat.le_of_ble_eq_true rfl, Nat.le_of_ble_eq_true rfl⟩) ⟨bP.blind, va_recv hG.1 hP (ci := 5) (q0 := 43) rfl (wl_at (by decide) har), fun U hU hW => ⟨rfl, by rw [hU]; exact hP, kG.warm hW hG⟩⟩ rfl rfl hl.1 rfl (lv_room (Nat.le_of_ble_eq_true rfl)) dX0_inForce_102 ⟨Nat.le_of_ble_eq_true rfl, Nat.le_of_ble_eq_true rfl⟩) (fun r hr9 => ?_)
                  subst hr9
                  refine my_bei (v := da (3 * b9 + 1)) (atQ (d := da) (w := 3) (i := b9) (c := 1) hb9 (by omega) (by omega) (by omega)) ?_
                  refine lv_icmp_lt (tgt := 111) hx hb dX0_inForce_105 (by decide) (fun c_105 => ?_) (fun c_105 => ?_)
                  · refine lv_iinc (v := nI (i + 1)) (lv' := [(4, .int (nI (i + 1))), (6, .int 1), (5, .int (da (3 * i + 2))), (0, .ref (g 36)), (1, .int n), (2, .int q), (3, .int (nI b9))]) hx hb dX0_inForce_111 hl (k := 6) rfl (nI_1 i) (by decide) rfl (fun ls hl => ?_)
                    refine lv_goto (tgt := 5) hx hb dX0_inForce_114 (by decide) ?_
                    exact ih_1 (some b9) (i + 1) _ (by omega) (ho) (fcB_n (A := (fun i c => da (3 * i + c))) hB (fcc_2 (A := (fun i c => da (3 * i + c))) c_105)) (by omega) (lv_sub hl [3, 4, 5, 6, 0] rfl)
                  · refine lv_iload hx hb dX0_inForce_108 (lv_at hl 6 rfl) ?_
                    refine lv_istore_n (lv' := [(3, .int (nI i)), (6, .int 1), (5, .int (da (3 * i + 2))), (0, .ref (g 36)), (1, .int n), (2, .int q), (4, .int (nI i))]) hx hb dX0_inForce_110 rfl hl (by decide) rfl (fun ls hl => ?_)
                    refine lv_iinc (v := nI (i + 1)) (lv' := [(4, .int (nI (i + 1))), (3, .int (nI i)), (6, .int 1), (5, .int (da (3 * i + 2))), (0, .ref (g 36)), (1, .int n), (2, .int q)]) hx hb dX0_inForce_111 hl (k := 6) rfl (nI_1 i) (by decide) rfl (fun ls hl => ?_)
                    refine lv_goto (tgt := 5) hx hb dX0_inForce_114 (by decide) ?_
                    exact ih_1 (some i) (i + 1) _ (by omega) (fun z hz => by cases hz; omega) (fcB_y (A := (fun i c => da (3 * i + c))) hB (fcc_1 (A := (fun i c => da (3 * i + c))) (fch_t (A := (fun i c => da (3 * i + c))) c_40 c_54 (Or.inr c_66)) c_105)) (by omega) (lv_sub hl [4, 5, 6, 1, 0] rfl)
  exact key1 (na + 1) none 0 _ (Nat.zero_le _) (fun z hz => by cases hz) (rfl) (by omega) (lv_sub hl [2, 3, 4, 1, 0] rfl)
set_option maxHeartbeats 4000000 in
set_option maxRecDepth 100000 in
theorem k_lawOfE (l : Launch) (G : gW) (g : Nat → Nat) (hg : gOK g) (f : Nat → va_E) (pay : Int32) (fine : Int32) (na : Nat) (da : Nat → Int32) (lf : Nat → Option Nat) (n : Int32) (q : Int32) (hbk : f 36 = eO 0 [.ref (g 37), .ref (g 39), .ref (g 41), .ref (g 43), .ref (g 45), .ref (g 47), .ref (g 112), .int pay, .int fine]) (har : f 43 = eO 5 [.int (nI 20), .int (nI 3), .ref (g 44), .int (nI na)]) (had : f 44 = eI G (20 * 3) da) (hla : f 47 = eO 6 [.ref (g 48), .ref (g 49)]) (hlaa : f 48 = eA G 5 20 lf) (hna : na ≤ 20) (hlf : ∀ z, z < 20 → lf z = some (g (47 + 3 * z + 5))) : Met l yX0_lawOf (wsT yX0_lawOf cX0_lawOf 4 (some (.object "SwornLists$Text"))) ({ frames := 2, cells := 0, slots := 0, locals := 49 }) (bP G g f [.ref (g 36), .int n, .int q]) (rQa (fun z9 => ∃ o9 : Option Nat, z9 = lawv g o9 ∧ (∀ z, o9 = some z → z < na) ∧ (fcB (fun i c => da (3 * i + c)) n q na = o9))) 0 0 fr0 := by
  refine Met.ofW (cc := cX0_lawOf) (maxL := 4) (ret := (some (.object "SwornLists$Text"))) (by decide) rfl ?_
  intro p e s m args below meth c s₁ B hml hv
  obtain ⟨rfl, hP, hG⟩ := hv
  have hx := B.exec
  have hb := B.bytes
  have hr := B.returns
  have hts := my_hts (atoms_spec (ws := wsT yX0_lawOf cX0_lawOf 4 (some (.object "SwornLists$Text"))) B.pre)
  have hown : s.vm.findClass RX0 = some m.cls := findClass_of_methodNamed B.named
  have hlocks := B.notSynchronized
  have hl := lv_entry ([.ref (g 36), .int n, .int q]) (n := 4) (Nat.le_of_ble_eq_true rfl)
  rw [lg_entry_eq]
  generalize (lg_sl ([.ref (g 36), .int n, .int q]) ++ List.replicate (4 - (lg_sl ([.ref (g 36), .int n, .int q])).length) Slot.unset).toArray = ls at hl ⊢
  have hl : lv_has ls 4 [(0, .ref (g 36)), (1, .int n), (2, .int q)] := hl
  refine W_q8 (fun Q9 hQ9 => ?_)
  refine lv_aload_n hx hb dX0_lawOf_0 rfl (lv_at hl 0 rfl) ?_
  refine lv_iload_n hx hb dX0_lawOf_1 rfl (lv_at hl 1 rfl) ?_
  refine lv_iload_n hx hb dX0_lawOf_2 rfl (lv_at hl 2 rfl) ?_
  refine rd_calli (va_runV (As := [.int n, .int q]) (rest := []) ⟨hx, hb, hml, hown, hts⟩ (k_inForceE l G g hg f pay fine na da n q hbk har had (by first | assumption | omega | decide)) (my_cwV hts ok_X0_inForce w_398 rfl rfl ⟨Nat.le_of_ble_eq_true rfl, Nat.le_of_ble_eq_true rfl⟩) ⟨bP.blind, va_recv hG.1 hP (ci := 0) (q0 := 36) rfl (wl_at (by decide) hbk), fun U hU hW => ⟨rfl, by rw [hU]; exact hP, kG.warm hW hG⟩⟩ rfl rfl hl.1 rfl (lv_room (Nat.le_of_ble_eq_true rfl)) dX0_lawOf_3 ⟨Nat.le_of_ble_eq_true rfl, Nat.le_of_ble_eq_true rfl⟩) (fun r hr9 => ?_)
  obtain ⟨o91, rfl, hx_1_0, hx_1_1⟩ := hr9
  refine lv_istore_n (lv' := [(3, .int (fo o91)), (0, .ref (g 36)), (1, .int n), (2, .int q)]) hx hb dX0_lawOf_6 rfl hl (by decide) rfl (fun ls hl => ?_)
  refine lv_iload_n hx hb dX0_lawOf_7 rfl (lv_at hl 0 rfl) ?_
  refine lv_iconst (v := (-1)) hx hb dX0_lawOf_8 (by decide) ?_
  refine lv_icmp_ne (tgt := 16) hx hb dX0_lawOf_9 (by decide) (fun c_9 => ?_) (fun c_9 => ?_)
  · obtain ⟨i, ei⟩ : ∃ i, o91 = some i := by
      cases h9 : o91 with
      | none => exact absurd (by rw [h9]; rfl) c_9
      | some z => exact ⟨z, rfl⟩
    have hin := hx_1_0 i ei
    subst ei
    refine lv_aload_n hx hb dX0_lawOf_16 rfl (lv_at hl 1 rfl) ?_
    refine va_get (D := G.1) (ci := 0) (v := .ref (g 47)) (C := RX0) (T := TX0) (N := 9) hx hb hts inlX0 hown hG.1 hP 36 (wl_at (by decide) hbk) rfl 5 (by decide) (hts (.fieldLink RX0 37 "SwornLists$Book" "laws" "LSwornLists$Shelf;") w_62) (fun _ h9 => h9) rfl dX0_lawOf_17 ?_
    refine lv_iload_n hx hb dX0_lawOf_20 rfl (lv_at hl 0 rfl) ?_
    refine rd_calla (va_runV (As := [.int (nI i)]) (rest := []) ⟨hx, hb, hml, hown, hts⟩ (w_get l G g hg f 47 20 lf i hla hlaa (by first | assumption | omega | decide) (by first | assumption | omega | decide) (by first | assumption | omega | decide) (hlf)) (my_cwV hts ok_X6_get w_402 rfl rfl ⟨Nat.le_of_ble_eq_true rfl, Nat.le_of_ble_eq_true rfl⟩) ⟨bP.blind, va_recv hG.1 hP (ci := 6) (q0 := 47) rfl (wl_at (by decide) hla), fun U hU hW => ⟨rfl, by rw [hU]; exact hP, kG.warm hW hG⟩⟩ rfl rfl hl.1 rfl (lv_room (Nat.le_of_ble_eq_true rfl)) dX0_lawOf_21 ⟨Nat.le_of_ble_eq_true rfl, Nat.le_of_ble_eq_true rfl⟩) (fun r hr9 => ?_)
    subst hr9
    refine W_q9 hQ9 ?_
    exact W.aret (v := .ref (g (47 + 3 * i + 5))) hx hb hr (Or.inl ⟨_, rfl⟩) (Or.inr ⟨_, rfl⟩) (fun _ hT9 _ => ⟨_, rfl, (⟨some i, by rw [show 47 + 3 * i + 5 = 3 * i + 52 by omega]; rfl, (fun z hz => by cases hz; exact hin), hx_1_1⟩), hT9⟩) (fun _ h => absurd h List.not_mem_nil) dX0_lawOf_24
  · refine lv_null hx hb dX0_lawOf_12 ?_
    refine lv_goto (tgt := 24) hx hb dX0_lawOf_13 (by decide) ?_
    refine W_q9 hQ9 ?_
    exact W.aret (v := .null) hx hb hr (Or.inl ⟨_, rfl⟩) (Or.inl rfl) (fun _ hT9 _ => ⟨_, rfl, (⟨none, rfl, (fun z hz => by cases hz), hx_1_1.trans (fo_none (N := 20) (by omega) (fun z hz => Nat.lt_of_lt_of_le (hx_1_0 z hz) hna) c_9)⟩), hT9⟩) (fun _ h => absurd h List.not_mem_nil) dX0_lawOf_24


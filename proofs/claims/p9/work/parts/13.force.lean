theorem ok_X0_lawOf : okV yX0_lawOf cX0_lawOf 4 (some (.object "SwornLists$Text")) 2 := ⟨⟨w_397, w_34, ⟨by decide +kernel, by decide +kernel, by decide +kernel⟩⟩, trivial, w_395, w_396⟩
set_option maxHeartbeats 4000000 in
set_option maxRecDepth 100000 in
theorem k_inForce (l : Launch) (G : gW) (g : Nat → Nat) (hg : gOK g) (f : Nat → va_E) (pay : Int32) (fine : Int32) (na : Nat) (da : Nat → Int32) (n : Int32) (q : Int32) (hbk : f 36 = eO 0 [.ref (g 37), .ref (g 39), .ref (g 41), .ref (g 43), .ref (g 45), .ref (g 47), .ref (g 112), .int pay, .int fine]) (har : f 43 = eO 5 [.int (nI 20), .int (nI 3), .ref (g 44), .int (nI na)]) (had : f 44 = eI G (20 * 3) da) (hna : na ≤ 20) : Met l yX0_inForce (wsT yX0_inForce cX0_inForce 7 (some .int)) ({ frames := 1, cells := 0, slots := 0, locals := 23 }) (bP G g f [.ref (g 36), .int n, .int q]) (rQi (fun z9 => ∃ o9 : Option Nat, z9 = fo o9 ∧ (∀ z, o9 = some z → z < na))) 0 0 fr0 := by
  refine Met.ofW (cc := cX0_inForce) (maxL := 7) (ret := (some .int)) (by decide) rfl ?_
  intro p e s m args below meth c s₁ B hml hv
  obtain ⟨rfl, hP, hG⟩ := hv
  have hx := B.exec
  have hb := B.bytes
  have hr := B.returns
  have hts := my_hts (atoms_spec (ws := wsT yX0_inForce cX0_inForce 7 (some .int)) B.pre)
  have hown : s.vm.findClass RX0 = some m.cls := findClass_of_methodNamed B.named
  have hlocks := B.notSynchronized
  have hl := lv_entry ([.ref (g 36), .int n, .int q]) (n := 7) (Nat.le_of_ble_eq_true rfl)
  rw [lg_entry_eq]
  generalize (lg_sl ([.ref (g 36), .int n, .int q]) ++ List.replicate (7 - (lg_sl ([.ref (g 36), .int n, .int q])).length) Slot.unset).toArray = ls at hl ⊢
  have hl : lv_has ls 7 [(0, .ref (g 36)), (1, .int n), (2, .int q)] := hl
  refine lv_iconst (v := (-1)) hx hb dX0_inForce_0 (by decide) ?_
  refine lv_istore_n (lv' := [(3, .int (-1)), (0, .ref (g 36)), (1, .int n), (2, .int q)]) hx hb dX0_inForce_1 rfl hl (by decide) rfl (fun ls hl => ?_)
  refine lv_iconst (v := 0) hx hb dX0_inForce_2 (by decide) ?_
  refine lv_istore (lv' := [(4, .int 0), (3, .int (-1)), (0, .ref (g 36)), (1, .int n), (2, .int q)]) hx hb dX0_inForce_3 hl (by decide) rfl (fun ls hl => ?_)
  have key1 : ∀ (n9 : Nat) (o1 : Option Nat) (i : Nat) (ls : Array Slot), (i ≤ na) → (∀ z, o1 = some z → z < na) → na - i < n9 → lv_has ls 7 [(0, .ref (g 36)), (1, .int n), (2, .int q), (3, .int (fo o1)), (4, .int (nI i))] → W p l e (headSpec (wsT yX0_inForce cX0_inForce 7 (some .int)) ({ frames := 1, cells := 0, slots := 0, locals := 23 })).room s m ([.ref (g 36), .int n, .int q] : List Value).toArray below meth c s.heap [] 0 0 (MQ below (rQi (fun z9 => ∃ o9 : Option Nat, z9 = fo o9 ∧ (∀ z, o9 = some z → z < na))) ([.ref (g 36), .int n, .int q] : List Value).toArray s 0 0 fr0) (F0 m 5 ls []) := by
    intro n9
    induction n9 with
    | zero => intro o1 i ls hi ho hn9; exact absurd hn9 (Nat.not_lt_zero _)
    | succ n9 ih =>
      intro o1 i ls hi ho hn9 hl
      refine lv_iload hx hb dX0_inForce_5 (lv_at hl 4 rfl) ?_
      refine lv_aload_n hx hb dX0_inForce_7 rfl (lv_at hl 0 rfl) ?_
      refine va_get (D := G.1) (ci := 0) (v := .ref (g 43)) (C := RX0) (T := TX0) (N := 9) hx hb hts inlX0 hown hG.1 hP 36 (wl_at (by decide) hbk) rfl 3 (by decide) (hts (.fieldLink RX0 26 "SwornLists$Book" "acts" "LSwornLists$Rows;") w_57) (fun _ h9 => h9) rfl dX0_inForce_8 ?_
      refine rd_calli (va_runV (As := []) (rest := [.int (nI i)]) ⟨hx, hb, hml, hown, hts⟩ (r_size l G g hg f 43 20 3 na har (by first | assumption | omega | decide) (by first | assumption | omega | decide) (by first | assumption | omega | decide) (by first | assumption | omega | decide)) (my_cwV hts ok_X5_size w_202 rfl rfl ⟨Nat.le_of_ble_eq_true rfl, Nat.le_of_ble_eq_true rfl⟩) ⟨bP.blind, va_recv hG.1 hP (ci := 5) (q0 := 43) rfl (wl_at (by decide) har), fun U hU hW => ⟨rfl, by rw [hU]; exact hP, kG.warm hW hG⟩⟩ rfl rfl hl.1 rfl (lv_room (Nat.le_of_ble_eq_true rfl)) dX0_inForce_11 ⟨Nat.le_of_ble_eq_true rfl, Nat.le_of_ble_eq_true rfl⟩) (fun r hr9 => ?_)
      subst hr9
      refine lv_icmp_ge (tgt := 117) hx hb dX0_inForce_14 (by decide) (fun c_14 => ?_) (fun c_14 => ?_)
      · refine lv_iload_n hx hb dX0_inForce_117 rfl (lv_at hl 3 rfl) ?_
        exact W.iret (v := fo o1) hx hb hr (fun t ht hW => ⟨_, rfl, (⟨o1, rfl, ho⟩), ht⟩) (fun _ h => absurd h List.not_mem_nil) dX0_inForce_118
      · have hi9 : i < na := Nat.not_le.mp (fun z => c_14 (nI_le z (by omega)))
        refine lv_aload_n hx hb dX0_inForce_17 rfl (lv_at hl 0 rfl) ?_
        refine va_get (D := G.1) (ci := 0) (v := .ref (g 43)) (C := RX0) (T := TX0) (N := 9) hx hb hts inlX0 hown hG.1 hP 36 (wl_at (by decide) hbk) rfl 3 (by decide) (hts (.fieldLink RX0 26 "SwornLists$Book" "acts" "LSwornLists$Rows;") w_57) (fun _ h9 => h9) rfl dX0_inForce_18 ?_
        refine lv_iload hx hb dX0_inForce_21 (lv_at hl 4 rfl) ?_
        refine lv_iconst (v := 2) hx hb dX0_inForce_23 (by decide) ?_
        refine rd_calli (va_runV (As := [.int (nI i), .int 2]) (rest := []) ⟨hx, hb, hml, hown, hts⟩ (r_at l G g hg f 43 20 3 na da (nI i) 2 har had (by first | assumption | omega | decide) (by first | assumption | omega | decide) (by first | assumption | omega | decide) (by first | assumption | omega | decide)) (my_cwV hts ok_X5_at w_225 rfl rfl ⟨Nat.le_of_ble_eq_true rfl, Nat.le_of_ble_eq_true rfl⟩) ⟨bP.blind, va_recv hG.1 hP (ci := 5) (q0 := 43) rfl (wl_at (by decide) har), fun U hU hW => ⟨rfl, by rw [hU]; exact hP, kG.warm hW hG⟩⟩ rfl rfl hl.1 rfl (lv_room (Nat.le_of_ble_eq_true rfl)) dX0_inForce_24 ⟨Nat.le_of_ble_eq_true rfl, Nat.le_of_ble_eq_true rfl⟩) (fun r hr9 => ?_)
        subst hr9
        refine lv_istore (lv' := [(5, .int (atv da na 3 (nI i) 2)), (0, .ref (g 36)), (1, .int n), (2, .int q), (3, .int (fo o1)), (4, .int (nI i))]) hx hb dX0_inForce_27 hl (by decide) rfl (fun ls hl => ?_)
        refine lv_aload_n hx hb dX0_inForce_29 rfl (lv_at hl 1 rfl) ?_
        refine va_get (D := G.1) (ci := 0) (v := .ref (g 43)) (C := RX0) (T := TX0) (N := 9) hx hb hts inlX0 hown hG.1 hP 36 (wl_at (by decide) hbk) rfl 3 (by decide) (hts (.fieldLink RX0 26 "SwornLists$Book" "acts" "LSwornLists$Rows;") w_57) (fun _ h9 => h9) rfl dX0_inForce_30 ?_
        refine lv_iload hx hb dX0_inForce_33 (lv_at hl 5 rfl) ?_
        refine lv_iconst (v := 0) hx hb dX0_inForce_35 (by decide) ?_
        refine rd_calli (va_runV (As := [.int (nI i), .int 0]) (rest := []) ⟨hx, hb, hml, hown, hts⟩ (r_at l G g hg f 43 20 3 na da (nI i) 0 har had (by first | assumption | omega | decide) (by first | assumption | omega | decide) (by first | assumption | omega | decide) (by first | assumption | omega | decide)) (my_cwV hts ok_X5_at w_225 rfl rfl ⟨Nat.le_of_ble_eq_true rfl, Nat.le_of_ble_eq_true rfl⟩) ⟨bP.blind, va_recv hG.1 hP (ci := 5) (q0 := 43) rfl (wl_at (by decide) har), fun U hU hW => ⟨rfl, by rw [hU]; exact hP, kG.warm hW hG⟩⟩ rfl rfl hl.1 rfl (lv_room (Nat.le_of_ble_eq_true rfl)) dX0_inForce_36 ⟨Nat.le_of_ble_eq_true rfl, Nat.le_of_ble_eq_true rfl⟩) (fun r hr9 => ?_)
        subst hr9
        refine lv_iload_n hx hb dX0_inForce_39 rfl (lv_at hl 2 rfl) ?_
        refine lv_icmp_ne (tgt := 73) hx hb dX0_inForce_40 (by decide) (fun c_40 => ?_) (fun c_40 => ?_)
        · refine lv_iconst (v := 0) hx hb dX0_inForce_73 (by decide) ?_
          refine lv_istore (lv' := [(6, .int 0), (5, .int (atv da na 3 (nI i) 2)), (0, .ref (g 36)), (1, .int n), (2, .int q), (3, .int (fo o1)), (4, .int (nI i))]) hx hb dX0_inForce_74 hl (by decide) rfl (fun ls hl => ?_)
          refine lv_iload hx hb dX0_inForce_76 (lv_at hl 0 rfl) ?_
          refine lv_if_eq (tgt := 111) hx hb dX0_inForce_78 (by decide) (fun c_78 => ?_) (fun c_78 => absurd (by decide) c_78)
          refine lv_iinc (v := nI (i + 1)) (lv' := [(4, .int (nI (i + 1))), (6, .int 0), (5, .int (atv da na 3 (nI i) 2)), (0, .ref (g 36)), (1, .int n), (2, .int q), (3, .int (fo o1))]) hx hb dX0_inForce_111 hl (k := 6) rfl (nI_1 i) (by decide) rfl (fun ls hl => ?_)
          refine lv_goto (tgt := 5) hx hb dX0_inForce_114 (by decide) ?_
          exact ih o1 (i + 1) _ (hi9) (ho) (by omega) (lv_sub hl [3, 4, 5, 6, 0] rfl)
        · refine lv_aload_n hx hb dX0_inForce_43 rfl (lv_at hl 1 rfl) ?_
          refine va_get (D := G.1) (ci := 0) (v := .ref (g 43)) (C := RX0) (T := TX0) (N := 9) hx hb hts inlX0 hown hG.1 hP 36 (wl_at (by decide) hbk) rfl 3 (by decide) (hts (.fieldLink RX0 26 "SwornLists$Book" "acts" "LSwornLists$Rows;") w_57) (fun _ h9 => h9) rfl dX0_inForce_44 ?_
          refine lv_iload hx hb dX0_inForce_47 (lv_at hl 5 rfl) ?_
          refine lv_iconst (v := 1) hx hb dX0_inForce_49 (by decide) ?_
          refine rd_calli (va_runV (As := [.int (nI i), .int 1]) (rest := []) ⟨hx, hb, hml, hown, hts⟩ (r_at l G g hg f 43 20 3 na da (nI i) 1 har had (by first | assumption | omega | decide) (by first | assumption | omega | decide) (by first | assumption | omega | decide) (by first | assumption | omega | decide)) (my_cwV hts ok_X5_at w_225 rfl rfl ⟨Nat.le_of_ble_eq_true rfl, Nat.le_of_ble_eq_true rfl⟩) ⟨bP.blind, va_recv hG.1 hP (ci := 5) (q0 := 43) rfl (wl_at (by decide) har), fun U hU hW => ⟨rfl, by rw [hU]; exact hP, kG.warm hW hG⟩⟩ rfl rfl hl.1 rfl (lv_room (Nat.le_of_ble_eq_true rfl)) dX0_inForce_50 ⟨Nat.le_of_ble_eq_true rfl, Nat.le_of_ble_eq_true rfl⟩) (fun r hr9 => ?_)
          subst hr9
          refine lv_iload_n hx hb dX0_inForce_53 rfl (lv_at hl 3 rfl) ?_
          refine lv_icmp_gt (tgt := 73) hx hb dX0_inForce_54 (by decide) (fun c_54 => ?_) (fun c_54 => ?_)
          · refine lv_iconst (v := 0) hx hb dX0_inForce_73 (by decide) ?_
            refine lv_istore (lv' := [(6, .int 0), (5, .int (atv da na 3 (nI i) 2)), (0, .ref (g 36)), (1, .int n), (2, .int q), (3, .int (fo o1)), (4, .int (nI i))]) hx hb dX0_inForce_74 hl (by decide) rfl (fun ls hl => ?_)
            refine lv_iload hx hb dX0_inForce_76 (lv_at hl 0 rfl) ?_
            refine lv_if_eq (tgt := 111) hx hb dX0_inForce_78 (by decide) (fun c_78 => ?_) (fun c_78 => absurd (by decide) c_78)
            refine lv_iinc (v := nI (i + 1)) (lv' := [(4, .int (nI (i + 1))), (6, .int 0), (5, .int (atv da na 3 (nI i) 2)), (0, .ref (g 36)), (1, .int n), (2, .int q), (3, .int (fo o1))]) hx hb dX0_inForce_111 hl (k := 6) rfl (nI_1 i) (by decide) rfl (fun ls hl => ?_)
            refine lv_goto (tgt := 5) hx hb dX0_inForce_114 (by decide) ?_
            exact ih o1 (i + 1) _ (hi9) (ho) (by omega) (lv_sub hl [3, 4, 5, 6, 0] rfl)
          · refine lv_iload hx hb dX0_inForce_57 (lv_at hl 0 rfl) ?_
            refine lv_iconst (v := (-1)) hx hb dX0_inForce_59 (by decide) ?_
            refine lv_icmp_eq (tgt := 69) hx hb dX0_inForce_60 (by decide) (fun c_60 => ?_) (fun c_60 => ?_)
            · refine lv_iconst (v := 1) hx hb dX0_inForce_69 (by decide) ?_
              refine lv_goto (tgt := 74) hx hb dX0_inForce_70 (by decide) ?_
              refine lv_istore (lv' := [(6, .int 1), (5, .int (atv da na 3 (nI i) 2)), (0, .ref (g 36)), (1, .int n), (2, .int q), (3, .int (fo o1)), (4, .int (nI i))]) hx hb dX0_inForce_74 hl (by decide) rfl (fun ls hl => ?_)
              refine lv_iload hx hb dX0_inForce_76 (lv_at hl 0 rfl) ?_
              refine lv_if_eq (tgt := 111) hx hb dX0_inForce_78 (by decide) (fun c_78 => absurd c_78 (by decide)) (fun c_78 => ?_)
              refine lv_iload_n hx hb dX0_inForce_81 rfl (lv_at hl 5 rfl) ?_
              refine lv_iconst (v := (-1)) hx hb dX0_inForce_82 (by decide) ?_
              refine lv_icmp_eq (tgt := 108) hx hb dX0_inForce_83 (by decide) (fun c_83 => ?_) (fun c_83 => ?_)
              · refine lv_iload hx hb dX0_inForce_108 (lv_at hl 6 rfl) ?_
                refine lv_istore_n (lv' := [(3, .int (nI i)), (6, .int 1), (5, .int (atv da na 3 (nI i) 2)), (0, .ref (g 36)), (1, .int n), (2, .int q), (4, .int (nI i))]) hx hb dX0_inForce_110 rfl hl (by decide) rfl (fun ls hl => ?_)
                refine lv_iinc (v := nI (i + 1)) (lv' := [(4, .int (nI (i + 1))), (3, .int (nI i)), (6, .int 1), (5, .int (atv da na 3 (nI i) 2)), (0, .ref (g 36)), (1, .int n), (2, .int q)]) hx hb dX0_inForce_111 hl (k := 6) rfl (nI_1 i) (by decide) rfl (fun ls hl => ?_)
                refine lv_goto (tgt := 5) hx hb dX0_inForce_114 (by decide) ?_
                exact ih (some i) (i + 1) _ (hi9) (fun z hz => by cases hz; exact hi9) (by omega) (lv_sub hl [4, 5, 6, 1, 0] rfl)
              · refine lv_aload_n hx hb dX0_inForce_86 rfl (lv_at hl 2 rfl) ?_
                refine va_get (D := G.1) (ci := 0) (v := .ref (g 43)) (C := RX0) (T := TX0) (N := 9) hx hb hts inlX0 hown hG.1 hP 36 (wl_at (by decide) hbk) rfl 3 (by decide) (hts (.fieldLink RX0 26 "SwornLists$Book" "acts" "LSwornLists$Rows;") w_57) (fun _ h9 => h9) rfl dX0_inForce_87 ?_
                refine lv_iload hx hb dX0_inForce_90 (lv_at hl 6 rfl) ?_
                refine lv_iconst (v := 1) hx hb dX0_inForce_92 (by decide) ?_
                refine rd_calli (va_runV (As := [.int (nI i), .int 1]) (rest := []) ⟨hx, hb, hml, hown, hts⟩ (r_at l G g hg f 43 20 3 na da (nI i) 1 har had (by first | assumption | omega | decide) (by first | assumption | omega | decide) (by first | assumption | omega | decide) (by first | assumption | omega | decide)) (my_cwV hts ok_X5_at w_225 rfl rfl ⟨Nat.le_of_ble_eq_true rfl, Nat.le_of_ble_eq_true rfl⟩) ⟨bP.blind, va_recv hG.1 hP (ci := 5) (q0 := 43) rfl (wl_at (by decide) har), fun U hU hW => ⟨rfl, by rw [hU]; exact hP, kG.warm hW hG⟩⟩ rfl rfl hl.1 rfl (lv_room (Nat.le_of_ble_eq_true rfl)) dX0_inForce_93 ⟨Nat.le_of_ble_eq_true rfl, Nat.le_of_ble_eq_true rfl⟩) (fun r hr9 => ?_)
                subst hr9
                refine lv_aload_n hx hb dX0_inForce_96 rfl (lv_at hl 2 rfl) ?_
                refine va_get (D := G.1) (ci := 0) (v := .ref (g 43)) (C := RX0) (T := TX0) (N := 9) hx hb hts inlX0 hown hG.1 hP 36 (wl_at (by decide) hbk) rfl 3 (by decide) (hts (.fieldLink RX0 26 "SwornLists$Book" "acts" "LSwornLists$Rows;") w_57) (fun _ h9 => h9) rfl dX0_inForce_97 ?_
                refine lv_iload_n hx hb dX0_inForce_100 rfl (lv_at hl 5 rfl) ?_
                refine lv_iconst (v := 1) hx hb dX0_inForce_101 (by decide) ?_
                refine rd_calli (va_runV (As := [.int (fo o1), .int 1]) (rest := [.int (atv da na 3 (nI i) 1)]) ⟨hx, hb, hml, hown, hts⟩ (r_at l G g hg f 43 20 3 na da (fo o1) 1 har had (by first | assumption | omega | decide) (by first | assumption | omega | decide) (by first | assumption | omega | decide) (by first | assumption | omega | decide)) (my_cwV hts ok_X5_at w_225 rfl rfl ⟨Nat.le_of_ble_eq_true rfl, Nat.le_of_ble_eq_true rfl⟩) ⟨bP.blind, va_recv hG.1 hP (ci := 5) (q0 := 43) rfl (wl_at (by decide) har), fun U hU hW => ⟨rfl, by rw [hU]; exact hP, kG.warm hW hG⟩⟩ rfl rfl hl.1 rfl (lv_room (Nat.le_of_ble_eq_true rfl)) dX0_inForce_102 ⟨Nat.le_of_ble_eq_true rfl, Nat.le_of_ble_eq_true rfl⟩) (fun r hr9 => ?_)
                subst hr9
                refine lv_icmp_lt (tgt := 111) hx hb dX0_inForce_105 (by decide) (fun c_105 => ?_) (fun c_105 => ?_)
                · refine lv_iinc (v := nI (i + 1)) (lv' := [(4, .int (nI (i + 1))), (6, .int 1), (5, .int (atv da na 3 (nI i) 2)), (0, .ref (g 36)), (1, .int n), (2, .int q), (3, .int (fo o1))]) hx hb dX0_inForce_111 hl (k := 6) rfl (nI_1 i) (by decide) rfl (fun ls hl => ?_)
                  refine lv_goto (tgt := 5) hx hb dX0_inForce_114 (by decide) ?_
                  exact ih o1 (i + 1) _ (hi9) (ho) (by omega) (lv_sub hl [3, 4, 5, 6, 0] rfl)
                · refine lv_iload hx hb dX0_inForce_108 (lv_at hl 6 rfl) ?_
                  refine lv_istore_n (lv' := [(3, .int (nI i)), (6, .int 1), (5, .int (atv da na 3 (nI i) 2)), (0, .ref (g 36)), (1, .int n), (2, .int q), (4, .int (nI i))]) hx hb dX0_inForce_110 rfl hl (by decide) rfl (fun ls hl => ?_)
                  refine lv_iinc (v := nI (i + 1)) (lv' := [(4, .int (nI (i + 1))), (3, .int (nI i)), (6, .int 1), (5, .int (atv da na 3 (nI i) 2)), (0, .ref (g 36)), (1, .int n), (2, .int q)]) hx hb dX0_inForce_111 hl (k := 6) rfl (nI_1 i) (by decide) rfl (fun ls hl => ?_)
                  refine lv_goto (tgt := 5) hx hb dX0_inForce_114 (by decide) ?_
                  exact ih (some i) (i + 1) _ (hi9) (fun z hz => by cases hz; exact hi9) (by omega) (lv_sub hl [4, 5, 6, 1, 0] rfl)
            · refine lv_iload hx hb dX0_inForce_63 (lv_at hl 0 rfl) ?_
              refine lv_iload_n hx hb dX0_inForce_65 rfl (lv_at hl 3 rfl) ?_
              refine lv_icmp_le (tgt := 73) hx hb dX0_inForce_66 (by decide) (fun c_66 => ?_) (fun c_66 => ?_)
              · refine lv_iconst (v := 0) hx hb dX0_inForce_73 (by decide) ?_
                refine lv_istore (lv' := [(6, .int 0), (5, .int (atv da na 3 (nI i) 2)), (0, .ref (g 36)), (1, .int n), (2, .int q), (3, .int (fo o1)), (4, .int (nI i))]) hx hb dX0_inForce_74 hl (by decide) rfl (fun ls hl => ?_)
                refine lv_iload hx hb dX0_inForce_76 (lv_at hl 0 rfl) ?_
                refine lv_if_eq (tgt := 111) hx hb dX0_inForce_78 (by decide) (fun c_78 => ?_) (fun c_78 => absurd (by decide) c_78)
                refine lv_iinc (v := nI (i + 1)) (lv' := [(4, .int (nI (i + 1))), (6, .int 0), (5, .int (atv da na 3 (nI i) 2)), (0, .ref (g 36)), (1, .int n), (2, .int q), (3, .int (fo o1))]) hx hb dX0_inForce_111 hl (k := 6) rfl (nI_1 i) (by decide) rfl (fun ls hl => ?_)
                refine lv_goto (tgt := 5) hx hb dX0_inForce_114 (by decide) ?_
                exact ih o1 (i + 1) _ (hi9) (ho) (by omega) (lv_sub hl [3, 4, 5, 6, 0] rfl)
              · refine lv_iconst (v := 1) hx hb dX0_inForce_69 (by decide) ?_
                refine lv_goto (tgt := 74) hx hb dX0_inForce_70 (by decide) ?_
                refine lv_istore (lv' := [(6, .int 1), (5, .int (atv da na 3 (nI i) 2)), (0, .ref (g 36)), (1, .int n), (2, .int q), (3, .int (fo o1)), (4, .int (nI i))]) hx hb dX0_inForce_74 hl (by decide) rfl (fun ls hl => ?_)
                refine lv_iload hx hb dX0_inForce_76 (lv_at hl 0 rfl) ?_
                refine lv_if_eq (tgt := 111) hx hb dX0_inForce_78 (by decide) (fun c_78 => absurd c_78 (by decide)) (fun c_78 => ?_)
                refine lv_iload_n hx hb dX0_inForce_81 rfl (lv_at hl 5 rfl) ?_
                refine lv_iconst (v := (-1)) hx hb dX0_inForce_82 (by decide) ?_
                refine lv_icmp_eq (tgt := 108) hx hb dX0_inForce_83 (by decide) (fun c_83 => ?_) (fun c_83 => ?_)
                · refine lv_iload hx hb dX0_inForce_108 (lv_at hl 6 rfl) ?_
                  refine lv_istore_n (lv' := [(3, .int (nI i)), (6, .int 1), (5, .int (atv da na 3 (nI i) 2)), (0, .ref (g 36)), (1, .int n), (2, .int q), (4, .int (nI i))]) hx hb dX0_inForce_110 rfl hl (by decide) rfl (fun ls hl => ?_)
                  refine lv_iinc (v := nI (i + 1)) (lv' := [(4, .int (nI (i + 1))), (3, .int (nI i)), (6, .int 1), (5, .int (atv da na 3 (nI i) 2)), (0, .ref (g 36)), (1, .int n), (2, .int q)]) hx hb dX0_inForce_111 hl (k := 6) rfl (nI_1 i) (by decide) rfl (fun ls hl => ?_)
                  refine lv_goto (tgt := 5) hx hb dX0_inForce_114 (by decide) ?_
                  exact ih (some i) (i + 1) _ (hi9) (fun z hz => by cases hz; exact hi9) (by omega) (lv_sub hl [4, 5, 6, 1, 0] rfl)
                · refine lv_aload_n hx hb dX0_inForce_86 rfl (lv_at hl 2 rfl) ?_
                  refine va_get (D := G.1) (ci := 0) (v := .ref (g 43)) (C := RX0) (T := TX0) (N := 9) hx hb hts inlX0 hown hG.1 hP 36 (wl_at (by decide) hbk) rfl 3 (by decide) (hts (.fieldLink RX0 26 "SwornLists$Book" "acts" "LSwornLists$Rows;") w_57) (fun _ h9 => h9) rfl dX0_inForce_87 ?_
                  refine lv_iload hx hb dX0_inForce_90 (lv_at hl 6 rfl) ?_
                  refine lv_iconst (v := 1) hx hb dX0_inForce_92 (by decide) ?_
                  refine rd_calli (va_runV (As := [.int (nI i), .int 1]) (rest := []) ⟨hx, hb, hml, hown, hts⟩ (r_at l G g hg f 43 20 3 na da (nI i) 1 har had (by first | assumption | omega | decide) (by first | assumption | omega | decide) (by first | assumption | omega | decide) (by first | assumption | omega | decide)) (my_cwV hts ok_X5_at w_225 rfl rfl ⟨Nat.le_of_ble_eq_true rfl, Nat.le_of_ble_eq_true rfl⟩) ⟨bP.blind, va_recv hG.1 hP (ci := 5) (q0 := 43) rfl (wl_at (by decide) har), fun U hU hW => ⟨rfl, by rw [hU]; exact hP, kG.warm hW hG⟩⟩ rfl rfl hl.1 rfl (lv_room (Nat.le_of_ble_eq_true rfl)) dX0_inForce_93 ⟨Nat.le_of_ble_eq_true rfl, Nat.le_of_ble_eq_true rfl⟩) (fun r hr9 => ?_)
                  subst hr9
                  refine lv_aload_n hx hb dX0_inForce_96 rfl (lv_at hl 2 rfl) ?_
                  refine va_get (D := G.1) (ci := 0) (v := .ref (g 43)) (C := RX0) (T := TX0) (N := 9) hx hb hts inlX0 hown hG.1 hP 36 (wl_at (by decide) hbk) rfl 3 (by decide) (hts (.fieldLink RX0 26 "SwornLists$Book" "acts" "LSwornLists$Rows;") w_57) (fun _ h9 => h9) rfl dX0_inForce_97 ?_
                  refine lv_iload_n hx hb dX0_inForce_100 rfl (lv_at hl 5 rfl) ?_
                  refine lv_iconst (v := 1) hx hb dX0_inForce_101 (by decide) ?_
                  refine rd_calli (va_runV (As := [.int (fo o1), .int 1]) (rest := [.int (atv da na 3 (nI i) 1)]) ⟨hx, hb, hml, hown, hts⟩ (r_at l G g hg f 43 20 3 na da (fo o1) 1 har had (by first | assumption | omega | decide) (by first | assumption | omega | decide) (by first | assumption | omega | decide) (by first | assumption | omega | decide)) (my_cwV hts ok_X5_at w_225 rfl rfl ⟨Nat.le_of_ble_eq_true rfl, Nat.le_of_ble_eq_true rfl⟩) ⟨bP.blind, va_recv hG.1 hP (ci := 5) (q0 := 43) rfl (wl_at (by decide) har), fun U hU hW => ⟨rfl, by rw [hU]; exact hP, kG.warm hW hG⟩⟩ rfl rfl hl.1 rfl (lv_room (Nat.le_of_ble_eq_true rfl)) dX0_inForce_102 ⟨Nat.le_of_ble_eq_true rfl, Nat.le_of_ble_eq_true rfl⟩) (fun r hr9 => ?_)
                  subst hr9
                  refine lv_icmp_lt (tgt := 111) hx hb dX0_inForce_105 (by decide) (fun c_105 => ?_) (fun c_105 => ?_)
                  · refine lv_iinc (v := nI (i + 1)) (lv' := [(4, .int (nI (i + 1))), (6, .int 1), (5, .int (atv da na 3 (nI i) 2)), (0, .ref (g 36)), (1, .int n), (2, .int q), (3, .int (fo o1))]) hx hb dX0_inForce_111 hl (k := 6) rfl (nI_1 i) (by decide) rfl (fun ls hl => ?_)
                    refine lv_goto (tgt := 5) hx hb dX0_inForce_114 (by decide) ?_
                    exact ih o1 (i + 1) _ (hi9) (ho) (by omega) (lv_sub hl [3, 4, 5, 6, 0] rfl)
                  · refine lv_iload hx hb dX0_inForce_108 (lv_at hl 6 rfl) ?_
                    refine lv_istore_n (lv' := [(3, .int (nI i)), (6, .int 1), (5, .int (atv da na 3 (nI i) 2)), (0, .ref (g 36)), (1, .int n), (2, .int q), (4, .int (nI i))]) hx hb dX0_inForce_110 rfl hl (by decide) rfl (fun ls hl => ?_)
                    refine lv_iinc (v := nI (i + 1)) (lv' := [(4, .int (nI (i + 1))), (3, .int (nI i)), (6, .int 1), (5, .int (atv da na 3 (nI i) 2)), (0, .ref (g 36)), (1, .int n), (2, .int q)]) hx hb dX0_inForce_111 hl (k := 6) rfl (nI_1 i) (by decide) rfl (fun ls hl => ?_)
                    refine lv_goto (tgt := 5) hx hb dX0_inForce_114 (by decide) ?_
                    exact ih (some i) (i + 1) _ (hi9) (fun z hz => by cases hz; exact hi9) (by omega) (lv_sub hl [4, 5, 6, 1, 0] rfl)
  exact key1 (na + 1) none 0 _ (Nat.zero_le _) (fun z hz => by cases hz) (by omega) (lv_sub hl [2, 3, 4, 1, 0] rfl)
set_option maxHeartbeats 4000000 in
set_option maxRecDepth 100000 in
theorem w_get (l : Launch) (G : gW) (g : Nat → Nat) (hg : gOK g) (f : Nat → va_E) (k : Nat) (N : Nat) (tf : Nat → Option Nat) (i : Nat) (hsh : f k = eO 6 [.ref (g (k + 1)), .ref (g (k + 2))]) (hta : f (k + 1) = eA G 5 N tf) (hk3 : k + 1 < 333) (hN : N ≤ 20) (hi : i < N) (htf : ∀ z, z < N → tf z = some (g (k + 3 * z + 5))) : Met l yX6_get (wsT yX6_get cX6_get 2 (some (.object "SwornLists$Text"))) ({ frames := 0, cells := 0, slots := 0, locals := 0 }) (bP G g f [.ref (g k), .int (nI i)]) (rQa (fun z9 => z9 = .ref (g (k + 3 * i + 5)))) 0 0 fr0 := by
  refine Met.ofW (cc := cX6_get) (maxL := 2) (ret := (some (.object "SwornLists$Text"))) (by decide) rfl ?_
  intro p e s m args below meth c s₁ B hml hv
  obtain ⟨rfl, hP, hG⟩ := hv
  have hx := B.exec
  have hb := B.bytes
  have hr := B.returns
  have hts := my_hts (atoms_spec (ws := wsT yX6_get cX6_get 2 (some (.object "SwornLists$Text"))) B.pre)
  have hown : s.vm.findClass RX6 = some m.cls := findClass_of_methodNamed B.named
  have hlocks := B.notSynchronized
  have hl := lv_entry ([.ref (g k), .int (nI i)]) (n := 2) (Nat.le_of_ble_eq_true rfl)
  rw [lg_entry_eq]
  generalize (lg_sl ([.ref (g k), .int (nI i)]) ++ List.replicate (2 - (lg_sl ([.ref (g k), .int (nI i)])).length) Slot.unset).toArray = ls at hl ⊢
  have hl : lv_has ls 2 [(0, .ref (g k)), (1, .int (nI i))] := hl
  refine lv_iload_n hx hb dX6_get_0 rfl (lv_at hl 1 rfl) ?_
  refine lv_if_lt (tgt := 22) hx hb dX6_get_1 (by decide) (fun c_1 => absurd c_1 (nI_pos (by omega))) (fun c_1 => ?_)
  refine lv_iload_n hx hb dX6_get_4 rfl (lv_at hl 1 rfl) ?_
  refine lv_aload_n hx hb dX6_get_5 rfl (lv_at hl 0 rfl) ?_
  refine va_get (D := G.1) (ci := 6) (v := .ref (g (k + 1))) (C := RX6) (T := TX6) (N := 2) hx hb hts inlX6 hown hG.1 hP k (wl_at (by omega) hsh) rfl 0 (by decide) (hts (.fieldLink RX6 16 "SwornLists$Shelf" "texts" "[LSwornLists$Text;") w_82) (fun _ h9 => h9) rfl dX6_get_6 ?_
  refine va_alen hx hb hG.1 hP (k + 1) 5 (wl_at (by omega) hta) rfl rfl dX6_get_9 ?_
  refine lv_icmp_ge (tgt := 22) hx hb dX6_get_10 (by decide) (fun c_10 => absurd c_10 (fun z => absurd ((nI_leI (by omega) (by omega)).mp z) (by omega))) (fun c_10 => ?_)
  refine lv_aload_n hx hb dX6_get_13 rfl (lv_at hl 0 rfl) ?_
  refine va_get (D := G.1) (ci := 6) (v := .ref (g (k + 1))) (C := RX6) (T := TX6) (N := 2) hx hb hts inlX6 hown hG.1 hP k (wl_at (by omega) hsh) rfl 0 (by decide) (hts (.fieldLink RX6 16 "SwornLists$Shelf" "texts" "[LSwornLists$Text;") w_82) (fun _ h9 => h9) rfl dX6_get_14 ?_
  refine lv_iload_n hx hb dX6_get_17 rfl (lv_at hl 1 rfl) ?_
  refine va_aldq hx hb hG.1 hP (k + 1) 5 (wl_at (by omega) hta) rfl (vp_in_nI hi (by omega)) dX6_get_18 ?_
  refine my_bea (v := .ref (g (k + 3 * i + 5))) (by rw [nI_clamp (by omega), htf i hi]; rfl) ?_
  refine lv_goto (tgt := 26) hx hb dX6_get_19 (by decide) ?_
  exact W.aret (v := .ref (g (k + 3 * i + 5))) hx hb hr (Or.inl ⟨_, rfl⟩) (Or.inr ⟨_, rfl⟩) (fun t ht hW => ⟨_, rfl, (rfl), ht⟩) (fun _ h => absurd h List.not_mem_nil) dX6_get_26


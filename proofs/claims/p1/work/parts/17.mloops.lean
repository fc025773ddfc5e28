set_option maxHeartbeats 4000000 in
set_option maxRecDepth 100000 in
theorem m_trial (l : Launch) (G : gW) (sz : Nat) (mo : Nat) (st : Nat) (mi : Nat) (mk : Nat) (m6 : Nat) (m7 : Nat) (m9 : Nat) (m10 : Nat) (m15 : Nat) (m16 : Nat) (m17 : Nat) (m18 : Nat) (m19 : Nat) (m20 : Nat) (m21 : Nat) (m22 : Nat) (m23 : Nat) (m24 : Nat) (a1 : Int32) (a2 : Int32) (a3 : Int32) (a4 : Int32) (a5 : Int32) (a6 : Int32) (a7 : Int32) (a8 : Int32) (a9 : Int32)  : Met l yX11_trial (wsT yX11_trial cX11_trial 13 (some .int)) ({ frames := 1, cells := 0, slots := 0, locals := 25 }) (wP G [.ref mo, .int a1, .int a2, .int a3, .int a4, .int a5, .int a6, .int a7, .int a8, .int a9] sz [(mo, eO 10 [.ref st, .ref mi, .ref mk, .long 0, .long 1, .int 0, .ref m6, .ref m7, .int 0, .ref m9, .ref m10, .int 0, .int 0, .int 0, .int 0, .ref m15, .ref m16, .ref m17, .ref m18, .ref m19, .ref m20, .ref m21, .ref m22, .ref m23, .ref m24]), (st, eI G 2246 st0)]) (va_Qi (fun (r : Int32) (_ : Unit) => r = if (inB 0 a1 9999 = true) ∧ (inB 1 a2 9 = true) ∧ (inB 1 a3 8 = true) ∧ (inB (-1) a4 9 = true) ∧ (inB (-1) a5 9 = true) ∧ (inB (-1) a6 3 = true) ∧ (inB 0 a7 4 = true) ∧ (inB 1 a9 24 = true) then 0 else (-2)) (fun _ _ => True) (va_A [(mo, eO 10 [.ref st, .ref mi, .ref mk, .long 0, .long 1, .int 0, .ref m6, .ref m7, .int 0, .ref m9, .ref m10, .int 0, .int 0, .int 0, .int 0, .ref m15, .ref m16, .ref m17, .ref m18, .ref m19, .ref m20, .ref m21, .ref m22, .ref m23, .ref m24]), (st, eI G 2246 st0)] sz)) 0 0 (va_A [(mo, eO 10 [.ref st, .ref mi, .ref mk, .long 0, .long 1, .int 0, .ref m6, .ref m7, .int 0, .ref m9, .ref m10, .int 0, .int 0, .int 0, .int 0, .ref m15, .ref m16, .ref m17, .ref m18, .ref m19, .ref m20, .ref m21, .ref m22, .ref m23, .ref m24]), (st, eI G 2246 st0)] sz) := by
  refine Met.ofW (cc := cX11_trial) (maxL := 13) (ret := (some .int)) (by decide) rfl ?_
  intro p e s m args below meth c s₁ B hml hv
  obtain ⟨rfl, hsz, hP, hG, hD0⟩ := hv
  have hx := B.exec
  have hb := B.bytes
  have hr := B.returns
  have hts := my_hts (atoms_spec (ws := wsT yX11_trial cX11_trial 13 (some .int)) B.pre)
  have hown : s.vm.findClass RX11 = some m.cls := findClass_of_methodNamed B.named
  have hlocks := B.notSynchronized
  subst hsz
  have hD := hD0.self (sz := s.heap.size)
  generalize hAe : va_A [(mo, eO 10 [.ref st, .ref mi, .ref mk, .long 0, .long 1, .int 0, .ref m6, .ref m7, .int 0, .ref m9, .ref m10, .int 0, .int 0, .int 0, .int 0, .ref m15, .ref m16, .ref m17, .ref m18, .ref m19, .ref m20, .ref m21, .ref m22, .ref m23, .ref m24]), (st, eI G 2246 st0)] s.heap.size = A at hD ⊢
  have hA : ∀ q : Nat, s.heap.size ≤ q → A q := fun q h => by rw [← hAe]; exact Or.inr h
  have hS : va_S A s.heap s.heap [] := va_S.rf
  have hP : va_P G.1 vwCl [(mo, eO 10 [.ref st, .ref mi, .ref mk, .long 0, .long 1, .int 0, .ref m6, .ref m7, .int 0, .ref m9, .ref m10, .int 0, .int 0, .int 0, .int 0, .ref m15, .ref m16, .ref m17, .ref m18, .ref m19, .ref m20, .ref m21, .ref m22, .ref m23, .ref m24]), (st, eI G 2246 st0)] s.heap := hP
  have hl := lv_entry ([.ref mo, .int a1, .int a2, .int a3, .int a4, .int a5, .int a6, .int a7, .int a8, .int a9]) (n := 13) (Nat.le_of_ble_eq_true rfl)
  rw [lg_entry_eq]
  generalize (lg_sl ([.ref mo, .int a1, .int a2, .int a3, .int a4, .int a5, .int a6, .int a7, .int a8, .int a9]) ++ List.replicate (13 - (lg_sl ([.ref mo, .int a1, .int a2, .int a3, .int a4, .int a5, .int a6, .int a7, .int a8, .int a9])).length) Slot.unset).toArray = ls at hl ⊢
  have hl : lv_has ls 13 [(0, .ref mo), (1, .int a1), (2, .int a2), (3, .int a3), (4, .int a4), (5, .int a5), (6, .int a6), (7, .int a7), (8, .int a8), (9, .int a9)] := hl
  refine lv_aload_n hx hb dX11_trial_0 rfl (lv_at hl 0 rfl) ?_
  refine va_get (D := G.1) (ci := 10) (v := .ref st) (C := RX11) (T := TX11) (N := 25) hx hb hts inlX11 hown hG.1 hP 0 rfl rfl 0 (by decide) (hts (.fieldLink RX11 7 "SwornListsModel" "st" "[I") w_112) (fun _ h9 => h9) rfl dX11_trial_1 ?_
  refine lv_iconst (v := 4) hx hb dX11_trial_4 (by decide) ?_
  refine va_iald hx hb hG.1 hP 1 0 rfl rfl (by unfold vp_in; decide) dX11_trial_5 ?_
  refine my_bei (v := 0) (by first | rfl | decide) ?_
  refine lv_if_ne (tgt := 13) hx hb dX11_trial_6 (by decide) (fun c_6 => absurd (by decide) c_6) (fun c_6 => ?_)
  refine lv_iconst (v := 0) hx hb dX11_trial_9 (by decide) ?_
  refine lv_goto (tgt := 26) hx hb dX11_trial_10 (by decide) ?_
  refine lv_istore (lv' := [(10, .int 0), (0, .ref mo), (1, .int a1), (2, .int a2), (3, .int a3), (4, .int a4), (5, .int a5), (6, .int a6), (7, .int a7), (8, .int a8), (9, .int a9)]) hx hb dX11_trial_26 hl (by decide) rfl (fun ls hl => ?_)
  refine lv_iload_n hx hb dX11_trial_28 rfl (lv_at hl 2 rfl) ?_
  refine lv_i2l hx hb dX11_trial_29 rfl ?_
  refine lv_iload hx hb dX11_trial_30 (lv_at hl 0 rfl) ?_
  refine lv_i2l hx hb dX11_trial_32 rfl ?_
  refine lv_ldc2 (v := 9999) hx hb hown (hts (.constantLong RX11 75 (9999)) w_193) dX11_trial_33 ?_
  refine my_bel (v := Int32.toInt64 9999) (by decide) ?_
  have hPc := hP.sub (ws' := []) [] rfl
  refine rd_calli (va_runS (As := [.long (Int32.toInt64 a1), .long (Int32.toInt64 0), .long (Int32.toInt64 9999)]) (rest := []) ⟨hx, hb, hml, hown, hts⟩ (c_in l G a1 0 9999 ) (my_cwS hts ok_X11_in w_162 rfl rfl ⟨Nat.le_of_ble_eq_true rfl, Nat.le_of_ble_eq_true rfl⟩) ⟨rP.blind, fun U hU hW => ⟨rfl, by rw [hU]; exact hPc, kG.warm hW hG⟩⟩ rfl rfl hl.1 rfl (lv_room (Nat.le_of_ble_eq_true rfl)) dX11_trial_36 ⟨Nat.le_of_ble_eq_true rfl, Nat.le_of_ble_eq_true rfl⟩) (fun r hr9 => ?_)
  subst hr9
  refine my_ifeq (tgt := 137) hx hb dX11_trial_39 (by decide) (fun c_39 => ?_) (fun c_39 => ?_)
  · refine lv_bipush (v := (-2)) hx hb dX11_trial_137 (by decide) ?_
    exact W.iret (v := (-2)) hx hb hr (fun t ht hW => ⟨⟨_, (), rfl, (by simp [c_39]), trivial⟩, hS.F ht⟩) hS.2.2 dX11_trial_139
  · refine lv_iload_n hx hb dX11_trial_42 rfl (lv_at hl 3 rfl) ?_
    refine lv_i2l hx hb dX11_trial_43 rfl ?_
    refine lv_lconst (v := 1) hx hb dX11_trial_44 (by decide) ?_
    refine my_bel (v := Int32.toInt64 1) (by decide) ?_
    refine lv_ldc2 (v := 9) hx hb hown (hts (.constantLong RX11 91 (9)) w_185) dX11_trial_45 ?_
    refine my_bel (v := Int32.toInt64 9) (by decide) ?_
    have hPc := hP.sub (ws' := []) [] rfl
    refine rd_calli (va_runS (As := [.long (Int32.toInt64 a2), .long (Int32.toInt64 1), .long (Int32.toInt64 9)]) (rest := []) ⟨hx, hb, hml, hown, hts⟩ (c_in l G a2 1 9 ) (my_cwS hts ok_X11_in w_162 rfl rfl ⟨Nat.le_of_ble_eq_true rfl, Nat.le_of_ble_eq_true rfl⟩) ⟨rP.blind, fun U hU hW => ⟨rfl, by rw [hU]; exact hPc, kG.warm hW hG⟩⟩ rfl rfl hl.1 rfl (lv_room (Nat.le_of_ble_eq_true rfl)) dX11_trial_48 ⟨Nat.le_of_ble_eq_true rfl, Nat.le_of_ble_eq_true rfl⟩) (fun r hr9 => ?_)
    subst hr9
    refine my_ifeq (tgt := 137) hx hb dX11_trial_51 (by decide) (fun c_51 => ?_) (fun c_51 => ?_)
    · refine lv_bipush (v := (-2)) hx hb dX11_trial_137 (by decide) ?_
      exact W.iret (v := (-2)) hx hb hr (fun t ht hW => ⟨⟨_, (), rfl, (by simp [c_39, c_51]), trivial⟩, hS.F ht⟩) hS.2.2 dX11_trial_139
    · refine lv_iload_n hx hb dX11_trial_54 rfl (lv_at hl 4 rfl) ?_
      refine lv_i2l hx hb dX11_trial_55 rfl ?_
      refine lv_lconst (v := 1) hx hb dX11_trial_56 (by decide) ?_
      refine my_bel (v := Int32.toInt64 1) (by decide) ?_
      refine lv_ldc2 (v := 8) hx hb hown (hts (.constantLong RX11 192 (8)) w_647) dX11_trial_57 ?_
      refine my_bel (v := Int32.toInt64 8) (by decide) ?_
      have hPc := hP.sub (ws' := []) [] rfl
      refine rd_calli (va_runS (As := [.long (Int32.toInt64 a3), .long (Int32.toInt64 1), .long (Int32.toInt64 8)]) (rest := []) ⟨hx, hb, hml, hown, hts⟩ (c_in l G a3 1 8 ) (my_cwS hts ok_X11_in w_162 rfl rfl ⟨Nat.le_of_ble_eq_true rfl, Nat.le_of_ble_eq_true rfl⟩) ⟨rP.blind, fun U hU hW => ⟨rfl, by rw [hU]; exact hPc, kG.warm hW hG⟩⟩ rfl rfl hl.1 rfl (lv_room (Nat.le_of_ble_eq_true rfl)) dX11_trial_60 ⟨Nat.le_of_ble_eq_true rfl, Nat.le_of_ble_eq_true rfl⟩) (fun r hr9 => ?_)
      subst hr9
      refine my_ifeq (tgt := 137) hx hb dX11_trial_63 (by decide) (fun c_63 => ?_) (fun c_63 => ?_)
      · refine lv_bipush (v := (-2)) hx hb dX11_trial_137 (by decide) ?_
        exact W.iret (v := (-2)) hx hb hr (fun t ht hW => ⟨⟨_, (), rfl, (by simp [c_39, c_51, c_63]), trivial⟩, hS.F ht⟩) hS.2.2 dX11_trial_139
      · refine lv_iload hx hb dX11_trial_66 (lv_at hl 5 rfl) ?_
        refine lv_i2l hx hb dX11_trial_68 rfl ?_
        refine lv_ldc2 (v := (-1)) hx hb hown (hts (.constantLong RX11 194 (-1)) w_648) dX11_trial_69 ?_
        refine my_bel (v := Int32.toInt64 (-1)) (by decide) ?_
        refine lv_ldc2 (v := 9) hx hb hown (hts (.constantLong RX11 91 (9)) w_185) dX11_trial_72 ?_
        refine my_bel (v := Int32.toInt64 9) (by decide) ?_
        have hPc := hP.sub (ws' := []) [] rfl
        refine rd_calli (va_runS (As := [.long (Int32.toInt64 a4), .long (Int32.toInt64 (-1)), .long (Int32.toInt64 9)]) (rest := []) ⟨hx, hb, hml, hown, hts⟩ (c_in l G a4 (-1) 9 ) (my_cwS hts ok_X11_in w_162 rfl rfl ⟨Nat.le_of_ble_eq_true rfl, Nat.le_of_ble_eq_true rfl⟩) ⟨rP.blind, fun U hU hW => ⟨rfl, by rw [hU]; exact hPc, kG.warm hW hG⟩⟩ rfl rfl hl.1 rfl (lv_room (Nat.le_of_ble_eq_true rfl)) dX11_trial_75 ⟨Nat.le_of_ble_eq_true rfl, Nat.le_of_ble_eq_true rfl⟩) (fun r hr9 => ?_)
        subst hr9
        refine my_ifeq (tgt := 137) hx hb dX11_trial_78 (by decide) (fun c_78 => ?_) (fun c_78 => ?_)
        · refine lv_bipush (v := (-2)) hx hb dX11_trial_137 (by decide) ?_
          exact W.iret (v := (-2)) hx hb hr (fun t ht hW => ⟨⟨_, (), rfl, (by simp [c_39, c_51, c_63, c_78]), trivial⟩, hS.F ht⟩) hS.2.2 dX11_trial_139
        · refine lv_iload hx hb dX11_trial_81 (lv_at hl 6 rfl) ?_
          refine lv_i2l hx hb dX11_trial_83 rfl ?_
          refine lv_ldc2 (v := (-1)) hx hb hown (hts (.constantLong RX11 194 (-1)) w_648) dX11_trial_84 ?_
          refine my_bel (v := Int32.toInt64 (-1)) (by decide) ?_
          refine lv_ldc2 (v := 9) hx hb hown (hts (.constantLong RX11 91 (9)) w_185) dX11_trial_87 ?_
          refine my_bel (v := Int32.toInt64 9) (by decide) ?_
          have hPc := hP.sub (ws' := []) [] rfl
          refine rd_calli (va_runS (As := [.long (Int32.toInt64 a5), .long (Int32.toInt64 (-1)), .long (Int32.toInt64 9)]) (rest := []) ⟨hx, hb, hml, hown, hts⟩ (c_in l G a5 (-1) 9 ) (my_cwS hts ok_X11_in w_162 rfl rfl ⟨Nat.le_of_ble_eq_true rfl, Nat.le_of_ble_eq_true rfl⟩) ⟨rP.blind, fun U hU hW => ⟨rfl, by rw [hU]; exact hPc, kG.warm hW hG⟩⟩ rfl rfl hl.1 rfl (lv_room (Nat.le_of_ble_eq_true rfl)) dX11_trial_90 ⟨Nat.le_of_ble_eq_true rfl, Nat.le_of_ble_eq_true rfl⟩) (fun r hr9 => ?_)
          subst hr9
          refine my_ifeq (tgt := 137) hx hb dX11_trial_93 (by decide) (fun c_93 => ?_) (fun c_93 => ?_)
          · refine lv_bipush (v := (-2)) hx hb dX11_trial_137 (by decide) ?_
            exact W.iret (v := (-2)) hx hb hr (fun t ht hW => ⟨⟨_, (), rfl, (by simp [c_39, c_51, c_63, c_78, c_93]), trivial⟩, hS.F ht⟩) hS.2.2 dX11_trial_139
          · refine lv_iload hx hb dX11_trial_96 (lv_at hl 7 rfl) ?_
            refine lv_i2l hx hb dX11_trial_98 rfl ?_
            refine lv_ldc2 (v := (-1)) hx hb hown (hts (.constantLong RX11 194 (-1)) w_648) dX11_trial_99 ?_
            refine my_bel (v := Int32.toInt64 (-1)) (by decide) ?_
            refine lv_ldc2 (v := 3) hx hb hown (hts (.constantLong RX11 77 (3)) w_159) dX11_trial_102 ?_
            refine my_bel (v := Int32.toInt64 3) (by decide) ?_
            have hPc := hP.sub (ws' := []) [] rfl
            refine rd_calli (va_runS (As := [.long (Int32.toInt64 a6), .long (Int32.toInt64 (-1)), .long (Int32.toInt64 3)]) (rest := []) ⟨hx, hb, hml, hown, hts⟩ (c_in l G a6 (-1) 3 ) (my_cwS hts ok_X11_in w_162 rfl rfl ⟨Nat.le_of_ble_eq_true rfl, Nat.le_of_ble_eq_true rfl⟩) ⟨rP.blind, fun U hU hW => ⟨rfl, by rw [hU]; exact hPc, kG.warm hW hG⟩⟩ rfl rfl hl.1 rfl (lv_room (Nat.le_of_ble_eq_true rfl)) dX11_trial_105 ⟨Nat.le_of_ble_eq_true rfl, Nat.le_of_ble_eq_true rfl⟩) (fun r hr9 => ?_)
            subst hr9
            refine my_ifeq (tgt := 137) hx hb dX11_trial_108 (by decide) (fun c_108 => ?_) (fun c_108 => ?_)
            · refine lv_bipush (v := (-2)) hx hb dX11_trial_137 (by decide) ?_
              exact W.iret (v := (-2)) hx hb hr (fun t ht hW => ⟨⟨_, (), rfl, (by simp [c_39, c_51, c_63, c_78, c_93, c_108]), trivial⟩, hS.F ht⟩) hS.2.2 dX11_trial_139
            · refine lv_iload hx hb dX11_trial_111 (lv_at hl 8 rfl) ?_
              refine lv_i2l hx hb dX11_trial_113 rfl ?_
              refine lv_lconst (v := 0) hx hb dX11_trial_114 (by decide) ?_
              refine my_bel (v := Int32.toInt64 0) (by decide) ?_
              refine lv_ldc2 (v := 4) hx hb hown (hts (.constantLong RX11 196 (4)) w_649) dX11_trial_115 ?_
              refine my_bel (v := Int32.toInt64 4) (by decide) ?_
              have hPc := hP.sub (ws' := []) [] rfl
              refine rd_calli (va_runS (As := [.long (Int32.toInt64 a7), .long (Int32.toInt64 0), .long (Int32.toInt64 4)]) (rest := []) ⟨hx, hb, hml, hown, hts⟩ (c_in l G a7 0 4 ) (my_cwS hts ok_X11_in w_162 rfl rfl ⟨Nat.le_of_ble_eq_true rfl, Nat.le_of_ble_eq_true rfl⟩) ⟨rP.blind, fun U hU hW => ⟨rfl, by rw [hU]; exact hPc, kG.warm hW hG⟩⟩ rfl rfl hl.1 rfl (lv_room (Nat.le_of_ble_eq_true rfl)) dX11_trial_118 ⟨Nat.le_of_ble_eq_true rfl, Nat.le_of_ble_eq_true rfl⟩) (fun r hr9 => ?_)
              subst hr9
              refine my_ifeq (tgt := 137) hx hb dX11_trial_121 (by decide) (fun c_121 => ?_) (fun c_121 => ?_)
              · refine lv_bipush (v := (-2)) hx hb dX11_trial_137 (by decide) ?_
                exact W.iret (v := (-2)) hx hb hr (fun t ht hW => ⟨⟨_, (), rfl, (by simp [c_39, c_51, c_63, c_78, c_93, c_108, c_121]), trivial⟩, hS.F ht⟩) hS.2.2 dX11_trial_139
              · refine lv_iload hx hb dX11_trial_124 (lv_at hl 10 rfl) ?_
                refine lv_i2l hx hb dX11_trial_126 rfl ?_
                refine lv_lconst (v := 1) hx hb dX11_trial_127 (by decide) ?_
                refine my_bel (v := Int32.toInt64 1) (by decide) ?_
                refine lv_ldc2 (v := 24) hx hb hown (hts (.constantLong RX11 198 (24)) w_650) dX11_trial_128 ?_
                refine my_bel (v := Int32.toInt64 24) (by decide) ?_
                have hPc := hP.sub (ws' := []) [] rfl
                refine rd_calli (va_runS (As := [.long (Int32.toInt64 a9), .long (Int32.toInt64 1), .long (Int32.toInt64 24)]) (rest := []) ⟨hx, hb, hml, hown, hts⟩ (c_in l G a9 1 24 ) (my_cwS hts ok_X11_in w_162 rfl rfl ⟨Nat.le_of_ble_eq_true rfl, Nat.le_of_ble_eq_true rfl⟩) ⟨rP.blind, fun U hU hW => ⟨rfl, by rw [hU]; exact hPc, kG.warm hW hG⟩⟩ rfl rfl hl.1 rfl (lv_room (Nat.le_of_ble_eq_true rfl)) dX11_trial_131 ⟨Nat.le_of_ble_eq_true rfl, Nat.le_of_ble_eq_true rfl⟩) (fun r hr9 => ?_)
                subst hr9
                refine my_ifne (tgt := 140) hx hb dX11_trial_134 (by decide) (fun c_134 => ?_) (fun c_134 => ?_)
                · refine lv_aload_n hx hb dX11_trial_140 rfl (lv_at hl 1 rfl) ?_
                  refine va_get (D := G.1) (ci := 10) (v := .ref st) (C := RX11) (T := TX11) (N := 25) hx hb hts inlX11 hown hG.1 hP 0 rfl rfl 0 (by decide) (hts (.fieldLink RX11 7 "SwornListsModel" "st" "[I") w_112) (fun _ h9 => h9) rfl dX11_trial_141 ?_
                  refine lv_iconst (v := 4) hx hb dX11_trial_144 (by decide) ?_
                  refine va_iald hx hb hG.1 hP 1 0 rfl rfl (by unfold vp_in; decide) dX11_trial_145 ?_
                  refine my_bei (v := 0) (by first | rfl | decide) ?_
                  refine lv_bipush (v := 10) hx hb dX11_trial_146 (by decide) ?_
                  refine lv_icmp_ne (tgt := 154) hx hb dX11_trial_148 (by decide) (fun c_148 => ?_) (fun c_148 => absurd c_148 (by decide))
                  refine lv_sipush (v := 1546) hx hb dX11_trial_154 (by decide) ?_
                  refine lv_bipush (v := 10) hx hb dX11_trial_157 (by decide) ?_
                  refine lv_aload_n hx hb dX11_trial_159 rfl (lv_at hl 1 rfl) ?_
                  refine va_get (D := G.1) (ci := 10) (v := .ref st) (C := RX11) (T := TX11) (N := 25) hx hb hts inlX11 hown hG.1 hP 0 rfl rfl 0 (by decide) (hts (.fieldLink RX11 7 "SwornListsModel" "st" "[I") w_112) (fun _ h9 => h9) rfl dX11_trial_160 ?_
                  refine lv_iconst (v := 4) hx hb dX11_trial_163 (by decide) ?_
                  refine va_iald hx hb hG.1 hP 1 0 rfl rfl (by unfold vp_in; decide) dX11_trial_164 ?_
                  refine my_bei (v := 0) (by first | rfl | decide) ?_
                  refine lv_imul hx hb dX11_trial_165 ?_
                  refine my_bei (v := 0) (by decide) ?_
                  refine lv_iadd hx hb dX11_trial_166 ?_
                  refine my_bei (v := 1546) (by decide) ?_
                  refine lv_istore (lv' := [(11, .int 1546), (10, .int 0), (0, .ref mo), (1, .int a1), (2, .int a2), (3, .int a3), (4, .int a4), (5, .int a5), (6, .int a6), (7, .int a7), (8, .int a8), (9, .int a9)]) hx hb dX11_trial_167 hl (by decide) rfl (fun ls hl => ?_)
                  refine lv_aload_n hx hb dX11_trial_169 rfl (lv_at hl 2 rfl) ?_
                  refine va_get (D := G.1) (ci := 10) (v := .ref st) (C := RX11) (T := TX11) (N := 25) hx hb hts inlX11 hown hG.1 hP 0 rfl rfl 0 (by decide) (hts (.fieldLink RX11 7 "SwornListsModel" "st" "[I") w_112) (fun _ h9 => h9) rfl dX11_trial_170 ?_
                  refine lv_iload hx hb dX11_trial_173 (lv_at hl 0 rfl) ?_
                  refine lv_iload_n hx hb dX11_trial_175 rfl (lv_at hl 3 rfl) ?_
                  refine va_iast hx hb hG.1 hP hD hS 1 0 rfl rfl (by unfold vp_in; decide) dX11_trial_176 (fun H locs hP hD hS => ?_)
                  have hP : va_P G.1 vwCl [(mo, eO 10 [.ref st, .ref mi, .ref mk, .long 0, .long 1, .int 0, .ref m6, .ref m7, .int 0, .ref m9, .ref m10, .int 0, .int 0, .int 0, .int 0, .ref m15, .ref m16, .ref m17, .ref m18, .ref m19, .ref m20, .ref m21, .ref m22, .ref m23, .ref m24]), (st, eI G 2246 (upd st0 (Int32.toNatClampNeg 1546) a1))] H := hP
                  have hD : va_D A [(mo, eO 10 [.ref st, .ref mi, .ref mk, .long 0, .long 1, .int 0, .ref m6, .ref m7, .int 0, .ref m9, .ref m10, .int 0, .int 0, .int 0, .int 0, .ref m15, .ref m16, .ref m17, .ref m18, .ref m19, .ref m20, .ref m21, .ref m22, .ref m23, .ref m24]), (st, eI G 2246 (upd st0 (Int32.toNatClampNeg 1546) a1))] := hD
                  refine lv_aload_n hx hb dX11_trial_177 rfl (lv_at hl 2 rfl) ?_
                  refine va_get (D := G.1) (ci := 10) (v := .ref st) (C := RX11) (T := TX11) (N := 25) hx hb hts inlX11 hown hG.1 hP 0 rfl rfl 0 (by decide) (hts (.fieldLink RX11 7 "SwornListsModel" "st" "[I") w_112) (fun _ h9 => h9) rfl dX11_trial_178 ?_
                  refine lv_iload hx hb dX11_trial_181 (lv_at hl 0 rfl) ?_
                  refine lv_iconst (v := 1) hx hb dX11_trial_183 (by decide) ?_
                  refine lv_iadd hx hb dX11_trial_184 ?_
                  refine my_bei (v := 1547) (by decide) ?_
                  refine lv_iload_n hx hb dX11_trial_185 rfl (lv_at hl 4 rfl) ?_
                  refine va_iast hx hb hG.1 hP hD hS 1 0 rfl rfl (by unfold vp_in; decide) dX11_trial_186 (fun H locs hP hD hS => ?_)
                  have hP : va_P G.1 vwCl [(mo, eO 10 [.ref st, .ref mi, .ref mk, .long 0, .long 1, .int 0, .ref m6, .ref m7, .int 0, .ref m9, .ref m10, .int 0, .int 0, .int 0, .int 0, .ref m15, .ref m16, .ref m17, .ref m18, .ref m19, .ref m20, .ref m21, .ref m22, .ref m23, .ref m24]), (st, eI G 2246 (upd (upd st0 (Int32.toNatClampNeg 1546) a1) (Int32.toNatClampNeg 1547) a2))] H := hP
                  have hD : va_D A [(mo, eO 10 [.ref st, .ref mi, .ref mk, .long 0, .long 1, .int 0, .ref m6, .ref m7, .int 0, .ref m9, .ref m10, .int 0, .int 0, .int 0, .int 0, .ref m15, .ref m16, .ref m17, .ref m18, .ref m19, .ref m20, .ref m21, .ref m22, .ref m23, .ref m24]), (st, eI G 2246 (upd (upd st0 (Int32.toNatClampNeg 1546) a1) (Int32.toNatClampNeg 1547) a2))] := hD
                  refine lv_aload_n hx hb dX11_trial_187 rfl (lv_at hl 2 rfl) ?_
                  refine va_get (D := G.1) (ci := 10) (v := .ref st) (C := RX11) (T := TX11) (N := 25) hx hb hts inlX11 hown hG.1 hP 0 rfl rfl 0 (by decide) (hts (.fieldLink RX11 7 "SwornListsModel" "st" "[I") w_112) (fun _ h9 => h9) rfl dX11_trial_188 ?_
                  refine lv_iload hx hb dX11_trial_191 (lv_at hl 0 rfl) ?_
                  refine lv_iconst (v := 2) hx hb dX11_trial_193 (by decide) ?_
                  refine lv_iadd hx hb dX11_trial_194 ?_
                  refine my_bei (v := 1548) (by decide) ?_
                  refine lv_iload_n hx hb dX11_trial_195 rfl (lv_at hl 5 rfl) ?_
                  refine va_iast hx hb hG.1 hP hD hS 1 0 rfl rfl (by unfold vp_in; decide) dX11_trial_196 (fun H locs hP hD hS => ?_)
                  have hP : va_P G.1 vwCl [(mo, eO 10 [.ref st, .ref mi, .ref mk, .long 0, .long 1, .int 0, .ref m6, .ref m7, .int 0, .ref m9, .ref m10, .int 0, .int 0, .int 0, .int 0, .ref m15, .ref m16, .ref m17, .ref m18, .ref m19, .ref m20, .ref m21, .ref m22, .ref m23, .ref m24]), (st, eI G 2246 (upd (upd (upd st0 (Int32.toNatClampNeg 1546) a1) (Int32.toNatClampNeg 1547) a2) (Int32.toNatClampNeg 1548) a3))] H := hP
                  have hD : va_D A [(mo, eO 10 [.ref st, .ref mi, .ref mk, .long 0, .long 1, .int 0, .ref m6, .ref m7, .int 0, .ref m9, .ref m10, .int 0, .int 0, .int 0, .int 0, .ref m15, .ref m16, .ref m17, .ref m18, .ref m19, .ref m20, .ref m21, .ref m22, .ref m23, .ref m24]), (st, eI G 2246 (upd (upd (upd st0 (Int32.toNatClampNeg 1546) a1) (Int32.toNatClampNeg 1547) a2) (Int32.toNatClampNeg 1548) a3))] := hD
                  refine lv_aload_n hx hb dX11_trial_197 rfl (lv_at hl 2 rfl) ?_
                  refine va_get (D := G.1) (ci := 10) (v := .ref st) (C := RX11) (T := TX11) (N := 25) hx hb hts inlX11 hown hG.1 hP 0 rfl rfl 0 (by decide) (hts (.fieldLink RX11 7 "SwornListsModel" "st" "[I") w_112) (fun _ h9 => h9) rfl dX11_trial_198 ?_
                  refine lv_iload hx hb dX11_trial_201 (lv_at hl 0 rfl) ?_
                  refine lv_iconst (v := 3) hx hb dX11_trial_203 (by decide) ?_
                  refine lv_iadd hx hb dX11_trial_204 ?_
                  refine my_bei (v := 1549) (by decide) ?_
                  refine lv_iload hx hb dX11_trial_205 (lv_at hl 6 rfl) ?_
                  refine va_iast hx hb hG.1 hP hD hS 1 0 rfl rfl (by unfold vp_in; decide) dX11_trial_207 (fun H locs hP hD hS => ?_)
                  have hP : va_P G.1 vwCl [(mo, eO 10 [.ref st, .ref mi, .ref mk, .long 0, .long 1, .int 0, .ref m6, .ref m7, .int 0, .ref m9, .ref m10, .int 0, .int 0, .int 0, .int 0, .ref m15, .ref m16, .ref m17, .ref m18, .ref m19, .ref m20, .ref m21, .ref m22, .ref m23, .ref m24]), (st, eI G 2246 (upd (upd (upd (upd st0 (Int32.toNatClampNeg 1546) a1) (Int32.toNatClampNeg 1547) a2) (Int32.toNatClampNeg 1548) a3) (Int32.toNatClampNeg 1549) a4))] H := hP
                  have hD : va_D A [(mo, eO 10 [.ref st, .ref mi, .ref mk, .long 0, .long 1, .int 0, .ref m6, .ref m7, .int 0, .ref m9, .ref m10, .int 0, .int 0, .int 0, .int 0, .ref m15, .ref m16, .ref m17, .ref m18, .ref m19, .ref m20, .ref m21, .ref m22, .ref m23, .ref m24]), (st, eI G 2246 (upd (upd (upd (upd st0 (Int32.toNatClampNeg 1546) a1) (Int32.toNatClampNeg 1547) a2) (Int32.toNatClampNeg 1548) a3) (Int32.toNatClampNeg 1549) a4))] := hD
                  refine lv_aload_n hx hb dX11_trial_208 rfl (lv_at hl 2 rfl) ?_
                  refine va_get (D := G.1) (ci := 10) (v := .ref st) (C := RX11) (T := TX11) (N := 25) hx hb hts inlX11 hown hG.1 hP 0 rfl rfl 0 (by decide) (hts (.fieldLink RX11 7 "SwornListsModel" "st" "[I") w_112) (fun _ h9 => h9) rfl dX11_trial_209 ?_
                  refine lv_iload hx hb dX11_trial_212 (lv_at hl 0 rfl) ?_
                  refine lv_iconst (v := 3) hx hb dX11_trial_214 (by decide) ?_
                  refine lv_iadd hx hb dX11_trial_215 ?_
                  refine my_bei (v := 1549) (by decide) ?_
                  refine lv_iconst (v := 1) hx hb dX11_trial_216 (by decide) ?_
                  refine lv_iadd hx hb dX11_trial_217 ?_
                  refine my_bei (v := 1550) (by decide) ?_
                  refine lv_iload hx hb dX11_trial_218 (lv_at hl 7 rfl) ?_
                  refine va_iast hx hb hG.1 hP hD hS 1 0 rfl rfl (by unfold vp_in; decide) dX11_trial_220 (fun H locs hP hD hS => ?_)
                  have hP : va_P G.1 vwCl [(mo, eO 10 [.ref st, .ref mi, .ref mk, .long 0, .long 1, .int 0, .ref m6, .ref m7, .int 0, .ref m9, .ref m10, .int 0, .int 0, .int 0, .int 0, .ref m15, .ref m16, .ref m17, .ref m18, .ref m19, .ref m20, .ref m21, .ref m22, .ref m23, .ref m24]), (st, eI G 2246 (upd (upd (upd (upd (upd st0 (Int32.toNatClampNeg 1546) a1) (Int32.toNatClampNeg 1547) a2) (Int32.toNatClampNeg 1548) a3) (Int32.toNatClampNeg 1549) a4) (Int32.toNatClampNeg 1550) a5))] H := hP
                  have hD : va_D A [(mo, eO 10 [.ref st, .ref mi, .ref mk, .long 0, .long 1, .int 0, .ref m6, .ref m7, .int 0, .ref m9, .ref m10, .int 0, .int 0, .int 0, .int 0, .ref m15, .ref m16, .ref m17, .ref m18, .ref m19, .ref m20, .ref m21, .ref m22, .ref m23, .ref m24]), (st, eI G 2246 (upd (upd (upd (upd (upd st0 (Int32.toNatClampNeg 1546) a1) (Int32.toNatClampNeg 1547) a2) (Int32.toNatClampNeg 1548) a3) (Int32.toNatClampNeg 1549) a4) (Int32.toNatClampNeg 1550) a5))] := hD
                  refine lv_aload_n hx hb dX11_trial_221 rfl (lv_at hl 2 rfl) ?_
                  refine va_get (D := G.1) (ci := 10) (v := .ref st) (C := RX11) (T := TX11) (N := 25) hx hb hts inlX11 hown hG.1 hP 0 rfl rfl 0 (by decide) (hts (.fieldLink RX11 7 "SwornListsModel" "st" "[I") w_112) (fun _ h9 => h9) rfl dX11_trial_222 ?_
                  refine lv_iload hx hb dX11_trial_225 (lv_at hl 0 rfl) ?_
                  refine lv_iconst (v := 5) hx hb dX11_trial_227 (by decide) ?_
                  refine lv_iadd hx hb dX11_trial_228 ?_
                  refine my_bei (v := 1551) (by decide) ?_
                  refine lv_iload hx hb dX11_trial_229 (lv_at hl 8 rfl) ?_
                  refine va_iast hx hb hG.1 hP hD hS 1 0 rfl rfl (by unfold vp_in; decide) dX11_trial_231 (fun H locs hP hD hS => ?_)
                  have hP : va_P G.1 vwCl [(mo, eO 10 [.ref st, .ref mi, .ref mk, .long 0, .long 1, .int 0, .ref m6, .ref m7, .int 0, .ref m9, .ref m10, .int 0, .int 0, .int 0, .int 0, .ref m15, .ref m16, .ref m17, .ref m18, .ref m19, .ref m20, .ref m21, .ref m22, .ref m23, .ref m24]), (st, eI G 2246 (upd (upd (upd (upd (upd (upd st0 (Int32.toNatClampNeg 1546) a1) (Int32.toNatClampNeg 1547) a2) (Int32.toNatClampNeg 1548) a3) (Int32.toNatClampNeg 1549) a4) (Int32.toNatClampNeg 1550) a5) (Int32.toNatClampNeg 1551) a6))] H := hP
                  have hD : va_D A [(mo, eO 10 [.ref st, .ref mi, .ref mk, .long 0, .long 1, .int 0, .ref m6, .ref m7, .int 0, .ref m9, .ref m10, .int 0, .int 0, .int 0, .int 0, .ref m15, .ref m16, .ref m17, .ref m18, .ref m19, .ref m20, .ref m21, .ref m22, .ref m23, .ref m24]), (st, eI G 2246 (upd (upd (upd (upd (upd (upd st0 (Int32.toNatClampNeg 1546) a1) (Int32.toNatClampNeg 1547) a2) (Int32.toNatClampNeg 1548) a3) (Int32.toNatClampNeg 1549) a4) (Int32.toNatClampNeg 1550) a5) (Int32.toNatClampNeg 1551) a6))] := hD
                  refine lv_aload_n hx hb dX11_trial_232 rfl (lv_at hl 2 rfl) ?_
                  refine va_get (D := G.1) (ci := 10) (v := .ref st) (C := RX11) (T := TX11) (N := 25) hx hb hts inlX11 hown hG.1 hP 0 rfl rfl 0 (by decide) (hts (.fieldLink RX11 7 "SwornListsModel" "st" "[I") w_112) (fun _ h9 => h9) rfl dX11_trial_233 ?_
                  refine lv_iload hx hb dX11_trial_236 (lv_at hl 0 rfl) ?_
                  refine lv_bipush (v := 6) hx hb dX11_trial_238 (by decide) ?_
                  refine lv_iadd hx hb dX11_trial_240 ?_
                  refine my_bei (v := 1552) (by decide) ?_
                  refine lv_iload hx hb dX11_trial_241 (lv_at hl 9 rfl) ?_
                  refine va_iast hx hb hG.1 hP hD hS 1 0 rfl rfl (by unfold vp_in; decide) dX11_trial_243 (fun H locs hP hD hS => ?_)
                  have hP : va_P G.1 vwCl [(mo, eO 10 [.ref st, .ref mi, .ref mk, .long 0, .long 1, .int 0, .ref m6, .ref m7, .int 0, .ref m9, .ref m10, .int 0, .int 0, .int 0, .int 0, .ref m15, .ref m16, .ref m17, .ref m18, .ref m19, .ref m20, .ref m21, .ref m22, .ref m23, .ref m24]), (st, eI G 2246 (upd (upd (upd (upd (upd (upd (upd st0 (Int32.toNatClampNeg 1546) a1) (Int32.toNatClampNeg 1547) a2) (Int32.toNatClampNeg 1548) a3) (Int32.toNatClampNeg 1549) a4) (Int32.toNatClampNeg 1550) a5) (Int32.toNatClampNeg 1551) a6) (Int32.toNatClampNeg 1552) a7))] H := hP
                  have hD : va_D A [(mo, eO 10 [.ref st, .ref mi, .ref mk, .long 0, .long 1, .int 0, .ref m6, .ref m7, .int 0, .ref m9, .ref m10, .int 0, .int 0, .int 0, .int 0, .ref m15, .ref m16, .ref m17, .ref m18, .ref m19, .ref m20, .ref m21, .ref m22, .ref m23, .ref m24]), (st, eI G 2246 (upd (upd (upd (upd (upd (upd (upd st0 (Int32.toNatClampNeg 1546) a1) (Int32.toNatClampNeg 1547) a2) (Int32.toNatClampNeg 1548) a3) (Int32.toNatClampNeg 1549) a4) (Int32.toNatClampNeg 1550) a5) (Int32.toNatClampNeg 1551) a6) (Int32.toNatClampNeg 1552) a7))] := hD
                  refine lv_aload_n hx hb dX11_trial_244 rfl (lv_at hl 2 rfl) ?_
                  refine va_get (D := G.1) (ci := 10) (v := .ref st) (C := RX11) (T := TX11) (N := 25) hx hb hts inlX11 hown hG.1 hP 0 rfl rfl 0 (by decide) (hts (.fieldLink RX11 7 "SwornListsModel" "st" "[I") w_112) (fun _ h9 => h9) rfl dX11_trial_245 ?_
                  refine lv_iload hx hb dX11_trial_248 (lv_at hl 0 rfl) ?_
                  refine lv_bipush (v := 7) hx hb dX11_trial_250 (by decide) ?_
                  refine lv_iadd hx hb dX11_trial_252 ?_
                  refine my_bei (v := 1553) (by decide) ?_
                  refine lv_iload hx hb dX11_trial_253 (lv_at hl 10 rfl) ?_
                  refine va_iast hx hb hG.1 hP hD hS 1 0 rfl rfl (by unfold vp_in; decide) dX11_trial_255 (fun H locs hP hD hS => ?_)
                  have hP : va_P G.1 vwCl [(mo, eO 10 [.ref st, .ref mi, .ref mk, .long 0, .long 1, .int 0, .ref m6, .ref m7, .int 0, .ref m9, .ref m10, .int 0, .int 0, .int 0, .int 0, .ref m15, .ref m16, .ref m17, .ref m18, .ref m19, .ref m20, .ref m21, .ref m22, .ref m23, .ref m24]), (st, eI G 2246 (upd (upd (upd (upd (upd (upd (upd (upd st0 (Int32.toNatClampNeg 1546) a1) (Int32.toNatClampNeg 1547) a2) (Int32.toNatClampNeg 1548) a3) (Int32.toNatClampNeg 1549) a4) (Int32.toNatClampNeg 1550) a5) (Int32.toNatClampNeg 1551) a6) (Int32.toNatClampNeg 1552) a7) (Int32.toNatClampNeg 1553) a8))] H := hP
                  have hD : va_D A [(mo, eO 10 [.ref st, .ref mi, .ref mk, .long 0, .long 1, .int 0, .ref m6, .ref m7, .int 0, .ref m9, .ref m10, .int 0, .int 0, .int 0, .int 0, .ref m15, .ref m16, .ref m17, .ref m18, .ref m19, .ref m20, .ref m21, .ref m22, .ref m23, .ref m24]), (st, eI G 2246 (upd (upd (upd (upd (upd (upd (upd (upd st0 (Int32.toNatClampNeg 1546) a1) (Int32.toNatClampNeg 1547) a2) (Int32.toNatClampNeg 1548) a3) (Int32.toNatClampNeg 1549) a4) (Int32.toNatClampNeg 1550) a5) (Int32.toNatClampNeg 1551) a6) (Int32.toNatClampNeg 1552) a7) (Int32.toNatClampNeg 1553) a8))] := hD
                  refine lv_aload_n hx hb dX11_trial_256 rfl (lv_at hl 2 rfl) ?_
                  refine va_get (D := G.1) (ci := 10) (v := .ref st) (C := RX11) (T := TX11) (N := 25) hx hb hts inlX11 hown hG.1 hP 0 rfl rfl 0 (by decide) (hts (.fieldLink RX11 7 "SwornListsModel" "st" "[I") w_112) (fun _ h9 => h9) rfl dX11_trial_257 ?_
                  refine lv_iload hx hb dX11_trial_260 (lv_at hl 0 rfl) ?_
                  refine lv_bipush (v := 8) hx hb dX11_trial_262 (by decide) ?_
                  refine lv_iadd hx hb dX11_trial_264 ?_
                  refine my_bei (v := 1554) (by decide) ?_
                  refine lv_iload hx hb dX11_trial_265 (lv_at hl 11 rfl) ?_
                  refine va_iast hx hb hG.1 hP hD hS 1 0 rfl rfl (by unfold vp_in; decide) dX11_trial_267 (fun H locs hP hD hS => ?_)
                  have hP : va_P G.1 vwCl [(mo, eO 10 [.ref st, .ref mi, .ref mk, .long 0, .long 1, .int 0, .ref m6, .ref m7, .int 0, .ref m9, .ref m10, .int 0, .int 0, .int 0, .int 0, .ref m15, .ref m16, .ref m17, .ref m18, .ref m19, .ref m20, .ref m21, .ref m22, .ref m23, .ref m24]), (st, eI G 2246 (upd (upd (upd (upd (upd (upd (upd (upd (upd st0 (Int32.toNatClampNeg 1546) a1) (Int32.toNatClampNeg 1547) a2) (Int32.toNatClampNeg 1548) a3) (Int32.toNatClampNeg 1549) a4) (Int32.toNatClampNeg 1550) a5) (Int32.toNatClampNeg 1551) a6) (Int32.toNatClampNeg 1552) a7) (Int32.toNatClampNeg 1553) a8) (Int32.toNatClampNeg 1554) a9))] H := hP
                  have hD : va_D A [(mo, eO 10 [.ref st, .ref mi, .ref mk, .long 0, .long 1, .int 0, .ref m6, .ref m7, .int 0, .ref m9, .ref m10, .int 0, .int 0, .int 0, .int 0, .ref m15, .ref m16, .ref m17, .ref m18, .ref m19, .ref m20, .ref m21, .ref m22, .ref m23, .ref m24]), (st, eI G 2246 (upd (upd (upd (upd (upd (upd (upd (upd (upd st0 (Int32.toNatClampNeg 1546) a1) (Int32.toNatClampNeg 1547) a2) (Int32.toNatClampNeg 1548) a3) (Int32.toNatClampNeg 1549) a4) (Int32.toNatClampNeg 1550) a5) (Int32.toNatClampNeg 1551) a6) (Int32.toNatClampNeg 1552) a7) (Int32.toNatClampNeg 1553) a8) (Int32.toNatClampNeg 1554) a9))] := hD
                  refine lv_aload_n hx hb dX11_trial_268 rfl (lv_at hl 2 rfl) ?_
                  refine va_get (D := G.1) (ci := 10) (v := .ref st) (C := RX11) (T := TX11) (N := 25) hx hb hts inlX11 hown hG.1 hP 0 rfl rfl 0 (by decide) (hts (.fieldLink RX11 7 "SwornListsModel" "st" "[I") w_112) (fun _ h9 => h9) rfl dX11_trial_269 ?_
                  refine lv_iload hx hb dX11_trial_272 (lv_at hl 0 rfl) ?_
                  refine lv_bipush (v := 9) hx hb dX11_trial_274 (by decide) ?_
                  refine lv_iadd hx hb dX11_trial_276 ?_
                  refine my_bei (v := 1555) (by decide) ?_
                  refine lv_iconst (v := 0) hx hb dX11_trial_277 (by decide) ?_
                  refine va_iast hx hb hG.1 hP hD hS 1 0 rfl rfl (by unfold vp_in; decide) dX11_trial_278 (fun H locs hP hD hS => ?_)
                  have hP : va_P G.1 vwCl [(mo, eO 10 [.ref st, .ref mi, .ref mk, .long 0, .long 1, .int 0, .ref m6, .ref m7, .int 0, .ref m9, .ref m10, .int 0, .int 0, .int 0, .int 0, .ref m15, .ref m16, .ref m17, .ref m18, .ref m19, .ref m20, .ref m21, .ref m22, .ref m23, .ref m24]), (st, eI G 2246 (upd (upd (upd (upd (upd (upd (upd (upd (upd (upd st0 (Int32.toNatClampNeg 1546) a1) (Int32.toNatClampNeg 1547) a2) (Int32.toNatClampNeg 1548) a3) (Int32.toNatClampNeg 1549) a4) (Int32.toNatClampNeg 1550) a5) (Int32.toNatClampNeg 1551) a6) (Int32.toNatClampNeg 1552) a7) (Int32.toNatClampNeg 1553) a8) (Int32.toNatClampNeg 1554) a9) (Int32.toNatClampNeg 1555) 0))] H := hP
                  have hD : va_D A [(mo, eO 10 [.ref st, .ref mi, .ref mk, .long 0, .long 1, .int 0, .ref m6, .ref m7, .int 0, .ref m9, .ref m10, .int 0, .int 0, .int 0, .int 0, .ref m15, .ref m16, .ref m17, .ref m18, .ref m19, .ref m20, .ref m21, .ref m22, .ref m23, .ref m24]), (st, eI G 2246 (upd (upd (upd (upd (upd (upd (upd (upd (upd (upd st0 (Int32.toNatClampNeg 1546) a1) (Int32.toNatClampNeg 1547) a2) (Int32.toNatClampNeg 1548) a3) (Int32.toNatClampNeg 1549) a4) (Int32.toNatClampNeg 1550) a5) (Int32.toNatClampNeg 1551) a6) (Int32.toNatClampNeg 1552) a7) (Int32.toNatClampNeg 1553) a8) (Int32.toNatClampNeg 1554) a9) (Int32.toNatClampNeg 1555) 0))] := hD
                  refine lv_iconst (v := 0) hx hb dX11_trial_279 (by decide) ?_
                  refine lv_istore (lv' := [(12, .int 0), (11, .int 1546), (10, .int 0), (0, .ref mo), (1, .int a1), (2, .int a2), (3, .int a3), (4, .int a4), (5, .int a5), (6, .int a6), (7, .int a7), (8, .int a8), (9, .int a9)]) hx hb dX11_trial_280 hl (by decide) rfl (fun ls hl => ?_)
                  have key : ∀ (n : Nat) (i : Nat) (f : Nat → Int32) (H : Heap) (locs : List Loc) (ls : Array Slot), i ≤ 60 → f 4 = 0 → 60 - i < n → va_P G.1 vwCl [(mo, eO 10 [.ref st, .ref mi, .ref mk, .long 0, .long 1, .int 0, .ref m6, .ref m7, .int 0, .ref m9, .ref m10, .int 0, .int 0, .int 0, .int 0, .ref m15, .ref m16, .ref m17, .ref m18, .ref m19, .ref m20, .ref m21, .ref m22, .ref m23, .ref m24]), (st, eI G 2246 f)] H → va_D A [(mo, eO 10 [.ref st, .ref mi, .ref mk, .long 0, .long 1, .int 0, .ref m6, .ref m7, .int 0, .ref m9, .ref m10, .int 0, .int 0, .int 0, .int 0, .ref m15, .ref m16, .ref m17, .ref m18, .ref m19, .ref m20, .ref m21, .ref m22, .ref m23, .ref m24]), (st, eI G 2246 f)] → va_S A s.heap H locs → lv_has ls 13 [(0, .ref mo), (12, .int (nI i))] → W p l e (headSpec (wsT yX11_trial cX11_trial 13 (some .int)) ({ frames := 1, cells := 0, slots := 0, locals := 25 })).room s m ([.ref mo, .int a1, .int a2, .int a3, .int a4, .int a5, .int a6, .int a7, .int a8, .int a9] : List Value).toArray below meth c H locs 0 0 (MQ below (va_Qi (fun (r : Int32) (_ : Unit) => r = if (inB 0 a1 9999 = true) ∧ (inB 1 a2 9 = true) ∧ (inB 1 a3 8 = true) ∧ (inB (-1) a4 9 = true) ∧ (inB (-1) a5 9 = true) ∧ (inB (-1) a6 3 = true) ∧ (inB 0 a7 4 = true) ∧ (inB 1 a9 24 = true) then 0 else (-2)) (fun _ _ => True) A) ([.ref mo, .int a1, .int a2, .int a3, .int a4, .int a5, .int a6, .int a7, .int a8, .int a9] : List Value).toArray s 0 0 A) (F0 m 282 ls []) := by
                    intro n
                    induction n with
                    | zero => intro i f H locs ls hi hf hn; exact absurd hn (Nat.not_lt_zero _)
                    | succ n ih =>
                      intro i f H locs ls hi hf hn hP hD hS hl
                      refine lv_iload hx hb dX11_trial_282 (lv_at hl 1 rfl) ?_
                      refine lv_bipush (v := 60) hx hb dX11_trial_284 (by decide) ?_
                      refine lv_icmp_ge (tgt := 317) hx hb dX11_trial_286 (by decide) (fun c_286 => ?_) (fun c_286 => ?_)
                      · refine lv_aload_n hx hb dX11_trial_317 rfl (lv_at hl 0 rfl) ?_
                        refine lv_iconst (v := 4) hx hb dX11_trial_318 (by decide) ?_
                        have hPc := hP.sub (ws' := [(mo, eO 10 [.ref st, .ref mi, .ref mk, .long 0, .long 1, .int 0, .ref m6, .ref m7, .int 0, .ref m9, .ref m10, .int 0, .int 0, .int 0, .int 0, .ref m15, .ref m16, .ref m17, .ref m18, .ref m19, .ref m20, .ref m21, .ref m22, .ref m23, .ref m24]), (st, eI G 2246 f)]) [0, 1] rfl
                        have hDc := hD.sub (ws' := [(mo, eO 10 [.ref st, .ref mi, .ref mk, .long 0, .long 1, .int 0, .ref m6, .ref m7, .int 0, .ref m9, .ref m10, .int 0, .int 0, .int 0, .int 0, .ref m15, .ref m16, .ref m17, .ref m18, .ref m19, .ref m20, .ref m21, .ref m22, .ref m23, .ref m24]), (st, eI G 2246 f)]) [0, 1] (by decide) rfl
                        have hFc := va_free (wc := [(mo, eO 10 [.ref st, .ref mi, .ref mk, .long 0, .long 1, .int 0, .ref m6, .ref m7, .int 0, .ref m9, .ref m10, .int 0, .int 0, .int 0, .int 0, .ref m15, .ref m16, .ref m17, .ref m18, .ref m19, .ref m20, .ref m21, .ref m22, .ref m23, .ref m24]), (st, eI G 2246 f)]) hD hS hA [0, 1] rfl
                        refine va_calli (va_runV (As := [.int 4]) (rest := []) ⟨hx, hb, hml, hown, hts⟩ (c_one0 l G H.size mo st mi mk m6 m7 m9 m10 m15 m16 m17 m18 m19 m20 m21 m22 m23 m24 4 0 1 0 0 0 0 0 0 f (by unfold vp_in; decide) (hf)) (my_cwV hts ok_X11_one w_165 rfl rfl ⟨Nat.le_of_ble_eq_true rfl, Nat.le_of_ble_eq_true rfl⟩) ⟨wP.blind, va_recv hG.1 hPc (ci := 10) (q0 := 0) rfl rfl, fun U hU hW => ⟨rfl, by rw [hU], by rw [hU]; exact hPc, kG.warm hW hG, hDc.weaken (fun _ _ _ _ => trivial)⟩⟩ rfl rfl hl.1 rfl (lv_room (Nat.le_of_ble_eq_true rfl)) dX11_trial_319 ⟨Nat.le_of_ble_eq_true rfl, Nat.le_of_ble_eq_true rfl⟩) hS (fun q _ h => hFc q h) hFc (fun r u t H1 locs ht hvm hw hB hz1 hk1 hS => ?_)
                        obtain ⟨hP, hD⟩ := va_join (wr := []) (w1 := []) hP hD [0, 1] [] rfl rfl (by decide) (by decide) hk1 hFc my_P0 my_D0
                        generalize H1 = H at hP hS ⊢
                        have hP : va_P G.1 vwCl [] H := hP
                        have hD : va_D A [] := hD
                        subst hw
                        exact W.iret (v := 0) hx hb hr (fun t ht hW => ⟨⟨_, (), rfl, (by simp [c_39, c_51, c_63, c_78, c_93, c_108, c_121, c_134, c_286]), trivial⟩, hS.F ht⟩) hS.2.2 dX11_trial_322
                      · have hlt : i < 60 := by
                          have h : ¬ 60 ≤ i := fun z => c_286 (nI_le (a := 60) z (by omega))
                          omega
                        refine lv_aload_n hx hb dX11_trial_289 rfl (lv_at hl 0 rfl) ?_
                        refine va_get (D := G.1) (ci := 10) (v := .ref st) (C := RX11) (T := TX11) (N := 25) hx hb hts inlX11 hown hG.1 hP 0 rfl rfl 0 (by decide) (hts (.fieldLink RX11 7 "SwornListsModel" "st" "[I") w_112) (fun _ h9 => h9) rfl dX11_trial_290 ?_
                        refine lv_sipush (v := 1646) hx hb dX11_trial_293 (by decide) ?_
                        refine lv_bipush (v := 60) hx hb dX11_trial_296 (by decide) ?_
                        refine lv_aload_n hx hb dX11_trial_298 rfl (lv_at hl 0 rfl) ?_
                        refine va_get (D := G.1) (ci := 10) (v := .ref st) (C := RX11) (T := TX11) (N := 25) hx hb hts inlX11 hown hG.1 hP 0 rfl rfl 0 (by decide) (hts (.fieldLink RX11 7 "SwornListsModel" "st" "[I") w_112) (fun _ h9 => h9) rfl dX11_trial_299 ?_
                        refine lv_iconst (v := 4) hx hb dX11_trial_302 (by decide) ?_
                        refine va_iald hx hb hG.1 hP 1 0 rfl rfl (by unfold vp_in; decide) dX11_trial_303 ?_
                        refine my_bei (v := 0) (hf) ?_
                        refine lv_imul hx hb dX11_trial_304 ?_
                        refine my_bei (v := 0) (by decide) ?_
                        refine lv_iadd hx hb dX11_trial_305 ?_
                        refine my_bei (v := 1646) (by decide) ?_
                        refine lv_iload hx hb dX11_trial_306 (lv_at hl 1 rfl) ?_
                        refine lv_iadd hx hb dX11_trial_308 ?_
                        refine my_bei (v := nI (1646 + i)) (nI_add 1646 i) ?_
                        refine lv_iconst (v := 0) hx hb dX11_trial_309 (by decide) ?_
                        refine va_iast hx hb hG.1 hP hD hS 1 0 rfl rfl (vp_in_nI (by omega) (by decide)) dX11_trial_310 (fun H locs hP hD hS => ?_)
                        have hP : va_P G.1 vwCl [(mo, eO 10 [.ref st, .ref mi, .ref mk, .long 0, .long 1, .int 0, .ref m6, .ref m7, .int 0, .ref m9, .ref m10, .int 0, .int 0, .int 0, .int 0, .ref m15, .ref m16, .ref m17, .ref m18, .ref m19, .ref m20, .ref m21, .ref m22, .ref m23, .ref m24]), (st, eI G 2246 (upd f (Int32.toNatClampNeg (nI (1646 + i))) 0))] H := hP
                        have hD : va_D A [(mo, eO 10 [.ref st, .ref mi, .ref mk, .long 0, .long 1, .int 0, .ref m6, .ref m7, .int 0, .ref m9, .ref m10, .int 0, .int 0, .int 0, .int 0, .ref m15, .ref m16, .ref m17, .ref m18, .ref m19, .ref m20, .ref m21, .ref m22, .ref m23, .ref m24]), (st, eI G 2246 (upd f (Int32.toNatClampNeg (nI (1646 + i))) 0))] := hD
                        refine lv_iinc (v := nI (i + 1)) (lv' := [(12, .int (nI (i + 1))), (0, .ref mo)]) hx hb dX11_trial_311 hl (k := 1) rfl (nI_1 i) (by decide) rfl (fun ls hl => ?_)
                        refine lv_goto (tgt := 282) hx hb dX11_trial_314 (by decide) ?_
                        exact ih (i + 1) (upd f (Int32.toNatClampNeg (nI (1646 + i))) 0) _ _ _ (by omega) (by rw [pk_un (by rw [nI_clamp (by omega)]; omega)]; exact hf) (by omega) (hP.sub [0, 1] rfl) (hD.sub [0, 1] (by decide) rfl) hS (lv_sub hl [1, 0] rfl)
                  exact key (60 + 1) 0 (upd (upd (upd (upd (upd (upd (upd (upd (upd (upd st0 (Int32.toNatClampNeg 1546) a1) (Int32.toNatClampNeg 1547) a2) (Int32.toNatClampNeg 1548) a3) (Int32.toNatClampNeg 1549) a4) (Int32.toNatClampNeg 1550) a5) (Int32.toNatClampNeg 1551) a6) (Int32.toNatClampNeg 1552) a7) (Int32.toNatClampNeg 1553) a8) (Int32.toNatClampNeg 1554) a9) (Int32.toNatClampNeg 1555) 0) _ _ _ (by omega) (rfl) (by omega) (hP.sub [0, 1] rfl) (hD.sub [0, 1] (by decide) rfl) hS (lv_sub hl [3, 0] rfl)
                · refine lv_bipush (v := (-2)) hx hb dX11_trial_137 (by decide) ?_
                  exact W.iret (v := (-2)) hx hb hr (fun t ht hW => ⟨⟨_, (), rfl, (by simp [c_39, c_51, c_63, c_78, c_93, c_108, c_121, c_134]), trivial⟩, hS.F ht⟩) hS.2.2 dX11_trial_139
set_option maxHeartbeats 4000000 in
set_option maxRecDepth 100000 in
theorem m_image (l : Launch) (G : gW) (sz : Nat) (mo : Nat) (st : Nat) (mi : Nat) (mk : Nat) (m6 : Nat) (m7 : Nat) (m9 : Nat) (m10 : Nat) (m15 : Nat) (m16 : Nat) (m17 : Nat) (m18 : Nat) (m19 : Nat) (m20 : Nat) (m21 : Nat) (m22 : Nat) (m23 : Nat) (m24 : Nat) (a1 : Int32)  : Met l yX11_image (wsT yX11_image cX11_image 3 (some .int)) ({ frames := 1, cells := 0, slots := 0, locals := 25 }) (wP G [.ref mo, .int a1] sz [(mo, eO 10 [.ref st, .ref mi, .ref mk, .long 0, .long 1, .int 0, .ref m6, .ref m7, .int 0, .ref m9, .ref m10, .int 0, .int 0, .int 0, .int 0, .ref m15, .ref m16, .ref m17, .ref m18, .ref m19, .ref m20, .ref m21, .ref m22, .ref m23, .ref m24]), (st, eI G 2246 st0), (mi, eI G 4492 (fun _ => 0)), (mk, eZ G 2 (fun _ => 0))]) (va_Qi (fun (r : Int32) (_ : Unit) => r = if inB 0 a1 1 = true then 1 else (-2)) (fun _ _ => True) (va_A [(mo, eO 10 [.ref st, .ref mi, .ref mk, .long 0, .long 1, .int 0, .ref m6, .ref m7, .int 0, .ref m9, .ref m10, .int 0, .int 0, .int 0, .int 0, .ref m15, .ref m16, .ref m17, .ref m18, .ref m19, .ref m20, .ref m21, .ref m22, .ref m23, .ref m24]), (st, eI G 2246 st0), (mi, eI G 4492 (fun _ => 0)), (mk, eZ G 2 (fun _ => 0))] sz)) 0 0 (va_A [(mo, eO 10 [.ref st, .ref mi, .ref mk, .long 0, .long 1, .int 0, .ref m6, .ref m7, .int 0, .ref m9, .ref m10, .int 0, .int 0, .int 0, .int 0, .ref m15, .ref m16, .ref m17, .ref m18, .ref m19, .ref m20, .ref m21, .ref m22, .ref m23, .ref m24]), (st, eI G 2246 st0), (mi, eI G 4492 (fun _ => 0)), (mk, eZ G 2 (fun _ => 0))] sz) := by
  refine Met.ofW (cc := cX11_image) (maxL := 3) (ret := (some .int)) (by decide) rfl ?_
  intro p e s m args below meth c s₁ B hml hv
  obtain ⟨rfl, hsz, hP, hG, hD0⟩ := hv
  have hx := B.exec
  have hb := B.bytes
  have hr := B.returns
  have hts := my_hts (atoms_spec (ws := wsT yX11_image cX11_image 3 (some .int)) B.pre)
  have hown : s.vm.findClass RX11 = some m.cls := findClass_of_methodNamed B.named
  have hlocks := B.notSynchronized
  subst hsz
  have hD := hD0.self (sz := s.heap.size)
  generalize hAe : va_A [(mo, eO 10 [.ref st, .ref mi, .ref mk, .long 0, .long 1, .int 0, .ref m6, .ref m7, .int 0, .ref m9, .ref m10, .int 0, .int 0, .int 0, .int 0, .ref m15, .ref m16, .ref m17, .ref m18, .ref m19, .ref m20, .ref m21, .ref m22, .ref m23, .ref m24]), (st, eI G 2246 st0), (mi, eI G 4492 (fun _ => 0)), (mk, eZ G 2 (fun _ => 0))] s.heap.size = A at hD ⊢
  have hA : ∀ q : Nat, s.heap.size ≤ q → A q := fun q h => by rw [← hAe]; exact Or.inr h
  have hS : va_S A s.heap s.heap [] := va_S.rf
  have hP : va_P G.1 vwCl [(mo, eO 10 [.ref st, .ref mi, .ref mk, .long 0, .long 1, .int 0, .ref m6, .ref m7, .int 0, .ref m9, .ref m10, .int 0, .int 0, .int 0, .int 0, .ref m15, .ref m16, .ref m17, .ref m18, .ref m19, .ref m20, .ref m21, .ref m22, .ref m23, .ref m24]), (st, eI G 2246 st0), (mi, eI G 4492 (fun _ => 0)), (mk, eZ G 2 (fun _ => 0))] s.heap := hP
  have hl := lv_entry ([.ref mo, .int a1]) (n := 3) (Nat.le_of_ble_eq_true rfl)
  rw [lg_entry_eq]
  generalize (lg_sl ([.ref mo, .int a1]) ++ List.replicate (3 - (lg_sl ([.ref mo, .int a1])).length) Slot.unset).toArray = ls at hl ⊢
  have hl : lv_has ls 3 [(0, .ref mo), (1, .int a1)] := hl
  refine lv_iload_n hx hb dX11_image_0 rfl (lv_at hl 1 rfl) ?_
  refine lv_i2l hx hb dX11_image_1 rfl ?_
  refine lv_lconst (v := 0) hx hb dX11_image_2 (by decide) ?_
  refine my_bel (v := Int32.toInt64 0) (by decide) ?_
  refine lv_lconst (v := 1) hx hb dX11_image_3 (by decide) ?_
  refine my_bel (v := Int32.toInt64 1) (by decide) ?_
  have hPc := hP.sub (ws' := []) [] rfl
  refine rd_calli (va_runS (As := [.long (Int32.toInt64 a1), .long (Int32.toInt64 0), .long (Int32.toInt64 1)]) (rest := []) ⟨hx, hb, hml, hown, hts⟩ (c_in l G a1 0 1 ) (my_cwS hts ok_X11_in w_162 rfl rfl ⟨Nat.le_of_ble_eq_true rfl, Nat.le_of_ble_eq_true rfl⟩) ⟨rP.blind, fun U hU hW => ⟨rfl, by rw [hU]; exact hPc, kG.warm hW hG⟩⟩ rfl rfl hl.1 rfl (lv_room (Nat.le_of_ble_eq_true rfl)) dX11_image_4 ⟨Nat.le_of_ble_eq_true rfl, Nat.le_of_ble_eq_true rfl⟩) (fun r hr9 => ?_)
  subst hr9
  refine my_ifne (tgt := 13) hx hb dX11_image_7 (by decide) (fun c_7 => ?_) (fun c_7 => ?_)
  · rcases (inB_01.mp c_7) with e9 | e9
    · subst e9
      refine lv_aload_n hx hb dX11_image_13 rfl (lv_at hl 0 rfl) ?_
      refine va_get (D := G.1) (ci := 10) (v := .ref mk) (C := RX11) (T := TX11) (N := 25) hx hb hts inlX11 hown hG.1 hP 0 rfl rfl 2 (by decide) (hts (.fieldLink RX11 16 "SwornListsModel" "isKept" "[Z") w_114) (fun _ h9 => h9) rfl dX11_image_14 ?_
      refine lv_iload_n hx hb dX11_image_17 rfl (lv_at hl 1 rfl) ?_
      refine lv_iconst (v := 1) hx hb dX11_image_18 (by decide) ?_
      refine va_zast hx hb hG.1 hP hD hS 3 2 rfl rfl (by unfold vp_in; decide) dX11_image_19 (fun H locs hP hD hS => ?_)
      have hP : va_P G.1 vwCl [(mo, eO 10 [.ref st, .ref mi, .ref mk, .long 0, .long 1, .int 0, .ref m6, .ref m7, .int 0, .ref m9, .ref m10, .int 0, .int 0, .int 0, .int 0, .ref m15, .ref m16, .ref m17, .ref m18, .ref m19, .ref m20, .ref m21, .ref m22, .ref m23, .ref m24]), (st, eI G 2246 st0), (mi, eI G 4492 (fun _ => 0)), (mk, eZ G 2 (upd (fun _ => 0) (Int32.toNatClampNeg 0) 1))] H := hP
      have hD : va_D A [(mo, eO 10 [.ref st, .ref mi, .ref mk, .long 0, .long 1, .int 0, .ref m6, .ref m7, .int 0, .ref m9, .ref m10, .int 0, .int 0, .int 0, .int 0, .ref m15, .ref m16, .ref m17, .ref m18, .ref m19, .ref m20, .ref m21, .ref m22, .ref m23, .ref m24]), (st, eI G 2246 st0), (mi, eI G 4492 (fun _ => 0)), (mk, eZ G 2 (upd (fun _ => 0) (Int32.toNatClampNeg 0) 1))] := hD
      refine lv_iconst (v := 0) hx hb dX11_image_20 (by decide) ?_
      refine lv_istore_n (lv' := [(2, .int 0), (0, .ref mo), (1, .int 0)]) hx hb dX11_image_21 rfl hl (by decide) rfl (fun ls hl => ?_)
      have key : ∀ (n : Nat) (j : Nat) (f : Nat → Int32) (H : Heap) (locs : List Loc) (ls : Array Slot), j ≤ 2246 → 2246 - j < n → va_P G.1 vwCl [(mo, eO 10 [.ref st, .ref mi, .ref mk, .long 0, .long 1, .int 0, .ref m6, .ref m7, .int 0, .ref m9, .ref m10, .int 0, .int 0, .int 0, .int 0, .ref m15, .ref m16, .ref m17, .ref m18, .ref m19, .ref m20, .ref m21, .ref m22, .ref m23, .ref m24]), (mi, eI G 4492 f), (st, eI G 2246 st0)] H → va_D A [(mo, eO 10 [.ref st, .ref mi, .ref mk, .long 0, .long 1, .int 0, .ref m6, .ref m7, .int 0, .ref m9, .ref m10, .int 0, .int 0, .int 0, .int 0, .ref m15, .ref m16, .ref m17, .ref m18, .ref m19, .ref m20, .ref m21, .ref m22, .ref m23, .ref m24]), (mi, eI G 4492 f), (st, eI G 2246 st0)] → va_S A s.heap H locs → lv_has ls 3 [(0, .ref mo), (1, .int 0), (2, .int (nI j))] → W p l e (headSpec (wsT yX11_image cX11_image 3 (some .int)) ({ frames := 1, cells := 0, slots := 0, locals := 25 })).room s m ([.ref mo, .int 0] : List Value).toArray below meth c H locs 0 0 (MQ below (va_Qi (fun (r : Int32) (_ : Unit) => r = if inB 0 0 1 = true then 1 else (-2)) (fun _ _ => True) A) ([.ref mo, .int 0] : List Value).toArray s 0 0 A) (F0 m 22 ls []) := by
        intro n
        induction n with
        | zero => intro j f H locs ls hj hn; exact absurd hn (Nat.not_lt_zero _)
        | succ n ih =>
          intro j f H locs ls hj hn hP hD hS hl
          refine lv_iload_n hx hb dX11_image_22 rfl (lv_at hl 2 rfl) ?_
          refine lv_sipush (v := 2246) hx hb dX11_image_23 (by decide) ?_
          refine lv_icmp_ge (tgt := 53) hx hb dX11_image_26 (by decide) (fun c_26 => ?_) (fun c_26 => ?_)
          · refine lv_iconst (v := 1) hx hb dX11_image_53 (by decide) ?_
            exact W.iret (v := 1) hx hb hr (fun t ht hW => ⟨⟨_, (), rfl, (by simp [c_7, c_26]), trivial⟩, hS.F ht⟩) hS.2.2 dX11_image_54
          · have hlt : j < 2246 := by
              have h : ¬ 2246 ≤ j := fun z => c_26 (nI_le (a := 2246) z (by omega))
              omega
            refine lv_aload_n hx hb dX11_image_29 rfl (lv_at hl 0 rfl) ?_
            refine va_get (D := G.1) (ci := 10) (v := .ref mi) (C := RX11) (T := TX11) (N := 25) hx hb hts inlX11 hown hG.1 hP 0 rfl rfl 1 (by decide) (hts (.fieldLink RX11 13 "SwornListsModel" "images" "[I") w_113) (fun _ h9 => h9) rfl dX11_image_30 ?_
            refine lv_sipush (v := 2246) hx hb dX11_image_33 (by decide) ?_
            refine lv_iload_n hx hb dX11_image_36 rfl (lv_at hl 1 rfl) ?_
            refine lv_imul hx hb dX11_image_37 ?_
            refine my_bei (v := 0) (by decide) ?_
            refine lv_iload_n hx hb dX11_image_38 rfl (lv_at hl 2 rfl) ?_
            refine lv_iadd hx hb dX11_image_39 ?_
            refine my_bei (v := nI (0 + j)) (nI_add 0 j) ?_
            refine lv_aload_n hx hb dX11_image_40 rfl (lv_at hl 0 rfl) ?_
            refine va_get (D := G.1) (ci := 10) (v := .ref st) (C := RX11) (T := TX11) (N := 25) hx hb hts inlX11 hown hG.1 hP 0 rfl rfl 0 (by decide) (hts (.fieldLink RX11 7 "SwornListsModel" "st" "[I") w_112) (fun _ h9 => h9) rfl dX11_image_41 ?_
            refine lv_iload_n hx hb dX11_image_44 rfl (lv_at hl 2 rfl) ?_
            refine va_iald hx hb hG.1 hP 2 0 rfl rfl (vp_in_nI hlt (by decide)) dX11_image_45 ?_
            refine va_iast hx hb hG.1 hP hD hS 1 0 rfl rfl (vp_in_nI (by omega) (by decide)) dX11_image_46 (fun H locs hP hD hS => ?_)
            have hP : va_P G.1 vwCl [(mo, eO 10 [.ref st, .ref mi, .ref mk, .long 0, .long 1, .int 0, .ref m6, .ref m7, .int 0, .ref m9, .ref m10, .int 0, .int 0, .int 0, .int 0, .ref m15, .ref m16, .ref m17, .ref m18, .ref m19, .ref m20, .ref m21, .ref m22, .ref m23, .ref m24]), (mi, eI G 4492 (upd f (Int32.toNatClampNeg (nI (0 + j))) (st0 (Int32.toNatClampNeg (nI j))))), (st, eI G 2246 st0)] H := hP
            have hD : va_D A [(mo, eO 10 [.ref st, .ref mi, .ref mk, .long 0, .long 1, .int 0, .ref m6, .ref m7, .int 0, .ref m9, .ref m10, .int 0, .int 0, .int 0, .int 0, .ref m15, .ref m16, .ref m17, .ref m18, .ref m19, .ref m20, .ref m21, .ref m22, .ref m23, .ref m24]), (mi, eI G 4492 (upd f (Int32.toNatClampNeg (nI (0 + j))) (st0 (Int32.toNatClampNeg (nI j))))), (st, eI G 2246 st0)] := hD
            refine lv_iinc (v := nI (j + 1)) (lv' := [(2, .int (nI (j + 1))), (0, .ref mo), (1, .int 0)]) hx hb dX11_image_47 hl (k := 2) rfl (nI_1 j) (by decide) rfl (fun ls hl => ?_)
            refine lv_goto (tgt := 22) hx hb dX11_image_50 (by decide) ?_
            exact ih (j + 1) (upd f (Int32.toNatClampNeg (nI (0 + j))) (st0 (Int32.toNatClampNeg (nI j)))) _ _ _ (by omega) (by omega) (hP.sub [0, 1, 2] rfl) (hD.sub [0, 1, 2] (by decide) rfl) hS (lv_sub hl [1, 2, 0] rfl)
      exact key (2246 + 1) 0 (fun _ => 0) _ _ _ (by omega) (by omega) (hP.sub [0, 2, 1] rfl) (hD.sub [0, 2, 1] (by decide) rfl) hS (lv_sub hl [1, 2, 0] rfl)
    · subst e9
      refine lv_aload_n hx hb dX11_image_13 rfl (lv_at hl 0 rfl) ?_
      refine va_get (D := G.1) (ci := 10) (v := .ref mk) (C := RX11) (T := TX11) (N := 25) hx hb hts inlX11 hown hG.1 hP 0 rfl rfl 2 (by decide) (hts (.fieldLink RX11 16 "SwornListsModel" "isKept" "[Z") w_114) (fun _ h9 => h9) rfl dX11_image_14 ?_
      refine lv_iload_n hx hb dX11_image_17 rfl (lv_at hl 1 rfl) ?_
      refine lv_iconst (v := 1) hx hb dX11_image_18 (by decide) ?_
      refine va_zast hx hb hG.1 hP hD hS 3 2 rfl rfl (by unfold vp_in; decide) dX11_image_19 (fun H locs hP hD hS => ?_)
      have hP : va_P G.1 vwCl [(mo, eO 10 [.ref st, .ref mi, .ref mk, .long 0, .long 1, .int 0, .ref m6, .ref m7, .int 0, .ref m9, .ref m10, .int 0, .int 0, .int 0, .int 0, .ref m15, .ref m16, .ref m17, .ref m18, .ref m19, .ref m20, .ref m21, .ref m22, .ref m23, .ref m24]), (st, eI G 2246 st0), (mi, eI G 4492 (fun _ => 0)), (mk, eZ G 2 (upd (fun _ => 0) (Int32.toNatClampNeg 1) 1))] H := hP
      have hD : va_D A [(mo, eO 10 [.ref st, .ref mi, .ref mk, .long 0, .long 1, .int 0, .ref m6, .ref m7, .int 0, .ref m9, .ref m10, .int 0, .int 0, .int 0, .int 0, .ref m15, .ref m16, .ref m17, .ref m18, .ref m19, .ref m20, .ref m21, .ref m22, .ref m23, .ref m24]), (st, eI G 2246 st0), (mi, eI G 4492 (fun _ => 0)), (mk, eZ G 2 (upd (fun _ => 0) (Int32.toNatClampNeg 1) 1))] := hD
      refine lv_iconst (v := 0) hx hb dX11_image_20 (by decide) ?_
      refine lv_istore_n (lv' := [(2, .int 0), (0, .ref mo), (1, .int 1)]) hx hb dX11_image_21 rfl hl (by decide) rfl (fun ls hl => ?_)
      have key : ∀ (n : Nat) (j : Nat) (f : Nat → Int32) (H : Heap) (locs : List Loc) (ls : Array Slot), j ≤ 2246 → 2246 - j < n → va_P G.1 vwCl [(mo, eO 10 [.ref st, .ref mi, .ref mk, .long 0, .long 1, .int 0, .ref m6, .ref m7, .int 0, .ref m9, .ref m10, .int 0, .int 0, .int 0, .int 0, .ref m15, .ref m16, .ref m17, .ref m18, .ref m19, .ref m20, .ref m21, .ref m22, .ref m23, .ref m24]), (mi, eI G 4492 f), (st, eI G 2246 st0)] H → va_D A [(mo, eO 10 [.ref st, .ref mi, .ref mk, .long 0, .long 1, .int 0, .ref m6, .ref m7, .int 0, .ref m9, .ref m10, .int 0, .int 0, .int 0, .int 0, .ref m15, .ref m16, .ref m17, .ref m18, .ref m19, .ref m20, .ref m21, .ref m22, .ref m23, .ref m24]), (mi, eI G 4492 f), (st, eI G 2246 st0)] → va_S A s.heap H locs → lv_has ls 3 [(0, .ref mo), (1, .int 1), (2, .int (nI j))] → W p l e (headSpec (wsT yX11_image cX11_image 3 (some .int)) ({ frames := 1, cells := 0, slots := 0, locals := 25 })).room s m ([.ref mo, .int 1] : List Value).toArray below meth c H locs 0 0 (MQ below (va_Qi (fun (r : Int32) (_ : Unit) => r = if inB 0 1 1 = true then 1 else (-2)) (fun _ _ => True) A) ([.ref mo, .int 1] : List Value).toArray s 0 0 A) (F0 m 22 ls []) := by
        intro n
        induction n with
        | zero => intro j f H locs ls hj hn; exact absurd hn (Nat.not_lt_zero _)
        | succ n ih =>
          intro j f H locs ls hj hn hP hD hS hl
          refine lv_iload_n hx hb dX11_image_22 rfl (lv_at hl 2 rfl) ?_
          refine lv_sipush (v := 2246) hx hb dX11_image_23 (by decide) ?_
          refine lv_icmp_ge (tgt := 53) hx hb dX11_image_26 (by decide) (fun c_26 => ?_) (fun c_26 => ?_)
          · refine lv_iconst (v := 1) hx hb dX11_image_53 (by decide) ?_
            exact W.iret (v := 1) hx hb hr (fun t ht hW => ⟨⟨_, (), rfl, (by simp [c_7, c_26]), trivial⟩, hS.F ht⟩) hS.2.2 dX11_image_54
          · have hlt : j < 2246 := by
              have h : ¬ 2246 ≤ j := fun z => c_26 (nI_le (a := 2246) z (by omega))
              omega
            refine lv_aload_n hx hb dX11_image_29 rfl (lv_at hl 0 rfl) ?_
            refine va_get (D := G.1) (ci := 10) (v := .ref mi) (C := RX11) (T := TX11) (N := 25) hx hb hts inlX11 hown hG.1 hP 0 rfl rfl 1 (by decide) (hts (.fieldLink RX11 13 "SwornListsModel" "images" "[I") w_113) (fun _ h9 => h9) rfl dX11_image_30 ?_
            refine lv_sipush (v := 2246) hx hb dX11_image_33 (by decide) ?_
            refine lv_iload_n hx hb dX11_image_36 rfl (lv_at hl 1 rfl) ?_
            refine lv_imul hx hb dX11_image_37 ?_
            refine my_bei (v := 2246) (by decide) ?_
            refine lv_iload_n hx hb dX11_image_38 rfl (lv_at hl 2 rfl) ?_
            refine lv_iadd hx hb dX11_image_39 ?_
            refine my_bei (v := nI (2246 + j)) (nI_add 2246 j) ?_
            refine lv_aload_n hx hb dX11_image_40 rfl (lv_at hl 0 rfl) ?_
            refine va_get (D := G.1) (ci := 10) (v := .ref st) (C := RX11) (T := TX11) (N := 25) hx hb hts inlX11 hown hG.1 hP 0 rfl rfl 0 (by decide) (hts (.fieldLink RX11 7 "SwornListsModel" "st" "[I") w_112) (fun _ h9 => h9) rfl dX11_image_41 ?_
            refine lv_iload_n hx hb dX11_image_44 rfl (lv_at hl 2 rfl) ?_
            refine va_iald hx hb hG.1 hP 2 0 rfl rfl (vp_in_nI hlt (by decide)) dX11_image_45 ?_
            refine va_iast hx hb hG.1 hP hD hS 1 0 rfl rfl (vp_in_nI (by omega) (by decide)) dX11_image_46 (fun H locs hP hD hS => ?_)
            have hP : va_P G.1 vwCl [(mo, eO 10 [.ref st, .ref mi, .ref mk, .long 0, .long 1, .int 0, .ref m6, .ref m7, .int 0, .ref m9, .ref m10, .int 0, .int 0, .int 0, .int 0, .ref m15, .ref m16, .ref m17, .ref m18, .ref m19, .ref m20, .ref m21, .ref m22, .ref m23, .ref m24]), (mi, eI G 4492 (upd f (Int32.toNatClampNeg (nI (2246 + j))) (st0 (Int32.toNatClampNeg (nI j))))), (st, eI G 2246 st0)] H := hP
            have hD : va_D A [(mo, eO 10 [.ref st, .ref mi, .ref mk, .long 0, .long 1, .int 0, .ref m6, .ref m7, .int 0, .ref m9, .ref m10, .int 0, .int 0, .int 0, .int 0, .ref m15, .ref m16, .ref m17, .ref m18, .ref m19, .ref m20, .ref m21, .ref m22, .ref m23, .ref m24]), (mi, eI G 4492 (upd f (Int32.toNatClampNeg (nI (2246 + j))) (st0 (Int32.toNatClampNeg (nI j))))), (st, eI G 2246 st0)] := hD
            refine lv_iinc (v := nI (j + 1)) (lv' := [(2, .int (nI (j + 1))), (0, .ref mo), (1, .int 1)]) hx hb dX11_image_47 hl (k := 2) rfl (nI_1 j) (by decide) rfl (fun ls hl => ?_)
            refine lv_goto (tgt := 22) hx hb dX11_image_50 (by decide) ?_
            exact ih (j + 1) (upd f (Int32.toNatClampNeg (nI (2246 + j))) (st0 (Int32.toNatClampNeg (nI j)))) _ _ _ (by omega) (by omega) (hP.sub [0, 1, 2] rfl) (hD.sub [0, 1, 2] (by decide) rfl) hS (lv_sub hl [1, 2, 0] rfl)
      exact key (2246 + 1) 0 (fun _ => 0) _ _ _ (by omega) (by omega) (hP.sub [0, 2, 1] rfl) (hD.sub [0, 2, 1] (by decide) rfl) hS (lv_sub hl [1, 2, 0] rfl)
  · refine lv_bipush (v := (-2)) hx hb dX11_image_10 (by decide) ?_
    exact W.iret (v := (-2)) hx hb hr (fun t ht hW => ⟨⟨_, (), rfl, (by simp [c_7]), trivial⟩, hS.F ht⟩) hS.2.2 dX11_image_12

set_option maxHeartbeats 4000000 in
set_option maxRecDepth 100000 in
theorem m_person (l : Launch) (G : gW) (sz : Nat) (mo : Nat) (st : Nat) (mi : Nat) (mk : Nat) (m6 : Nat) (m7 : Nat) (m9 : Nat) (m10 : Nat) (m15 : Nat) (m16 : Nat) (m17 : Nat) (m18 : Nat) (m19 : Nat) (m20 : Nat) (m21 : Nat) (m22 : Nat) (m23 : Nat) (m24 : Nat) (a1 : Int32) (a2 : Int32) (a3 : Int32) (a4 : Int32)  : Met l yX11_person (wsT yX11_person cX11_person 6 (some .int)) ({ frames := 1, cells := 0, slots := 0, locals := 25 }) (wP G [.ref mo, .int a1, .int a2, .int a3, .int a4] sz [(mo, eO 10 [.ref st, .ref mi, .ref mk, .long 0, .long 1, .int 0, .ref m6, .ref m7, .int 0, .ref m9, .ref m10, .int 0, .int 0, .int 0, .int 0, .ref m15, .ref m16, .ref m17, .ref m18, .ref m19, .ref m20, .ref m21, .ref m22, .ref m23, .ref m24]), (st, eI G 2246 st0)]) (va_Qi (fun (r : Int32) (_ : Unit) => r = if (inB 0 a1 3 = true) ∧ (inB 0 a2 3 = true) ∧ (inB 0 a3 1000 = true) ∧ (inB 0 a4 99 = true) then 0 else (-2)) (fun _ _ => True) (va_A [(mo, eO 10 [.ref st, .ref mi, .ref mk, .long 0, .long 1, .int 0, .ref m6, .ref m7, .int 0, .ref m9, .ref m10, .int 0, .int 0, .int 0, .int 0, .ref m15, .ref m16, .ref m17, .ref m18, .ref m19, .ref m20, .ref m21, .ref m22, .ref m23, .ref m24]), (st, eI G 2246 st0)] sz)) 0 0 (va_A [(mo, eO 10 [.ref st, .ref mi, .ref mk, .long 0, .long 1, .int 0, .ref m6, .ref m7, .int 0, .ref m9, .ref m10, .int 0, .int 0, .int 0, .int 0, .ref m15, .ref m16, .ref m17, .ref m18, .ref m19, .ref m20, .ref m21, .ref m22, .ref m23, .ref m24]), (st, eI G 2246 st0)] sz) := by
  refine Met.ofW (cc := cX11_person) (maxL := 6) (ret := (some .int)) (by decide) rfl ?_
  intro p e s m args below meth c s₁ B hml hv
  obtain ⟨rfl, hsz, hP, hG, hD0⟩ := hv
  have hx := B.exec
  have hb := B.bytes
  have hr := B.returns
  have hts := my_hts (atoms_spec (ws := wsT yX11_person cX11_person 6 (some .int)) B.pre)
  have hown : s.vm.findClass RX11 = some m.cls := findClass_of_methodNamed B.named
  have hlocks := B.notSynchronized
  subst hsz
  have hD := hD0.self (sz := s.heap.size)
  generalize hAe : va_A [(mo, eO 10 [.ref st, .ref mi, .ref mk, .long 0, .long 1, .int 0, .ref m6, .ref m7, .int 0, .ref m9, .ref m10, .int 0, .int 0, .int 0, .int 0, .ref m15, .ref m16, .ref m17, .ref m18, .ref m19, .ref m20, .ref m21, .ref m22, .ref m23, .ref m24]), (st, eI G 2246 st0)] s.heap.size = A at hD ⊢
  have hA : ∀ q : Nat, s.heap.size ≤ q → A q := fun q h => by rw [← hAe]; exact Or.inr h
  have hS : va_S A s.heap s.heap [] := va_S.rf
  have hP : va_P G.1 vwCl [(mo, eO 10 [.ref st, .ref mi, .ref mk, .long 0, .long 1, .int 0, .ref m6, .ref m7, .int 0, .ref m9, .ref m10, .int 0, .int 0, .int 0, .int 0, .ref m15, .ref m16, .ref m17, .ref m18, .ref m19, .ref m20, .ref m21, .ref m22, .ref m23, .ref m24]), (st, eI G 2246 st0)] s.heap := hP
  have hl := lv_entry ([.ref mo, .int a1, .int a2, .int a3, .int a4]) (n := 6) (Nat.le_of_ble_eq_true rfl)
  rw [lg_entry_eq]
  generalize (lg_sl ([.ref mo, .int a1, .int a2, .int a3, .int a4]) ++ List.replicate (6 - (lg_sl ([.ref mo, .int a1, .int a2, .int a3, .int a4])).length) Slot.unset).toArray = ls at hl ⊢
  have hl : lv_has ls 6 [(0, .ref mo), (1, .int a1), (2, .int a2), (3, .int a3), (4, .int a4)] := hl
  refine lv_iload_n hx hb dX11_person_0 rfl (lv_at hl 1 rfl) ?_
  refine lv_i2l hx hb dX11_person_1 rfl ?_
  refine lv_lconst (v := 0) hx hb dX11_person_2 (by decide) ?_
  refine my_bel (v := Int32.toInt64 0) (by decide) ?_
  refine lv_ldc2 (v := 3) hx hb hown (hts (.constantLong RX11 77 (3)) w_159) dX11_person_3 ?_
  refine my_bel (v := Int32.toInt64 3) (by decide) ?_
  have hPc := hP.sub (ws' := []) [] rfl
  refine rd_calli (va_runS (As := [.long (Int32.toInt64 a1), .long (Int32.toInt64 0), .long (Int32.toInt64 3)]) (rest := []) ⟨hx, hb, hml, hown, hts⟩ (c_in l G a1 0 3 ) (my_cwS hts ok_X11_in w_162 rfl rfl ⟨Nat.le_of_ble_eq_true rfl, Nat.le_of_ble_eq_true rfl⟩) ⟨rP.blind, fun U hU hW => ⟨rfl, by rw [hU]; exact hPc, kG.warm hW hG⟩⟩ rfl rfl hl.1 rfl (lv_room (Nat.le_of_ble_eq_true rfl)) dX11_person_6 ⟨Nat.le_of_ble_eq_true rfl, Nat.le_of_ble_eq_true rfl⟩) (fun r hr9 => ?_)
  subst hr9
  refine my_ifeq (tgt := 49) hx hb dX11_person_9 (by decide) (fun c_9 => ?_) (fun c_9 => ?_)
  · refine lv_bipush (v := (-2)) hx hb dX11_person_49 (by decide) ?_
    exact W.iret (v := (-2)) hx hb hr (fun t ht hW => ⟨⟨_, (), rfl, (by simp [c_9]), trivial⟩, hS.F ht⟩) hS.2.2 dX11_person_51
  · refine lv_iload_n hx hb dX11_person_12 rfl (lv_at hl 2 rfl) ?_
    refine lv_i2l hx hb dX11_person_13 rfl ?_
    refine lv_lconst (v := 0) hx hb dX11_person_14 (by decide) ?_
    refine my_bel (v := Int32.toInt64 0) (by decide) ?_
    refine lv_ldc2 (v := 3) hx hb hown (hts (.constantLong RX11 77 (3)) w_159) dX11_person_15 ?_
    refine my_bel (v := Int32.toInt64 3) (by decide) ?_
    have hPc := hP.sub (ws' := []) [] rfl
    refine rd_calli (va_runS (As := [.long (Int32.toInt64 a2), .long (Int32.toInt64 0), .long (Int32.toInt64 3)]) (rest := []) ⟨hx, hb, hml, hown, hts⟩ (c_in l G a2 0 3 ) (my_cwS hts ok_X11_in w_162 rfl rfl ⟨Nat.le_of_ble_eq_true rfl, Nat.le_of_ble_eq_true rfl⟩) ⟨rP.blind, fun U hU hW => ⟨rfl, by rw [hU]; exact hPc, kG.warm hW hG⟩⟩ rfl rfl hl.1 rfl (lv_room (Nat.le_of_ble_eq_true rfl)) dX11_person_18 ⟨Nat.le_of_ble_eq_true rfl, Nat.le_of_ble_eq_true rfl⟩) (fun r hr9 => ?_)
    subst hr9
    refine my_ifeq (tgt := 49) hx hb dX11_person_21 (by decide) (fun c_21 => ?_) (fun c_21 => ?_)
    · refine lv_bipush (v := (-2)) hx hb dX11_person_49 (by decide) ?_
      exact W.iret (v := (-2)) hx hb hr (fun t ht hW => ⟨⟨_, (), rfl, (by simp [c_9, c_21]), trivial⟩, hS.F ht⟩) hS.2.2 dX11_person_51
    · refine lv_iload_n hx hb dX11_person_24 rfl (lv_at hl 3 rfl) ?_
      refine lv_i2l hx hb dX11_person_25 rfl ?_
      refine lv_lconst (v := 0) hx hb dX11_person_26 (by decide) ?_
      refine my_bel (v := Int32.toInt64 0) (by decide) ?_
      refine lv_ldc2 (v := 1000) hx hb hown (hts (.constantLong RX11 79 (1000)) w_160) dX11_person_27 ?_
      refine my_bel (v := Int32.toInt64 1000) (by decide) ?_
      have hPc := hP.sub (ws' := []) [] rfl
      refine rd_calli (va_runS (As := [.long (Int32.toInt64 a3), .long (Int32.toInt64 0), .long (Int32.toInt64 1000)]) (rest := []) ⟨hx, hb, hml, hown, hts⟩ (c_in l G a3 0 1000 ) (my_cwS hts ok_X11_in w_162 rfl rfl ⟨Nat.le_of_ble_eq_true rfl, Nat.le_of_ble_eq_true rfl⟩) ⟨rP.blind, fun U hU hW => ⟨rfl, by rw [hU]; exact hPc, kG.warm hW hG⟩⟩ rfl rfl hl.1 rfl (lv_room (Nat.le_of_ble_eq_true rfl)) dX11_person_30 ⟨Nat.le_of_ble_eq_true rfl, Nat.le_of_ble_eq_true rfl⟩) (fun r hr9 => ?_)
      subst hr9
      refine my_ifeq (tgt := 49) hx hb dX11_person_33 (by decide) (fun c_33 => ?_) (fun c_33 => ?_)
      · refine lv_bipush (v := (-2)) hx hb dX11_person_49 (by decide) ?_
        exact W.iret (v := (-2)) hx hb hr (fun t ht hW => ⟨⟨_, (), rfl, (by simp [c_9, c_21, c_33]), trivial⟩, hS.F ht⟩) hS.2.2 dX11_person_51
      · refine lv_iload hx hb dX11_person_36 (lv_at hl 4 rfl) ?_
        refine lv_i2l hx hb dX11_person_38 rfl ?_
        refine lv_lconst (v := 0) hx hb dX11_person_39 (by decide) ?_
        refine my_bel (v := Int32.toInt64 0) (by decide) ?_
        refine lv_ldc2 (v := 99) hx hb hown (hts (.constantLong RX11 81 (99)) w_161) dX11_person_40 ?_
        refine my_bel (v := Int32.toInt64 99) (by decide) ?_
        have hPc := hP.sub (ws' := []) [] rfl
        refine rd_calli (va_runS (As := [.long (Int32.toInt64 a4), .long (Int32.toInt64 0), .long (Int32.toInt64 99)]) (rest := []) ⟨hx, hb, hml, hown, hts⟩ (c_in l G a4 0 99 ) (my_cwS hts ok_X11_in w_162 rfl rfl ⟨Nat.le_of_ble_eq_true rfl, Nat.le_of_ble_eq_true rfl⟩) ⟨rP.blind, fun U hU hW => ⟨rfl, by rw [hU]; exact hPc, kG.warm hW hG⟩⟩ rfl rfl hl.1 rfl (lv_room (Nat.le_of_ble_eq_true rfl)) dX11_person_43 ⟨Nat.le_of_ble_eq_true rfl, Nat.le_of_ble_eq_true rfl⟩) (fun r hr9 => ?_)
        subst hr9
        refine my_ifne (tgt := 52) hx hb dX11_person_46 (by decide) (fun c_46 => ?_) (fun c_46 => ?_)
        · refine lv_aload_n hx hb dX11_person_52 rfl (lv_at hl 0 rfl) ?_
          refine va_get (D := G.1) (ci := 10) (v := .ref st) (C := RX11) (T := TX11) (N := 25) hx hb hts inlX11 hown hG.1 hP 0 rfl rfl 0 (by decide) (hts (.fieldLink RX11 7 "SwornListsModel" "st" "[I") w_112) (fun _ h9 => h9) rfl dX11_person_53 ?_
          refine lv_iconst (v := 0) hx hb dX11_person_56 (by decide) ?_
          refine va_iald hx hb hG.1 hP 1 0 rfl rfl (by unfold vp_in; decide) dX11_person_57 ?_
          refine my_bei (v := 0) (by first | rfl | decide) ?_
          refine lv_bipush (v := 30) hx hb dX11_person_58 (by decide) ?_
          refine lv_icmp_ne (tgt := 66) hx hb dX11_person_60 (by decide) (fun c_60 => ?_) (fun c_60 => absurd c_60 (by decide))
          refine lv_bipush (v := 10) hx hb dX11_person_66 (by decide) ?_
          refine lv_iconst (v := 4) hx hb dX11_person_68 (by decide) ?_
          refine lv_aload_n hx hb dX11_person_69 rfl (lv_at hl 0 rfl) ?_
          refine va_get (D := G.1) (ci := 10) (v := .ref st) (C := RX11) (T := TX11) (N := 25) hx hb hts inlX11 hown hG.1 hP 0 rfl rfl 0 (by decide) (hts (.fieldLink RX11 7 "SwornListsModel" "st" "[I") w_112) (fun _ h9 => h9) rfl dX11_person_70 ?_
          refine lv_iconst (v := 0) hx hb dX11_person_73 (by decide) ?_
          refine va_iald hx hb hG.1 hP 1 0 rfl rfl (by unfold vp_in; decide) dX11_person_74 ?_
          refine my_bei (v := 0) (by first | rfl | decide) ?_
          refine lv_imul hx hb dX11_person_75 ?_
          refine my_bei (v := 0) (by decide) ?_
          refine lv_iadd hx hb dX11_person_76 ?_
          refine my_bei (v := 10) (by decide) ?_
          refine lv_istore (lv' := [(5, .int 10), (0, .ref mo), (1, .int a1), (2, .int a2), (3, .int a3), (4, .int a4)]) hx hb dX11_person_77 hl (by decide) rfl (fun ls hl => ?_)
          refine lv_aload_n hx hb dX11_person_79 rfl (lv_at hl 1 rfl) ?_
          refine va_get (D := G.1) (ci := 10) (v := .ref st) (C := RX11) (T := TX11) (N := 25) hx hb hts inlX11 hown hG.1 hP 0 rfl rfl 0 (by decide) (hts (.fieldLink RX11 7 "SwornListsModel" "st" "[I") w_112) (fun _ h9 => h9) rfl dX11_person_80 ?_
          refine lv_iload hx hb dX11_person_83 (lv_at hl 0 rfl) ?_
          refine lv_iload_n hx hb dX11_person_85 rfl (lv_at hl 2 rfl) ?_
          refine va_iast hx hb hG.1 hP hD hS 1 0 rfl rfl (by unfold vp_in; decide) dX11_person_86 (fun H locs hP hD hS => ?_)
          have hP : va_P G.1 vwCl [(mo, eO 10 [.ref st, .ref mi, .ref mk, .long 0, .long 1, .int 0, .ref m6, .ref m7, .int 0, .ref m9, .ref m10, .int 0, .int 0, .int 0, .int 0, .ref m15, .ref m16, .ref m17, .ref m18, .ref m19, .ref m20, .ref m21, .ref m22, .ref m23, .ref m24]), (st, eI G 2246 (upd st0 (Int32.toNatClampNeg 10) a1))] H := hP
          have hD : va_D A [(mo, eO 10 [.ref st, .ref mi, .ref mk, .long 0, .long 1, .int 0, .ref m6, .ref m7, .int 0, .ref m9, .ref m10, .int 0, .int 0, .int 0, .int 0, .ref m15, .ref m16, .ref m17, .ref m18, .ref m19, .ref m20, .ref m21, .ref m22, .ref m23, .ref m24]), (st, eI G 2246 (upd st0 (Int32.toNatClampNeg 10) a1))] := hD
          refine lv_aload_n hx hb dX11_person_87 rfl (lv_at hl 1 rfl) ?_
          refine va_get (D := G.1) (ci := 10) (v := .ref st) (C := RX11) (T := TX11) (N := 25) hx hb hts inlX11 hown hG.1 hP 0 rfl rfl 0 (by decide) (hts (.fieldLink RX11 7 "SwornListsModel" "st" "[I") w_112) (fun _ h9 => h9) rfl dX11_person_88 ?_
          refine lv_iload hx hb dX11_person_91 (lv_at hl 0 rfl) ?_
          refine lv_iconst (v := 1) hx hb dX11_person_93 (by decide) ?_
          refine lv_iadd hx hb dX11_person_94 ?_
          refine my_bei (v := 11) (by decide) ?_
          refine lv_iload_n hx hb dX11_person_95 rfl (lv_at hl 3 rfl) ?_
          refine va_iast hx hb hG.1 hP hD hS 1 0 rfl rfl (by unfold vp_in; decide) dX11_person_96 (fun H locs hP hD hS => ?_)
          have hP : va_P G.1 vwCl [(mo, eO 10 [.ref st, .ref mi, .ref mk, .long 0, .long 1, .int 0, .ref m6, .ref m7, .int 0, .ref m9, .ref m10, .int 0, .int 0, .int 0, .int 0, .ref m15, .ref m16, .ref m17, .ref m18, .ref m19, .ref m20, .ref m21, .ref m22, .ref m23, .ref m24]), (st, eI G 2246 (upd (upd st0 (Int32.toNatClampNeg 10) a1) (Int32.toNatClampNeg 11) a2))] H := hP
          have hD : va_D A [(mo, eO 10 [.ref st, .ref mi, .ref mk, .long 0, .long 1, .int 0, .ref m6, .ref m7, .int 0, .ref m9, .ref m10, .int 0, .int 0, .int 0, .int 0, .ref m15, .ref m16, .ref m17, .ref m18, .ref m19, .ref m20, .ref m21, .ref m22, .ref m23, .ref m24]), (st, eI G 2246 (upd (upd st0 (Int32.toNatClampNeg 10) a1) (Int32.toNatClampNeg 11) a2))] := hD
          refine lv_aload_n hx hb dX11_person_97 rfl (lv_at hl 1 rfl) ?_
          refine va_get (D := G.1) (ci := 10) (v := .ref st) (C := RX11) (T := TX11) (N := 25) hx hb hts inlX11 hown hG.1 hP 0 rfl rfl 0 (by decide) (hts (.fieldLink RX11 7 "SwornListsModel" "st" "[I") w_112) (fun _ h9 => h9) rfl dX11_person_98 ?_
          refine lv_iload hx hb dX11_person_101 (lv_at hl 0 rfl) ?_
          refine lv_iconst (v := 2) hx hb dX11_person_103 (by decide) ?_
          refine lv_iadd hx hb dX11_person_104 ?_
          refine my_bei (v := 12) (by decide) ?_
          refine lv_iload_n hx hb dX11_person_105 rfl (lv_at hl 4 rfl) ?_
          refine va_iast hx hb hG.1 hP hD hS 1 0 rfl rfl (by unfold vp_in; decide) dX11_person_106 (fun H locs hP hD hS => ?_)
          have hP : va_P G.1 vwCl [(mo, eO 10 [.ref st, .ref mi, .ref mk, .long 0, .long 1, .int 0, .ref m6, .ref m7, .int 0, .ref m9, .ref m10, .int 0, .int 0, .int 0, .int 0, .ref m15, .ref m16, .ref m17, .ref m18, .ref m19, .ref m20, .ref m21, .ref m22, .ref m23, .ref m24]), (st, eI G 2246 (upd (upd (upd st0 (Int32.toNatClampNeg 10) a1) (Int32.toNatClampNeg 11) a2) (Int32.toNatClampNeg 12) a3))] H := hP
          have hD : va_D A [(mo, eO 10 [.ref st, .ref mi, .ref mk, .long 0, .long 1, .int 0, .ref m6, .ref m7, .int 0, .ref m9, .ref m10, .int 0, .int 0, .int 0, .int 0, .ref m15, .ref m16, .ref m17, .ref m18, .ref m19, .ref m20, .ref m21, .ref m22, .ref m23, .ref m24]), (st, eI G 2246 (upd (upd (upd st0 (Int32.toNatClampNeg 10) a1) (Int32.toNatClampNeg 11) a2) (Int32.toNatClampNeg 12) a3))] := hD
          refine lv_aload_n hx hb dX11_person_107 rfl (lv_at hl 1 rfl) ?_
          refine va_get (D := G.1) (ci := 10) (v := .ref st) (C := RX11) (T := TX11) (N := 25) hx hb hts inlX11 hown hG.1 hP 0 rfl rfl 0 (by decide) (hts (.fieldLink RX11 7 "SwornListsModel" "st" "[I") w_112) (fun _ h9 => h9) rfl dX11_person_108 ?_
          refine lv_iload hx hb dX11_person_111 (lv_at hl 0 rfl) ?_
          refine lv_iconst (v := 3) hx hb dX11_person_113 (by decide) ?_
          refine lv_iadd hx hb dX11_person_114 ?_
          refine my_bei (v := 13) (by decide) ?_
          refine lv_iload hx hb dX11_person_115 (lv_at hl 5 rfl) ?_
          refine va_iast hx hb hG.1 hP hD hS 1 0 rfl rfl (by unfold vp_in; decide) dX11_person_117 (fun H locs hP hD hS => ?_)
          have hP : va_P G.1 vwCl [(mo, eO 10 [.ref st, .ref mi, .ref mk, .long 0, .long 1, .int 0, .ref m6, .ref m7, .int 0, .ref m9, .ref m10, .int 0, .int 0, .int 0, .int 0, .ref m15, .ref m16, .ref m17, .ref m18, .ref m19, .ref m20, .ref m21, .ref m22, .ref m23, .ref m24]), (st, eI G 2246 (upd (upd (upd (upd st0 (Int32.toNatClampNeg 10) a1) (Int32.toNatClampNeg 11) a2) (Int32.toNatClampNeg 12) a3) (Int32.toNatClampNeg 13) a4))] H := hP
          have hD : va_D A [(mo, eO 10 [.ref st, .ref mi, .ref mk, .long 0, .long 1, .int 0, .ref m6, .ref m7, .int 0, .ref m9, .ref m10, .int 0, .int 0, .int 0, .int 0, .ref m15, .ref m16, .ref m17, .ref m18, .ref m19, .ref m20, .ref m21, .ref m22, .ref m23, .ref m24]), (st, eI G 2246 (upd (upd (upd (upd st0 (Int32.toNatClampNeg 10) a1) (Int32.toNatClampNeg 11) a2) (Int32.toNatClampNeg 12) a3) (Int32.toNatClampNeg 13) a4))] := hD
          refine lv_aload_n hx hb dX11_person_118 rfl (lv_at hl 1 rfl) ?_
          refine lv_iconst (v := 0) hx hb dX11_person_119 (by decide) ?_
          have hPc := hP.sub (ws' := [(mo, eO 10 [.ref st, .ref mi, .ref mk, .long 0, .long 1, .int 0, .ref m6, .ref m7, .int 0, .ref m9, .ref m10, .int 0, .int 0, .int 0, .int 0, .ref m15, .ref m16, .ref m17, .ref m18, .ref m19, .ref m20, .ref m21, .ref m22, .ref m23, .ref m24]), (st, eI G 2246 (upd (upd (upd (upd st0 (Int32.toNatClampNeg 10) a1) (Int32.toNatClampNeg 11) a2) (Int32.toNatClampNeg 12) a3) (Int32.toNatClampNeg 13) a4))]) [0, 1] rfl
          have hDc := hD.sub (ws' := [(mo, eO 10 [.ref st, .ref mi, .ref mk, .long 0, .long 1, .int 0, .ref m6, .ref m7, .int 0, .ref m9, .ref m10, .int 0, .int 0, .int 0, .int 0, .ref m15, .ref m16, .ref m17, .ref m18, .ref m19, .ref m20, .ref m21, .ref m22, .ref m23, .ref m24]), (st, eI G 2246 (upd (upd (upd (upd st0 (Int32.toNatClampNeg 10) a1) (Int32.toNatClampNeg 11) a2) (Int32.toNatClampNeg 12) a3) (Int32.toNatClampNeg 13) a4))]) [0, 1] (by decide) rfl
          have hFc := va_free (wc := [(mo, eO 10 [.ref st, .ref mi, .ref mk, .long 0, .long 1, .int 0, .ref m6, .ref m7, .int 0, .ref m9, .ref m10, .int 0, .int 0, .int 0, .int 0, .ref m15, .ref m16, .ref m17, .ref m18, .ref m19, .ref m20, .ref m21, .ref m22, .ref m23, .ref m24]), (st, eI G 2246 (upd (upd (upd (upd st0 (Int32.toNatClampNeg 10) a1) (Int32.toNatClampNeg 11) a2) (Int32.toNatClampNeg 12) a3) (Int32.toNatClampNeg 13) a4))]) hD hS hA [0, 1] rfl
          refine va_calli (va_runV (As := [.int 0]) (rest := []) ⟨hx, hb, hml, hown, hts⟩ (c_one0 l G H.size mo st mi mk m6 m7 m9 m10 m15 m16 m17 m18 m19 m20 m21 m22 m23 m24 0 0 1 0 0 0 0 0 0 (upd (upd (upd (upd st0 (Int32.toNatClampNeg 10) a1) (Int32.toNatClampNeg 11) a2) (Int32.toNatClampNeg 12) a3) (Int32.toNatClampNeg 13) a4) (by unfold vp_in; decide) (by first | rfl | decide)) (my_cwV hts ok_X11_one w_165 rfl rfl ⟨Nat.le_of_ble_eq_true rfl, Nat.le_of_ble_eq_true rfl⟩) ⟨wP.blind, va_recv hG.1 hPc (ci := 10) (q0 := 0) rfl rfl, fun U hU hW => ⟨rfl, by rw [hU], by rw [hU]; exact hPc, kG.warm hW hG, hDc.weaken (fun _ _ _ _ => trivial)⟩⟩ rfl rfl hl.1 rfl (lv_room (Nat.le_of_ble_eq_true rfl)) dX11_person_120 ⟨Nat.le_of_ble_eq_true rfl, Nat.le_of_ble_eq_true rfl⟩) hS (fun q _ h => hFc q h) hFc (fun r u t H1 locs ht hvm hw hB hz1 hk1 hS => ?_)
          obtain ⟨hP, hD⟩ := va_join (wr := []) (w1 := []) hP hD [0, 1] [] rfl rfl (by decide) (by decide) hk1 hFc my_P0 my_D0
          generalize H1 = H at hP hS ⊢
          have hP : va_P G.1 vwCl [] H := hP
          have hD : va_D A [] := hD
          subst hw
          exact W.iret (v := 0) hx hb hr (fun t ht hW => ⟨⟨_, (), rfl, (by simp [c_9, c_21, c_33, c_46]), trivial⟩, hS.F ht⟩) hS.2.2 dX11_person_123
        · refine lv_bipush (v := (-2)) hx hb dX11_person_49 (by decide) ?_
          exact W.iret (v := (-2)) hx hb hr (fun t ht hW => ⟨⟨_, (), rfl, (by simp [c_9, c_21, c_33, c_46]), trivial⟩, hS.F ht⟩) hS.2.2 dX11_person_51
set_option maxHeartbeats 4000000 in
set_option maxRecDepth 100000 in
theorem m_kin (l : Launch) (G : gW) (mo : Nat) (st : Nat) (mi : Nat) (mk : Nat) (m6 : Nat) (m7 : Nat) (m9 : Nat) (m10 : Nat) (m15 : Nat) (m16 : Nat) (m17 : Nat) (m18 : Nat) (m19 : Nat) (m20 : Nat) (m21 : Nat) (m22 : Nat) (m23 : Nat) (m24 : Nat) (a1 : Int32) (a2 : Int32) (a3 : Int32)  : Met l yX11_kin (wsT yX11_kin cX11_kin 5 (some .int)) ({ frames := 2, cells := 0, slots := 0, locals := 47 }) (rP G [.ref mo, .int a1, .int a2, .int a3] [(mo, eO 10 [.ref st, .ref mi, .ref mk, .long 0, .long 1, .int 0, .ref m6, .ref m7, .int 0, .ref m9, .ref m10, .int 0, .int 0, .int 0, .int 0, .ref m15, .ref m16, .ref m17, .ref m18, .ref m19, .ref m20, .ref m21, .ref m22, .ref m23, .ref m24]), (st, eI G 2246 st0)]) (rQi (fun r => r = (-2))) 0 0 fr0 := by
  refine Met.ofW (cc := cX11_kin) (maxL := 5) (ret := (some .int)) (by decide) rfl ?_
  intro p e s m args below meth c s₁ B hml hv
  obtain ⟨rfl, hP, hG⟩ := hv
  have hx := B.exec
  have hb := B.bytes
  have hr := B.returns
  have hts := my_hts (atoms_spec (ws := wsT yX11_kin cX11_kin 5 (some .int)) B.pre)
  have hown : s.vm.findClass RX11 = some m.cls := findClass_of_methodNamed B.named
  have hlocks := B.notSynchronized
  have hP : va_P G.1 vwCl [(mo, eO 10 [.ref st, .ref mi, .ref mk, .long 0, .long 1, .int 0, .ref m6, .ref m7, .int 0, .ref m9, .ref m10, .int 0, .int 0, .int 0, .int 0, .ref m15, .ref m16, .ref m17, .ref m18, .ref m19, .ref m20, .ref m21, .ref m22, .ref m23, .ref m24]), (st, eI G 2246 st0)] s.heap := hP
  have hl := lv_entry ([.ref mo, .int a1, .int a2, .int a3]) (n := 5) (Nat.le_of_ble_eq_true rfl)
  rw [lg_entry_eq]
  generalize (lg_sl ([.ref mo, .int a1, .int a2, .int a3]) ++ List.replicate (5 - (lg_sl ([.ref mo, .int a1, .int a2, .int a3])).length) Slot.unset).toArray = ls at hl ⊢
  have hl : lv_has ls 5 [(0, .ref mo), (1, .int a1), (2, .int a2), (3, .int a3)] := hl
  refine lv_aload_n hx hb dX11_kin_0 rfl (lv_at hl 0 rfl) ?_
  refine lv_iconst (v := 0) hx hb dX11_kin_1 (by decide) ?_
  refine lv_iload_n hx hb dX11_kin_2 rfl (lv_at hl 1 rfl) ?_
  have hPc := hP.sub (ws' := [(mo, eO 10 [.ref st, .ref mi, .ref mk, .long 0, .long 1, .int 0, .ref m6, .ref m7, .int 0, .ref m9, .ref m10, .int 0, .int 0, .int 0, .int 0, .ref m15, .ref m16, .ref m17, .ref m18, .ref m19, .ref m20, .ref m21, .ref m22, .ref m23, .ref m24]), (st, eI G 2246 st0)]) [0, 1] rfl
  refine rd_calli (va_runV (As := [.int 0, .int a1]) (rest := []) ⟨hx, hb, hml, hown, hts⟩ (c_is0 l G mo st mi mk m6 m7 m9 m10 m15 m16 m17 m18 m19 m20 m21 m22 m23 m24 0 a1 0 1 0 0 0 0 0 0 (by unfold vp_in; decide) (by decide)) (my_cwV hts ok_X11_is w_186 rfl rfl ⟨Nat.le_of_ble_eq_true rfl, Nat.le_of_ble_eq_true rfl⟩) ⟨rP.blind, va_recv hG.1 hPc (ci := 10) (q0 := 0) rfl rfl, fun U hU hW => ⟨rfl, by rw [hU]; exact hPc, kG.warm hW hG⟩⟩ rfl rfl hl.1 rfl (lv_room (Nat.le_of_ble_eq_true rfl)) dX11_kin_3 ⟨Nat.le_of_ble_eq_true rfl, Nat.le_of_ble_eq_true rfl⟩) (fun r hr9 => ?_)
  subst hr9
  refine lv_if_eq (tgt := 28) hx hb dX11_kin_6 (by decide) (fun c_6 => ?_) (fun c_6 => absurd (by decide) c_6)
  refine lv_bipush (v := (-2)) hx hb dX11_kin_28 (by decide) ?_
  exact W.iret (v := (-2)) hx hb hr (fun t ht hW => ⟨_, rfl, (rfl), ht⟩) (fun _ h => absurd h List.not_mem_nil) dX11_kin_30
set_option maxHeartbeats 4000000 in
set_option maxRecDepth 100000 in
theorem m_roll (l : Launch) (G : gW) (sz : Nat) (mo : Nat) (st : Nat) (mi : Nat) (mk : Nat) (m6 : Nat) (m7 : Nat) (m9 : Nat) (m10 : Nat) (m15 : Nat) (m16 : Nat) (m17 : Nat) (m18 : Nat) (m19 : Nat) (m20 : Nat) (m21 : Nat) (m22 : Nat) (m23 : Nat) (m24 : Nat) (a1 : Int32) (a2 : Int32) (a3 : Int32)  : Met l yX11_roll (wsT yX11_roll cX11_roll 5 (some .int)) ({ frames := 2, cells := 0, slots := 0, locals := 45 }) (wP G [.ref mo, .int a1, .int a2, .int a3] sz [(mo, eO 10 [.ref st, .ref mi, .ref mk, .long 0, .long 1, .int 0, .ref m6, .ref m7, .int 0, .ref m9, .ref m10, .int 0, .int 0, .int 0, .int 0, .ref m15, .ref m16, .ref m17, .ref m18, .ref m19, .ref m20, .ref m21, .ref m22, .ref m23, .ref m24]), (st, eI G 2246 st0)]) (va_Qi (fun (r : Int32) (_ : Unit) => r = if a1 = 0 ∧ (inB 0 a2 199 = true) ∧ (inB 0 a3 9999 = true) then 0 else (-2)) (fun _ _ => True) (va_A [(mo, eO 10 [.ref st, .ref mi, .ref mk, .long 0, .long 1, .int 0, .ref m6, .ref m7, .int 0, .ref m9, .ref m10, .int 0, .int 0, .int 0, .int 0, .ref m15, .ref m16, .ref m17, .ref m18, .ref m19, .ref m20, .ref m21, .ref m22, .ref m23, .ref m24]), (st, eI G 2246 st0)] sz)) 0 0 (va_A [(mo, eO 10 [.ref st, .ref mi, .ref mk, .long 0, .long 1, .int 0, .ref m6, .ref m7, .int 0, .ref m9, .ref m10, .int 0, .int 0, .int 0, .int 0, .ref m15, .ref m16, .ref m17, .ref m18, .ref m19, .ref m20, .ref m21, .ref m22, .ref m23, .ref m24]), (st, eI G 2246 st0)] sz) := by
  refine Met.ofW (cc := cX11_roll) (maxL := 5) (ret := (some .int)) (by decide) rfl ?_
  intro p e s m args below meth c s₁ B hml hv
  obtain ⟨rfl, hsz, hP, hG, hD0⟩ := hv
  have hx := B.exec
  have hb := B.bytes
  have hr := B.returns
  have hts := my_hts (atoms_spec (ws := wsT yX11_roll cX11_roll 5 (some .int)) B.pre)
  have hown : s.vm.findClass RX11 = some m.cls := findClass_of_methodNamed B.named
  have hlocks := B.notSynchronized
  subst hsz
  have hD := hD0.self (sz := s.heap.size)
  generalize hAe : va_A [(mo, eO 10 [.ref st, .ref mi, .ref mk, .long 0, .long 1, .int 0, .ref m6, .ref m7, .int 0, .ref m9, .ref m10, .int 0, .int 0, .int 0, .int 0, .ref m15, .ref m16, .ref m17, .ref m18, .ref m19, .ref m20, .ref m21, .ref m22, .ref m23, .ref m24]), (st, eI G 2246 st0)] s.heap.size = A at hD ⊢
  have hA : ∀ q : Nat, s.heap.size ≤ q → A q := fun q h => by rw [← hAe]; exact Or.inr h
  have hS : va_S A s.heap s.heap [] := va_S.rf
  have hP : va_P G.1 vwCl [(mo, eO 10 [.ref st, .ref mi, .ref mk, .long 0, .long 1, .int 0, .ref m6, .ref m7, .int 0, .ref m9, .ref m10, .int 0, .int 0, .int 0, .int 0, .ref m15, .ref m16, .ref m17, .ref m18, .ref m19, .ref m20, .ref m21, .ref m22, .ref m23, .ref m24]), (st, eI G 2246 st0)] s.heap := hP
  have hl := lv_entry ([.ref mo, .int a1, .int a2, .int a3]) (n := 5) (Nat.le_of_ble_eq_true rfl)
  rw [lg_entry_eq]
  generalize (lg_sl ([.ref mo, .int a1, .int a2, .int a3]) ++ List.replicate (5 - (lg_sl ([.ref mo, .int a1, .int a2, .int a3])).length) Slot.unset).toArray = ls at hl ⊢
  have hl : lv_has ls 5 [(0, .ref mo), (1, .int a1), (2, .int a2), (3, .int a3)] := hl
  refine lv_iload_n hx hb dX11_roll_0 rfl (lv_at hl 1 rfl) ?_
  refine lv_i2l hx hb dX11_roll_1 rfl ?_
  refine lv_lconst (v := 0) hx hb dX11_roll_2 (by decide) ?_
  refine my_bel (v := Int32.toInt64 0) (by decide) ?_
  refine lv_aload_n hx hb dX11_roll_3 rfl (lv_at hl 0 rfl) ?_
  have hPc := hP.sub (ws' := [(mo, eO 10 [.ref st, .ref mi, .ref mk, .long 0, .long 1, .int 0, .ref m6, .ref m7, .int 0, .ref m9, .ref m10, .int 0, .int 0, .int 0, .int 0, .ref m15, .ref m16, .ref m17, .ref m18, .ref m19, .ref m20, .ref m21, .ref m22, .ref m23, .ref m24]), (st, eI G 2246 st0)]) [0, 1] rfl
  refine rd_calli (va_runV (As := []) (rest := [.long (Int32.toInt64 0), .long (Int32.toInt64 a1)]) ⟨hx, hb, hml, hown, hts⟩ (c_mpeople0 l G mo st mi mk m6 m7 m9 m10 m15 m16 m17 m18 m19 m20 m21 m22 m23 m24 0 1 0 0 0 0 0 0 ) (my_cwV hts ok_X11_people w_213 rfl rfl ⟨Nat.le_of_ble_eq_true rfl, Nat.le_of_ble_eq_true rfl⟩) ⟨rP.blind, va_recv hG.1 hPc (ci := 10) (q0 := 0) rfl rfl, fun U hU hW => ⟨rfl, by rw [hU]; exact hPc, kG.warm hW hG⟩⟩ rfl rfl hl.1 rfl (lv_room (Nat.le_of_ble_eq_true rfl)) dX11_roll_4 ⟨Nat.le_of_ble_eq_true rfl, Nat.le_of_ble_eq_true rfl⟩) (fun r hr9 => ?_)
  subst hr9
  refine lv_i2l hx hb dX11_roll_7 rfl ?_
  have hPc := hP.sub (ws' := []) [] rfl
  refine rd_calli (va_runS (As := [.long (Int32.toInt64 a1), .long (Int32.toInt64 0), .long (Int32.toInt64 0)]) (rest := []) ⟨hx, hb, hml, hown, hts⟩ (c_in l G a1 0 0 ) (my_cwS hts ok_X11_in w_162 rfl rfl ⟨Nat.le_of_ble_eq_true rfl, Nat.le_of_ble_eq_true rfl⟩) ⟨rP.blind, fun U hU hW => ⟨rfl, by rw [hU]; exact hPc, kG.warm hW hG⟩⟩ rfl rfl hl.1 rfl (lv_room (Nat.le_of_ble_eq_true rfl)) dX11_roll_8 ⟨Nat.le_of_ble_eq_true rfl, Nat.le_of_ble_eq_true rfl⟩) (fun r hr9 => ?_)
  subst hr9
  refine my_bei (v := b2 (a1 = 0)) (b2_iff inB_z) ?_
  refine my_ifeq (tgt := 33) hx hb dX11_roll_11 (by decide) (fun c_11 => ?_) (fun c_11 => ?_)
  · refine lv_bipush (v := (-2)) hx hb dX11_roll_33 (by decide) ?_
    exact W.iret (v := (-2)) hx hb hr (fun t ht hW => ⟨⟨_, (), rfl, (by simp [c_11]), trivial⟩, hS.F ht⟩) hS.2.2 dX11_roll_35
  · refine lv_iload_n hx hb dX11_roll_14 rfl (lv_at hl 2 rfl) ?_
    refine lv_i2l hx hb dX11_roll_15 rfl ?_
    refine lv_lconst (v := 0) hx hb dX11_roll_16 (by decide) ?_
    refine my_bel (v := Int32.toInt64 0) (by decide) ?_
    refine lv_ldc2 (v := 199) hx hb hown (hts (.constantLong RX11 101 (199)) w_212) dX11_roll_17 ?_
    refine my_bel (v := Int32.toInt64 199) (by decide) ?_
    have hPc := hP.sub (ws' := []) [] rfl
    refine rd_calli (va_runS (As := [.long (Int32.toInt64 a2), .long (Int32.toInt64 0), .long (Int32.toInt64 199)]) (rest := []) ⟨hx, hb, hml, hown, hts⟩ (c_in l G a2 0 199 ) (my_cwS hts ok_X11_in w_162 rfl rfl ⟨Nat.le_of_ble_eq_true rfl, Nat.le_of_ble_eq_true rfl⟩) ⟨rP.blind, fun U hU hW => ⟨rfl, by rw [hU]; exact hPc, kG.warm hW hG⟩⟩ rfl rfl hl.1 rfl (lv_room (Nat.le_of_ble_eq_true rfl)) dX11_roll_20 ⟨Nat.le_of_ble_eq_true rfl, Nat.le_of_ble_eq_true rfl⟩) (fun r hr9 => ?_)
    subst hr9
    refine my_ifeq (tgt := 33) hx hb dX11_roll_23 (by decide) (fun c_23 => ?_) (fun c_23 => ?_)
    · refine lv_bipush (v := (-2)) hx hb dX11_roll_33 (by decide) ?_
      exact W.iret (v := (-2)) hx hb hr (fun t ht hW => ⟨⟨_, (), rfl, (by simp [c_11, c_23]), trivial⟩, hS.F ht⟩) hS.2.2 dX11_roll_35
    · refine lv_iload_n hx hb dX11_roll_26 rfl (lv_at hl 3 rfl) ?_
      have hPc := hP.sub (ws' := []) [] rfl
      refine rd_calli (va_runS (As := [.int a3]) (rest := []) ⟨hx, hb, hml, hown, hts⟩ (c_misDay l G a3 ) (my_cwS hts ok_X11_isDay w_190 rfl rfl ⟨Nat.le_of_ble_eq_true rfl, Nat.le_of_ble_eq_true rfl⟩) ⟨rP.blind, fun U hU hW => ⟨rfl, by rw [hU]; exact hPc, kG.warm hW hG⟩⟩ rfl rfl hl.1 rfl (lv_room (Nat.le_of_ble_eq_true rfl)) dX11_roll_27 ⟨Nat.le_of_ble_eq_true rfl, Nat.le_of_ble_eq_true rfl⟩) (fun r hr9 => ?_)
      subst hr9
      refine my_ifne (tgt := 36) hx hb dX11_roll_30 (by decide) (fun c_30 => ?_) (fun c_30 => ?_)
      · refine lv_aload_n hx hb dX11_roll_36 rfl (lv_at hl 0 rfl) ?_
        refine va_get (D := G.1) (ci := 10) (v := .ref st) (C := RX11) (T := TX11) (N := 25) hx hb hts inlX11 hown hG.1 hP 0 rfl rfl 0 (by decide) (hts (.fieldLink RX11 7 "SwornListsModel" "st" "[I") w_112) (fun _ h9 => h9) rfl dX11_roll_37 ?_
        refine lv_iconst (v := 2) hx hb dX11_roll_40 (by decide) ?_
        refine va_iald hx hb hG.1 hP 1 0 rfl rfl (by unfold vp_in; decide) dX11_roll_41 ?_
        refine my_bei (v := 0) (by first | rfl | decide) ?_
        refine lv_iconst (v := 4) hx hb dX11_roll_42 (by decide) ?_
        refine lv_icmp_ne (tgt := 49) hx hb dX11_roll_43 (by decide) (fun c_43 => ?_) (fun c_43 => absurd c_43 (by decide))
        refine lv_sipush (v := 250) hx hb dX11_roll_49 (by decide) ?_
        refine lv_iconst (v := 3) hx hb dX11_roll_52 (by decide) ?_
        refine lv_aload_n hx hb dX11_roll_53 rfl (lv_at hl 0 rfl) ?_
        refine va_get (D := G.1) (ci := 10) (v := .ref st) (C := RX11) (T := TX11) (N := 25) hx hb hts inlX11 hown hG.1 hP 0 rfl rfl 0 (by decide) (hts (.fieldLink RX11 7 "SwornListsModel" "st" "[I") w_112) (fun _ h9 => h9) rfl dX11_roll_54 ?_
        refine lv_iconst (v := 2) hx hb dX11_roll_57 (by decide) ?_
        refine va_iald hx hb hG.1 hP 1 0 rfl rfl (by unfold vp_in; decide) dX11_roll_58 ?_
        refine my_bei (v := 0) (by first | rfl | decide) ?_
        refine lv_imul hx hb dX11_roll_59 ?_
        refine my_bei (v := 0) (by decide) ?_
        refine lv_iadd hx hb dX11_roll_60 ?_
        refine my_bei (v := 250) (by decide) ?_
        refine lv_istore (lv' := [(4, .int 250), (0, .ref mo), (1, .int a1), (2, .int a2), (3, .int a3)]) hx hb dX11_roll_61 hl (by decide) rfl (fun ls hl => ?_)
        refine lv_aload_n hx hb dX11_roll_63 rfl (lv_at hl 1 rfl) ?_
        refine va_get (D := G.1) (ci := 10) (v := .ref st) (C := RX11) (T := TX11) (N := 25) hx hb hts inlX11 hown hG.1 hP 0 rfl rfl 0 (by decide) (hts (.fieldLink RX11 7 "SwornListsModel" "st" "[I") w_112) (fun _ h9 => h9) rfl dX11_roll_64 ?_
        refine lv_iload hx hb dX11_roll_67 (lv_at hl 0 rfl) ?_
        refine lv_iload_n hx hb dX11_roll_69 rfl (lv_at hl 2 rfl) ?_
        refine va_iast hx hb hG.1 hP hD hS 1 0 rfl rfl (by unfold vp_in; decide) dX11_roll_70 (fun H locs hP hD hS => ?_)
        have hP : va_P G.1 vwCl [(mo, eO 10 [.ref st, .ref mi, .ref mk, .long 0, .long 1, .int 0, .ref m6, .ref m7, .int 0, .ref m9, .ref m10, .int 0, .int 0, .int 0, .int 0, .ref m15, .ref m16, .ref m17, .ref m18, .ref m19, .ref m20, .ref m21, .ref m22, .ref m23, .ref m24]), (st, eI G 2246 (upd st0 (Int32.toNatClampNeg 250) a1))] H := hP
        have hD : va_D A [(mo, eO 10 [.ref st, .ref mi, .ref mk, .long 0, .long 1, .int 0, .ref m6, .ref m7, .int 0, .ref m9, .ref m10, .int 0, .int 0, .int 0, .int 0, .ref m15, .ref m16, .ref m17, .ref m18, .ref m19, .ref m20, .ref m21, .ref m22, .ref m23, .ref m24]), (st, eI G 2246 (upd st0 (Int32.toNatClampNeg 250) a1))] := hD
        refine lv_aload_n hx hb dX11_roll_71 rfl (lv_at hl 1 rfl) ?_
        refine va_get (D := G.1) (ci := 10) (v := .ref st) (C := RX11) (T := TX11) (N := 25) hx hb hts inlX11 hown hG.1 hP 0 rfl rfl 0 (by decide) (hts (.fieldLink RX11 7 "SwornListsModel" "st" "[I") w_112) (fun _ h9 => h9) rfl dX11_roll_72 ?_
        refine lv_iload hx hb dX11_roll_75 (lv_at hl 0 rfl) ?_
        refine lv_iconst (v := 1) hx hb dX11_roll_77 (by decide) ?_
        refine lv_iadd hx hb dX11_roll_78 ?_
        refine my_bei (v := 251) (by decide) ?_
        refine lv_iload_n hx hb dX11_roll_79 rfl (lv_at hl 3 rfl) ?_
        refine va_iast hx hb hG.1 hP hD hS 1 0 rfl rfl (by unfold vp_in; decide) dX11_roll_80 (fun H locs hP hD hS => ?_)
        have hP : va_P G.1 vwCl [(mo, eO 10 [.ref st, .ref mi, .ref mk, .long 0, .long 1, .int 0, .ref m6, .ref m7, .int 0, .ref m9, .ref m10, .int 0, .int 0, .int 0, .int 0, .ref m15, .ref m16, .ref m17, .ref m18, .ref m19, .ref m20, .ref m21, .ref m22, .ref m23, .ref m24]), (st, eI G 2246 (upd (upd st0 (Int32.toNatClampNeg 250) a1) (Int32.toNatClampNeg 251) a2))] H := hP
        have hD : va_D A [(mo, eO 10 [.ref st, .ref mi, .ref mk, .long 0, .long 1, .int 0, .ref m6, .ref m7, .int 0, .ref m9, .ref m10, .int 0, .int 0, .int 0, .int 0, .ref m15, .ref m16, .ref m17, .ref m18, .ref m19, .ref m20, .ref m21, .ref m22, .ref m23, .ref m24]), (st, eI G 2246 (upd (upd st0 (Int32.toNatClampNeg 250) a1) (Int32.toNatClampNeg 251) a2))] := hD
        refine lv_aload_n hx hb dX11_roll_81 rfl (lv_at hl 1 rfl) ?_
        refine va_get (D := G.1) (ci := 10) (v := .ref st) (C := RX11) (T := TX11) (N := 25) hx hb hts inlX11 hown hG.1 hP 0 rfl rfl 0 (by decide) (hts (.fieldLink RX11 7 "SwornListsModel" "st" "[I") w_112) (fun _ h9 => h9) rfl dX11_roll_82 ?_
        refine lv_iload hx hb dX11_roll_85 (lv_at hl 0 rfl) ?_
        refine lv_iconst (v := 2) hx hb dX11_roll_87 (by decide) ?_
        refine lv_iadd hx hb dX11_roll_88 ?_
        refine my_bei (v := 252) (by decide) ?_
        refine lv_iload_n hx hb dX11_roll_89 rfl (lv_at hl 4 rfl) ?_
        refine va_iast hx hb hG.1 hP hD hS 1 0 rfl rfl (by unfold vp_in; decide) dX11_roll_90 (fun H locs hP hD hS => ?_)
        have hP : va_P G.1 vwCl [(mo, eO 10 [.ref st, .ref mi, .ref mk, .long 0, .long 1, .int 0, .ref m6, .ref m7, .int 0, .ref m9, .ref m10, .int 0, .int 0, .int 0, .int 0, .ref m15, .ref m16, .ref m17, .ref m18, .ref m19, .ref m20, .ref m21, .ref m22, .ref m23, .ref m24]), (st, eI G 2246 (upd (upd (upd st0 (Int32.toNatClampNeg 250) a1) (Int32.toNatClampNeg 251) a2) (Int32.toNatClampNeg 252) a3))] H := hP
        have hD : va_D A [(mo, eO 10 [.ref st, .ref mi, .ref mk, .long 0, .long 1, .int 0, .ref m6, .ref m7, .int 0, .ref m9, .ref m10, .int 0, .int 0, .int 0, .int 0, .ref m15, .ref m16, .ref m17, .ref m18, .ref m19, .ref m20, .ref m21, .ref m22, .ref m23, .ref m24]), (st, eI G 2246 (upd (upd (upd st0 (Int32.toNatClampNeg 250) a1) (Int32.toNatClampNeg 251) a2) (Int32.toNatClampNeg 252) a3))] := hD
        refine lv_aload_n hx hb dX11_roll_91 rfl (lv_at hl 1 rfl) ?_
        refine lv_iconst (v := 2) hx hb dX11_roll_92 (by decide) ?_
        have hPc := hP.sub (ws' := [(mo, eO 10 [.ref st, .ref mi, .ref mk, .long 0, .long 1, .int 0, .ref m6, .ref m7, .int 0, .ref m9, .ref m10, .int 0, .int 0, .int 0, .int 0, .ref m15, .ref m16, .ref m17, .ref m18, .ref m19, .ref m20, .ref m21, .ref m22, .ref m23, .ref m24]), (st, eI G 2246 (upd (upd (upd st0 (Int32.toNatClampNeg 250) a1) (Int32.toNatClampNeg 251) a2) (Int32.toNatClampNeg 252) a3))]) [0, 1] rfl
        have hDc := hD.sub (ws' := [(mo, eO 10 [.ref st, .ref mi, .ref mk, .long 0, .long 1, .int 0, .ref m6, .ref m7, .int 0, .ref m9, .ref m10, .int 0, .int 0, .int 0, .int 0, .ref m15, .ref m16, .ref m17, .ref m18, .ref m19, .ref m20, .ref m21, .ref m22, .ref m23, .ref m24]), (st, eI G 2246 (upd (upd (upd st0 (Int32.toNatClampNeg 250) a1) (Int32.toNatClampNeg 251) a2) (Int32.toNatClampNeg 252) a3))]) [0, 1] (by decide) rfl
        have hFc := va_free (wc := [(mo, eO 10 [.ref st, .ref mi, .ref mk, .long 0, .long 1, .int 0, .ref m6, .ref m7, .int 0, .ref m9, .ref m10, .int 0, .int 0, .int 0, .int 0, .ref m15, .ref m16, .ref m17, .ref m18, .ref m19, .ref m20, .ref m21, .ref m22, .ref m23, .ref m24]), (st, eI G 2246 (upd (upd (upd st0 (Int32.toNatClampNeg 250) a1) (Int32.toNatClampNeg 251) a2) (Int32.toNatClampNeg 252) a3))]) hD hS hA [0, 1] rfl
        refine va_calli (va_runV (As := [.int 2]) (rest := []) ⟨hx, hb, hml, hown, hts⟩ (c_one0 l G H.size mo st mi mk m6 m7 m9 m10 m15 m16 m17 m18 m19 m20 m21 m22 m23 m24 2 0 1 0 0 0 0 0 0 (upd (upd (upd st0 (Int32.toNatClampNeg 250) a1) (Int32.toNatClampNeg 251) a2) (Int32.toNatClampNeg 252) a3) (by unfold vp_in; decide) (by first | rfl | decide)) (my_cwV hts ok_X11_one w_165 rfl rfl ⟨Nat.le_of_ble_eq_true rfl, Nat.le_of_ble_eq_true rfl⟩) ⟨wP.blind, va_recv hG.1 hPc (ci := 10) (q0 := 0) rfl rfl, fun U hU hW => ⟨rfl, by rw [hU], by rw [hU]; exact hPc, kG.warm hW hG, hDc.weaken (fun _ _ _ _ => trivial)⟩⟩ rfl rfl hl.1 rfl (lv_room (Nat.le_of_ble_eq_true rfl)) dX11_roll_93 ⟨Nat.le_of_ble_eq_true rfl, Nat.le_of_ble_eq_true rfl⟩) hS (fun q _ h => hFc q h) hFc (fun r u t H1 locs ht hvm hw hB hz1 hk1 hS => ?_)
        obtain ⟨hP, hD⟩ := va_join (wr := []) (w1 := []) hP hD [0, 1] [] rfl rfl (by decide) (by decide) hk1 hFc my_P0 my_D0
        generalize H1 = H at hP hS ⊢
        have hP : va_P G.1 vwCl [] H := hP
        have hD : va_D A [] := hD
        subst hw
        exact W.iret (v := 0) hx hb hr (fun t ht hW => ⟨⟨_, (), rfl, (by simp [c_11, c_23, c_30]), trivial⟩, hS.F ht⟩) hS.2.2 dX11_roll_96
      · refine lv_bipush (v := (-2)) hx hb dX11_roll_33 (by decide) ?_
        exact W.iret (v := (-2)) hx hb hr (fun t ht hW => ⟨⟨_, (), rfl, (by simp [c_11, c_23, c_30]), trivial⟩, hS.F ht⟩) hS.2.2 dX11_roll_35
set_option maxHeartbeats 4000000 in
set_option maxRecDepth 100000 in
theorem m_rollOf (l : Launch) (G : gW) (mo : Nat) (st : Nat) (mi : Nat) (mk : Nat) (m6 : Nat) (m7 : Nat) (m9 : Nat) (m10 : Nat) (m15 : Nat) (m16 : Nat) (m17 : Nat) (m18 : Nat) (m19 : Nat) (m20 : Nat) (m21 : Nat) (m22 : Nat) (m23 : Nat) (m24 : Nat) (a1 : Int32)  : Met l yX11_rollOf (wsT yX11_rollOf cX11_rollOf 2 (some .int)) ({ frames := 2, cells := 0, slots := 0, locals := 45 }) (rP G [.ref mo, .int a1] [(mo, eO 10 [.ref st, .ref mi, .ref mk, .long 0, .long 1, .int 0, .ref m6, .ref m7, .int 0, .ref m9, .ref m10, .int 0, .int 0, .int 0, .int 0, .ref m15, .ref m16, .ref m17, .ref m18, .ref m19, .ref m20, .ref m21, .ref m22, .ref m23, .ref m24]), (st, eI G 2246 st0)]) (rQi (fun r => r = if inB 0 a1 9999 = true then 0 else (-2))) 0 0 fr0 := by
  refine Met.ofW (cc := cX11_rollOf) (maxL := 2) (ret := (some .int)) (by decide) rfl ?_
  intro p e s m args below meth c s₁ B hml hv
  obtain ⟨rfl, hP, hG⟩ := hv
  have hx := B.exec
  have hb := B.bytes
  have hr := B.returns
  have hts := my_hts (atoms_spec (ws := wsT yX11_rollOf cX11_rollOf 2 (some .int)) B.pre)
  have hown : s.vm.findClass RX11 = some m.cls := findClass_of_methodNamed B.named
  have hlocks := B.notSynchronized
  have hP : va_P G.1 vwCl [(mo, eO 10 [.ref st, .ref mi, .ref mk, .long 0, .long 1, .int 0, .ref m6, .ref m7, .int 0, .ref m9, .ref m10, .int 0, .int 0, .int 0, .int 0, .ref m15, .ref m16, .ref m17, .ref m18, .ref m19, .ref m20, .ref m21, .ref m22, .ref m23, .ref m24]), (st, eI G 2246 st0)] s.heap := hP
  have hl := lv_entry ([.ref mo, .int a1]) (n := 2) (Nat.le_of_ble_eq_true rfl)
  rw [lg_entry_eq]
  generalize (lg_sl ([.ref mo, .int a1]) ++ List.replicate (2 - (lg_sl ([.ref mo, .int a1])).length) Slot.unset).toArray = ls at hl ⊢
  have hl : lv_has ls 2 [(0, .ref mo), (1, .int a1)] := hl
  refine lv_iload_n hx hb dX11_rollOf_0 rfl (lv_at hl 1 rfl) ?_
  have hPc := hP.sub (ws' := []) [] rfl
  refine rd_calli (va_runS (As := [.int a1]) (rest := []) ⟨hx, hb, hml, hown, hts⟩ (c_misDay l G a1 ) (my_cwS hts ok_X11_isDay w_190 rfl rfl ⟨Nat.le_of_ble_eq_true rfl, Nat.le_of_ble_eq_true rfl⟩) ⟨rP.blind, fun U hU hW => ⟨rfl, by rw [hU]; exact hPc, kG.warm hW hG⟩⟩ rfl rfl hl.1 rfl (lv_room (Nat.le_of_ble_eq_true rfl)) dX11_rollOf_1 ⟨Nat.le_of_ble_eq_true rfl, Nat.le_of_ble_eq_true rfl⟩) (fun r hr9 => ?_)
  subst hr9
  refine my_ifeq (tgt := 15) hx hb dX11_rollOf_4 (by decide) (fun c_4 => ?_) (fun c_4 => ?_)
  · refine lv_bipush (v := (-2)) hx hb dX11_rollOf_15 (by decide) ?_
    exact W.iret (v := (-2)) hx hb hr (fun t ht hW => ⟨_, rfl, (by simp [c_4]), ht⟩) (fun _ h => absurd h List.not_mem_nil) dX11_rollOf_17
  · refine lv_aload_n hx hb dX11_rollOf_7 rfl (lv_at hl 0 rfl) ?_
    refine lv_iload_n hx hb dX11_rollOf_8 rfl (lv_at hl 1 rfl) ?_
    have hPc := hP.sub (ws' := [(mo, eO 10 [.ref st, .ref mi, .ref mk, .long 0, .long 1, .int 0, .ref m6, .ref m7, .int 0, .ref m9, .ref m10, .int 0, .int 0, .int 0, .int 0, .ref m15, .ref m16, .ref m17, .ref m18, .ref m19, .ref m20, .ref m21, .ref m22, .ref m23, .ref m24]), (st, eI G 2246 st0)]) [0, 1] rfl
    refine rd_calli (va_runV (As := [.int a1]) (rest := []) ⟨hx, hb, hml, hown, hts⟩ (c_theRoll0 l G mo st mi mk m6 m7 m9 m10 m15 m16 m17 m18 m19 m20 m21 m22 m23 m24 a1 0 1 0 0 0 0 0 0 ) (my_cwV hts ok_X11_theRoll w_234 rfl rfl ⟨Nat.le_of_ble_eq_true rfl, Nat.le_of_ble_eq_true rfl⟩) ⟨rP.blind, va_recv hG.1 hPc (ci := 10) (q0 := 0) rfl rfl, fun U hU hW => ⟨rfl, by rw [hU]; exact hPc, kG.warm hW hG⟩⟩ rfl rfl hl.1 rfl (lv_room (Nat.le_of_ble_eq_true rfl)) dX11_rollOf_9 ⟨Nat.le_of_ble_eq_true rfl, Nat.le_of_ble_eq_true rfl⟩) (fun r hr9 => ?_)
    subst hr9
    refine lv_goto (tgt := 17) hx hb dX11_rollOf_12 (by decide) ?_
    exact W.iret (v := 0) hx hb hr (fun t ht hW => ⟨_, rfl, (by simp [c_4]), ht⟩) (fun _ h => absurd h List.not_mem_nil) dX11_rollOf_17
set_option maxHeartbeats 4000000 in
set_option maxRecDepth 100000 in
theorem m_write (l : Launch) (G : gW) (sz : Nat) (mo : Nat) (st : Nat) (mi : Nat) (mk : Nat) (m6 : Nat) (m7 : Nat) (m9 : Nat) (m10 : Nat) (m15 : Nat) (m16 : Nat) (m17 : Nat) (m18 : Nat) (m19 : Nat) (m20 : Nat) (m21 : Nat) (m22 : Nat) (m23 : Nat) (m24 : Nat) (a1 : Int32) (a2 : Int32)  : Met l yX11_write (wsT yX11_write cX11_write 4 (some .int)) ({ frames := 2, cells := 0, slots := 0, locals := 45 }) (wP G [.ref mo, .int a1, .int a2] sz [(mo, eO 10 [.ref st, .ref mi, .ref mk, .long 0, .long 1, .int 0, .ref m6, .ref m7, .int 0, .ref m9, .ref m10, .int 0, .int 0, .int 0, .int 0, .ref m15, .ref m16, .ref m17, .ref m18, .ref m19, .ref m20, .ref m21, .ref m22, .ref m23, .ref m24]), (st, eI G 2246 st0)]) (va_Qi (fun (r : Int32) (_ : Unit) => r = if (inB 0 a1 3 = true) ∧ (inB 0 a2 127 = true) then 1 else (-2)) (fun _ _ => True) (va_A [(mo, eO 10 [.ref st, .ref mi, .ref mk, .long 0, .long 1, .int 0, .ref m6, .ref m7, .int 0, .ref m9, .ref m10, .int 0, .int 0, .int 0, .int 0, .ref m15, .ref m16, .ref m17, .ref m18, .ref m19, .ref m20, .ref m21, .ref m22, .ref m23, .ref m24]), (st, eI G 2246 st0)] sz)) 0 0 (va_A [(mo, eO 10 [.ref st, .ref mi, .ref mk, .long 0, .long 1, .int 0, .ref m6, .ref m7, .int 0, .ref m9, .ref m10, .int 0, .int 0, .int 0, .int 0, .ref m15, .ref m16, .ref m17, .ref m18, .ref m19, .ref m20, .ref m21, .ref m22, .ref m23, .ref m24]), (st, eI G 2246 st0)] sz) := by
  refine Met.ofW (cc := cX11_write) (maxL := 4) (ret := (some .int)) (by decide) rfl ?_
  intro p e s m args below meth c s₁ B hml hv
  obtain ⟨rfl, hsz, hP, hG, hD0⟩ := hv
  have hx := B.exec
  have hb := B.bytes
  have hr := B.returns
  have hts := my_hts (atoms_spec (ws := wsT yX11_write cX11_write 4 (some .int)) B.pre)
  have hown : s.vm.findClass RX11 = some m.cls := findClass_of_methodNamed B.named
  have hlocks := B.notSynchronized
  subst hsz
  have hD := hD0.self (sz := s.heap.size)
  generalize hAe : va_A [(mo, eO 10 [.ref st, .ref mi, .ref mk, .long 0, .long 1, .int 0, .ref m6, .ref m7, .int 0, .ref m9, .ref m10, .int 0, .int 0, .int 0, .int 0, .ref m15, .ref m16, .ref m17, .ref m18, .ref m19, .ref m20, .ref m21, .ref m22, .ref m23, .ref m24]), (st, eI G 2246 st0)] s.heap.size = A at hD ⊢
  have hA : ∀ q : Nat, s.heap.size ≤ q → A q := fun q h => by rw [← hAe]; exact Or.inr h
  have hS : va_S A s.heap s.heap [] := va_S.rf
  have hP : va_P G.1 vwCl [(mo, eO 10 [.ref st, .ref mi, .ref mk, .long 0, .long 1, .int 0, .ref m6, .ref m7, .int 0, .ref m9, .ref m10, .int 0, .int 0, .int 0, .int 0, .ref m15, .ref m16, .ref m17, .ref m18, .ref m19, .ref m20, .ref m21, .ref m22, .ref m23, .ref m24]), (st, eI G 2246 st0)] s.heap := hP
  have hl := lv_entry ([.ref mo, .int a1, .int a2]) (n := 4) (Nat.le_of_ble_eq_true rfl)
  rw [lg_entry_eq]
  generalize (lg_sl ([.ref mo, .int a1, .int a2]) ++ List.replicate (4 - (lg_sl ([.ref mo, .int a1, .int a2])).length) Slot.unset).toArray = ls at hl ⊢
  have hl : lv_has ls 4 [(0, .ref mo), (1, .int a1), (2, .int a2)] := hl
  refine lv_iload_n hx hb dX11_write_0 rfl (lv_at hl 1 rfl) ?_
  have hPc := hP.sub (ws' := []) [] rfl
  refine rd_calli (va_runS (As := [.int a1]) (rest := []) ⟨hx, hb, hml, hown, hts⟩ (c_misText l G a1 ) (my_cwS hts ok_X11_isText w_259 rfl rfl ⟨Nat.le_of_ble_eq_true rfl, Nat.le_of_ble_eq_true rfl⟩) ⟨rP.blind, fun U hU hW => ⟨rfl, by rw [hU]; exact hPc, kG.warm hW hG⟩⟩ rfl rfl hl.1 rfl (lv_room (Nat.le_of_ble_eq_true rfl)) dX11_write_1 ⟨Nat.le_of_ble_eq_true rfl, Nat.le_of_ble_eq_true rfl⟩) (fun r hr9 => ?_)
  subst hr9
  refine my_ifeq (tgt := 19) hx hb dX11_write_4 (by decide) (fun c_4 => ?_) (fun c_4 => ?_)
  · refine lv_bipush (v := (-2)) hx hb dX11_write_19 (by decide) ?_
    exact W.iret (v := (-2)) hx hb hr (fun t ht hW => ⟨⟨_, (), rfl, (by simp [c_4]), trivial⟩, hS.F ht⟩) hS.2.2 dX11_write_21
  · refine lv_iload_n hx hb dX11_write_7 rfl (lv_at hl 2 rfl) ?_
    refine lv_i2l hx hb dX11_write_8 rfl ?_
    refine lv_lconst (v := 0) hx hb dX11_write_9 (by decide) ?_
    refine my_bel (v := Int32.toInt64 0) (by decide) ?_
    refine lv_ldc2 (v := 127) hx hb hown (hts (.constantLong RX11 169 (127)) w_258) dX11_write_10 ?_
    refine my_bel (v := Int32.toInt64 127) (by decide) ?_
    have hPc := hP.sub (ws' := []) [] rfl
    refine rd_calli (va_runS (As := [.long (Int32.toInt64 a2), .long (Int32.toInt64 0), .long (Int32.toInt64 127)]) (rest := []) ⟨hx, hb, hml, hown, hts⟩ (c_in l G a2 0 127 ) (my_cwS hts ok_X11_in w_162 rfl rfl ⟨Nat.le_of_ble_eq_true rfl, Nat.le_of_ble_eq_true rfl⟩) ⟨rP.blind, fun U hU hW => ⟨rfl, by rw [hU]; exact hPc, kG.warm hW hG⟩⟩ rfl rfl hl.1 rfl (lv_room (Nat.le_of_ble_eq_true rfl)) dX11_write_13 ⟨Nat.le_of_ble_eq_true rfl, Nat.le_of_ble_eq_true rfl⟩) (fun r hr9 => ?_)
    subst hr9
    refine my_ifne (tgt := 22) hx hb dX11_write_16 (by decide) (fun c_16 => ?_) (fun c_16 => ?_)
    · rcases (in3 c_4) with e9 | e9 | e9 | e9
      · subst e9
        refine lv_sipush (v := 262) hx hb dX11_write_22 (by decide) ?_
        refine lv_bipush (v := 51) hx hb dX11_write_25 (by decide) ?_
        refine lv_iload_n hx hb dX11_write_27 rfl (lv_at hl 1 rfl) ?_
        refine lv_imul hx hb dX11_write_28 ?_
        refine my_bei (v := 0) (by decide) ?_
        refine lv_iadd hx hb dX11_write_29 ?_
        refine my_bei (v := 262) (by decide) ?_
        refine lv_istore_n (lv' := [(3, .int 262), (0, .ref mo), (1, .int 0), (2, .int a2)]) hx hb dX11_write_30 rfl hl (by decide) rfl (fun ls hl => ?_)
        refine lv_aload_n hx hb dX11_write_31 rfl (lv_at hl 1 rfl) ?_
        refine va_get (D := G.1) (ci := 10) (v := .ref st) (C := RX11) (T := TX11) (N := 25) hx hb hts inlX11 hown hG.1 hP 0 rfl rfl 0 (by decide) (hts (.fieldLink RX11 7 "SwornListsModel" "st" "[I") w_112) (fun _ h9 => h9) rfl dX11_write_32 ?_
        refine lv_iload_n hx hb dX11_write_35 rfl (lv_at hl 0 rfl) ?_
        refine va_iald hx hb hG.1 hP 1 0 rfl rfl (by unfold vp_in; decide) dX11_write_36 ?_
        refine my_bei (v := 0) (by first | rfl | decide) ?_
        refine lv_bipush (v := 50) hx hb dX11_write_37 (by decide) ?_
        refine lv_icmp_ne (tgt := 45) hx hb dX11_write_39 (by decide) (fun c_39 => ?_) (fun c_39 => absurd c_39 (by decide))
        refine lv_aload_n hx hb dX11_write_45 rfl (lv_at hl 1 rfl) ?_
        refine va_get (D := G.1) (ci := 10) (v := .ref st) (C := RX11) (T := TX11) (N := 25) hx hb hts inlX11 hown hG.1 hP 0 rfl rfl 0 (by decide) (hts (.fieldLink RX11 7 "SwornListsModel" "st" "[I") w_112) (fun _ h9 => h9) rfl dX11_write_46 ?_
        refine lv_iload_n hx hb dX11_write_49 rfl (lv_at hl 0 rfl) ?_
        refine lv_dup2_11 hx hb dX11_write_50 rfl rfl ?_
        refine va_iald hx hb hG.1 hP 1 0 rfl rfl (by unfold vp_in; decide) dX11_write_51 ?_
        refine my_bei (v := 0) (by first | rfl | decide) ?_
        refine lv_iconst (v := 1) hx hb dX11_write_52 (by decide) ?_
        refine lv_iadd hx hb dX11_write_53 ?_
        refine my_bei (v := 1) (by decide) ?_
        refine va_iast hx hb hG.1 hP hD hS 1 0 rfl rfl (by unfold vp_in; decide) dX11_write_54 (fun H locs hP hD hS => ?_)
        have hP : va_P G.1 vwCl [(mo, eO 10 [.ref st, .ref mi, .ref mk, .long 0, .long 1, .int 0, .ref m6, .ref m7, .int 0, .ref m9, .ref m10, .int 0, .int 0, .int 0, .int 0, .ref m15, .ref m16, .ref m17, .ref m18, .ref m19, .ref m20, .ref m21, .ref m22, .ref m23, .ref m24]), (st, eI G 2246 (upd st0 (Int32.toNatClampNeg 262) 1))] H := hP
        have hD : va_D A [(mo, eO 10 [.ref st, .ref mi, .ref mk, .long 0, .long 1, .int 0, .ref m6, .ref m7, .int 0, .ref m9, .ref m10, .int 0, .int 0, .int 0, .int 0, .ref m15, .ref m16, .ref m17, .ref m18, .ref m19, .ref m20, .ref m21, .ref m22, .ref m23, .ref m24]), (st, eI G 2246 (upd st0 (Int32.toNatClampNeg 262) 1))] := hD
        refine lv_aload_n hx hb dX11_write_55 rfl (lv_at hl 1 rfl) ?_
        refine va_get (D := G.1) (ci := 10) (v := .ref st) (C := RX11) (T := TX11) (N := 25) hx hb hts inlX11 hown hG.1 hP 0 rfl rfl 0 (by decide) (hts (.fieldLink RX11 7 "SwornListsModel" "st" "[I") w_112) (fun _ h9 => h9) rfl dX11_write_56 ?_
        refine lv_iload_n hx hb dX11_write_59 rfl (lv_at hl 0 rfl) ?_
        refine lv_aload_n hx hb dX11_write_60 rfl (lv_at hl 1 rfl) ?_
        refine va_get (D := G.1) (ci := 10) (v := .ref st) (C := RX11) (T := TX11) (N := 25) hx hb hts inlX11 hown hG.1 hP 0 rfl rfl 0 (by decide) (hts (.fieldLink RX11 7 "SwornListsModel" "st" "[I") w_112) (fun _ h9 => h9) rfl dX11_write_61 ?_
        refine lv_iload_n hx hb dX11_write_64 rfl (lv_at hl 0 rfl) ?_
        refine va_iald hx hb hG.1 hP 1 0 rfl rfl (by unfold vp_in; decide) dX11_write_65 ?_
        refine my_bei (v := 1) (by first | rfl | decide) ?_
        refine lv_iadd hx hb dX11_write_66 ?_
        refine my_bei (v := 263) (by decide) ?_
        refine lv_iload_n hx hb dX11_write_67 rfl (lv_at hl 3 rfl) ?_
        refine va_iast hx hb hG.1 hP hD hS 1 0 rfl rfl (by unfold vp_in; decide) dX11_write_68 (fun H locs hP hD hS => ?_)
        have hP : va_P G.1 vwCl [(mo, eO 10 [.ref st, .ref mi, .ref mk, .long 0, .long 1, .int 0, .ref m6, .ref m7, .int 0, .ref m9, .ref m10, .int 0, .int 0, .int 0, .int 0, .ref m15, .ref m16, .ref m17, .ref m18, .ref m19, .ref m20, .ref m21, .ref m22, .ref m23, .ref m24]), (st, eI G 2246 (upd (upd st0 (Int32.toNatClampNeg 262) 1) (Int32.toNatClampNeg 263) a2))] H := hP
        have hD : va_D A [(mo, eO 10 [.ref st, .ref mi, .ref mk, .long 0, .long 1, .int 0, .ref m6, .ref m7, .int 0, .ref m9, .ref m10, .int 0, .int 0, .int 0, .int 0, .ref m15, .ref m16, .ref m17, .ref m18, .ref m19, .ref m20, .ref m21, .ref m22, .ref m23, .ref m24]), (st, eI G 2246 (upd (upd st0 (Int32.toNatClampNeg 262) 1) (Int32.toNatClampNeg 263) a2))] := hD
        refine lv_aload_n hx hb dX11_write_69 rfl (lv_at hl 1 rfl) ?_
        refine va_get (D := G.1) (ci := 10) (v := .ref st) (C := RX11) (T := TX11) (N := 25) hx hb hts inlX11 hown hG.1 hP 0 rfl rfl 0 (by decide) (hts (.fieldLink RX11 7 "SwornListsModel" "st" "[I") w_112) (fun _ h9 => h9) rfl dX11_write_70 ?_
        refine lv_iload_n hx hb dX11_write_73 rfl (lv_at hl 0 rfl) ?_
        refine va_iald hx hb hG.1 hP 1 0 rfl rfl (by unfold vp_in; decide) dX11_write_74 ?_
        refine my_bei (v := 1) (by first | rfl | decide) ?_
        exact W.iret (v := 1) hx hb hr (fun t ht hW => ⟨⟨_, (), rfl, (by simp [c_4, c_16]), trivial⟩, hS.F ht⟩) hS.2.2 dX11_write_75
      · subst e9
        refine lv_sipush (v := 262) hx hb dX11_write_22 (by decide) ?_
        refine lv_bipush (v := 51) hx hb dX11_write_25 (by decide) ?_
        refine lv_iload_n hx hb dX11_write_27 rfl (lv_at hl 1 rfl) ?_
        refine lv_imul hx hb dX11_write_28 ?_
        refine my_bei (v := 51) (by decide) ?_
        refine lv_iadd hx hb dX11_write_29 ?_
        refine my_bei (v := 313) (by decide) ?_
        refine lv_istore_n (lv' := [(3, .int 313), (0, .ref mo), (1, .int 1), (2, .int a2)]) hx hb dX11_write_30 rfl hl (by decide) rfl (fun ls hl => ?_)
        refine lv_aload_n hx hb dX11_write_31 rfl (lv_at hl 1 rfl) ?_
        refine va_get (D := G.1) (ci := 10) (v := .ref st) (C := RX11) (T := TX11) (N := 25) hx hb hts inlX11 hown hG.1 hP 0 rfl rfl 0 (by decide) (hts (.fieldLink RX11 7 "SwornListsModel" "st" "[I") w_112) (fun _ h9 => h9) rfl dX11_write_32 ?_
        refine lv_iload_n hx hb dX11_write_35 rfl (lv_at hl 0 rfl) ?_
        refine va_iald hx hb hG.1 hP 1 0 rfl rfl (by unfold vp_in; decide) dX11_write_36 ?_
        refine my_bei (v := 0) (by first | rfl | decide) ?_
        refine lv_bipush (v := 50) hx hb dX11_write_37 (by decide) ?_
        refine lv_icmp_ne (tgt := 45) hx hb dX11_write_39 (by decide) (fun c_39 => ?_) (fun c_39 => absurd c_39 (by decide))
        refine lv_aload_n hx hb dX11_write_45 rfl (lv_at hl 1 rfl) ?_
        refine va_get (D := G.1) (ci := 10) (v := .ref st) (C := RX11) (T := TX11) (N := 25) hx hb hts inlX11 hown hG.1 hP 0 rfl rfl 0 (by decide) (hts (.fieldLink RX11 7 "SwornListsModel" "st" "[I") w_112) (fun _ h9 => h9) rfl dX11_write_46 ?_
        refine lv_iload_n hx hb dX11_write_49 rfl (lv_at hl 0 rfl) ?_
        refine lv_dup2_11 hx hb dX11_write_50 rfl rfl ?_
        refine va_iald hx hb hG.1 hP 1 0 rfl rfl (by unfold vp_in; decide) dX11_write_51 ?_
        refine my_bei (v := 0) (by first | rfl | decide) ?_
        refine lv_iconst (v := 1) hx hb dX11_write_52 (by decide) ?_
        refine lv_iadd hx hb dX11_write_53 ?_
        refine my_bei (v := 1) (by decide) ?_
        refine va_iast hx hb hG.1 hP hD hS 1 0 rfl rfl (by unfold vp_in; decide) dX11_write_54 (fun H locs hP hD hS => ?_)
        have hP : va_P G.1 vwCl [(mo, eO 10 [.ref st, .ref mi, .ref mk, .long 0, .long 1, .int 0, .ref m6, .ref m7, .int 0, .ref m9, .ref m10, .int 0, .int 0, .int 0, .int 0, .ref m15, .ref m16, .ref m17, .ref m18, .ref m19, .ref m20, .ref m21, .ref m22, .ref m23, .ref m24]), (st, eI G 2246 (upd st0 (Int32.toNatClampNeg 313) 1))] H := hP
        have hD : va_D A [(mo, eO 10 [.ref st, .ref mi, .ref mk, .long 0, .long 1, .int 0, .ref m6, .ref m7, .int 0, .ref m9, .ref m10, .int 0, .int 0, .int 0, .int 0, .ref m15, .ref m16, .ref m17, .ref m18, .ref m19, .ref m20, .ref m21, .ref m22, .ref m23, .ref m24]), (st, eI G 2246 (upd st0 (Int32.toNatClampNeg 313) 1))] := hD
        refine lv_aload_n hx hb dX11_write_55 rfl (lv_at hl 1 rfl) ?_
        refine va_get (D := G.1) (ci := 10) (v := .ref st) (C := RX11) (T := TX11) (N := 25) hx hb hts inlX11 hown hG.1 hP 0 rfl rfl 0 (by decide) (hts (.fieldLink RX11 7 "SwornListsModel" "st" "[I") w_112) (fun _ h9 => h9) rfl dX11_write_56 ?_
        refine lv_iload_n hx hb dX11_write_59 rfl (lv_at hl 0 rfl) ?_
        refine lv_aload_n hx hb dX11_write_60 rfl (lv_at hl 1 rfl) ?_
        refine va_get (D := G.1) (ci := 10) (v := .ref st) (C := RX11) (T := TX11) (N := 25) hx hb hts inlX11 hown hG.1 hP 0 rfl rfl 0 (by decide) (hts (.fieldLink RX11 7 "SwornListsModel" "st" "[I") w_112) (fun _ h9 => h9) rfl dX11_write_61 ?_
        refine lv_iload_n hx hb dX11_write_64 rfl (lv_at hl 0 rfl) ?_
        refine va_iald hx hb hG.1 hP 1 0 rfl rfl (by unfold vp_in; decide) dX11_write_65 ?_
        refine my_bei (v := 1) (by first | rfl | decide) ?_
        refine lv_iadd hx hb dX11_write_66 ?_
        refine my_bei (v := 314) (by decide) ?_
        refine lv_iload_n hx hb dX11_write_67 rfl (lv_at hl 3 rfl) ?_
        refine va_iast hx hb hG.1 hP hD hS 1 0 rfl rfl (by unfold vp_in; decide) dX11_write_68 (fun H locs hP hD hS => ?_)
        have hP : va_P G.1 vwCl [(mo, eO 10 [.ref st, .ref mi, .ref mk, .long 0, .long 1, .int 0, .ref m6, .ref m7, .int 0, .ref m9, .ref m10, .int 0, .int 0, .int 0, .int 0, .ref m15, .ref m16, .ref m17, .ref m18, .ref m19, .ref m20, .ref m21, .ref m22, .ref m23, .ref m24]), (st, eI G 2246 (upd (upd st0 (Int32.toNatClampNeg 313) 1) (Int32.toNatClampNeg 314) a2))] H := hP
        have hD : va_D A [(mo, eO 10 [.ref st, .ref mi, .ref mk, .long 0, .long 1, .int 0, .ref m6, .ref m7, .int 0, .ref m9, .ref m10, .int 0, .int 0, .int 0, .int 0, .ref m15, .ref m16, .ref m17, .ref m18, .ref m19, .ref m20, .ref m21, .ref m22, .ref m23, .ref m24]), (st, eI G 2246 (upd (upd st0 (Int32.toNatClampNeg 313) 1) (Int32.toNatClampNeg 314) a2))] := hD
        refine lv_aload_n hx hb dX11_write_69 rfl (lv_at hl 1 rfl) ?_
        refine va_get (D := G.1) (ci := 10) (v := .ref st) (C := RX11) (T := TX11) (N := 25) hx hb hts inlX11 hown hG.1 hP 0 rfl rfl 0 (by decide) (hts (.fieldLink RX11 7 "SwornListsModel" "st" "[I") w_112) (fun _ h9 => h9) rfl dX11_write_70 ?_
        refine lv_iload_n hx hb dX11_write_73 rfl (lv_at hl 0 rfl) ?_
        refine va_iald hx hb hG.1 hP 1 0 rfl rfl (by unfold vp_in; decide) dX11_write_74 ?_
        refine my_bei (v := 1) (by first | rfl | decide) ?_
        exact W.iret (v := 1) hx hb hr (fun t ht hW => ⟨⟨_, (), rfl, (by simp [c_4, c_16]), trivial⟩, hS.F ht⟩) hS.2.2 dX11_write_75
      · subst e9
        refine lv_sipush (v := 262) hx hb dX11_write_22 (by decide) ?_
        refine lv_bipush (v := 51) hx hb dX11_write_25 (by decide) ?_
        refine lv_iload_n hx hb dX11_write_27 rfl (lv_at hl 1 rfl) ?_
        refine lv_imul hx hb dX11_write_28 ?_
        refine my_bei (v := 102) (by decide) ?_
        refine lv_iadd hx hb dX11_write_29 ?_
        refine my_bei (v := 364) (by decide) ?_
        refine lv_istore_n (lv' := [(3, .int 364), (0, .ref mo), (1, .int 2), (2, .int a2)]) hx hb dX11_write_30 rfl hl (by decide) rfl (fun ls hl => ?_)
        refine lv_aload_n hx hb dX11_write_31 rfl (lv_at hl 1 rfl) ?_
        refine va_get (D := G.1) (ci := 10) (v := .ref st) (C := RX11) (T := TX11) (N := 25) hx hb hts inlX11 hown hG.1 hP 0 rfl rfl 0 (by decide) (hts (.fieldLink RX11 7 "SwornListsModel" "st" "[I") w_112) (fun _ h9 => h9) rfl dX11_write_32 ?_
        refine lv_iload_n hx hb dX11_write_35 rfl (lv_at hl 0 rfl) ?_
        refine va_iald hx hb hG.1 hP 1 0 rfl rfl (by unfold vp_in; decide) dX11_write_36 ?_
        refine my_bei (v := 0) (by first | rfl | decide) ?_
        refine lv_bipush (v := 50) hx hb dX11_write_37 (by decide) ?_
        refine lv_icmp_ne (tgt := 45) hx hb dX11_write_39 (by decide) (fun c_39 => ?_) (fun c_39 => absurd c_39 (by decide))
        refine lv_aload_n hx hb dX11_write_45 rfl (lv_at hl 1 rfl) ?_
        refine va_get (D := G.1) (ci := 10) (v := .ref st) (C := RX11) (T := TX11) (N := 25) hx hb hts inlX11 hown hG.1 hP 0 rfl rfl 0 (by decide) (hts (.fieldLink RX11 7 "SwornListsModel" "st" "[I") w_112) (fun _ h9 => h9) rfl dX11_write_46 ?_
        refine lv_iload_n hx hb dX11_write_49 rfl (lv_at hl 0 rfl) ?_
        refine lv_dup2_11 hx hb dX11_write_50 rfl rfl ?_
        refine va_iald hx hb hG.1 hP 1 0 rfl rfl (by unfold vp_in; decide) dX11_write_51 ?_
        refine my_bei (v := 0) (by first | rfl | decide) ?_
        refine lv_iconst (v := 1) hx hb dX11_write_52 (by decide) ?_
        refine lv_iadd hx hb dX11_write_53 ?_
        refine my_bei (v := 1) (by decide) ?_
        refine va_iast hx hb hG.1 hP hD hS 1 0 rfl rfl (by unfold vp_in; decide) dX11_write_54 (fun H locs hP hD hS => ?_)
        have hP : va_P G.1 vwCl [(mo, eO 10 [.ref st, .ref mi, .ref mk, .long 0, .long 1, .int 0, .ref m6, .ref m7, .int 0, .ref m9, .ref m10, .int 0, .int 0, .int 0, .int 0, .ref m15, .ref m16, .ref m17, .ref m18, .ref m19, .ref m20, .ref m21, .ref m22, .ref m23, .ref m24]), (st, eI G 2246 (upd st0 (Int32.toNatClampNeg 364) 1))] H := hP
        have hD : va_D A [(mo, eO 10 [.ref st, .ref mi, .ref mk, .long 0, .long 1, .int 0, .ref m6, .ref m7, .int 0, .ref m9, .ref m10, .int 0, .int 0, .int 0, .int 0, .ref m15, .ref m16, .ref m17, .ref m18, .ref m19, .ref m20, .ref m21, .ref m22, .ref m23, .ref m24]), (st, eI G 2246 (upd st0 (Int32.toNatClampNeg 364) 1))] := hD
        refine lv_aload_n hx hb dX11_write_55 rfl (lv_at hl 1 rfl) ?_
        refine va_get (D := G.1) (ci := 10) (v := .ref st) (C := RX11) (T := TX11) (N := 25) hx hb hts inlX11 hown hG.1 hP 0 rfl rfl 0 (by decide) (hts (.fieldLink RX11 7 "SwornListsModel" "st" "[I") w_112) (fun _ h9 => h9) rfl dX11_write_56 ?_
        refine lv_iload_n hx hb dX11_write_59 rfl (lv_at hl 0 rfl) ?_
        refine lv_aload_n hx hb dX11_write_60 rfl (lv_at hl 1 rfl) ?_
        refine va_get (D := G.1) (ci := 10) (v := .ref st) (C := RX11) (T := TX11) (N := 25) hx hb hts inlX11 hown hG.1 hP 0 rfl rfl 0 (by decide) (hts (.fieldLink RX11 7 "SwornListsModel" "st" "[I") w_112) (fun _ h9 => h9) rfl dX11_write_61 ?_
        refine lv_iload_n hx hb dX11_write_64 rfl (lv_at hl 0 rfl) ?_
        refine va_iald hx hb hG.1 hP 1 0 rfl rfl (by unfold vp_in; decide) dX11_write_65 ?_
        refine my_bei (v := 1) (by first | rfl | decide) ?_
        refine lv_iadd hx hb dX11_write_66 ?_
        refine my_bei (v := 365) (by decide) ?_
        refine lv_iload_n hx hb dX11_write_67 rfl (lv_at hl 3 rfl) ?_
        refine va_iast hx hb hG.1 hP hD hS 1 0 rfl rfl (by unfold vp_in; decide) dX11_write_68 (fun H locs hP hD hS => ?_)
        have hP : va_P G.1 vwCl [(mo, eO 10 [.ref st, .ref mi, .ref mk, .long 0, .long 1, .int 0, .ref m6, .ref m7, .int 0, .ref m9, .ref m10, .int 0, .int 0, .int 0, .int 0, .ref m15, .ref m16, .ref m17, .ref m18, .ref m19, .ref m20, .ref m21, .ref m22, .ref m23, .ref m24]), (st, eI G 2246 (upd (upd st0 (Int32.toNatClampNeg 364) 1) (Int32.toNatClampNeg 365) a2))] H := hP
        have hD : va_D A [(mo, eO 10 [.ref st, .ref mi, .ref mk, .long 0, .long 1, .int 0, .ref m6, .ref m7, .int 0, .ref m9, .ref m10, .int 0, .int 0, .int 0, .int 0, .ref m15, .ref m16, .ref m17, .ref m18, .ref m19, .ref m20, .ref m21, .ref m22, .ref m23, .ref m24]), (st, eI G 2246 (upd (upd st0 (Int32.toNatClampNeg 364) 1) (Int32.toNatClampNeg 365) a2))] := hD
        refine lv_aload_n hx hb dX11_write_69 rfl (lv_at hl 1 rfl) ?_
        refine va_get (D := G.1) (ci := 10) (v := .ref st) (C := RX11) (T := TX11) (N := 25) hx hb hts inlX11 hown hG.1 hP 0 rfl rfl 0 (by decide) (hts (.fieldLink RX11 7 "SwornListsModel" "st" "[I") w_112) (fun _ h9 => h9) rfl dX11_write_70 ?_
        refine lv_iload_n hx hb dX11_write_73 rfl (lv_at hl 0 rfl) ?_
        refine va_iald hx hb hG.1 hP 1 0 rfl rfl (by unfold vp_in; decide) dX11_write_74 ?_
        refine my_bei (v := 1) (by first | rfl | decide) ?_
        exact W.iret (v := 1) hx hb hr (fun t ht hW => ⟨⟨_, (), rfl, (by simp [c_4, c_16]), trivial⟩, hS.F ht⟩) hS.2.2 dX11_write_75
      · subst e9
        refine lv_sipush (v := 262) hx hb dX11_write_22 (by decide) ?_
        refine lv_bipush (v := 51) hx hb dX11_write_25 (by decide) ?_
        refine lv_iload_n hx hb dX11_write_27 rfl (lv_at hl 1 rfl) ?_
        refine lv_imul hx hb dX11_write_28 ?_
        refine my_bei (v := 153) (by decide) ?_
        refine lv_iadd hx hb dX11_write_29 ?_
        refine my_bei (v := 415) (by decide) ?_
        refine lv_istore_n (lv' := [(3, .int 415), (0, .ref mo), (1, .int 3), (2, .int a2)]) hx hb dX11_write_30 rfl hl (by decide) rfl (fun ls hl => ?_)
        refine lv_aload_n hx hb dX11_write_31 rfl (lv_at hl 1 rfl) ?_
        refine va_get (D := G.1) (ci := 10) (v := .ref st) (C := RX11) (T := TX11) (N := 25) hx hb hts inlX11 hown hG.1 hP 0 rfl rfl 0 (by decide) (hts (.fieldLink RX11 7 "SwornListsModel" "st" "[I") w_112) (fun _ h9 => h9) rfl dX11_write_32 ?_
        refine lv_iload_n hx hb dX11_write_35 rfl (lv_at hl 0 rfl) ?_
        refine va_iald hx hb hG.1 hP 1 0 rfl rfl (by unfold vp_in; decide) dX11_write_36 ?_
        refine my_bei (v := 0) (by first | rfl | decide) ?_
        refine lv_bipush (v := 50) hx hb dX11_write_37 (by decide) ?_
        refine lv_icmp_ne (tgt := 45) hx hb dX11_write_39 (by decide) (fun c_39 => ?_) (fun c_39 => absurd c_39 (by decide))
        refine lv_aload_n hx hb dX11_write_45 rfl (lv_at hl 1 rfl) ?_
        refine va_get (D := G.1) (ci := 10) (v := .ref st) (C := RX11) (T := TX11) (N := 25) hx hb hts inlX11 hown hG.1 hP 0 rfl rfl 0 (by decide) (hts (.fieldLink RX11 7 "SwornListsModel" "st" "[I") w_112) (fun _ h9 => h9) rfl dX11_write_46 ?_
        refine lv_iload_n hx hb dX11_write_49 rfl (lv_at hl 0 rfl) ?_
        refine lv_dup2_11 hx hb dX11_write_50 rfl rfl ?_
        refine va_iald hx hb hG.1 hP 1 0 rfl rfl (by unfold vp_in; decide) dX11_write_51 ?_
        refine my_bei (v := 0) (by first | rfl | decide) ?_
        refine lv_iconst (v := 1) hx hb dX11_write_52 (by decide) ?_
        refine lv_iadd hx hb dX11_write_53 ?_
        refine my_bei (v := 1) (by decide) ?_
        refine va_iast hx hb hG.1 hP hD hS 1 0 rfl rfl (by unfold vp_in; decide) dX11_write_54 (fun H locs hP hD hS => ?_)
        have hP : va_P G.1 vwCl [(mo, eO 10 [.ref st, .ref mi, .ref mk, .long 0, .long 1, .int 0, .ref m6, .ref m7, .int 0, .ref m9, .ref m10, .int 0, .int 0, .int 0, .int 0, .ref m15, .ref m16, .ref m17, .ref m18, .ref m19, .ref m20, .ref m21, .ref m22, .ref m23, .ref m24]), (st, eI G 2246 (upd st0 (Int32.toNatClampNeg 415) 1))] H := hP
        have hD : va_D A [(mo, eO 10 [.ref st, .ref mi, .ref mk, .long 0, .long 1, .int 0, .ref m6, .ref m7, .int 0, .ref m9, .ref m10, .int 0, .int 0, .int 0, .int 0, .ref m15, .ref m16, .ref m17, .ref m18, .ref m19, .ref m20, .ref m21, .ref m22, .ref m23, .ref m24]), (st, eI G 2246 (upd st0 (Int32.toNatClampNeg 415) 1))] := hD
        refine lv_aload_n hx hb dX11_write_55 rfl (lv_at hl 1 rfl) ?_
        refine va_get (D := G.1) (ci := 10) (v := .ref st) (C := RX11) (T := TX11) (N := 25) hx hb hts inlX11 hown hG.1 hP 0 rfl rfl 0 (by decide) (hts (.fieldLink RX11 7 "SwornListsModel" "st" "[I") w_112) (fun _ h9 => h9) rfl dX11_write_56 ?_
        refine lv_iload_n hx hb dX11_write_59 rfl (lv_at hl 0 rfl) ?_
        refine lv_aload_n hx hb dX11_write_60 rfl (lv_at hl 1 rfl) ?_
        refine va_get (D := G.1) (ci := 10) (v := .ref st) (C := RX11) (T := TX11) (N := 25) hx hb hts inlX11 hown hG.1 hP 0 rfl rfl 0 (by decide) (hts (.fieldLink RX11 7 "SwornListsModel" "st" "[I") w_112) (fun _ h9 => h9) rfl dX11_write_61 ?_
        refine lv_iload_n hx hb dX11_write_64 rfl (lv_at hl 0 rfl) ?_
        refine va_iald hx hb hG.1 hP 1 0 rfl rfl (by unfold vp_in; decide) dX11_write_65 ?_
        refine my_bei (v := 1) (by first | rfl | decide) ?_
        refine lv_iadd hx hb dX11_write_66 ?_
        refine my_bei (v := 416) (by decide) ?_
        refine lv_iload_n hx hb dX11_write_67 rfl (lv_at hl 3 rfl) ?_
        refine va_iast hx hb hG.1 hP hD hS 1 0 rfl rfl (by unfold vp_in; decide) dX11_write_68 (fun H locs hP hD hS => ?_)
        have hP : va_P G.1 vwCl [(mo, eO 10 [.ref st, .ref mi, .ref mk, .long 0, .long 1, .int 0, .ref m6, .ref m7, .int 0, .ref m9, .ref m10, .int 0, .int 0, .int 0, .int 0, .ref m15, .ref m16, .ref m17, .ref m18, .ref m19, .ref m20, .ref m21, .ref m22, .ref m23, .ref m24]), (st, eI G 2246 (upd (upd st0 (Int32.toNatClampNeg 415) 1) (Int32.toNatClampNeg 416) a2))] H := hP
        have hD : va_D A [(mo, eO 10 [.ref st, .ref mi, .ref mk, .long 0, .long 1, .int 0, .ref m6, .ref m7, .int 0, .ref m9, .ref m10, .int 0, .int 0, .int 0, .int 0, .ref m15, .ref m16, .ref m17, .ref m18, .ref m19, .ref m20, .ref m21, .ref m22, .ref m23, .ref m24]), (st, eI G 2246 (upd (upd st0 (Int32.toNatClampNeg 415) 1) (Int32.toNatClampNeg 416) a2))] := hD
        refine lv_aload_n hx hb dX11_write_69 rfl (lv_at hl 1 rfl) ?_
        refine va_get (D := G.1) (ci := 10) (v := .ref st) (C := RX11) (T := TX11) (N := 25) hx hb hts inlX11 hown hG.1 hP 0 rfl rfl 0 (by decide) (hts (.fieldLink RX11 7 "SwornListsModel" "st" "[I") w_112) (fun _ h9 => h9) rfl dX11_write_70 ?_
        refine lv_iload_n hx hb dX11_write_73 rfl (lv_at hl 0 rfl) ?_
        refine va_iald hx hb hG.1 hP 1 0 rfl rfl (by unfold vp_in; decide) dX11_write_74 ?_
        refine my_bei (v := 1) (by first | rfl | decide) ?_
        exact W.iret (v := 1) hx hb hr (fun t ht hW => ⟨⟨_, (), rfl, (by simp [c_4, c_16]), trivial⟩, hS.F ht⟩) hS.2.2 dX11_write_75
    · refine lv_bipush (v := (-2)) hx hb dX11_write_19 (by decide) ?_
      exact W.iret (v := (-2)) hx hb hr (fun t ht hW => ⟨⟨_, (), rfl, (by simp [c_4, c_16]), trivial⟩, hS.F ht⟩) hS.2.2 dX11_write_21
set_option maxHeartbeats 4000000 in
set_option maxRecDepth 100000 in
theorem m_erase (l : Launch) (G : gW) (sz : Nat) (mo : Nat) (st : Nat) (mi : Nat) (mk : Nat) (m6 : Nat) (m7 : Nat) (m9 : Nat) (m10 : Nat) (m15 : Nat) (m16 : Nat) (m17 : Nat) (m18 : Nat) (m19 : Nat) (m20 : Nat) (m21 : Nat) (m22 : Nat) (m23 : Nat) (m24 : Nat) (a1 : Int32)  : Met l yX11_erase (wsT yX11_erase cX11_erase 3 (some .int)) ({ frames := 2, cells := 0, slots := 0, locals := 45 }) (wP G [.ref mo, .int a1] sz [(mo, eO 10 [.ref st, .ref mi, .ref mk, .long 0, .long 1, .int 0, .ref m6, .ref m7, .int 0, .ref m9, .ref m10, .int 0, .int 0, .int 0, .int 0, .ref m15, .ref m16, .ref m17, .ref m18, .ref m19, .ref m20, .ref m21, .ref m22, .ref m23, .ref m24]), (st, eI G 2246 st0)]) (va_Qi (fun (r : Int32) (_ : Unit) => r = if inB 0 a1 3 = true then 0 else (-2)) (fun _ _ => True) (va_A [(mo, eO 10 [.ref st, .ref mi, .ref mk, .long 0, .long 1, .int 0, .ref m6, .ref m7, .int 0, .ref m9, .ref m10, .int 0, .int 0, .int 0, .int 0, .ref m15, .ref m16, .ref m17, .ref m18, .ref m19, .ref m20, .ref m21, .ref m22, .ref m23, .ref m24]), (st, eI G 2246 st0)] sz)) 0 0 (va_A [(mo, eO 10 [.ref st, .ref mi, .ref mk, .long 0, .long 1, .int 0, .ref m6, .ref m7, .int 0, .ref m9, .ref m10, .int 0, .int 0, .int 0, .int 0, .ref m15, .ref m16, .ref m17, .ref m18, .ref m19, .ref m20, .ref m21, .ref m22, .ref m23, .ref m24]), (st, eI G 2246 st0)] sz) := by
  refine Met.ofW (cc := cX11_erase) (maxL := 3) (ret := (some .int)) (by decide) rfl ?_
  intro p e s m args below meth c s₁ B hml hv
  obtain ⟨rfl, hsz, hP, hG, hD0⟩ := hv
  have hx := B.exec
  have hb := B.bytes
  have hr := B.returns
  have hts := my_hts (atoms_spec (ws := wsT yX11_erase cX11_erase 3 (some .int)) B.pre)
  have hown : s.vm.findClass RX11 = some m.cls := findClass_of_methodNamed B.named
  have hlocks := B.notSynchronized
  subst hsz
  have hD := hD0.self (sz := s.heap.size)
  generalize hAe : va_A [(mo, eO 10 [.ref st, .ref mi, .ref mk, .long 0, .long 1, .int 0, .ref m6, .ref m7, .int 0, .ref m9, .ref m10, .int 0, .int 0, .int 0, .int 0, .ref m15, .ref m16, .ref m17, .ref m18, .ref m19, .ref m20, .ref m21, .ref m22, .ref m23, .ref m24]), (st, eI G 2246 st0)] s.heap.size = A at hD ⊢
  have hA : ∀ q : Nat, s.heap.size ≤ q → A q := fun q h => by rw [← hAe]; exact Or.inr h
  have hS : va_S A s.heap s.heap [] := va_S.rf
  have hP : va_P G.1 vwCl [(mo, eO 10 [.ref st, .ref mi, .ref mk, .long 0, .long 1, .int 0, .ref m6, .ref m7, .int 0, .ref m9, .ref m10, .int 0, .int 0, .int 0, .int 0, .ref m15, .ref m16, .ref m17, .ref m18, .ref m19, .ref m20, .ref m21, .ref m22, .ref m23, .ref m24]), (st, eI G 2246 st0)] s.heap := hP
  have hl := lv_entry ([.ref mo, .int a1]) (n := 3) (Nat.le_of_ble_eq_true rfl)
  rw [lg_entry_eq]
  generalize (lg_sl ([.ref mo, .int a1]) ++ List.replicate (3 - (lg_sl ([.ref mo, .int a1])).length) Slot.unset).toArray = ls at hl ⊢
  have hl : lv_has ls 3 [(0, .ref mo), (1, .int a1)] := hl
  refine lv_iload_n hx hb dX11_erase_0 rfl (lv_at hl 1 rfl) ?_
  have hPc := hP.sub (ws' := []) [] rfl
  refine rd_calli (va_runS (As := [.int a1]) (rest := []) ⟨hx, hb, hml, hown, hts⟩ (c_misText l G a1 ) (my_cwS hts ok_X11_isText w_259 rfl rfl ⟨Nat.le_of_ble_eq_true rfl, Nat.le_of_ble_eq_true rfl⟩) ⟨rP.blind, fun U hU hW => ⟨rfl, by rw [hU]; exact hPc, kG.warm hW hG⟩⟩ rfl rfl hl.1 rfl (lv_room (Nat.le_of_ble_eq_true rfl)) dX11_erase_1 ⟨Nat.le_of_ble_eq_true rfl, Nat.le_of_ble_eq_true rfl⟩) (fun r hr9 => ?_)
  subst hr9
  refine my_ifne (tgt := 10) hx hb dX11_erase_4 (by decide) (fun c_4 => ?_) (fun c_4 => ?_)
  · rcases (in3 c_4) with e9 | e9 | e9 | e9
    · subst e9
      refine lv_aload_n hx hb dX11_erase_10 rfl (lv_at hl 0 rfl) ?_
      refine va_get (D := G.1) (ci := 10) (v := .ref st) (C := RX11) (T := TX11) (N := 25) hx hb hts inlX11 hown hG.1 hP 0 rfl rfl 0 (by decide) (hts (.fieldLink RX11 7 "SwornListsModel" "st" "[I") w_112) (fun _ h9 => h9) rfl dX11_erase_11 ?_
      refine lv_sipush (v := 262) hx hb dX11_erase_14 (by decide) ?_
      refine lv_bipush (v := 51) hx hb dX11_erase_17 (by decide) ?_
      refine lv_iload_n hx hb dX11_erase_19 rfl (lv_at hl 1 rfl) ?_
      refine lv_imul hx hb dX11_erase_20 ?_
      refine my_bei (v := 0) (by decide) ?_
      refine lv_iadd hx hb dX11_erase_21 ?_
      refine my_bei (v := 262) (by decide) ?_
      refine va_iald hx hb hG.1 hP 1 0 rfl rfl (by unfold vp_in; decide) dX11_erase_22 ?_
      refine my_bei (v := 0) (by first | rfl | decide) ?_
      refine lv_istore_n (lv' := [(2, .int 0), (0, .ref mo), (1, .int 0)]) hx hb dX11_erase_23 rfl hl (by decide) rfl (fun ls hl => ?_)
      refine lv_aload_n hx hb dX11_erase_24 rfl (lv_at hl 1 rfl) ?_
      refine va_get (D := G.1) (ci := 10) (v := .ref st) (C := RX11) (T := TX11) (N := 25) hx hb hts inlX11 hown hG.1 hP 0 rfl rfl 0 (by decide) (hts (.fieldLink RX11 7 "SwornListsModel" "st" "[I") w_112) (fun _ h9 => h9) rfl dX11_erase_25 ?_
      refine lv_sipush (v := 262) hx hb dX11_erase_28 (by decide) ?_
      refine lv_bipush (v := 51) hx hb dX11_erase_31 (by decide) ?_
      refine lv_iload_n hx hb dX11_erase_33 rfl (lv_at hl 2 rfl) ?_
      refine lv_imul hx hb dX11_erase_34 ?_
      refine my_bei (v := 0) (by decide) ?_
      refine lv_iadd hx hb dX11_erase_35 ?_
      refine my_bei (v := 262) (by decide) ?_
      refine lv_iconst (v := 0) hx hb dX11_erase_36 (by decide) ?_
      refine va_iast hx hb hG.1 hP hD hS 1 0 rfl rfl (by unfold vp_in; decide) dX11_erase_37 (fun H locs hP hD hS => ?_)
      have hP : va_P G.1 vwCl [(mo, eO 10 [.ref st, .ref mi, .ref mk, .long 0, .long 1, .int 0, .ref m6, .ref m7, .int 0, .ref m9, .ref m10, .int 0, .int 0, .int 0, .int 0, .ref m15, .ref m16, .ref m17, .ref m18, .ref m19, .ref m20, .ref m21, .ref m22, .ref m23, .ref m24]), (st, eI G 2246 (upd st0 (Int32.toNatClampNeg 262) 0))] H := hP
      have hD : va_D A [(mo, eO 10 [.ref st, .ref mi, .ref mk, .long 0, .long 1, .int 0, .ref m6, .ref m7, .int 0, .ref m9, .ref m10, .int 0, .int 0, .int 0, .int 0, .ref m15, .ref m16, .ref m17, .ref m18, .ref m19, .ref m20, .ref m21, .ref m22, .ref m23, .ref m24]), (st, eI G 2246 (upd st0 (Int32.toNatClampNeg 262) 0))] := hD
      refine lv_iload_n hx hb dX11_erase_38 rfl (lv_at hl 0 rfl) ?_
      exact W.iret (v := 0) hx hb hr (fun t ht hW => ⟨⟨_, (), rfl, (by simp [c_4]), trivial⟩, hS.F ht⟩) hS.2.2 dX11_erase_39
    · subst e9
      refine lv_aload_n hx hb dX11_erase_10 rfl (lv_at hl 0 rfl) ?_
      refine va_get (D := G.1) (ci := 10) (v := .ref st) (C := RX11) (T := TX11) (N := 25) hx hb hts inlX11 hown hG.1 hP 0 rfl rfl 0 (by decide) (hts (.fieldLink RX11 7 "SwornListsModel" "st" "[I") w_112) (fun _ h9 => h9) rfl dX11_erase_11 ?_
      refine lv_sipush (v := 262) hx hb dX11_erase_14 (by decide) ?_
      refine lv_bipush (v := 51) hx hb dX11_erase_17 (by decide) ?_
      refine lv_iload_n hx hb dX11_erase_19 rfl (lv_at hl 1 rfl) ?_
      refine lv_imul hx hb dX11_erase_20 ?_
      refine my_bei (v := 51) (by decide) ?_
      refine lv_iadd hx hb dX11_erase_21 ?_
      refine my_bei (v := 313) (by decide) ?_
      refine va_iald hx hb hG.1 hP 1 0 rfl rfl (by unfold vp_in; decide) dX11_erase_22 ?_
      refine my_bei (v := 0) (by first | rfl | decide) ?_
      refine lv_istore_n (lv' := [(2, .int 0), (0, .ref mo), (1, .int 1)]) hx hb dX11_erase_23 rfl hl (by decide) rfl (fun ls hl => ?_)
      refine lv_aload_n hx hb dX11_erase_24 rfl (lv_at hl 1 rfl) ?_
      refine va_get (D := G.1) (ci := 10) (v := .ref st) (C := RX11) (T := TX11) (N := 25) hx hb hts inlX11 hown hG.1 hP 0 rfl rfl 0 (by decide) (hts (.fieldLink RX11 7 "SwornListsModel" "st" "[I") w_112) (fun _ h9 => h9) rfl dX11_erase_25 ?_
      refine lv_sipush (v := 262) hx hb dX11_erase_28 (by decide) ?_
      refine lv_bipush (v := 51) hx hb dX11_erase_31 (by decide) ?_
      refine lv_iload_n hx hb dX11_erase_33 rfl (lv_at hl 2 rfl) ?_
      refine lv_imul hx hb dX11_erase_34 ?_
      refine my_bei (v := 51) (by decide) ?_
      refine lv_iadd hx hb dX11_erase_35 ?_
      refine my_bei (v := 313) (by decide) ?_
      refine lv_iconst (v := 0) hx hb dX11_erase_36 (by decide) ?_
      refine va_iast hx hb hG.1 hP hD hS 1 0 rfl rfl (by unfold vp_in; decide) dX11_erase_37 (fun H locs hP hD hS => ?_)
      have hP : va_P G.1 vwCl [(mo, eO 10 [.ref st, .ref mi, .ref mk, .long 0, .long 1, .int 0, .ref m6, .ref m7, .int 0, .ref m9, .ref m10, .int 0, .int 0, .int 0, .int 0, .ref m15, .ref m16, .ref m17, .ref m18, .ref m19, .ref m20, .ref m21, .ref m22, .ref m23, .ref m24]), (st, eI G 2246 (upd st0 (Int32.toNatClampNeg 313) 0))] H := hP
      have hD : va_D A [(mo, eO 10 [.ref st, .ref mi, .ref mk, .long 0, .long 1, .int 0, .ref m6, .ref m7, .int 0, .ref m9, .ref m10, .int 0, .int 0, .int 0, .int 0, .ref m15, .ref m16, .ref m17, .ref m18, .ref m19, .ref m20, .ref m21, .ref m22, .ref m23, .ref m24]), (st, eI G 2246 (upd st0 (Int32.toNatClampNeg 313) 0))] := hD
      refine lv_iload_n hx hb dX11_erase_38 rfl (lv_at hl 0 rfl) ?_
      exact W.iret (v := 0) hx hb hr (fun t ht hW => ⟨⟨_, (), rfl, (by simp [c_4]), trivial⟩, hS.F ht⟩) hS.2.2 dX11_erase_39
    · subst e9
      refine lv_aload_n hx hb dX11_erase_10 rfl (lv_at hl 0 rfl) ?_
      refine va_get (D := G.1) (ci := 10) (v := .ref st) (C := RX11) (T := TX11) (N := 25) hx hb hts inlX11 hown hG.1 hP 0 rfl rfl 0 (by decide) (hts (.fieldLink RX11 7 "SwornListsModel" "st" "[I") w_112) (fun _ h9 => h9) rfl dX11_erase_11 ?_
      refine lv_sipush (v := 262) hx hb dX11_erase_14 (by decide) ?_
      refine lv_bipush (v := 51) hx hb dX11_erase_17 (by decide) ?_
      refine lv_iload_n hx hb dX11_erase_19 rfl (lv_at hl 1 rfl) ?_
      refine lv_imul hx hb dX11_erase_20 ?_
      refine my_bei (v := 102) (by decide) ?_
      refine lv_iadd hx hb dX11_erase_21 ?_
      refine my_bei (v := 364) (by decide) ?_
      refine va_iald hx hb hG.1 hP 1 0 rfl rfl (by unfold vp_in; decide) dX11_erase_22 ?_
      refine my_bei (v := 0) (by first | rfl | decide) ?_
      refine lv_istore_n (lv' := [(2, .int 0), (0, .ref mo), (1, .int 2)]) hx hb dX11_erase_23 rfl hl (by decide) rfl (fun ls hl => ?_)
      refine lv_aload_n hx hb dX11_erase_24 rfl (lv_at hl 1 rfl) ?_
      refine va_get (D := G.1) (ci := 10) (v := .ref st) (C := RX11) (T := TX11) (N := 25) hx hb hts inlX11 hown hG.1 hP 0 rfl rfl 0 (by decide) (hts (.fieldLink RX11 7 "SwornListsModel" "st" "[I") w_112) (fun _ h9 => h9) rfl dX11_erase_25 ?_
      refine lv_sipush (v := 262) hx hb dX11_erase_28 (by decide) ?_
      refine lv_bipush (v := 51) hx hb dX11_erase_31 (by decide) ?_
      refine lv_iload_n hx hb dX11_erase_33 rfl (lv_at hl 2 rfl) ?_
      refine lv_imul hx hb dX11_erase_34 ?_
      refine my_bei (v := 102) (by decide) ?_
      refine lv_iadd hx hb dX11_erase_35 ?_
      refine my_bei (v := 364) (by decide) ?_
      refine lv_iconst (v := 0) hx hb dX11_erase_36 (by decide) ?_
      refine va_iast hx hb hG.1 hP hD hS 1 0 rfl rfl (by unfold vp_in; decide) dX11_erase_37 (fun H locs hP hD hS => ?_)
      have hP : va_P G.1 vwCl [(mo, eO 10 [.ref st, .ref mi, .ref mk, .long 0, .long 1, .int 0, .ref m6, .ref m7, .int 0, .ref m9, .ref m10, .int 0, .int 0, .int 0, .int 0, .ref m15, .ref m16, .ref m17, .ref m18, .ref m19, .ref m20, .ref m21, .ref m22, .ref m23, .ref m24]), (st, eI G 2246 (upd st0 (Int32.toNatClampNeg 364) 0))] H := hP
      have hD : va_D A [(mo, eO 10 [.ref st, .ref mi, .ref mk, .long 0, .long 1, .int 0, .ref m6, .ref m7, .int 0, .ref m9, .ref m10, .int 0, .int 0, .int 0, .int 0, .ref m15, .ref m16, .ref m17, .ref m18, .ref m19, .ref m20, .ref m21, .ref m22, .ref m23, .ref m24]), (st, eI G 2246 (upd st0 (Int32.toNatClampNeg 364) 0))] := hD
      refine lv_iload_n hx hb dX11_erase_38 rfl (lv_at hl 0 rfl) ?_
      exact W.iret (v := 0) hx hb hr (fun t ht hW => ⟨⟨_, (), rfl, (by simp [c_4]), trivial⟩, hS.F ht⟩) hS.2.2 dX11_erase_39
    · subst e9
      refine lv_aload_n hx hb dX11_erase_10 rfl (lv_at hl 0 rfl) ?_
      refine va_get (D := G.1) (ci := 10) (v := .ref st) (C := RX11) (T := TX11) (N := 25) hx hb hts inlX11 hown hG.1 hP 0 rfl rfl 0 (by decide) (hts (.fieldLink RX11 7 "SwornListsModel" "st" "[I") w_112) (fun _ h9 => h9) rfl dX11_erase_11 ?_
      refine lv_sipush (v := 262) hx hb dX11_erase_14 (by decide) ?_
      refine lv_bipush (v := 51) hx hb dX11_erase_17 (by decide) ?_
      refine lv_iload_n hx hb dX11_erase_19 rfl (lv_at hl 1 rfl) ?_
      refine lv_imul hx hb dX11_erase_20 ?_
      refine my_bei (v := 153) (by decide) ?_
      refine lv_iadd hx hb dX11_erase_21 ?_
      refine my_bei (v := 415) (by decide) ?_
      refine va_iald hx hb hG.1 hP 1 0 rfl rfl (by unfold vp_in; decide) dX11_erase_22 ?_
      refine my_bei (v := 0) (by first | rfl | decide) ?_
      refine lv_istore_n (lv' := [(2, .int 0), (0, .ref mo), (1, .int 3)]) hx hb dX11_erase_23 rfl hl (by decide) rfl (fun ls hl => ?_)
      refine lv_aload_n hx hb dX11_erase_24 rfl (lv_at hl 1 rfl) ?_
      refine va_get (D := G.1) (ci := 10) (v := .ref st) (C := RX11) (T := TX11) (N := 25) hx hb hts inlX11 hown hG.1 hP 0 rfl rfl 0 (by decide) (hts (.fieldLink RX11 7 "SwornListsModel" "st" "[I") w_112) (fun _ h9 => h9) rfl dX11_erase_25 ?_
      refine lv_sipush (v := 262) hx hb dX11_erase_28 (by decide) ?_
      refine lv_bipush (v := 51) hx hb dX11_erase_31 (by decide) ?_
      refine lv_iload_n hx hb dX11_erase_33 rfl (lv_at hl 2 rfl) ?_
      refine lv_imul hx hb dX11_erase_34 ?_
      refine my_bei (v := 153) (by decide) ?_
      refine lv_iadd hx hb dX11_erase_35 ?_
      refine my_bei (v := 415) (by decide) ?_
      refine lv_iconst (v := 0) hx hb dX11_erase_36 (by decide) ?_
      refine va_iast hx hb hG.1 hP hD hS 1 0 rfl rfl (by unfold vp_in; decide) dX11_erase_37 (fun H locs hP hD hS => ?_)
      have hP : va_P G.1 vwCl [(mo, eO 10 [.ref st, .ref mi, .ref mk, .long 0, .long 1, .int 0, .ref m6, .ref m7, .int 0, .ref m9, .ref m10, .int 0, .int 0, .int 0, .int 0, .ref m15, .ref m16, .ref m17, .ref m18, .ref m19, .ref m20, .ref m21, .ref m22, .ref m23, .ref m24]), (st, eI G 2246 (upd st0 (Int32.toNatClampNeg 415) 0))] H := hP
      have hD : va_D A [(mo, eO 10 [.ref st, .ref mi, .ref mk, .long 0, .long 1, .int 0, .ref m6, .ref m7, .int 0, .ref m9, .ref m10, .int 0, .int 0, .int 0, .int 0, .ref m15, .ref m16, .ref m17, .ref m18, .ref m19, .ref m20, .ref m21, .ref m22, .ref m23, .ref m24]), (st, eI G 2246 (upd st0 (Int32.toNatClampNeg 415) 0))] := hD
      refine lv_iload_n hx hb dX11_erase_38 rfl (lv_at hl 0 rfl) ?_
      exact W.iret (v := 0) hx hb hr (fun t ht hW => ⟨⟨_, (), rfl, (by simp [c_4]), trivial⟩, hS.F ht⟩) hS.2.2 dX11_erase_39
  · refine lv_bipush (v := (-2)) hx hb dX11_erase_7 (by decide) ?_
    exact W.iret (v := (-2)) hx hb hr (fun t ht hW => ⟨⟨_, (), rfl, (by simp [c_4]), trivial⟩, hS.F ht⟩) hS.2.2 dX11_erase_9
set_option maxHeartbeats 4000000 in
set_option maxRecDepth 100000 in
theorem m_fault (l : Launch) (G : gW) (sz : Nat) (mo : Nat) (st : Nat) (mi : Nat) (mk : Nat) (m6 : Nat) (m7 : Nat) (m9 : Nat) (m10 : Nat) (m15 : Nat) (m16 : Nat) (m17 : Nat) (m18 : Nat) (m19 : Nat) (m20 : Nat) (m21 : Nat) (m22 : Nat) (m23 : Nat) (m24 : Nat) (a1 : Int32)  : Met l yX11_fault (wsT yX11_fault cX11_fault 2 (some .int)) ({ frames := 2, cells := 0, slots := 0, locals := 49 }) (wP G [.ref mo, .int a1] sz [(mo, eO 10 [.ref st, .ref mi, .ref mk, .long 0, .long 1, .int 0, .ref m6, .ref m7, .int 0, .ref m9, .ref m10, .int 0, .int 0, .int 0, .int 0, .ref m15, .ref m16, .ref m17, .ref m18, .ref m19, .ref m20, .ref m21, .ref m22, .ref m23, .ref m24]), (st, eI G 2246 st0)]) (va_Qi (fun (r : Int32) (_ : Unit) => r = if inB 0 a1 3 = true then 1 else (-2)) (fun _ _ => True) (va_A [(mo, eO 10 [.ref st, .ref mi, .ref mk, .long 0, .long 1, .int 0, .ref m6, .ref m7, .int 0, .ref m9, .ref m10, .int 0, .int 0, .int 0, .int 0, .ref m15, .ref m16, .ref m17, .ref m18, .ref m19, .ref m20, .ref m21, .ref m22, .ref m23, .ref m24]), (st, eI G 2246 st0)] sz)) 0 0 (va_A [(mo, eO 10 [.ref st, .ref mi, .ref mk, .long 0, .long 1, .int 0, .ref m6, .ref m7, .int 0, .ref m9, .ref m10, .int 0, .int 0, .int 0, .int 0, .ref m15, .ref m16, .ref m17, .ref m18, .ref m19, .ref m20, .ref m21, .ref m22, .ref m23, .ref m24]), (st, eI G 2246 st0)] sz) := by
  refine Met.ofW (cc := cX11_fault) (maxL := 2) (ret := (some .int)) (by decide) rfl ?_
  intro p e s m args below meth c s₁ B hml hv
  obtain ⟨rfl, hsz, hP, hG, hD0⟩ := hv
  have hx := B.exec
  have hb := B.bytes
  have hr := B.returns
  have hts := my_hts (atoms_spec (ws := wsT yX11_fault cX11_fault 2 (some .int)) B.pre)
  have hown : s.vm.findClass RX11 = some m.cls := findClass_of_methodNamed B.named
  have hlocks := B.notSynchronized
  subst hsz
  have hD := hD0.self (sz := s.heap.size)
  generalize hAe : va_A [(mo, eO 10 [.ref st, .ref mi, .ref mk, .long 0, .long 1, .int 0, .ref m6, .ref m7, .int 0, .ref m9, .ref m10, .int 0, .int 0, .int 0, .int 0, .ref m15, .ref m16, .ref m17, .ref m18, .ref m19, .ref m20, .ref m21, .ref m22, .ref m23, .ref m24]), (st, eI G 2246 st0)] s.heap.size = A at hD ⊢
  have hA : ∀ q : Nat, s.heap.size ≤ q → A q := fun q h => by rw [← hAe]; exact Or.inr h
  have hS : va_S A s.heap s.heap [] := va_S.rf
  have hP : va_P G.1 vwCl [(mo, eO 10 [.ref st, .ref mi, .ref mk, .long 0, .long 1, .int 0, .ref m6, .ref m7, .int 0, .ref m9, .ref m10, .int 0, .int 0, .int 0, .int 0, .ref m15, .ref m16, .ref m17, .ref m18, .ref m19, .ref m20, .ref m21, .ref m22, .ref m23, .ref m24]), (st, eI G 2246 st0)] s.heap := hP
  have hl := lv_entry ([.ref mo, .int a1]) (n := 2) (Nat.le_of_ble_eq_true rfl)
  rw [lg_entry_eq]
  generalize (lg_sl ([.ref mo, .int a1]) ++ List.replicate (2 - (lg_sl ([.ref mo, .int a1])).length) Slot.unset).toArray = ls at hl ⊢
  have hl : lv_has ls 2 [(0, .ref mo), (1, .int a1)] := hl
  refine lv_iload_n hx hb dX11_fault_0 rfl (lv_at hl 1 rfl) ?_
  have hPc := hP.sub (ws' := []) [] rfl
  refine rd_calli (va_runS (As := [.int a1]) (rest := []) ⟨hx, hb, hml, hown, hts⟩ (c_misText l G a1 ) (my_cwS hts ok_X11_isText w_259 rfl rfl ⟨Nat.le_of_ble_eq_true rfl, Nat.le_of_ble_eq_true rfl⟩) ⟨rP.blind, fun U hU hW => ⟨rfl, by rw [hU]; exact hPc, kG.warm hW hG⟩⟩ rfl rfl hl.1 rfl (lv_room (Nat.le_of_ble_eq_true rfl)) dX11_fault_1 ⟨Nat.le_of_ble_eq_true rfl, Nat.le_of_ble_eq_true rfl⟩) (fun r hr9 => ?_)
  subst hr9
  refine my_ifeq (tgt := 22) hx hb dX11_fault_4 (by decide) (fun c_4 => ?_) (fun c_4 => ?_)
  · refine lv_bipush (v := (-2)) hx hb dX11_fault_22 (by decide) ?_
    exact W.iret (v := (-2)) hx hb hr (fun t ht hW => ⟨⟨_, (), rfl, (by simp [c_4]), trivial⟩, hS.F ht⟩) hS.2.2 dX11_fault_24
  · rcases (in3 c_4) with e9 | e9 | e9 | e9
    · subst e9
      refine lv_aload_n hx hb dX11_fault_7 rfl (lv_at hl 0 rfl) ?_
      refine lv_sipush (v := 262) hx hb dX11_fault_8 (by decide) ?_
      refine lv_bipush (v := 51) hx hb dX11_fault_11 (by decide) ?_
      refine lv_iload_n hx hb dX11_fault_13 rfl (lv_at hl 1 rfl) ?_
      refine lv_imul hx hb dX11_fault_14 ?_
      refine my_bei (v := 0) (by decide) ?_
      refine lv_iadd hx hb dX11_fault_15 ?_
      refine my_bei (v := 262) (by decide) ?_
      have hPc := hP.sub (ws' := [(mo, eO 10 [.ref st, .ref mi, .ref mk, .long 0, .long 1, .int 0, .ref m6, .ref m7, .int 0, .ref m9, .ref m10, .int 0, .int 0, .int 0, .int 0, .ref m15, .ref m16, .ref m17, .ref m18, .ref m19, .ref m20, .ref m21, .ref m22, .ref m23, .ref m24]), (st, eI G 2246 st0)]) [0, 1] rfl
      have hDc := hD.sub (ws' := [(mo, eO 10 [.ref st, .ref mi, .ref mk, .long 0, .long 1, .int 0, .ref m6, .ref m7, .int 0, .ref m9, .ref m10, .int 0, .int 0, .int 0, .int 0, .ref m15, .ref m16, .ref m17, .ref m18, .ref m19, .ref m20, .ref m21, .ref m22, .ref m23, .ref m24]), (st, eI G 2246 st0)]) [0, 1] (by decide) rfl
      have hFc := va_free (wc := [(mo, eO 10 [.ref st, .ref mi, .ref mk, .long 0, .long 1, .int 0, .ref m6, .ref m7, .int 0, .ref m9, .ref m10, .int 0, .int 0, .int 0, .int 0, .ref m15, .ref m16, .ref m17, .ref m18, .ref m19, .ref m20, .ref m21, .ref m22, .ref m23, .ref m24]), (st, eI G 2246 st0)]) hD hS hA [0, 1] rfl
      refine va_calli (va_runV (As := [.int 262]) (rest := []) ⟨hx, hb, hml, hown, hts⟩ (c_reads0 l G s.heap.size mo st mi mk m6 m7 m9 m10 m15 m16 m17 m18 m19 m20 m21 m22 m23 m24 262 (by unfold vp_in; decide) (by decide)) (my_cwV hts ok_X11_reads w_345 rfl rfl ⟨Nat.le_of_ble_eq_true rfl, Nat.le_of_ble_eq_true rfl⟩) ⟨wP.blind, va_recv hG.1 hPc (ci := 10) (q0 := 0) rfl rfl, fun U hU hW => ⟨rfl, by rw [hU], by rw [hU]; exact hPc, kG.warm hW hG, hDc.weaken (fun _ _ _ _ => trivial)⟩⟩ rfl rfl hl.1 rfl (lv_room (Nat.le_of_ble_eq_true rfl)) dX11_fault_16 ⟨Nat.le_of_ble_eq_true rfl, Nat.le_of_ble_eq_true rfl⟩) hS (fun q _ h => hFc q h) hFc (fun r u t H1 locs ht hvm hw hB hz1 hk1 hS => ?_)
      obtain ⟨hP1, hD1⟩ := hB
      rw [ht] at hP1
      try dsimp only at hw
      obtain ⟨hP, hD⟩ := va_join (wr := []) (w1 := [(mo, eO 10 [.ref st, .ref mi, .ref mk, .long 0, .long 1, .int 0, .ref m6, .ref m7, .int 0, .ref m9, .ref m10, .int 0, .int 0, .int 0, .int 0, .ref m15, .ref m16, .ref m17, .ref m18, .ref m19, .ref m20, .ref m21, .ref m22, .ref m23, .ref m24]), (st, eI G 2246 st0)]) hP hD [0, 1] [] rfl rfl (by decide) (by decide) hk1 hFc hP1 hD1
      generalize H1 = H at hP hS ⊢
      have hP : va_P G.1 vwCl [(mo, eO 10 [.ref st, .ref mi, .ref mk, .long 0, .long 1, .int 0, .ref m6, .ref m7, .int 0, .ref m9, .ref m10, .int 0, .int 0, .int 0, .int 0, .ref m15, .ref m16, .ref m17, .ref m18, .ref m19, .ref m20, .ref m21, .ref m22, .ref m23, .ref m24]), (st, eI G 2246 st0)] H := hP
      have hD : va_D A [(mo, eO 10 [.ref st, .ref mi, .ref mk, .long 0, .long 1, .int 0, .ref m6, .ref m7, .int 0, .ref m9, .ref m10, .int 0, .int 0, .int 0, .int 0, .ref m15, .ref m16, .ref m17, .ref m18, .ref m19, .ref m20, .ref m21, .ref m22, .ref m23, .ref m24]), (st, eI G 2246 st0)] := hD
      subst hw
      refine lv_goto (tgt := 24) hx hb dX11_fault_19 (by decide) ?_
      exact W.iret (v := 1) hx hb hr (fun t ht hW => ⟨⟨_, (), rfl, (by simp [c_4]), trivial⟩, hS.F ht⟩) hS.2.2 dX11_fault_24
    · subst e9
      refine lv_aload_n hx hb dX11_fault_7 rfl (lv_at hl 0 rfl) ?_
      refine lv_sipush (v := 262) hx hb dX11_fault_8 (by decide) ?_
      refine lv_bipush (v := 51) hx hb dX11_fault_11 (by decide) ?_
      refine lv_iload_n hx hb dX11_fault_13 rfl (lv_at hl 1 rfl) ?_
      refine lv_imul hx hb dX11_fault_14 ?_
      refine my_bei (v := 51) (by decide) ?_
      refine lv_iadd hx hb dX11_fault_15 ?_
      refine my_bei (v := 313) (by decide) ?_
      have hPc := hP.sub (ws' := [(mo, eO 10 [.ref st, .ref mi, .ref mk, .long 0, .long 1, .int 0, .ref m6, .ref m7, .int 0, .ref m9, .ref m10, .int 0, .int 0, .int 0, .int 0, .ref m15, .ref m16, .ref m17, .ref m18, .ref m19, .ref m20, .ref m21, .ref m22, .ref m23, .ref m24]), (st, eI G 2246 st0)]) [0, 1] rfl
      have hDc := hD.sub (ws' := [(mo, eO 10 [.ref st, .ref mi, .ref mk, .long 0, .long 1, .int 0, .ref m6, .ref m7, .int 0, .ref m9, .ref m10, .int 0, .int 0, .int 0, .int 0, .ref m15, .ref m16, .ref m17, .ref m18, .ref m19, .ref m20, .ref m21, .ref m22, .ref m23, .ref m24]), (st, eI G 2246 st0)]) [0, 1] (by decide) rfl
      have hFc := va_free (wc := [(mo, eO 10 [.ref st, .ref mi, .ref mk, .long 0, .long 1, .int 0, .ref m6, .ref m7, .int 0, .ref m9, .ref m10, .int 0, .int 0, .int 0, .int 0, .ref m15, .ref m16, .ref m17, .ref m18, .ref m19, .ref m20, .ref m21, .ref m22, .ref m23, .ref m24]), (st, eI G 2246 st0)]) hD hS hA [0, 1] rfl
      refine va_calli (va_runV (As := [.int 313]) (rest := []) ⟨hx, hb, hml, hown, hts⟩ (c_reads0 l G s.heap.size mo st mi mk m6 m7 m9 m10 m15 m16 m17 m18 m19 m20 m21 m22 m23 m24 313 (by unfold vp_in; decide) (by decide)) (my_cwV hts ok_X11_reads w_345 rfl rfl ⟨Nat.le_of_ble_eq_true rfl, Nat.le_of_ble_eq_true rfl⟩) ⟨wP.blind, va_recv hG.1 hPc (ci := 10) (q0 := 0) rfl rfl, fun U hU hW => ⟨rfl, by rw [hU], by rw [hU]; exact hPc, kG.warm hW hG, hDc.weaken (fun _ _ _ _ => trivial)⟩⟩ rfl rfl hl.1 rfl (lv_room (Nat.le_of_ble_eq_true rfl)) dX11_fault_16 ⟨Nat.le_of_ble_eq_true rfl, Nat.le_of_ble_eq_true rfl⟩) hS (fun q _ h => hFc q h) hFc (fun r u t H1 locs ht hvm hw hB hz1 hk1 hS => ?_)
      obtain ⟨hP1, hD1⟩ := hB
      rw [ht] at hP1
      try dsimp only at hw
      obtain ⟨hP, hD⟩ := va_join (wr := []) (w1 := [(mo, eO 10 [.ref st, .ref mi, .ref mk, .long 0, .long 1, .int 0, .ref m6, .ref m7, .int 0, .ref m9, .ref m10, .int 0, .int 0, .int 0, .int 0, .ref m15, .ref m16, .ref m17, .ref m18, .ref m19, .ref m20, .ref m21, .ref m22, .ref m23, .ref m24]), (st, eI G 2246 st0)]) hP hD [0, 1] [] rfl rfl (by decide) (by decide) hk1 hFc hP1 hD1
      generalize H1 = H at hP hS ⊢
      have hP : va_P G.1 vwCl [(mo, eO 10 [.ref st, .ref mi, .ref mk, .long 0, .long 1, .int 0, .ref m6, .ref m7, .int 0, .ref m9, .ref m10, .int 0, .int 0, .int 0, .int 0, .ref m15, .ref m16, .ref m17, .ref m18, .ref m19, .ref m20, .ref m21, .ref m22, .ref m23, .ref m24]), (st, eI G 2246 st0)] H := hP
      have hD : va_D A [(mo, eO 10 [.ref st, .ref mi, .ref mk, .long 0, .long 1, .int 0, .ref m6, .ref m7, .int 0, .ref m9, .ref m10, .int 0, .int 0, .int 0, .int 0, .ref m15, .ref m16, .ref m17, .ref m18, .ref m19, .ref m20, .ref m21, .ref m22, .ref m23, .ref m24]), (st, eI G 2246 st0)] := hD
      subst hw
      refine lv_goto (tgt := 24) hx hb dX11_fault_19 (by decide) ?_
      exact W.iret (v := 1) hx hb hr (fun t ht hW => ⟨⟨_, (), rfl, (by simp [c_4]), trivial⟩, hS.F ht⟩) hS.2.2 dX11_fault_24
    · subst e9
      refine lv_aload_n hx hb dX11_fault_7 rfl (lv_at hl 0 rfl) ?_
      refine lv_sipush (v := 262) hx hb dX11_fault_8 (by decide) ?_
      refine lv_bipush (v := 51) hx hb dX11_fault_11 (by decide) ?_
      refine lv_iload_n hx hb dX11_fault_13 rfl (lv_at hl 1 rfl) ?_
      refine lv_imul hx hb dX11_fault_14 ?_
      refine my_bei (v := 102) (by decide) ?_
      refine lv_iadd hx hb dX11_fault_15 ?_
      refine my_bei (v := 364) (by decide) ?_
      have hPc := hP.sub (ws' := [(mo, eO 10 [.ref st, .ref mi, .ref mk, .long 0, .long 1, .int 0, .ref m6, .ref m7, .int 0, .ref m9, .ref m10, .int 0, .int 0, .int 0, .int 0, .ref m15, .ref m16, .ref m17, .ref m18, .ref m19, .ref m20, .ref m21, .ref m22, .ref m23, .ref m24]), (st, eI G 2246 st0)]) [0, 1] rfl
      have hDc := hD.sub (ws' := [(mo, eO 10 [.ref st, .ref mi, .ref mk, .long 0, .long 1, .int 0, .ref m6, .ref m7, .int 0, .ref m9, .ref m10, .int 0, .int 0, .int 0, .int 0, .ref m15, .ref m16, .ref m17, .ref m18, .ref m19, .ref m20, .ref m21, .ref m22, .ref m23, .ref m24]), (st, eI G 2246 st0)]) [0, 1] (by decide) rfl
      have hFc := va_free (wc := [(mo, eO 10 [.ref st, .ref mi, .ref mk, .long 0, .long 1, .int 0, .ref m6, .ref m7, .int 0, .ref m9, .ref m10, .int 0, .int 0, .int 0, .int 0, .ref m15, .ref m16, .ref m17, .ref m18, .ref m19, .ref m20, .ref m21, .ref m22, .ref m23, .ref m24]), (st, eI G 2246 st0)]) hD hS hA [0, 1] rfl
      refine va_calli (va_runV (As := [.int 364]) (rest := []) ⟨hx, hb, hml, hown, hts⟩ (c_reads0 l G s.heap.size mo st mi mk m6 m7 m9 m10 m15 m16 m17 m18 m19 m20 m21 m22 m23 m24 364 (by unfold vp_in; decide) (by decide)) (my_cwV hts ok_X11_reads w_345 rfl rfl ⟨Nat.le_of_ble_eq_true rfl, Nat.le_of_ble_eq_true rfl⟩) ⟨wP.blind, va_recv hG.1 hPc (ci := 10) (q0 := 0) rfl rfl, fun U hU hW => ⟨rfl, by rw [hU], by rw [hU]; exact hPc, kG.warm hW hG, hDc.weaken (fun _ _ _ _ => trivial)⟩⟩ rfl rfl hl.1 rfl (lv_room (Nat.le_of_ble_eq_true rfl)) dX11_fault_16 ⟨Nat.le_of_ble_eq_true rfl, Nat.le_of_ble_eq_true rfl⟩) hS (fun q _ h => hFc q h) hFc (fun r u t H1 locs ht hvm hw hB hz1 hk1 hS => ?_)
      obtain ⟨hP1, hD1⟩ := hB
      rw [ht] at hP1
      try dsimp only at hw
      obtain ⟨hP, hD⟩ := va_join (wr := []) (w1 := [(mo, eO 10 [.ref st, .ref mi, .ref mk, .long 0, .long 1, .int 0, .ref m6, .ref m7, .int 0, .ref m9, .ref m10, .int 0, .int 0, .int 0, .int 0, .ref m15, .ref m16, .ref m17, .ref m18, .ref m19, .ref m20, .ref m21, .ref m22, .ref m23, .ref m24]), (st, eI G 2246 st0)]) hP hD [0, 1] [] rfl rfl (by decide) (by decide) hk1 hFc hP1 hD1
      generalize H1 = H at hP hS ⊢
      have hP : va_P G.1 vwCl [(mo, eO 10 [.ref st, .ref mi, .ref mk, .long 0, .long 1, .int 0, .ref m6, .ref m7, .int 0, .ref m9, .ref m10, .int 0, .int 0, .int 0, .int 0, .ref m15, .ref m16, .ref m17, .ref m18, .ref m19, .ref m20, .ref m21, .ref m22, .ref m23, .ref m24]), (st, eI G 2246 st0)] H := hP
      have hD : va_D A [(mo, eO 10 [.ref st, .ref mi, .ref mk, .long 0, .long 1, .int 0, .ref m6, .ref m7, .int 0, .ref m9, .ref m10, .int 0, .int 0, .int 0, .int 0, .ref m15, .ref m16, .ref m17, .ref m18, .ref m19, .ref m20, .ref m21, .ref m22, .ref m23, .ref m24]), (st, eI G 2246 st0)] := hD
      subst hw
      refine lv_goto (tgt := 24) hx hb dX11_fault_19 (by decide) ?_
      exact W.iret (v := 1) hx hb hr (fun t ht hW => ⟨⟨_, (), rfl, (by simp [c_4]), trivial⟩, hS.F ht⟩) hS.2.2 dX11_fault_24
    · subst e9
      refine lv_aload_n hx hb dX11_fault_7 rfl (lv_at hl 0 rfl) ?_
      refine lv_sipush (v := 262) hx hb dX11_fault_8 (by decide) ?_
      refine lv_bipush (v := 51) hx hb dX11_fault_11 (by decide) ?_
      refine lv_iload_n hx hb dX11_fault_13 rfl (lv_at hl 1 rfl) ?_
      refine lv_imul hx hb dX11_fault_14 ?_
      refine my_bei (v := 153) (by decide) ?_
      refine lv_iadd hx hb dX11_fault_15 ?_
      refine my_bei (v := 415) (by decide) ?_
      have hPc := hP.sub (ws' := [(mo, eO 10 [.ref st, .ref mi, .ref mk, .long 0, .long 1, .int 0, .ref m6, .ref m7, .int 0, .ref m9, .ref m10, .int 0, .int 0, .int 0, .int 0, .ref m15, .ref m16, .ref m17, .ref m18, .ref m19, .ref m20, .ref m21, .ref m22, .ref m23, .ref m24]), (st, eI G 2246 st0)]) [0, 1] rfl
      have hDc := hD.sub (ws' := [(mo, eO 10 [.ref st, .ref mi, .ref mk, .long 0, .long 1, .int 0, .ref m6, .ref m7, .int 0, .ref m9, .ref m10, .int 0, .int 0, .int 0, .int 0, .ref m15, .ref m16, .ref m17, .ref m18, .ref m19, .ref m20, .ref m21, .ref m22, .ref m23, .ref m24]), (st, eI G 2246 st0)]) [0, 1] (by decide) rfl
      have hFc := va_free (wc := [(mo, eO 10 [.ref st, .ref mi, .ref mk, .long 0, .long 1, .int 0, .ref m6, .ref m7, .int 0, .ref m9, .ref m10, .int 0, .int 0, .int 0, .int 0, .ref m15, .ref m16, .ref m17, .ref m18, .ref m19, .ref m20, .ref m21, .ref m22, .ref m23, .ref m24]), (st, eI G 2246 st0)]) hD hS hA [0, 1] rfl
      refine va_calli (va_runV (As := [.int 415]) (rest := []) ⟨hx, hb, hml, hown, hts⟩ (c_reads0 l G s.heap.size mo st mi mk m6 m7 m9 m10 m15 m16 m17 m18 m19 m20 m21 m22 m23 m24 415 (by unfold vp_in; decide) (by decide)) (my_cwV hts ok_X11_reads w_345 rfl rfl ⟨Nat.le_of_ble_eq_true rfl, Nat.le_of_ble_eq_true rfl⟩) ⟨wP.blind, va_recv hG.1 hPc (ci := 10) (q0 := 0) rfl rfl, fun U hU hW => ⟨rfl, by rw [hU], by rw [hU]; exact hPc, kG.warm hW hG, hDc.weaken (fun _ _ _ _ => trivial)⟩⟩ rfl rfl hl.1 rfl (lv_room (Nat.le_of_ble_eq_true rfl)) dX11_fault_16 ⟨Nat.le_of_ble_eq_true rfl, Nat.le_of_ble_eq_true rfl⟩) hS (fun q _ h => hFc q h) hFc (fun r u t H1 locs ht hvm hw hB hz1 hk1 hS => ?_)
      obtain ⟨hP1, hD1⟩ := hB
      rw [ht] at hP1
      try dsimp only at hw
      obtain ⟨hP, hD⟩ := va_join (wr := []) (w1 := [(mo, eO 10 [.ref st, .ref mi, .ref mk, .long 0, .long 1, .int 0, .ref m6, .ref m7, .int 0, .ref m9, .ref m10, .int 0, .int 0, .int 0, .int 0, .ref m15, .ref m16, .ref m17, .ref m18, .ref m19, .ref m20, .ref m21, .ref m22, .ref m23, .ref m24]), (st, eI G 2246 st0)]) hP hD [0, 1] [] rfl rfl (by decide) (by decide) hk1 hFc hP1 hD1
      generalize H1 = H at hP hS ⊢
      have hP : va_P G.1 vwCl [(mo, eO 10 [.ref st, .ref mi, .ref mk, .long 0, .long 1, .int 0, .ref m6, .ref m7, .int 0, .ref m9, .ref m10, .int 0, .int 0, .int 0, .int 0, .ref m15, .ref m16, .ref m17, .ref m18, .ref m19, .ref m20, .ref m21, .ref m22, .ref m23, .ref m24]), (st, eI G 2246 st0)] H := hP
      have hD : va_D A [(mo, eO 10 [.ref st, .ref mi, .ref mk, .long 0, .long 1, .int 0, .ref m6, .ref m7, .int 0, .ref m9, .ref m10, .int 0, .int 0, .int 0, .int 0, .ref m15, .ref m16, .ref m17, .ref m18, .ref m19, .ref m20, .ref m21, .ref m22, .ref m23, .ref m24]), (st, eI G 2246 st0)] := hD
      subst hw
      refine lv_goto (tgt := 24) hx hb dX11_fault_19 (by decide) ?_
      exact W.iret (v := 1) hx hb hr (fun t ht hW => ⟨⟨_, (), rfl, (by simp [c_4]), trivial⟩, hS.F ht⟩) hS.2.2 dX11_fault_24
set_option maxHeartbeats 4000000 in
set_option maxRecDepth 100000 in
theorem m_tells (l : Launch) (G : gW) (mo : Nat) (st : Nat) (mi : Nat) (mk : Nat) (m6 : Nat) (m7 : Nat) (m9 : Nat) (m10 : Nat) (m15 : Nat) (m16 : Nat) (m17 : Nat) (m18 : Nat) (m19 : Nat) (m20 : Nat) (m21 : Nat) (m22 : Nat) (m23 : Nat) (m24 : Nat) (a1 : Int32) (a2 : Int32) (a3 : Int32)  : Met l yX11_tells (wsT yX11_tells cX11_tells 4 (some .long)) ({ frames := 2, cells := 0, slots := 0, locals := 47 }) (rP G [.ref mo, .int a1, .int a2, .int a3] [(mo, eO 10 [.ref st, .ref mi, .ref mk, .long 0, .long 1, .int 0, .ref m6, .ref m7, .int 0, .ref m9, .ref m10, .int 0, .int 0, .int 0, .int 0, .ref m15, .ref m16, .ref m17, .ref m18, .ref m19, .ref m20, .ref m21, .ref m22, .ref m23, .ref m24]), (st, eI G 2246 st0)]) (rQl (fun r => r = (-2000000000000000000))) 0 0 fr0 := by
  refine Met.ofW (cc := cX11_tells) (maxL := 4) (ret := (some .long)) (by decide) rfl ?_
  intro p e s m args below meth c s₁ B hml hv
  obtain ⟨rfl, hP, hG⟩ := hv
  have hx := B.exec
  have hb := B.bytes
  have hr := B.returns
  have hts := my_hts (atoms_spec (ws := wsT yX11_tells cX11_tells 4 (some .long)) B.pre)
  have hown : s.vm.findClass RX11 = some m.cls := findClass_of_methodNamed B.named
  have hlocks := B.notSynchronized
  have hP : va_P G.1 vwCl [(mo, eO 10 [.ref st, .ref mi, .ref mk, .long 0, .long 1, .int 0, .ref m6, .ref m7, .int 0, .ref m9, .ref m10, .int 0, .int 0, .int 0, .int 0, .ref m15, .ref m16, .ref m17, .ref m18, .ref m19, .ref m20, .ref m21, .ref m22, .ref m23, .ref m24]), (st, eI G 2246 st0)] s.heap := hP
  have hl := lv_entry ([.ref mo, .int a1, .int a2, .int a3]) (n := 4) (Nat.le_of_ble_eq_true rfl)
  rw [lg_entry_eq]
  generalize (lg_sl ([.ref mo, .int a1, .int a2, .int a3]) ++ List.replicate (4 - (lg_sl ([.ref mo, .int a1, .int a2, .int a3])).length) Slot.unset).toArray = ls at hl ⊢
  have hl : lv_has ls 4 [(0, .ref mo), (1, .int a1), (2, .int a2), (3, .int a3)] := hl
  refine lv_iload_n hx hb dX11_tells_0 rfl (lv_at hl 1 rfl) ?_
  have hPc := hP.sub (ws' := []) [] rfl
  refine rd_calli (va_runS (As := [.int a1]) (rest := []) ⟨hx, hb, hml, hown, hts⟩ (c_misText l G a1 ) (my_cwS hts ok_X11_isText w_259 rfl rfl ⟨Nat.le_of_ble_eq_true rfl, Nat.le_of_ble_eq_true rfl⟩) ⟨rP.blind, fun U hU hW => ⟨rfl, by rw [hU]; exact hPc, kG.warm hW hG⟩⟩ rfl rfl hl.1 rfl (lv_room (Nat.le_of_ble_eq_true rfl)) dX11_tells_1 ⟨Nat.le_of_ble_eq_true rfl, Nat.le_of_ble_eq_true rfl⟩) (fun r hr9 => ?_)
  subst hr9
  refine my_ifeq (tgt := 23) hx hb dX11_tells_4 (by decide) (fun c_4 => ?_) (fun c_4 => ?_)
  · refine lv_ldc2 (v := (-2000000000000000000)) hx hb hown (hts (.constantLong RX11 174 (-2000000000000000000)) w_521) dX11_tells_23 ?_
    exact W.lret (v := (-2000000000000000000)) hx hb hr (fun t ht hW => ⟨_, rfl, (rfl), ht⟩) (fun _ h => absurd h List.not_mem_nil) dX11_tells_26
  · refine lv_aload_n hx hb dX11_tells_7 rfl (lv_at hl 0 rfl) ?_
    refine lv_iconst (v := 0) hx hb dX11_tells_8 (by decide) ?_
    refine lv_iload_n hx hb dX11_tells_9 rfl (lv_at hl 2 rfl) ?_
    have hPc := hP.sub (ws' := [(mo, eO 10 [.ref st, .ref mi, .ref mk, .long 0, .long 1, .int 0, .ref m6, .ref m7, .int 0, .ref m9, .ref m10, .int 0, .int 0, .int 0, .int 0, .ref m15, .ref m16, .ref m17, .ref m18, .ref m19, .ref m20, .ref m21, .ref m22, .ref m23, .ref m24]), (st, eI G 2246 st0)]) [0, 1] rfl
    refine rd_calli (va_runV (As := [.int 0, .int a2]) (rest := []) ⟨hx, hb, hml, hown, hts⟩ (c_is0 l G mo st mi mk m6 m7 m9 m10 m15 m16 m17 m18 m19 m20 m21 m22 m23 m24 0 a2 0 1 0 0 0 0 0 0 (by unfold vp_in; decide) (by decide)) (my_cwV hts ok_X11_is w_186 rfl rfl ⟨Nat.le_of_ble_eq_true rfl, Nat.le_of_ble_eq_true rfl⟩) ⟨rP.blind, va_recv hG.1 hPc (ci := 10) (q0 := 0) rfl rfl, fun U hU hW => ⟨rfl, by rw [hU]; exact hPc, kG.warm hW hG⟩⟩ rfl rfl hl.1 rfl (lv_room (Nat.le_of_ble_eq_true rfl)) dX11_tells_10 ⟨Nat.le_of_ble_eq_true rfl, Nat.le_of_ble_eq_true rfl⟩) (fun r hr9 => ?_)
    subst hr9
    refine lv_if_eq (tgt := 23) hx hb dX11_tells_13 (by decide) (fun c_13 => ?_) (fun c_13 => absurd (by decide) c_13)
    refine lv_ldc2 (v := (-2000000000000000000)) hx hb hown (hts (.constantLong RX11 174 (-2000000000000000000)) w_521) dX11_tells_23 ?_
    exact W.lret (v := (-2000000000000000000)) hx hb hr (fun t ht hW => ⟨_, rfl, (rfl), ht⟩) (fun _ h => absurd h List.not_mem_nil) dX11_tells_26
set_option maxHeartbeats 4000000 in
set_option maxRecDepth 100000 in
theorem m_act (l : Launch) (G : gW) (sz : Nat) (mo : Nat) (st : Nat) (mi : Nat) (mk : Nat) (m6 : Nat) (m7 : Nat) (m9 : Nat) (m10 : Nat) (m15 : Nat) (m16 : Nat) (m17 : Nat) (m18 : Nat) (m19 : Nat) (m20 : Nat) (m21 : Nat) (m22 : Nat) (m23 : Nat) (m24 : Nat) (a1 : Int32) (a2 : Int32) (a3 : Int32)  : Met l yX11_act (wsT yX11_act cX11_act 6 (some .int)) ({ frames := 2, cells := 0, slots := 0, locals := 49 }) (wP G [.ref mo, .int a1, .int a2, .int a3] sz [(mo, eO 10 [.ref st, .ref mi, .ref mk, .long 0, .long 1, .int 0, .ref m6, .ref m7, .int 0, .ref m9, .ref m10, .int 0, .int 0, .int 0, .int 0, .ref m15, .ref m16, .ref m17, .ref m18, .ref m19, .ref m20, .ref m21, .ref m22, .ref m23, .ref m24]), (st, eI G 2246 st0)]) (va_Qi (fun (r : Int32) (_ : Unit) => r = if (inB 0 a1 3 = true) ∧ (inB 0 a2 1 = true) ∧ (inB 0 a3 9999 = true) then (-3) else (-2)) (fun _ _ => True) (va_A [(mo, eO 10 [.ref st, .ref mi, .ref mk, .long 0, .long 1, .int 0, .ref m6, .ref m7, .int 0, .ref m9, .ref m10, .int 0, .int 0, .int 0, .int 0, .ref m15, .ref m16, .ref m17, .ref m18, .ref m19, .ref m20, .ref m21, .ref m22, .ref m23, .ref m24]), (st, eI G 2246 st0)] sz)) 0 0 (va_A [(mo, eO 10 [.ref st, .ref mi, .ref mk, .long 0, .long 1, .int 0, .ref m6, .ref m7, .int 0, .ref m9, .ref m10, .int 0, .int 0, .int 0, .int 0, .ref m15, .ref m16, .ref m17, .ref m18, .ref m19, .ref m20, .ref m21, .ref m22, .ref m23, .ref m24]), (st, eI G 2246 st0)] sz) := by
  refine Met.ofW (cc := cX11_act) (maxL := 6) (ret := (some .int)) (by decide) rfl ?_
  intro p e s m args below meth c s₁ B hml hv
  obtain ⟨rfl, hsz, hP, hG, hD0⟩ := hv
  have hx := B.exec
  have hb := B.bytes
  have hr := B.returns
  have hts := my_hts (atoms_spec (ws := wsT yX11_act cX11_act 6 (some .int)) B.pre)
  have hown : s.vm.findClass RX11 = some m.cls := findClass_of_methodNamed B.named
  have hlocks := B.notSynchronized
  subst hsz
  have hD := hD0.self (sz := s.heap.size)
  generalize hAe : va_A [(mo, eO 10 [.ref st, .ref mi, .ref mk, .long 0, .long 1, .int 0, .ref m6, .ref m7, .int 0, .ref m9, .ref m10, .int 0, .int 0, .int 0, .int 0, .ref m15, .ref m16, .ref m17, .ref m18, .ref m19, .ref m20, .ref m21, .ref m22, .ref m23, .ref m24]), (st, eI G 2246 st0)] s.heap.size = A at hD ⊢
  have hA : ∀ q : Nat, s.heap.size ≤ q → A q := fun q h => by rw [← hAe]; exact Or.inr h
  have hS : va_S A s.heap s.heap [] := va_S.rf
  have hP : va_P G.1 vwCl [(mo, eO 10 [.ref st, .ref mi, .ref mk, .long 0, .long 1, .int 0, .ref m6, .ref m7, .int 0, .ref m9, .ref m10, .int 0, .int 0, .int 0, .int 0, .ref m15, .ref m16, .ref m17, .ref m18, .ref m19, .ref m20, .ref m21, .ref m22, .ref m23, .ref m24]), (st, eI G 2246 st0)] s.heap := hP
  have hl := lv_entry ([.ref mo, .int a1, .int a2, .int a3]) (n := 6) (Nat.le_of_ble_eq_true rfl)
  rw [lg_entry_eq]
  generalize (lg_sl ([.ref mo, .int a1, .int a2, .int a3]) ++ List.replicate (6 - (lg_sl ([.ref mo, .int a1, .int a2, .int a3])).length) Slot.unset).toArray = ls at hl ⊢
  have hl : lv_has ls 6 [(0, .ref mo), (1, .int a1), (2, .int a2), (3, .int a3)] := hl
  refine lv_iload_n hx hb dX11_act_0 rfl (lv_at hl 1 rfl) ?_
  have hPc := hP.sub (ws' := []) [] rfl
  refine rd_calli (va_runS (As := [.int a1]) (rest := []) ⟨hx, hb, hml, hown, hts⟩ (c_misText l G a1 ) (my_cwS hts ok_X11_isText w_259 rfl rfl ⟨Nat.le_of_ble_eq_true rfl, Nat.le_of_ble_eq_true rfl⟩) ⟨rP.blind, fun U hU hW => ⟨rfl, by rw [hU]; exact hPc, kG.warm hW hG⟩⟩ rfl rfl hl.1 rfl (lv_room (Nat.le_of_ble_eq_true rfl)) dX11_act_1 ⟨Nat.le_of_ble_eq_true rfl, Nat.le_of_ble_eq_true rfl⟩) (fun r hr9 => ?_)
  subst hr9
  refine my_ifeq (tgt := 24) hx hb dX11_act_4 (by decide) (fun c_4 => ?_) (fun c_4 => ?_)
  · refine lv_bipush (v := (-2)) hx hb dX11_act_24 (by decide) ?_
    exact W.iret (v := (-2)) hx hb hr (fun t ht hW => ⟨⟨_, (), rfl, (by simp [c_4]), trivial⟩, hS.F ht⟩) hS.2.2 dX11_act_26
  · refine lv_iload_n hx hb dX11_act_7 rfl (lv_at hl 2 rfl) ?_
    refine lv_i2l hx hb dX11_act_8 rfl ?_
    refine lv_lconst (v := 0) hx hb dX11_act_9 (by decide) ?_
    refine my_bel (v := Int32.toInt64 0) (by decide) ?_
    refine lv_lconst (v := 1) hx hb dX11_act_10 (by decide) ?_
    refine my_bel (v := Int32.toInt64 1) (by decide) ?_
    have hPc := hP.sub (ws' := []) [] rfl
    refine rd_calli (va_runS (As := [.long (Int32.toInt64 a2), .long (Int32.toInt64 0), .long (Int32.toInt64 1)]) (rest := []) ⟨hx, hb, hml, hown, hts⟩ (c_in l G a2 0 1 ) (my_cwS hts ok_X11_in w_162 rfl rfl ⟨Nat.le_of_ble_eq_true rfl, Nat.le_of_ble_eq_true rfl⟩) ⟨rP.blind, fun U hU hW => ⟨rfl, by rw [hU]; exact hPc, kG.warm hW hG⟩⟩ rfl rfl hl.1 rfl (lv_room (Nat.le_of_ble_eq_true rfl)) dX11_act_11 ⟨Nat.le_of_ble_eq_true rfl, Nat.le_of_ble_eq_true rfl⟩) (fun r hr9 => ?_)
    subst hr9
    refine my_ifeq (tgt := 24) hx hb dX11_act_14 (by decide) (fun c_14 => ?_) (fun c_14 => ?_)
    · refine lv_bipush (v := (-2)) hx hb dX11_act_24 (by decide) ?_
      exact W.iret (v := (-2)) hx hb hr (fun t ht hW => ⟨⟨_, (), rfl, (by simp [c_4, c_14]), trivial⟩, hS.F ht⟩) hS.2.2 dX11_act_26
    · refine lv_iload_n hx hb dX11_act_17 rfl (lv_at hl 3 rfl) ?_
      have hPc := hP.sub (ws' := []) [] rfl
      refine rd_calli (va_runS (As := [.int a3]) (rest := []) ⟨hx, hb, hml, hown, hts⟩ (c_misDay l G a3 ) (my_cwS hts ok_X11_isDay w_190 rfl rfl ⟨Nat.le_of_ble_eq_true rfl, Nat.le_of_ble_eq_true rfl⟩) ⟨rP.blind, fun U hU hW => ⟨rfl, by rw [hU]; exact hPc, kG.warm hW hG⟩⟩ rfl rfl hl.1 rfl (lv_room (Nat.le_of_ble_eq_true rfl)) dX11_act_18 ⟨Nat.le_of_ble_eq_true rfl, Nat.le_of_ble_eq_true rfl⟩) (fun r hr9 => ?_)
      subst hr9
      refine my_ifne (tgt := 27) hx hb dX11_act_21 (by decide) (fun c_21 => ?_) (fun c_21 => ?_)
      · rcases (in3 c_4) with e9 | e9 | e9 | e9
        · subst e9
          refine lv_aload_n hx hb dX11_act_27 rfl (lv_at hl 0 rfl) ?_
          refine lv_sipush (v := 262) hx hb dX11_act_28 (by decide) ?_
          refine lv_bipush (v := 51) hx hb dX11_act_31 (by decide) ?_
          refine lv_iload_n hx hb dX11_act_33 rfl (lv_at hl 1 rfl) ?_
          refine lv_imul hx hb dX11_act_34 ?_
          refine my_bei (v := 0) (by decide) ?_
          refine lv_iadd hx hb dX11_act_35 ?_
          refine my_bei (v := 262) (by decide) ?_
          have hPc := hP.sub (ws' := [(mo, eO 10 [.ref st, .ref mi, .ref mk, .long 0, .long 1, .int 0, .ref m6, .ref m7, .int 0, .ref m9, .ref m10, .int 0, .int 0, .int 0, .int 0, .ref m15, .ref m16, .ref m17, .ref m18, .ref m19, .ref m20, .ref m21, .ref m22, .ref m23, .ref m24]), (st, eI G 2246 st0)]) [0, 1] rfl
          have hDc := hD.sub (ws' := [(mo, eO 10 [.ref st, .ref mi, .ref mk, .long 0, .long 1, .int 0, .ref m6, .ref m7, .int 0, .ref m9, .ref m10, .int 0, .int 0, .int 0, .int 0, .ref m15, .ref m16, .ref m17, .ref m18, .ref m19, .ref m20, .ref m21, .ref m22, .ref m23, .ref m24]), (st, eI G 2246 st0)]) [0, 1] (by decide) rfl
          have hFc := va_free (wc := [(mo, eO 10 [.ref st, .ref mi, .ref mk, .long 0, .long 1, .int 0, .ref m6, .ref m7, .int 0, .ref m9, .ref m10, .int 0, .int 0, .int 0, .int 0, .ref m15, .ref m16, .ref m17, .ref m18, .ref m19, .ref m20, .ref m21, .ref m22, .ref m23, .ref m24]), (st, eI G 2246 st0)]) hD hS hA [0, 1] rfl
          refine va_calli (va_runV (As := [.int 262]) (rest := []) ⟨hx, hb, hml, hown, hts⟩ (c_reads0 l G s.heap.size mo st mi mk m6 m7 m9 m10 m15 m16 m17 m18 m19 m20 m21 m22 m23 m24 262 (by unfold vp_in; decide) (by decide)) (my_cwV hts ok_X11_reads w_345 rfl rfl ⟨Nat.le_of_ble_eq_true rfl, Nat.le_of_ble_eq_true rfl⟩) ⟨wP.blind, va_recv hG.1 hPc (ci := 10) (q0 := 0) rfl rfl, fun U hU hW => ⟨rfl, by rw [hU], by rw [hU]; exact hPc, kG.warm hW hG, hDc.weaken (fun _ _ _ _ => trivial)⟩⟩ rfl rfl hl.1 rfl (lv_room (Nat.le_of_ble_eq_true rfl)) dX11_act_36 ⟨Nat.le_of_ble_eq_true rfl, Nat.le_of_ble_eq_true rfl⟩) hS (fun q _ h => hFc q h) hFc (fun r u t H1 locs ht hvm hw hB hz1 hk1 hS => ?_)
          obtain ⟨hP1, hD1⟩ := hB
          rw [ht] at hP1
          try dsimp only at hw
          obtain ⟨hP, hD⟩ := va_join (wr := []) (w1 := [(mo, eO 10 [.ref st, .ref mi, .ref mk, .long 0, .long 1, .int 0, .ref m6, .ref m7, .int 0, .ref m9, .ref m10, .int 0, .int 0, .int 0, .int 0, .ref m15, .ref m16, .ref m17, .ref m18, .ref m19, .ref m20, .ref m21, .ref m22, .ref m23, .ref m24]), (st, eI G 2246 st0)]) hP hD [0, 1] [] rfl rfl (by decide) (by decide) hk1 hFc hP1 hD1
          generalize H1 = H at hP hS ⊢
          have hP : va_P G.1 vwCl [(mo, eO 10 [.ref st, .ref mi, .ref mk, .long 0, .long 1, .int 0, .ref m6, .ref m7, .int 0, .ref m9, .ref m10, .int 0, .int 0, .int 0, .int 0, .ref m15, .ref m16, .ref m17, .ref m18, .ref m19, .ref m20, .ref m21, .ref m22, .ref m23, .ref m24]), (st, eI G 2246 st0)] H := hP
          have hD : va_D A [(mo, eO 10 [.ref st, .ref mi, .ref mk, .long 0, .long 1, .int 0, .ref m6, .ref m7, .int 0, .ref m9, .ref m10, .int 0, .int 0, .int 0, .int 0, .ref m15, .ref m16, .ref m17, .ref m18, .ref m19, .ref m20, .ref m21, .ref m22, .ref m23, .ref m24]), (st, eI G 2246 st0)] := hD
          subst hw
          refine lv_iconst (v := (-1)) hx hb dX11_act_39 (by decide) ?_
          refine lv_icmp_eq (tgt := 46) hx hb dX11_act_40 (by decide) (fun c_40 => absurd c_40 (by decide)) (fun c_40 => ?_)
          refine lv_bipush (v := (-3)) hx hb dX11_act_43 (by decide) ?_
          exact W.iret (v := (-3)) hx hb hr (fun t ht hW => ⟨⟨_, (), rfl, (by simp [c_4, c_14, c_21]), trivial⟩, hS.F ht⟩) hS.2.2 dX11_act_45
        · subst e9
          refine lv_aload_n hx hb dX11_act_27 rfl (lv_at hl 0 rfl) ?_
          refine lv_sipush (v := 262) hx hb dX11_act_28 (by decide) ?_
          refine lv_bipush (v := 51) hx hb dX11_act_31 (by decide) ?_
          refine lv_iload_n hx hb dX11_act_33 rfl (lv_at hl 1 rfl) ?_
          refine lv_imul hx hb dX11_act_34 ?_
          refine my_bei (v := 51) (by decide) ?_
          refine lv_iadd hx hb dX11_act_35 ?_
          refine my_bei (v := 313) (by decide) ?_
          have hPc := hP.sub (ws' := [(mo, eO 10 [.ref st, .ref mi, .ref mk, .long 0, .long 1, .int 0, .ref m6, .ref m7, .int 0, .ref m9, .ref m10, .int 0, .int 0, .int 0, .int 0, .ref m15, .ref m16, .ref m17, .ref m18, .ref m19, .ref m20, .ref m21, .ref m22, .ref m23, .ref m24]), (st, eI G 2246 st0)]) [0, 1] rfl
          have hDc := hD.sub (ws' := [(mo, eO 10 [.ref st, .ref mi, .ref mk, .long 0, .long 1, .int 0, .ref m6, .ref m7, .int 0, .ref m9, .ref m10, .int 0, .int 0, .int 0, .int 0, .ref m15, .ref m16, .ref m17, .ref m18, .ref m19, .ref m20, .ref m21, .ref m22, .ref m23, .ref m24]), (st, eI G 2246 st0)]) [0, 1] (by decide) rfl
          have hFc := va_free (wc := [(mo, eO 10 [.ref st, .ref mi, .ref mk, .long 0, .long 1, .int 0, .ref m6, .ref m7, .int 0, .ref m9, .ref m10, .int 0, .int 0, .int 0, .int 0, .ref m15, .ref m16, .ref m17, .ref m18, .ref m19, .ref m20, .ref m21, .ref m22, .ref m23, .ref m24]), (st, eI G 2246 st0)]) hD hS hA [0, 1] rfl
          refine va_calli (va_runV (As := [.int 313]) (rest := []) ⟨hx, hb, hml, hown, hts⟩ (c_reads0 l G s.heap.size mo st mi mk m6 m7 m9 m10 m15 m16 m17 m18 m19 m20 m21 m22 m23 m24 313 (by unfold vp_in; decide) (by decide)) (my_cwV hts ok_X11_reads w_345 rfl rfl ⟨Nat.le_of_ble_eq_true rfl, Nat.le_of_ble_eq_true rfl⟩) ⟨wP.blind, va_recv hG.1 hPc (ci := 10) (q0 := 0) rfl rfl, fun U hU hW => ⟨rfl, by rw [hU], by rw [hU]; exact hPc, kG.warm hW hG, hDc.weaken (fun _ _ _ _ => trivial)⟩⟩ rfl rfl hl.1 rfl (lv_room (Nat.le_of_ble_eq_true rfl)) dX11_act_36 ⟨Nat.le_of_ble_eq_true rfl, Nat.le_of_ble_eq_true rfl⟩) hS (fun q _ h => hFc q h) hFc (fun r u t H1 locs ht hvm hw hB hz1 hk1 hS => ?_)
          obtain ⟨hP1, hD1⟩ := hB
          rw [ht] at hP1
          try dsimp only at hw
          obtain ⟨hP, hD⟩ := va_join (wr := []) (w1 := [(mo, eO 10 [.ref st, .ref mi, .ref mk, .long 0, .long 1, .int 0, .ref m6, .ref m7, .int 0, .ref m9, .ref m10, .int 0, .int 0, .int 0, .int 0, .ref m15, .ref m16, .ref m17, .ref m18, .ref m19, .ref m20, .ref m21, .ref m22, .ref m23, .ref m24]), (st, eI G 2246 st0)]) hP hD [0, 1] [] rfl rfl (by decide) (by decide) hk1 hFc hP1 hD1
          generalize H1 = H at hP hS ⊢
          have hP : va_P G.1 vwCl [(mo, eO 10 [.ref st, .ref mi, .ref mk, .long 0, .long 1, .int 0, .ref m6, .ref m7, .int 0, .ref m9, .ref m10, .int 0, .int 0, .int 0, .int 0, .ref m15, .ref m16, .ref m17, .ref m18, .ref m19, .ref m20, .ref m21, .ref m22, .ref m23, .ref m24]), (st, eI G 2246 st0)] H := hP
          have hD : va_D A [(mo, eO 10 [.ref st, .ref mi, .ref mk, .long 0, .long 1, .int 0, .ref m6, .ref m7, .int 0, .ref m9, .ref m10, .int 0, .int 0, .int 0, .int 0, .ref m15, .ref m16, .ref m17, .ref m18, .ref m19, .ref m20, .ref m21, .ref m22, .ref m23, .ref m24]), (st, eI G 2246 st0)] := hD
          subst hw
          refine lv_iconst (v := (-1)) hx hb dX11_act_39 (by decide) ?_
          refine lv_icmp_eq (tgt := 46) hx hb dX11_act_40 (by decide) (fun c_40 => absurd c_40 (by decide)) (fun c_40 => ?_)
          refine lv_bipush (v := (-3)) hx hb dX11_act_43 (by decide) ?_
          exact W.iret (v := (-3)) hx hb hr (fun t ht hW => ⟨⟨_, (), rfl, (by simp [c_4, c_14, c_21]), trivial⟩, hS.F ht⟩) hS.2.2 dX11_act_45
        · subst e9
          refine lv_aload_n hx hb dX11_act_27 rfl (lv_at hl 0 rfl) ?_
          refine lv_sipush (v := 262) hx hb dX11_act_28 (by decide) ?_
          refine lv_bipush (v := 51) hx hb dX11_act_31 (by decide) ?_
          refine lv_iload_n hx hb dX11_act_33 rfl (lv_at hl 1 rfl) ?_
          refine lv_imul hx hb dX11_act_34 ?_
          refine my_bei (v := 102) (by decide) ?_
          refine lv_iadd hx hb dX11_act_35 ?_
          refine my_bei (v := 364) (by decide) ?_
          have hPc := hP.sub (ws' := [(mo, eO 10 [.ref st, .ref mi, .ref mk, .long 0, .long 1, .int 0, .ref m6, .ref m7, .int 0, .ref m9, .ref m10, .int 0, .int 0, .int 0, .int 0, .ref m15, .ref m16, .ref m17, .ref m18, .ref m19, .ref m20, .ref m21, .ref m22, .ref m23, .ref m24]), (st, eI G 2246 st0)]) [0, 1] rfl
          have hDc := hD.sub (ws' := [(mo, eO 10 [.ref st, .ref mi, .ref mk, .long 0, .long 1, .int 0, .ref m6, .ref m7, .int 0, .ref m9, .ref m10, .int 0, .int 0, .int 0, .int 0, .ref m15, .ref m16, .ref m17, .ref m18, .ref m19, .ref m20, .ref m21, .ref m22, .ref m23, .ref m24]), (st, eI G 2246 st0)]) [0, 1] (by decide) rfl
          have hFc := va_free (wc := [(mo, eO 10 [.ref st, .ref mi, .ref mk, .long 0, .long 1, .int 0, .ref m6, .ref m7, .int 0, .ref m9, .ref m10, .int 0, .int 0, .int 0, .int 0, .ref m15, .ref m16, .ref m17, .ref m18, .ref m19, .ref m20, .ref m21, .ref m22, .ref m23, .ref m24]), (st, eI G 2246 st0)]) hD hS hA [0, 1] rfl
          refine va_calli (va_runV (As := [.int 364]) (rest := []) ⟨hx, hb, hml, hown, hts⟩ (c_reads0 l G s.heap.size mo st mi mk m6 m7 m9 m10 m15 m16 m17 m18 m19 m20 m21 m22 m23 m24 364 (by unfold vp_in; decide) (by decide)) (my_cwV hts ok_X11_reads w_345 rfl rfl ⟨Nat.le_of_ble_eq_true rfl, Nat.le_of_ble_eq_true rfl⟩) ⟨wP.blind, va_recv hG.1 hPc (ci := 10) (q0 := 0) rfl rfl, fun U hU hW => ⟨rfl, by rw [hU], by rw [hU]; exact hPc, kG.warm hW hG, hDc.weaken (fun _ _ _ _ => trivial)⟩⟩ rfl rfl hl.1 rfl (lv_room (Nat.le_of_ble_eq_true rfl)) dX11_act_36 ⟨Nat.le_of_ble_eq_true rfl, Nat.le_of_ble_eq_true rfl⟩) hS (fun q _ h => hFc q h) hFc (fun r u t H1 locs ht hvm hw hB hz1 hk1 hS => ?_)
          obtain ⟨hP1, hD1⟩ := hB
          rw [ht] at hP1
          try dsimp only at hw
          obtain ⟨hP, hD⟩ := va_join (wr := []) (w1 := [(mo, eO 10 [.ref st, .ref mi, .ref mk, .long 0, .long 1, .int 0, .ref m6, .ref m7, .int 0, .ref m9, .ref m10, .int 0, .int 0, .int 0, .int 0, .ref m15, .ref m16, .ref m17, .ref m18, .ref m19, .ref m20, .ref m21, .ref m22, .ref m23, .ref m24]), (st, eI G 2246 st0)]) hP hD [0, 1] [] rfl rfl (by decide) (by decide) hk1 hFc hP1 hD1
          generalize H1 = H at hP hS ⊢
          have hP : va_P G.1 vwCl [(mo, eO 10 [.ref st, .ref mi, .ref mk, .long 0, .long 1, .int 0, .ref m6, .ref m7, .int 0, .ref m9, .ref m10, .int 0, .int 0, .int 0, .int 0, .ref m15, .ref m16, .ref m17, .ref m18, .ref m19, .ref m20, .ref m21, .ref m22, .ref m23, .ref m24]), (st, eI G 2246 st0)] H := hP
          have hD : va_D A [(mo, eO 10 [.ref st, .ref mi, .ref mk, .long 0, .long 1, .int 0, .ref m6, .ref m7, .int 0, .ref m9, .ref m10, .int 0, .int 0, .int 0, .int 0, .ref m15, .ref m16, .ref m17, .ref m18, .ref m19, .ref m20, .ref m21, .ref m22, .ref m23, .ref m24]), (st, eI G 2246 st0)] := hD
          subst hw
          refine lv_iconst (v := (-1)) hx hb dX11_act_39 (by decide) ?_
          refine lv_icmp_eq (tgt := 46) hx hb dX11_act_40 (by decide) (fun c_40 => absurd c_40 (by decide)) (fun c_40 => ?_)
          refine lv_bipush (v := (-3)) hx hb dX11_act_43 (by decide) ?_
          exact W.iret (v := (-3)) hx hb hr (fun t ht hW => ⟨⟨_, (), rfl, (by simp [c_4, c_14, c_21]), trivial⟩, hS.F ht⟩) hS.2.2 dX11_act_45
        · subst e9
          refine lv_aload_n hx hb dX11_act_27 rfl (lv_at hl 0 rfl) ?_
          refine lv_sipush (v := 262) hx hb dX11_act_28 (by decide) ?_
          refine lv_bipush (v := 51) hx hb dX11_act_31 (by decide) ?_
          refine lv_iload_n hx hb dX11_act_33 rfl (lv_at hl 1 rfl) ?_
          refine lv_imul hx hb dX11_act_34 ?_
          refine my_bei (v := 153) (by decide) ?_
          refine lv_iadd hx hb dX11_act_35 ?_
          refine my_bei (v := 415) (by decide) ?_
          have hPc := hP.sub (ws' := [(mo, eO 10 [.ref st, .ref mi, .ref mk, .long 0, .long 1, .int 0, .ref m6, .ref m7, .int 0, .ref m9, .ref m10, .int 0, .int 0, .int 0, .int 0, .ref m15, .ref m16, .ref m17, .ref m18, .ref m19, .ref m20, .ref m21, .ref m22, .ref m23, .ref m24]), (st, eI G 2246 st0)]) [0, 1] rfl
          have hDc := hD.sub (ws' := [(mo, eO 10 [.ref st, .ref mi, .ref mk, .long 0, .long 1, .int 0, .ref m6, .ref m7, .int 0, .ref m9, .ref m10, .int 0, .int 0, .int 0, .int 0, .ref m15, .ref m16, .ref m17, .ref m18, .ref m19, .ref m20, .ref m21, .ref m22, .ref m23, .ref m24]), (st, eI G 2246 st0)]) [0, 1] (by decide) rfl
          have hFc := va_free (wc := [(mo, eO 10 [.ref st, .ref mi, .ref mk, .long 0, .long 1, .int 0, .ref m6, .ref m7, .int 0, .ref m9, .ref m10, .int 0, .int 0, .int 0, .int 0, .ref m15, .ref m16, .ref m17, .ref m18, .ref m19, .ref m20, .ref m21, .ref m22, .ref m23, .ref m24]), (st, eI G 2246 st0)]) hD hS hA [0, 1] rfl
          refine va_calli (va_runV (As := [.int 415]) (rest := []) ⟨hx, hb, hml, hown, hts⟩ (c_reads0 l G s.heap.size mo st mi mk m6 m7 m9 m10 m15 m16 m17 m18 m19 m20 m21 m22 m23 m24 415 (by unfold vp_in; decide) (by decide)) (my_cwV hts ok_X11_reads w_345 rfl rfl ⟨Nat.le_of_ble_eq_true rfl, Nat.le_of_ble_eq_true rfl⟩) ⟨wP.blind, va_recv hG.1 hPc (ci := 10) (q0 := 0) rfl rfl, fun U hU hW => ⟨rfl, by rw [hU], by rw [hU]; exact hPc, kG.warm hW hG, hDc.weaken (fun _ _ _ _ => trivial)⟩⟩ rfl rfl hl.1 rfl (lv_room (Nat.le_of_ble_eq_true rfl)) dX11_act_36 ⟨Nat.le_of_ble_eq_true rfl, Nat.le_of_ble_eq_true rfl⟩) hS (fun q _ h => hFc q h) hFc (fun r u t H1 locs ht hvm hw hB hz1 hk1 hS => ?_)
          obtain ⟨hP1, hD1⟩ := hB
          rw [ht] at hP1
          try dsimp only at hw
          obtain ⟨hP, hD⟩ := va_join (wr := []) (w1 := [(mo, eO 10 [.ref st, .ref mi, .ref mk, .long 0, .long 1, .int 0, .ref m6, .ref m7, .int 0, .ref m9, .ref m10, .int 0, .int 0, .int 0, .int 0, .ref m15, .ref m16, .ref m17, .ref m18, .ref m19, .ref m20, .ref m21, .ref m22, .ref m23, .ref m24]), (st, eI G 2246 st0)]) hP hD [0, 1] [] rfl rfl (by decide) (by decide) hk1 hFc hP1 hD1
          generalize H1 = H at hP hS ⊢
          have hP : va_P G.1 vwCl [(mo, eO 10 [.ref st, .ref mi, .ref mk, .long 0, .long 1, .int 0, .ref m6, .ref m7, .int 0, .ref m9, .ref m10, .int 0, .int 0, .int 0, .int 0, .ref m15, .ref m16, .ref m17, .ref m18, .ref m19, .ref m20, .ref m21, .ref m22, .ref m23, .ref m24]), (st, eI G 2246 st0)] H := hP
          have hD : va_D A [(mo, eO 10 [.ref st, .ref mi, .ref mk, .long 0, .long 1, .int 0, .ref m6, .ref m7, .int 0, .ref m9, .ref m10, .int 0, .int 0, .int 0, .int 0, .ref m15, .ref m16, .ref m17, .ref m18, .ref m19, .ref m20, .ref m21, .ref m22, .ref m23, .ref m24]), (st, eI G 2246 st0)] := hD
          subst hw
          refine lv_iconst (v := (-1)) hx hb dX11_act_39 (by decide) ?_
          refine lv_icmp_eq (tgt := 46) hx hb dX11_act_40 (by decide) (fun c_40 => absurd c_40 (by decide)) (fun c_40 => ?_)
          refine lv_bipush (v := (-3)) hx hb dX11_act_43 (by decide) ?_
          exact W.iret (v := (-3)) hx hb hr (fun t ht hW => ⟨⟨_, (), rfl, (by simp [c_4, c_14, c_21]), trivial⟩, hS.F ht⟩) hS.2.2 dX11_act_45
      · refine lv_bipush (v := (-2)) hx hb dX11_act_24 (by decide) ?_
        exact W.iret (v := (-2)) hx hb hr (fun t ht hW => ⟨⟨_, (), rfl, (by simp [c_4, c_14, c_21]), trivial⟩, hS.F ht⟩) hS.2.2 dX11_act_26
set_option maxHeartbeats 4000000 in
set_option maxRecDepth 100000 in
theorem m_strikeOut (l : Launch) (G : gW) (mo : Nat) (st : Nat) (mi : Nat) (mk : Nat) (m6 : Nat) (m7 : Nat) (m9 : Nat) (m10 : Nat) (m15 : Nat) (m16 : Nat) (m17 : Nat) (m18 : Nat) (m19 : Nat) (m20 : Nat) (m21 : Nat) (m22 : Nat) (m23 : Nat) (m24 : Nat) (a1 : Int32) (a2 : Int32)  : Met l yX11_strikeOut (wsT yX11_strikeOut cX11_strikeOut 4 (some .int)) ({ frames := 2, cells := 0, slots := 0, locals := 47 }) (rP G [.ref mo, .int a1, .int a2] [(mo, eO 10 [.ref st, .ref mi, .ref mk, .long 0, .long 1, .int 0, .ref m6, .ref m7, .int 0, .ref m9, .ref m10, .int 0, .int 0, .int 0, .int 0, .ref m15, .ref m16, .ref m17, .ref m18, .ref m19, .ref m20, .ref m21, .ref m22, .ref m23, .ref m24]), (st, eI G 2246 st0)]) (rQi (fun r => r = (-2))) 0 0 fr0 := by
  refine Met.ofW (cc := cX11_strikeOut) (maxL := 4) (ret := (some .int)) (by decide) rfl ?_
  intro p e s m args below meth c s₁ B hml hv
  obtain ⟨rfl, hP, hG⟩ := hv
  have hx := B.exec
  have hb := B.bytes
  have hr := B.returns
  have hts := my_hts (atoms_spec (ws := wsT yX11_strikeOut cX11_strikeOut 4 (some .int)) B.pre)
  have hown : s.vm.findClass RX11 = some m.cls := findClass_of_methodNamed B.named
  have hlocks := B.notSynchronized
  have hP : va_P G.1 vwCl [(mo, eO 10 [.ref st, .ref mi, .ref mk, .long 0, .long 1, .int 0, .ref m6, .ref m7, .int 0, .ref m9, .ref m10, .int 0, .int 0, .int 0, .int 0, .ref m15, .ref m16, .ref m17, .ref m18, .ref m19, .ref m20, .ref m21, .ref m22, .ref m23, .ref m24]), (st, eI G 2246 st0)] s.heap := hP
  have hl := lv_entry ([.ref mo, .int a1, .int a2]) (n := 4) (Nat.le_of_ble_eq_true rfl)
  rw [lg_entry_eq]
  generalize (lg_sl ([.ref mo, .int a1, .int a2]) ++ List.replicate (4 - (lg_sl ([.ref mo, .int a1, .int a2])).length) Slot.unset).toArray = ls at hl ⊢
  have hl : lv_has ls 4 [(0, .ref mo), (1, .int a1), (2, .int a2)] := hl
  refine lv_aload_n hx hb dX11_strikeOut_0 rfl (lv_at hl 0 rfl) ?_
  refine lv_iconst (v := 3) hx hb dX11_strikeOut_1 (by decide) ?_
  refine lv_iload_n hx hb dX11_strikeOut_2 rfl (lv_at hl 1 rfl) ?_
  have hPc := hP.sub (ws' := [(mo, eO 10 [.ref st, .ref mi, .ref mk, .long 0, .long 1, .int 0, .ref m6, .ref m7, .int 0, .ref m9, .ref m10, .int 0, .int 0, .int 0, .int 0, .ref m15, .ref m16, .ref m17, .ref m18, .ref m19, .ref m20, .ref m21, .ref m22, .ref m23, .ref m24]), (st, eI G 2246 st0)]) [0, 1] rfl
  refine rd_calli (va_runV (As := [.int 3, .int a1]) (rest := []) ⟨hx, hb, hml, hown, hts⟩ (c_is0 l G mo st mi mk m6 m7 m9 m10 m15 m16 m17 m18 m19 m20 m21 m22 m23 m24 3 a1 0 1 0 0 0 0 0 0 (by unfold vp_in; decide) (by decide)) (my_cwV hts ok_X11_is w_186 rfl rfl ⟨Nat.le_of_ble_eq_true rfl, Nat.le_of_ble_eq_true rfl⟩) ⟨rP.blind, va_recv hG.1 hPc (ci := 10) (q0 := 0) rfl rfl, fun U hU hW => ⟨rfl, by rw [hU]; exact hPc, kG.warm hW hG⟩⟩ rfl rfl hl.1 rfl (lv_room (Nat.le_of_ble_eq_true rfl)) dX11_strikeOut_3 ⟨Nat.le_of_ble_eq_true rfl, Nat.le_of_ble_eq_true rfl⟩) (fun r hr9 => ?_)
  subst hr9
  refine lv_if_eq (tgt := 16) hx hb dX11_strikeOut_6 (by decide) (fun c_6 => ?_) (fun c_6 => absurd (by decide) c_6)
  refine lv_bipush (v := (-2)) hx hb dX11_strikeOut_16 (by decide) ?_
  exact W.iret (v := (-2)) hx hb hr (fun t ht hW => ⟨_, rfl, (rfl), ht⟩) (fun _ h => absurd h List.not_mem_nil) dX11_strikeOut_18
set_option maxHeartbeats 4000000 in
set_option maxRecDepth 100000 in
theorem m_force (l : Launch) (G : gW) (mo : Nat) (st : Nat) (mi : Nat) (mk : Nat) (m6 : Nat) (m7 : Nat) (m9 : Nat) (m10 : Nat) (m15 : Nat) (m16 : Nat) (m17 : Nat) (m18 : Nat) (m19 : Nat) (m20 : Nat) (m21 : Nat) (m22 : Nat) (m23 : Nat) (m24 : Nat) (a1 : Int32) (a2 : Int32)  : Met l yX11_force (wsT yX11_force cX11_force 3 (some .int)) ({ frames := 2, cells := 0, slots := 0, locals := 45 }) (rP G [.ref mo, .int a1, .int a2] [(mo, eO 10 [.ref st, .ref mi, .ref mk, .long 0, .long 1, .int 0, .ref m6, .ref m7, .int 0, .ref m9, .ref m10, .int 0, .int 0, .int 0, .int 0, .ref m15, .ref m16, .ref m17, .ref m18, .ref m19, .ref m20, .ref m21, .ref m22, .ref m23, .ref m24]), (st, eI G 2246 st0)]) (rQi (fun r => r = if (inB 0 a1 1 = true) ∧ (inB 0 a2 9999 = true) then (-1) else (-2))) 0 0 fr0 := by
  refine Met.ofW (cc := cX11_force) (maxL := 3) (ret := (some .int)) (by decide) rfl ?_
  intro p e s m args below meth c s₁ B hml hv
  obtain ⟨rfl, hP, hG⟩ := hv
  have hx := B.exec
  have hb := B.bytes
  have hr := B.returns
  have hts := my_hts (atoms_spec (ws := wsT yX11_force cX11_force 3 (some .int)) B.pre)
  have hown : s.vm.findClass RX11 = some m.cls := findClass_of_methodNamed B.named
  have hlocks := B.notSynchronized
  have hP : va_P G.1 vwCl [(mo, eO 10 [.ref st, .ref mi, .ref mk, .long 0, .long 1, .int 0, .ref m6, .ref m7, .int 0, .ref m9, .ref m10, .int 0, .int 0, .int 0, .int 0, .ref m15, .ref m16, .ref m17, .ref m18, .ref m19, .ref m20, .ref m21, .ref m22, .ref m23, .ref m24]), (st, eI G 2246 st0)] s.heap := hP
  have hl := lv_entry ([.ref mo, .int a1, .int a2]) (n := 3) (Nat.le_of_ble_eq_true rfl)
  rw [lg_entry_eq]
  generalize (lg_sl ([.ref mo, .int a1, .int a2]) ++ List.replicate (3 - (lg_sl ([.ref mo, .int a1, .int a2])).length) Slot.unset).toArray = ls at hl ⊢
  have hl : lv_has ls 3 [(0, .ref mo), (1, .int a1), (2, .int a2)] := hl
  refine lv_iload_n hx hb dX11_force_0 rfl (lv_at hl 1 rfl) ?_
  refine lv_i2l hx hb dX11_force_1 rfl ?_
  refine lv_lconst (v := 0) hx hb dX11_force_2 (by decide) ?_
  refine my_bel (v := Int32.toInt64 0) (by decide) ?_
  refine lv_lconst (v := 1) hx hb dX11_force_3 (by decide) ?_
  refine my_bel (v := Int32.toInt64 1) (by decide) ?_
  have hPc := hP.sub (ws' := []) [] rfl
  refine rd_calli (va_runS (As := [.long (Int32.toInt64 a1), .long (Int32.toInt64 0), .long (Int32.toInt64 1)]) (rest := []) ⟨hx, hb, hml, hown, hts⟩ (c_in l G a1 0 1 ) (my_cwS hts ok_X11_in w_162 rfl rfl ⟨Nat.le_of_ble_eq_true rfl, Nat.le_of_ble_eq_true rfl⟩) ⟨rP.blind, fun U hU hW => ⟨rfl, by rw [hU]; exact hPc, kG.warm hW hG⟩⟩ rfl rfl hl.1 rfl (lv_room (Nat.le_of_ble_eq_true rfl)) dX11_force_4 ⟨Nat.le_of_ble_eq_true rfl, Nat.le_of_ble_eq_true rfl⟩) (fun r hr9 => ?_)
  subst hr9
  refine my_ifeq (tgt := 26) hx hb dX11_force_7 (by decide) (fun c_7 => ?_) (fun c_7 => ?_)
  · refine lv_bipush (v := (-2)) hx hb dX11_force_26 (by decide) ?_
    exact W.iret (v := (-2)) hx hb hr (fun t ht hW => ⟨_, rfl, (by simp [c_7]), ht⟩) (fun _ h => absurd h List.not_mem_nil) dX11_force_28
  · refine lv_iload_n hx hb dX11_force_10 rfl (lv_at hl 2 rfl) ?_
    have hPc := hP.sub (ws' := []) [] rfl
    refine rd_calli (va_runS (As := [.int a2]) (rest := []) ⟨hx, hb, hml, hown, hts⟩ (c_misDay l G a2 ) (my_cwS hts ok_X11_isDay w_190 rfl rfl ⟨Nat.le_of_ble_eq_true rfl, Nat.le_of_ble_eq_true rfl⟩) ⟨rP.blind, fun U hU hW => ⟨rfl, by rw [hU]; exact hPc, kG.warm hW hG⟩⟩ rfl rfl hl.1 rfl (lv_room (Nat.le_of_ble_eq_true rfl)) dX11_force_11 ⟨Nat.le_of_ble_eq_true rfl, Nat.le_of_ble_eq_true rfl⟩) (fun r hr9 => ?_)
    subst hr9
    refine my_ifeq (tgt := 26) hx hb dX11_force_14 (by decide) (fun c_14 => ?_) (fun c_14 => ?_)
    · refine lv_bipush (v := (-2)) hx hb dX11_force_26 (by decide) ?_
      exact W.iret (v := (-2)) hx hb hr (fun t ht hW => ⟨_, rfl, (by simp [c_7, c_14]), ht⟩) (fun _ h => absurd h List.not_mem_nil) dX11_force_28
    · refine lv_aload_n hx hb dX11_force_17 rfl (lv_at hl 0 rfl) ?_
      refine lv_iload_n hx hb dX11_force_18 rfl (lv_at hl 1 rfl) ?_
      refine lv_iload_n hx hb dX11_force_19 rfl (lv_at hl 2 rfl) ?_
      have hPc := hP.sub (ws' := [(mo, eO 10 [.ref st, .ref mi, .ref mk, .long 0, .long 1, .int 0, .ref m6, .ref m7, .int 0, .ref m9, .ref m10, .int 0, .int 0, .int 0, .int 0, .ref m15, .ref m16, .ref m17, .ref m18, .ref m19, .ref m20, .ref m21, .ref m22, .ref m23, .ref m24]), (st, eI G 2246 st0)]) [0, 1] rfl
      refine rd_calli (va_runV (As := [.int a1, .int a2]) (rest := []) ⟨hx, hb, hml, hown, hts⟩ (c_inForceM l G mo st mi mk m6 m7 m9 m10 m15 m16 m17 m18 m19 m20 m21 m22 m23 m24 a1 a2 0 1 0 0 0 0 0 0 ) (my_cwV hts ok_X11_inForce w_540 rfl rfl ⟨Nat.le_of_ble_eq_true rfl, Nat.le_of_ble_eq_true rfl⟩) ⟨rP.blind, va_recv hG.1 hPc (ci := 10) (q0 := 0) rfl rfl, fun U hU hW => ⟨rfl, by rw [hU]; exact hPc, kG.warm hW hG⟩⟩ rfl rfl hl.1 rfl (lv_room (Nat.le_of_ble_eq_true rfl)) dX11_force_20 ⟨Nat.le_of_ble_eq_true rfl, Nat.le_of_ble_eq_true rfl⟩) (fun r hr9 => ?_)
      subst hr9
      refine lv_goto (tgt := 28) hx hb dX11_force_23 (by decide) ?_
      exact W.iret (v := (-1)) hx hb hr (fun t ht hW => ⟨_, rfl, (by simp [c_7, c_14]), ht⟩) (fun _ h => absurd h List.not_mem_nil) dX11_force_28
set_option maxHeartbeats 4000000 in
set_option maxRecDepth 100000 in
theorem m_may (l : Launch) (G : gW) (mo : Nat) (st : Nat) (mi : Nat) (mk : Nat) (m6 : Nat) (m7 : Nat) (m9 : Nat) (m10 : Nat) (m15 : Nat) (m16 : Nat) (m17 : Nat) (m18 : Nat) (m19 : Nat) (m20 : Nat) (m21 : Nat) (m22 : Nat) (m23 : Nat) (m24 : Nat) (a1 : Int32) (a2 : Int32) (a3 : Int32)  : Met l yX11_may (wsT yX11_may cX11_may 4 (some .int)) ({ frames := 2, cells := 0, slots := 0, locals := 47 }) (rP G [.ref mo, .int a1, .int a2, .int a3] [(mo, eO 10 [.ref st, .ref mi, .ref mk, .long 0, .long 1, .int 0, .ref m6, .ref m7, .int 0, .ref m9, .ref m10, .int 0, .int 0, .int 0, .int 0, .ref m15, .ref m16, .ref m17, .ref m18, .ref m19, .ref m20, .ref m21, .ref m22, .ref m23, .ref m24]), (st, eI G 2246 st0)]) (rQi (fun r => r = (-2))) 0 0 fr0 := by
  refine Met.ofW (cc := cX11_may) (maxL := 4) (ret := (some .int)) (by decide) rfl ?_
  intro p e s m args below meth c s₁ B hml hv
  obtain ⟨rfl, hP, hG⟩ := hv
  have hx := B.exec
  have hb := B.bytes
  have hr := B.returns
  have hts := my_hts (atoms_spec (ws := wsT yX11_may cX11_may 4 (some .int)) B.pre)
  have hown : s.vm.findClass RX11 = some m.cls := findClass_of_methodNamed B.named
  have hlocks := B.notSynchronized
  have hP : va_P G.1 vwCl [(mo, eO 10 [.ref st, .ref mi, .ref mk, .long 0, .long 1, .int 0, .ref m6, .ref m7, .int 0, .ref m9, .ref m10, .int 0, .int 0, .int 0, .int 0, .ref m15, .ref m16, .ref m17, .ref m18, .ref m19, .ref m20, .ref m21, .ref m22, .ref m23, .ref m24]), (st, eI G 2246 st0)] s.heap := hP
  have hl := lv_entry ([.ref mo, .int a1, .int a2, .int a3]) (n := 4) (Nat.le_of_ble_eq_true rfl)
  rw [lg_entry_eq]
  generalize (lg_sl ([.ref mo, .int a1, .int a2, .int a3]) ++ List.replicate (4 - (lg_sl ([.ref mo, .int a1, .int a2, .int a3])).length) Slot.unset).toArray = ls at hl ⊢
  have hl : lv_has ls 4 [(0, .ref mo), (1, .int a1), (2, .int a2), (3, .int a3)] := hl
  refine lv_aload_n hx hb dX11_may_0 rfl (lv_at hl 0 rfl) ?_
  refine lv_iconst (v := 0) hx hb dX11_may_1 (by decide) ?_
  refine lv_iload_n hx hb dX11_may_2 rfl (lv_at hl 1 rfl) ?_
  have hPc := hP.sub (ws' := [(mo, eO 10 [.ref st, .ref mi, .ref mk, .long 0, .long 1, .int 0, .ref m6, .ref m7, .int 0, .ref m9, .ref m10, .int 0, .int 0, .int 0, .int 0, .ref m15, .ref m16, .ref m17, .ref m18, .ref m19, .ref m20, .ref m21, .ref m22, .ref m23, .ref m24]), (st, eI G 2246 st0)]) [0, 1] rfl
  refine rd_calli (va_runV (As := [.int 0, .int a1]) (rest := []) ⟨hx, hb, hml, hown, hts⟩ (c_is0 l G mo st mi mk m6 m7 m9 m10 m15 m16 m17 m18 m19 m20 m21 m22 m23 m24 0 a1 0 1 0 0 0 0 0 0 (by unfold vp_in; decide) (by decide)) (my_cwV hts ok_X11_is w_186 rfl rfl ⟨Nat.le_of_ble_eq_true rfl, Nat.le_of_ble_eq_true rfl⟩) ⟨rP.blind, va_recv hG.1 hPc (ci := 10) (q0 := 0) rfl rfl, fun U hU hW => ⟨rfl, by rw [hU]; exact hPc, kG.warm hW hG⟩⟩ rfl rfl hl.1 rfl (lv_room (Nat.le_of_ble_eq_true rfl)) dX11_may_3 ⟨Nat.le_of_ble_eq_true rfl, Nat.le_of_ble_eq_true rfl⟩) (fun r hr9 => ?_)
  subst hr9
  refine lv_if_eq (tgt := 26) hx hb dX11_may_6 (by decide) (fun c_6 => ?_) (fun c_6 => absurd (by decide) c_6)
  refine lv_bipush (v := (-2)) hx hb dX11_may_26 (by decide) ?_
  exact W.iret (v := (-2)) hx hb hr (fun t ht hW => ⟨_, rfl, (rfl), ht⟩) (fun _ h => absurd h List.not_mem_nil) dX11_may_28
set_option maxHeartbeats 4000000 in
set_option maxRecDepth 100000 in
theorem m_away (l : Launch) (G : gW) (mo : Nat) (st : Nat) (mi : Nat) (mk : Nat) (m6 : Nat) (m7 : Nat) (m9 : Nat) (m10 : Nat) (m15 : Nat) (m16 : Nat) (m17 : Nat) (m18 : Nat) (m19 : Nat) (m20 : Nat) (m21 : Nat) (m22 : Nat) (m23 : Nat) (m24 : Nat) (a1 : Int32) (a2 : Int32) (a3 : Int32)  : Met l yX11_away (wsT yX11_away cX11_away 5 (some .int)) ({ frames := 2, cells := 0, slots := 0, locals := 47 }) (rP G [.ref mo, .int a1, .int a2, .int a3] [(mo, eO 10 [.ref st, .ref mi, .ref mk, .long 0, .long 1, .int 0, .ref m6, .ref m7, .int 0, .ref m9, .ref m10, .int 0, .int 0, .int 0, .int 0, .ref m15, .ref m16, .ref m17, .ref m18, .ref m19, .ref m20, .ref m21, .ref m22, .ref m23, .ref m24]), (st, eI G 2246 st0)]) (rQi (fun r => r = (-2))) 0 0 fr0 := by
  refine Met.ofW (cc := cX11_away) (maxL := 5) (ret := (some .int)) (by decide) rfl ?_
  intro p e s m args below meth c s₁ B hml hv
  obtain ⟨rfl, hP, hG⟩ := hv
  have hx := B.exec
  have hb := B.bytes
  have hr := B.returns
  have hts := my_hts (atoms_spec (ws := wsT yX11_away cX11_away 5 (some .int)) B.pre)
  have hown : s.vm.findClass RX11 = some m.cls := findClass_of_methodNamed B.named
  have hlocks := B.notSynchronized
  have hP : va_P G.1 vwCl [(mo, eO 10 [.ref st, .ref mi, .ref mk, .long 0, .long 1, .int 0, .ref m6, .ref m7, .int 0, .ref m9, .ref m10, .int 0, .int 0, .int 0, .int 0, .ref m15, .ref m16, .ref m17, .ref m18, .ref m19, .ref m20, .ref m21, .ref m22, .ref m23, .ref m24]), (st, eI G 2246 st0)] s.heap := hP
  have hl := lv_entry ([.ref mo, .int a1, .int a2, .int a3]) (n := 5) (Nat.le_of_ble_eq_true rfl)
  rw [lg_entry_eq]
  generalize (lg_sl ([.ref mo, .int a1, .int a2, .int a3]) ++ List.replicate (5 - (lg_sl ([.ref mo, .int a1, .int a2, .int a3])).length) Slot.unset).toArray = ls at hl ⊢
  have hl : lv_has ls 5 [(0, .ref mo), (1, .int a1), (2, .int a2), (3, .int a3)] := hl
  refine lv_aload_n hx hb dX11_away_0 rfl (lv_at hl 0 rfl) ?_
  refine lv_iconst (v := 4) hx hb dX11_away_1 (by decide) ?_
  refine lv_iload_n hx hb dX11_away_2 rfl (lv_at hl 1 rfl) ?_
  have hPc := hP.sub (ws' := [(mo, eO 10 [.ref st, .ref mi, .ref mk, .long 0, .long 1, .int 0, .ref m6, .ref m7, .int 0, .ref m9, .ref m10, .int 0, .int 0, .int 0, .int 0, .ref m15, .ref m16, .ref m17, .ref m18, .ref m19, .ref m20, .ref m21, .ref m22, .ref m23, .ref m24]), (st, eI G 2246 st0)]) [0, 1] rfl
  refine rd_calli (va_runV (As := [.int 4, .int a1]) (rest := []) ⟨hx, hb, hml, hown, hts⟩ (c_is0 l G mo st mi mk m6 m7 m9 m10 m15 m16 m17 m18 m19 m20 m21 m22 m23 m24 4 a1 0 1 0 0 0 0 0 0 (by unfold vp_in; decide) (by decide)) (my_cwV hts ok_X11_is w_186 rfl rfl ⟨Nat.le_of_ble_eq_true rfl, Nat.le_of_ble_eq_true rfl⟩) ⟨rP.blind, va_recv hG.1 hPc (ci := 10) (q0 := 0) rfl rfl, fun U hU hW => ⟨rfl, by rw [hU]; exact hPc, kG.warm hW hG⟩⟩ rfl rfl hl.1 rfl (lv_room (Nat.le_of_ble_eq_true rfl)) dX11_away_3 ⟨Nat.le_of_ble_eq_true rfl, Nat.le_of_ble_eq_true rfl⟩) (fun r hr9 => ?_)
  subst hr9
  refine lv_if_eq (tgt := 18) hx hb dX11_away_6 (by decide) (fun c_6 => ?_) (fun c_6 => absurd (by decide) c_6)
  refine lv_bipush (v := (-2)) hx hb dX11_away_18 (by decide) ?_
  exact W.iret (v := (-2)) hx hb hr (fun t ht hW => ⟨_, rfl, (rfl), ht⟩) (fun _ h => absurd h List.not_mem_nil) dX11_away_20
set_option maxHeartbeats 4000000 in
set_option maxRecDepth 100000 in
theorem m_like (l : Launch) (G : gW) (mo : Nat) (st : Nat) (mi : Nat) (mk : Nat) (m6 : Nat) (m7 : Nat) (m9 : Nat) (m10 : Nat) (m15 : Nat) (m16 : Nat) (m17 : Nat) (m18 : Nat) (m19 : Nat) (m20 : Nat) (m21 : Nat) (m22 : Nat) (m23 : Nat) (m24 : Nat) (a1 : Int32) (a2 : Int32) (a3 : Int32) (a4 : Int32)  : Met l yX11_like (wsT yX11_like cX11_like 7 (some .int)) ({ frames := 2, cells := 0, slots := 0, locals := 47 }) (rP G [.ref mo, .int a1, .int a2, .int a3, .int a4] [(mo, eO 10 [.ref st, .ref mi, .ref mk, .long 0, .long 1, .int 0, .ref m6, .ref m7, .int 0, .ref m9, .ref m10, .int 0, .int 0, .int 0, .int 0, .ref m15, .ref m16, .ref m17, .ref m18, .ref m19, .ref m20, .ref m21, .ref m22, .ref m23, .ref m24]), (st, eI G 2246 st0)]) (rQi (fun r => r = (-1000))) 0 0 fr0 := by
  refine Met.ofW (cc := cX11_like) (maxL := 7) (ret := (some .int)) (by decide) rfl ?_
  intro p e s m args below meth c s₁ B hml hv
  obtain ⟨rfl, hP, hG⟩ := hv
  have hx := B.exec
  have hb := B.bytes
  have hr := B.returns
  have hts := my_hts (atoms_spec (ws := wsT yX11_like cX11_like 7 (some .int)) B.pre)
  have hown : s.vm.findClass RX11 = some m.cls := findClass_of_methodNamed B.named
  have hlocks := B.notSynchronized
  have hP : va_P G.1 vwCl [(mo, eO 10 [.ref st, .ref mi, .ref mk, .long 0, .long 1, .int 0, .ref m6, .ref m7, .int 0, .ref m9, .ref m10, .int 0, .int 0, .int 0, .int 0, .ref m15, .ref m16, .ref m17, .ref m18, .ref m19, .ref m20, .ref m21, .ref m22, .ref m23, .ref m24]), (st, eI G 2246 st0)] s.heap := hP
  have hl := lv_entry ([.ref mo, .int a1, .int a2, .int a3, .int a4]) (n := 7) (Nat.le_of_ble_eq_true rfl)
  rw [lg_entry_eq]
  generalize (lg_sl ([.ref mo, .int a1, .int a2, .int a3, .int a4]) ++ List.replicate (7 - (lg_sl ([.ref mo, .int a1, .int a2, .int a3, .int a4])).length) Slot.unset).toArray = ls at hl ⊢
  have hl : lv_has ls 7 [(0, .ref mo), (1, .int a1), (2, .int a2), (3, .int a3), (4, .int a4)] := hl
  refine lv_aload_n hx hb dX11_like_0 rfl (lv_at hl 0 rfl) ?_
  refine lv_iconst (v := 4) hx hb dX11_like_1 (by decide) ?_
  refine lv_iload_n hx hb dX11_like_2 rfl (lv_at hl 1 rfl) ?_
  have hPc := hP.sub (ws' := [(mo, eO 10 [.ref st, .ref mi, .ref mk, .long 0, .long 1, .int 0, .ref m6, .ref m7, .int 0, .ref m9, .ref m10, .int 0, .int 0, .int 0, .int 0, .ref m15, .ref m16, .ref m17, .ref m18, .ref m19, .ref m20, .ref m21, .ref m22, .ref m23, .ref m24]), (st, eI G 2246 st0)]) [0, 1] rfl
  refine rd_calli (va_runV (As := [.int 4, .int a1]) (rest := []) ⟨hx, hb, hml, hown, hts⟩ (c_is0 l G mo st mi mk m6 m7 m9 m10 m15 m16 m17 m18 m19 m20 m21 m22 m23 m24 4 a1 0 1 0 0 0 0 0 0 (by unfold vp_in; decide) (by decide)) (my_cwV hts ok_X11_is w_186 rfl rfl ⟨Nat.le_of_ble_eq_true rfl, Nat.le_of_ble_eq_true rfl⟩) ⟨rP.blind, va_recv hG.1 hPc (ci := 10) (q0 := 0) rfl rfl, fun U hU hW => ⟨rfl, by rw [hU]; exact hPc, kG.warm hW hG⟩⟩ rfl rfl hl.1 rfl (lv_room (Nat.le_of_ble_eq_true rfl)) dX11_like_3 ⟨Nat.le_of_ble_eq_true rfl, Nat.le_of_ble_eq_true rfl⟩) (fun r hr9 => ?_)
  subst hr9
  refine lv_if_eq (tgt := 43) hx hb dX11_like_6 (by decide) (fun c_6 => ?_) (fun c_6 => absurd (by decide) c_6)
  refine lv_sipush (v := (-1000)) hx hb dX11_like_43 (by decide) ?_
  exact W.iret (v := (-1000)) hx hb hr (fun t ht hW => ⟨_, rfl, (rfl), ht⟩) (fun _ h => absurd h List.not_mem_nil) dX11_like_46
set_option maxHeartbeats 4000000 in
set_option maxRecDepth 100000 in
theorem m_box (l : Launch) (G : gW) (sz : Nat) (mo : Nat) (st : Nat) (mi : Nat) (mk : Nat) (m6 : Nat) (m7 : Nat) (m9 : Nat) (m10 : Nat) (m15 : Nat) (m16 : Nat) (m17 : Nat) (m18 : Nat) (m19 : Nat) (m20 : Nat) (m21 : Nat) (m22 : Nat) (m23 : Nat) (m24 : Nat) (a1 : Int32)  : Met l yX11_box (wsT yX11_box cX11_box 2 (some .int)) ({ frames := 3, cells := 0, slots := 0, locals := 68 }) (wP G [.ref mo, .int a1] sz [(mo, eO 10 [.ref st, .ref mi, .ref mk, .long 0, .long 1, .int 0, .ref m6, .ref m7, .int 0, .ref m9, .ref m10, .int 0, .int 0, .int 0, .int 0, .ref m15, .ref m16, .ref m17, .ref m18, .ref m19, .ref m20, .ref m21, .ref m22, .ref m23, .ref m24]), (st, eI G 2246 st0)]) (va_Qi (fun (r : Int32) (_ : Unit) => r = (-2)) (fun _ _ => True) (va_A [(mo, eO 10 [.ref st, .ref mi, .ref mk, .long 0, .long 1, .int 0, .ref m6, .ref m7, .int 0, .ref m9, .ref m10, .int 0, .int 0, .int 0, .int 0, .ref m15, .ref m16, .ref m17, .ref m18, .ref m19, .ref m20, .ref m21, .ref m22, .ref m23, .ref m24]), (st, eI G 2246 st0)] sz)) 0 0 (va_A [(mo, eO 10 [.ref st, .ref mi, .ref mk, .long 0, .long 1, .int 0, .ref m6, .ref m7, .int 0, .ref m9, .ref m10, .int 0, .int 0, .int 0, .int 0, .ref m15, .ref m16, .ref m17, .ref m18, .ref m19, .ref m20, .ref m21, .ref m22, .ref m23, .ref m24]), (st, eI G 2246 st0)] sz) := by
  refine Met.ofW (cc := cX11_box) (maxL := 2) (ret := (some .int)) (by decide) rfl ?_
  intro p e s m args below meth c s₁ B hml hv
  obtain ⟨rfl, hsz, hP, hG, hD0⟩ := hv
  have hx := B.exec
  have hb := B.bytes
  have hr := B.returns
  have hts := my_hts (atoms_spec (ws := wsT yX11_box cX11_box 2 (some .int)) B.pre)
  have hown : s.vm.findClass RX11 = some m.cls := findClass_of_methodNamed B.named
  have hlocks := B.notSynchronized
  subst hsz
  have hD := hD0.self (sz := s.heap.size)
  generalize hAe : va_A [(mo, eO 10 [.ref st, .ref mi, .ref mk, .long 0, .long 1, .int 0, .ref m6, .ref m7, .int 0, .ref m9, .ref m10, .int 0, .int 0, .int 0, .int 0, .ref m15, .ref m16, .ref m17, .ref m18, .ref m19, .ref m20, .ref m21, .ref m22, .ref m23, .ref m24]), (st, eI G 2246 st0)] s.heap.size = A at hD ⊢
  have hA : ∀ q : Nat, s.heap.size ≤ q → A q := fun q h => by rw [← hAe]; exact Or.inr h
  have hS : va_S A s.heap s.heap [] := va_S.rf
  have hP : va_P G.1 vwCl [(mo, eO 10 [.ref st, .ref mi, .ref mk, .long 0, .long 1, .int 0, .ref m6, .ref m7, .int 0, .ref m9, .ref m10, .int 0, .int 0, .int 0, .int 0, .ref m15, .ref m16, .ref m17, .ref m18, .ref m19, .ref m20, .ref m21, .ref m22, .ref m23, .ref m24]), (st, eI G 2246 st0)] s.heap := hP
  have hl := lv_entry ([.ref mo, .int a1]) (n := 2) (Nat.le_of_ble_eq_true rfl)
  rw [lg_entry_eq]
  generalize (lg_sl ([.ref mo, .int a1]) ++ List.replicate (2 - (lg_sl ([.ref mo, .int a1])).length) Slot.unset).toArray = ls at hl ⊢
  have hl : lv_has ls 2 [(0, .ref mo), (1, .int a1)] := hl
  refine lv_aload_n hx hb dX11_box_0 rfl (lv_at hl 0 rfl) ?_
  refine lv_iload_n hx hb dX11_box_1 rfl (lv_at hl 1 rfl) ?_
  have hPc := hP.sub (ws' := [(mo, eO 10 [.ref st, .ref mi, .ref mk, .long 0, .long 1, .int 0, .ref m6, .ref m7, .int 0, .ref m9, .ref m10, .int 0, .int 0, .int 0, .int 0, .ref m15, .ref m16, .ref m17, .ref m18, .ref m19, .ref m20, .ref m21, .ref m22, .ref m23, .ref m24]), (st, eI G 2246 st0)]) [0, 1] rfl
  have hDc := hD.sub (ws' := [(mo, eO 10 [.ref st, .ref mi, .ref mk, .long 0, .long 1, .int 0, .ref m6, .ref m7, .int 0, .ref m9, .ref m10, .int 0, .int 0, .int 0, .int 0, .ref m15, .ref m16, .ref m17, .ref m18, .ref m19, .ref m20, .ref m21, .ref m22, .ref m23, .ref m24]), (st, eI G 2246 st0)]) [0, 1] (by decide) rfl
  have hFc := va_free (wc := [(mo, eO 10 [.ref st, .ref mi, .ref mk, .long 0, .long 1, .int 0, .ref m6, .ref m7, .int 0, .ref m9, .ref m10, .int 0, .int 0, .int 0, .int 0, .ref m15, .ref m16, .ref m17, .ref m18, .ref m19, .ref m20, .ref m21, .ref m22, .ref m23, .ref m24]), (st, eI G 2246 st0)]) hD hS hA [0, 1] rfl
  refine va_calli (va_runV (As := [.int a1]) (rest := []) ⟨hx, hb, hml, hown, hts⟩ (c_isTrial0 l G s.heap.size mo st mi mk m6 m7 m9 m10 m15 m16 m17 m18 m19 m20 m21 m22 m23 m24 a1 ) (my_cwV hts ok_X11_isTrial w_680 rfl rfl ⟨Nat.le_of_ble_eq_true rfl, Nat.le_of_ble_eq_true rfl⟩) ⟨wP.blind, va_recv hG.1 hPc (ci := 10) (q0 := 0) rfl rfl, fun U hU hW => ⟨rfl, by rw [hU], by rw [hU]; exact hPc, kG.warm hW hG, hDc.weaken (fun _ _ _ _ => trivial)⟩⟩ rfl rfl hl.1 rfl (lv_room (Nat.le_of_ble_eq_true rfl)) dX11_box_2 ⟨Nat.le_of_ble_eq_true rfl, Nat.le_of_ble_eq_true rfl⟩) hS (fun q _ h => hFc q h) hFc (fun r u t H1 locs ht hvm hw hB hz1 hk1 hS => ?_)
  obtain ⟨hP1, hD1⟩ := hB
  rw [ht] at hP1
  try dsimp only at hw
  obtain ⟨hP, hD⟩ := va_join (wr := []) (w1 := [(mo, eO 10 [.ref st, .ref mi, .ref mk, .long 0, .long 1, .int 0, .ref m6, .ref m7, .int 0, .ref m9, .ref m10, .int 0, .int 0, .int 1, .int 0, .ref m15, .ref m16, .ref m17, .ref m18, .ref m19, .ref m20, .ref m21, .ref m22, .ref m23, .ref m24]), (st, eI G 2246 st0)]) hP hD [0, 1] [] rfl rfl (by decide) (by decide) hk1 hFc hP1 hD1
  generalize H1 = H at hP hS ⊢
  have hP : va_P G.1 vwCl [(mo, eO 10 [.ref st, .ref mi, .ref mk, .long 0, .long 1, .int 0, .ref m6, .ref m7, .int 0, .ref m9, .ref m10, .int 0, .int 0, .int 1, .int 0, .ref m15, .ref m16, .ref m17, .ref m18, .ref m19, .ref m20, .ref m21, .ref m22, .ref m23, .ref m24]), (st, eI G 2246 st0)] H := hP
  have hD : va_D A [(mo, eO 10 [.ref st, .ref mi, .ref mk, .long 0, .long 1, .int 0, .ref m6, .ref m7, .int 0, .ref m9, .ref m10, .int 0, .int 0, .int 1, .int 0, .ref m15, .ref m16, .ref m17, .ref m18, .ref m19, .ref m20, .ref m21, .ref m22, .ref m23, .ref m24]), (st, eI G 2246 st0)] := hD
  subst hw
  refine lv_if_eq (tgt := 17) hx hb dX11_box_5 (by decide) (fun c_5 => ?_) (fun c_5 => absurd (by decide) c_5)
  refine lv_bipush (v := (-2)) hx hb dX11_box_17 (by decide) ?_
  exact W.iret (v := (-2)) hx hb hr (fun t ht hW => ⟨⟨_, (), rfl, (rfl), trivial⟩, hS.F ht⟩) hS.2.2 dX11_box_19
set_option maxHeartbeats 4000000 in
set_option maxRecDepth 100000 in
theorem m_drawn (l : Launch) (G : gW) (sz : Nat) (mo : Nat) (st : Nat) (mi : Nat) (mk : Nat) (m6 : Nat) (m7 : Nat) (m9 : Nat) (m10 : Nat) (m15 : Nat) (m16 : Nat) (m17 : Nat) (m18 : Nat) (m19 : Nat) (m20 : Nat) (m21 : Nat) (m22 : Nat) (m23 : Nat) (m24 : Nat) (a1 : Int32) (a2 : Int32)  : Met l yX11_drawn (wsT yX11_drawn cX11_drawn 3 (some .int)) ({ frames := 3, cells := 0, slots := 0, locals := 68 }) (wP G [.ref mo, .int a1, .int a2] sz [(mo, eO 10 [.ref st, .ref mi, .ref mk, .long 0, .long 1, .int 0, .ref m6, .ref m7, .int 0, .ref m9, .ref m10, .int 0, .int 0, .int 0, .int 0, .ref m15, .ref m16, .ref m17, .ref m18, .ref m19, .ref m20, .ref m21, .ref m22, .ref m23, .ref m24]), (st, eI G 2246 st0)]) (va_Qi (fun (r : Int32) (_ : Unit) => r = (-2)) (fun _ _ => True) (va_A [(mo, eO 10 [.ref st, .ref mi, .ref mk, .long 0, .long 1, .int 0, .ref m6, .ref m7, .int 0, .ref m9, .ref m10, .int 0, .int 0, .int 0, .int 0, .ref m15, .ref m16, .ref m17, .ref m18, .ref m19, .ref m20, .ref m21, .ref m22, .ref m23, .ref m24]), (st, eI G 2246 st0)] sz)) 0 0 (va_A [(mo, eO 10 [.ref st, .ref mi, .ref mk, .long 0, .long 1, .int 0, .ref m6, .ref m7, .int 0, .ref m9, .ref m10, .int 0, .int 0, .int 0, .int 0, .ref m15, .ref m16, .ref m17, .ref m18, .ref m19, .ref m20, .ref m21, .ref m22, .ref m23, .ref m24]), (st, eI G 2246 st0)] sz) := by
  refine Met.ofW (cc := cX11_drawn) (maxL := 3) (ret := (some .int)) (by decide) rfl ?_
  intro p e s m args below meth c s₁ B hml hv
  obtain ⟨rfl, hsz, hP, hG, hD0⟩ := hv
  have hx := B.exec
  have hb := B.bytes
  have hr := B.returns
  have hts := my_hts (atoms_spec (ws := wsT yX11_drawn cX11_drawn 3 (some .int)) B.pre)
  have hown : s.vm.findClass RX11 = some m.cls := findClass_of_methodNamed B.named
  have hlocks := B.notSynchronized
  subst hsz
  have hD := hD0.self (sz := s.heap.size)
  generalize hAe : va_A [(mo, eO 10 [.ref st, .ref mi, .ref mk, .long 0, .long 1, .int 0, .ref m6, .ref m7, .int 0, .ref m9, .ref m10, .int 0, .int 0, .int 0, .int 0, .ref m15, .ref m16, .ref m17, .ref m18, .ref m19, .ref m20, .ref m21, .ref m22, .ref m23, .ref m24]), (st, eI G 2246 st0)] s.heap.size = A at hD ⊢
  have hA : ∀ q : Nat, s.heap.size ≤ q → A q := fun q h => by rw [← hAe]; exact Or.inr h
  have hS : va_S A s.heap s.heap [] := va_S.rf
  have hP : va_P G.1 vwCl [(mo, eO 10 [.ref st, .ref mi, .ref mk, .long 0, .long 1, .int 0, .ref m6, .ref m7, .int 0, .ref m9, .ref m10, .int 0, .int 0, .int 0, .int 0, .ref m15, .ref m16, .ref m17, .ref m18, .ref m19, .ref m20, .ref m21, .ref m22, .ref m23, .ref m24]), (st, eI G 2246 st0)] s.heap := hP
  have hl := lv_entry ([.ref mo, .int a1, .int a2]) (n := 3) (Nat.le_of_ble_eq_true rfl)
  rw [lg_entry_eq]
  generalize (lg_sl ([.ref mo, .int a1, .int a2]) ++ List.replicate (3 - (lg_sl ([.ref mo, .int a1, .int a2])).length) Slot.unset).toArray = ls at hl ⊢
  have hl : lv_has ls 3 [(0, .ref mo), (1, .int a1), (2, .int a2)] := hl
  refine lv_aload_n hx hb dX11_drawn_0 rfl (lv_at hl 0 rfl) ?_
  refine lv_iload_n hx hb dX11_drawn_1 rfl (lv_at hl 1 rfl) ?_
  have hPc := hP.sub (ws' := [(mo, eO 10 [.ref st, .ref mi, .ref mk, .long 0, .long 1, .int 0, .ref m6, .ref m7, .int 0, .ref m9, .ref m10, .int 0, .int 0, .int 0, .int 0, .ref m15, .ref m16, .ref m17, .ref m18, .ref m19, .ref m20, .ref m21, .ref m22, .ref m23, .ref m24]), (st, eI G 2246 st0)]) [0, 1] rfl
  have hDc := hD.sub (ws' := [(mo, eO 10 [.ref st, .ref mi, .ref mk, .long 0, .long 1, .int 0, .ref m6, .ref m7, .int 0, .ref m9, .ref m10, .int 0, .int 0, .int 0, .int 0, .ref m15, .ref m16, .ref m17, .ref m18, .ref m19, .ref m20, .ref m21, .ref m22, .ref m23, .ref m24]), (st, eI G 2246 st0)]) [0, 1] (by decide) rfl
  have hFc := va_free (wc := [(mo, eO 10 [.ref st, .ref mi, .ref mk, .long 0, .long 1, .int 0, .ref m6, .ref m7, .int 0, .ref m9, .ref m10, .int 0, .int 0, .int 0, .int 0, .ref m15, .ref m16, .ref m17, .ref m18, .ref m19, .ref m20, .ref m21, .ref m22, .ref m23, .ref m24]), (st, eI G 2246 st0)]) hD hS hA [0, 1] rfl
  refine va_calli (va_runV (As := [.int a1]) (rest := []) ⟨hx, hb, hml, hown, hts⟩ (c_isTrial0 l G s.heap.size mo st mi mk m6 m7 m9 m10 m15 m16 m17 m18 m19 m20 m21 m22 m23 m24 a1 ) (my_cwV hts ok_X11_isTrial w_680 rfl rfl ⟨Nat.le_of_ble_eq_true rfl, Nat.le_of_ble_eq_true rfl⟩) ⟨wP.blind, va_recv hG.1 hPc (ci := 10) (q0 := 0) rfl rfl, fun U hU hW => ⟨rfl, by rw [hU], by rw [hU]; exact hPc, kG.warm hW hG, hDc.weaken (fun _ _ _ _ => trivial)⟩⟩ rfl rfl hl.1 rfl (lv_room (Nat.le_of_ble_eq_true rfl)) dX11_drawn_2 ⟨Nat.le_of_ble_eq_true rfl, Nat.le_of_ble_eq_true rfl⟩) hS (fun q _ h => hFc q h) hFc (fun r u t H1 locs ht hvm hw hB hz1 hk1 hS => ?_)
  obtain ⟨hP1, hD1⟩ := hB
  rw [ht] at hP1
  try dsimp only at hw
  obtain ⟨hP, hD⟩ := va_join (wr := []) (w1 := [(mo, eO 10 [.ref st, .ref mi, .ref mk, .long 0, .long 1, .int 0, .ref m6, .ref m7, .int 0, .ref m9, .ref m10, .int 0, .int 0, .int 1, .int 0, .ref m15, .ref m16, .ref m17, .ref m18, .ref m19, .ref m20, .ref m21, .ref m22, .ref m23, .ref m24]), (st, eI G 2246 st0)]) hP hD [0, 1] [] rfl rfl (by decide) (by decide) hk1 hFc hP1 hD1
  generalize H1 = H at hP hS ⊢
  have hP : va_P G.1 vwCl [(mo, eO 10 [.ref st, .ref mi, .ref mk, .long 0, .long 1, .int 0, .ref m6, .ref m7, .int 0, .ref m9, .ref m10, .int 0, .int 0, .int 1, .int 0, .ref m15, .ref m16, .ref m17, .ref m18, .ref m19, .ref m20, .ref m21, .ref m22, .ref m23, .ref m24]), (st, eI G 2246 st0)] H := hP
  have hD : va_D A [(mo, eO 10 [.ref st, .ref mi, .ref mk, .long 0, .long 1, .int 0, .ref m6, .ref m7, .int 0, .ref m9, .ref m10, .int 0, .int 0, .int 1, .int 0, .ref m15, .ref m16, .ref m17, .ref m18, .ref m19, .ref m20, .ref m21, .ref m22, .ref m23, .ref m24]), (st, eI G 2246 st0)] := hD
  subst hw
  refine lv_if_eq (tgt := 12) hx hb dX11_drawn_5 (by decide) (fun c_5 => ?_) (fun c_5 => absurd (by decide) c_5)
  refine lv_bipush (v := (-2)) hx hb dX11_drawn_12 (by decide) ?_
  exact W.iret (v := (-2)) hx hb hr (fun t ht hW => ⟨⟨_, (), rfl, (rfl), trivial⟩, hS.F ht⟩) hS.2.2 dX11_drawn_14
set_option maxHeartbeats 4000000 in
set_option maxRecDepth 100000 in
theorem m_slip (l : Launch) (G : gW) (sz : Nat) (mo : Nat) (st : Nat) (mi : Nat) (mk : Nat) (m6 : Nat) (m7 : Nat) (m9 : Nat) (m10 : Nat) (m15 : Nat) (m16 : Nat) (m17 : Nat) (m18 : Nat) (m19 : Nat) (m20 : Nat) (m21 : Nat) (m22 : Nat) (m23 : Nat) (m24 : Nat) (a1 : Int32) (a2 : Int32)  : Met l yX11_slip (wsT yX11_slip cX11_slip 3 (some .int)) ({ frames := 3, cells := 0, slots := 0, locals := 68 }) (wP G [.ref mo, .int a1, .int a2] sz [(mo, eO 10 [.ref st, .ref mi, .ref mk, .long 0, .long 1, .int 0, .ref m6, .ref m7, .int 0, .ref m9, .ref m10, .int 0, .int 0, .int 0, .int 0, .ref m15, .ref m16, .ref m17, .ref m18, .ref m19, .ref m20, .ref m21, .ref m22, .ref m23, .ref m24]), (st, eI G 2246 st0)]) (va_Qi (fun (r : Int32) (_ : Unit) => r = (-2)) (fun _ _ => True) (va_A [(mo, eO 10 [.ref st, .ref mi, .ref mk, .long 0, .long 1, .int 0, .ref m6, .ref m7, .int 0, .ref m9, .ref m10, .int 0, .int 0, .int 0, .int 0, .ref m15, .ref m16, .ref m17, .ref m18, .ref m19, .ref m20, .ref m21, .ref m22, .ref m23, .ref m24]), (st, eI G 2246 st0)] sz)) 0 0 (va_A [(mo, eO 10 [.ref st, .ref mi, .ref mk, .long 0, .long 1, .int 0, .ref m6, .ref m7, .int 0, .ref m9, .ref m10, .int 0, .int 0, .int 0, .int 0, .ref m15, .ref m16, .ref m17, .ref m18, .ref m19, .ref m20, .ref m21, .ref m22, .ref m23, .ref m24]), (st, eI G 2246 st0)] sz) := by
  refine Met.ofW (cc := cX11_slip) (maxL := 3) (ret := (some .int)) (by decide) rfl ?_
  intro p e s m args below meth c s₁ B hml hv
  obtain ⟨rfl, hsz, hP, hG, hD0⟩ := hv
  have hx := B.exec
  have hb := B.bytes
  have hr := B.returns
  have hts := my_hts (atoms_spec (ws := wsT yX11_slip cX11_slip 3 (some .int)) B.pre)
  have hown : s.vm.findClass RX11 = some m.cls := findClass_of_methodNamed B.named
  have hlocks := B.notSynchronized
  subst hsz
  have hD := hD0.self (sz := s.heap.size)
  generalize hAe : va_A [(mo, eO 10 [.ref st, .ref mi, .ref mk, .long 0, .long 1, .int 0, .ref m6, .ref m7, .int 0, .ref m9, .ref m10, .int 0, .int 0, .int 0, .int 0, .ref m15, .ref m16, .ref m17, .ref m18, .ref m19, .ref m20, .ref m21, .ref m22, .ref m23, .ref m24]), (st, eI G 2246 st0)] s.heap.size = A at hD ⊢
  have hA : ∀ q : Nat, s.heap.size ≤ q → A q := fun q h => by rw [← hAe]; exact Or.inr h
  have hS : va_S A s.heap s.heap [] := va_S.rf
  have hP : va_P G.1 vwCl [(mo, eO 10 [.ref st, .ref mi, .ref mk, .long 0, .long 1, .int 0, .ref m6, .ref m7, .int 0, .ref m9, .ref m10, .int 0, .int 0, .int 0, .int 0, .ref m15, .ref m16, .ref m17, .ref m18, .ref m19, .ref m20, .ref m21, .ref m22, .ref m23, .ref m24]), (st, eI G 2246 st0)] s.heap := hP
  have hl := lv_entry ([.ref mo, .int a1, .int a2]) (n := 3) (Nat.le_of_ble_eq_true rfl)
  rw [lg_entry_eq]
  generalize (lg_sl ([.ref mo, .int a1, .int a2]) ++ List.replicate (3 - (lg_sl ([.ref mo, .int a1, .int a2])).length) Slot.unset).toArray = ls at hl ⊢
  have hl : lv_has ls 3 [(0, .ref mo), (1, .int a1), (2, .int a2)] := hl
  refine lv_aload_n hx hb dX11_slip_0 rfl (lv_at hl 0 rfl) ?_
  refine lv_iload_n hx hb dX11_slip_1 rfl (lv_at hl 1 rfl) ?_
  have hPc := hP.sub (ws' := [(mo, eO 10 [.ref st, .ref mi, .ref mk, .long 0, .long 1, .int 0, .ref m6, .ref m7, .int 0, .ref m9, .ref m10, .int 0, .int 0, .int 0, .int 0, .ref m15, .ref m16, .ref m17, .ref m18, .ref m19, .ref m20, .ref m21, .ref m22, .ref m23, .ref m24]), (st, eI G 2246 st0)]) [0, 1] rfl
  have hDc := hD.sub (ws' := [(mo, eO 10 [.ref st, .ref mi, .ref mk, .long 0, .long 1, .int 0, .ref m6, .ref m7, .int 0, .ref m9, .ref m10, .int 0, .int 0, .int 0, .int 0, .ref m15, .ref m16, .ref m17, .ref m18, .ref m19, .ref m20, .ref m21, .ref m22, .ref m23, .ref m24]), (st, eI G 2246 st0)]) [0, 1] (by decide) rfl
  have hFc := va_free (wc := [(mo, eO 10 [.ref st, .ref mi, .ref mk, .long 0, .long 1, .int 0, .ref m6, .ref m7, .int 0, .ref m9, .ref m10, .int 0, .int 0, .int 0, .int 0, .ref m15, .ref m16, .ref m17, .ref m18, .ref m19, .ref m20, .ref m21, .ref m22, .ref m23, .ref m24]), (st, eI G 2246 st0)]) hD hS hA [0, 1] rfl
  refine va_calli (va_runV (As := [.int a1]) (rest := []) ⟨hx, hb, hml, hown, hts⟩ (c_isTrial0 l G s.heap.size mo st mi mk m6 m7 m9 m10 m15 m16 m17 m18 m19 m20 m21 m22 m23 m24 a1 ) (my_cwV hts ok_X11_isTrial w_680 rfl rfl ⟨Nat.le_of_ble_eq_true rfl, Nat.le_of_ble_eq_true rfl⟩) ⟨wP.blind, va_recv hG.1 hPc (ci := 10) (q0 := 0) rfl rfl, fun U hU hW => ⟨rfl, by rw [hU], by rw [hU]; exact hPc, kG.warm hW hG, hDc.weaken (fun _ _ _ _ => trivial)⟩⟩ rfl rfl hl.1 rfl (lv_room (Nat.le_of_ble_eq_true rfl)) dX11_slip_2 ⟨Nat.le_of_ble_eq_true rfl, Nat.le_of_ble_eq_true rfl⟩) hS (fun q _ h => hFc q h) hFc (fun r u t H1 locs ht hvm hw hB hz1 hk1 hS => ?_)
  obtain ⟨hP1, hD1⟩ := hB
  rw [ht] at hP1
  try dsimp only at hw
  obtain ⟨hP, hD⟩ := va_join (wr := []) (w1 := [(mo, eO 10 [.ref st, .ref mi, .ref mk, .long 0, .long 1, .int 0, .ref m6, .ref m7, .int 0, .ref m9, .ref m10, .int 0, .int 0, .int 1, .int 0, .ref m15, .ref m16, .ref m17, .ref m18, .ref m19, .ref m20, .ref m21, .ref m22, .ref m23, .ref m24]), (st, eI G 2246 st0)]) hP hD [0, 1] [] rfl rfl (by decide) (by decide) hk1 hFc hP1 hD1
  generalize H1 = H at hP hS ⊢
  have hP : va_P G.1 vwCl [(mo, eO 10 [.ref st, .ref mi, .ref mk, .long 0, .long 1, .int 0, .ref m6, .ref m7, .int 0, .ref m9, .ref m10, .int 0, .int 0, .int 1, .int 0, .ref m15, .ref m16, .ref m17, .ref m18, .ref m19, .ref m20, .ref m21, .ref m22, .ref m23, .ref m24]), (st, eI G 2246 st0)] H := hP
  have hD : va_D A [(mo, eO 10 [.ref st, .ref mi, .ref mk, .long 0, .long 1, .int 0, .ref m6, .ref m7, .int 0, .ref m9, .ref m10, .int 0, .int 0, .int 1, .int 0, .ref m15, .ref m16, .ref m17, .ref m18, .ref m19, .ref m20, .ref m21, .ref m22, .ref m23, .ref m24]), (st, eI G 2246 st0)] := hD
  subst hw
  refine lv_if_eq (tgt := 31) hx hb dX11_slip_5 (by decide) (fun c_5 => ?_) (fun c_5 => absurd (by decide) c_5)
  refine lv_bipush (v := (-2)) hx hb dX11_slip_31 (by decide) ?_
  exact W.iret (v := (-2)) hx hb hr (fun t ht hW => ⟨⟨_, (), rfl, (rfl), trivial⟩, hS.F ht⟩) hS.2.2 dX11_slip_33
set_option maxHeartbeats 4000000 in
set_option maxRecDepth 100000 in
theorem m_jury (l : Launch) (G : gW) (sz : Nat) (mo : Nat) (st : Nat) (mi : Nat) (mk : Nat) (m6 : Nat) (m7 : Nat) (m9 : Nat) (m10 : Nat) (m15 : Nat) (m16 : Nat) (m17 : Nat) (m18 : Nat) (m19 : Nat) (m20 : Nat) (m21 : Nat) (m22 : Nat) (m23 : Nat) (m24 : Nat) (a1 : Int32)  : Met l yX11_jury (wsT yX11_jury cX11_jury 2 (some .int)) ({ frames := 3, cells := 0, slots := 0, locals := 68 }) (wP G [.ref mo, .int a1] sz [(mo, eO 10 [.ref st, .ref mi, .ref mk, .long 0, .long 1, .int 0, .ref m6, .ref m7, .int 0, .ref m9, .ref m10, .int 0, .int 0, .int 0, .int 0, .ref m15, .ref m16, .ref m17, .ref m18, .ref m19, .ref m20, .ref m21, .ref m22, .ref m23, .ref m24]), (st, eI G 2246 st0)]) (va_Qi (fun (r : Int32) (_ : Unit) => r = (-2)) (fun _ _ => True) (va_A [(mo, eO 10 [.ref st, .ref mi, .ref mk, .long 0, .long 1, .int 0, .ref m6, .ref m7, .int 0, .ref m9, .ref m10, .int 0, .int 0, .int 0, .int 0, .ref m15, .ref m16, .ref m17, .ref m18, .ref m19, .ref m20, .ref m21, .ref m22, .ref m23, .ref m24]), (st, eI G 2246 st0)] sz)) 0 0 (va_A [(mo, eO 10 [.ref st, .ref mi, .ref mk, .long 0, .long 1, .int 0, .ref m6, .ref m7, .int 0, .ref m9, .ref m10, .int 0, .int 0, .int 0, .int 0, .ref m15, .ref m16, .ref m17, .ref m18, .ref m19, .ref m20, .ref m21, .ref m22, .ref m23, .ref m24]), (st, eI G 2246 st0)] sz) := by
  refine Met.ofW (cc := cX11_jury) (maxL := 2) (ret := (some .int)) (by decide) rfl ?_
  intro p e s m args below meth c s₁ B hml hv
  obtain ⟨rfl, hsz, hP, hG, hD0⟩ := hv
  have hx := B.exec
  have hb := B.bytes
  have hr := B.returns
  have hts := my_hts (atoms_spec (ws := wsT yX11_jury cX11_jury 2 (some .int)) B.pre)
  have hown : s.vm.findClass RX11 = some m.cls := findClass_of_methodNamed B.named
  have hlocks := B.notSynchronized
  subst hsz
  have hD := hD0.self (sz := s.heap.size)
  generalize hAe : va_A [(mo, eO 10 [.ref st, .ref mi, .ref mk, .long 0, .long 1, .int 0, .ref m6, .ref m7, .int 0, .ref m9, .ref m10, .int 0, .int 0, .int 0, .int 0, .ref m15, .ref m16, .ref m17, .ref m18, .ref m19, .ref m20, .ref m21, .ref m22, .ref m23, .ref m24]), (st, eI G 2246 st0)] s.heap.size = A at hD ⊢
  have hA : ∀ q : Nat, s.heap.size ≤ q → A q := fun q h => by rw [← hAe]; exact Or.inr h
  have hS : va_S A s.heap s.heap [] := va_S.rf
  have hP : va_P G.1 vwCl [(mo, eO 10 [.ref st, .ref mi, .ref mk, .long 0, .long 1, .int 0, .ref m6, .ref m7, .int 0, .ref m9, .ref m10, .int 0, .int 0, .int 0, .int 0, .ref m15, .ref m16, .ref m17, .ref m18, .ref m19, .ref m20, .ref m21, .ref m22, .ref m23, .ref m24]), (st, eI G 2246 st0)] s.heap := hP
  have hl := lv_entry ([.ref mo, .int a1]) (n := 2) (Nat.le_of_ble_eq_true rfl)
  rw [lg_entry_eq]
  generalize (lg_sl ([.ref mo, .int a1]) ++ List.replicate (2 - (lg_sl ([.ref mo, .int a1])).length) Slot.unset).toArray = ls at hl ⊢
  have hl : lv_has ls 2 [(0, .ref mo), (1, .int a1)] := hl
  refine lv_aload_n hx hb dX11_jury_0 rfl (lv_at hl 0 rfl) ?_
  refine lv_iload_n hx hb dX11_jury_1 rfl (lv_at hl 1 rfl) ?_
  have hPc := hP.sub (ws' := [(mo, eO 10 [.ref st, .ref mi, .ref mk, .long 0, .long 1, .int 0, .ref m6, .ref m7, .int 0, .ref m9, .ref m10, .int 0, .int 0, .int 0, .int 0, .ref m15, .ref m16, .ref m17, .ref m18, .ref m19, .ref m20, .ref m21, .ref m22, .ref m23, .ref m24]), (st, eI G 2246 st0)]) [0, 1] rfl
  have hDc := hD.sub (ws' := [(mo, eO 10 [.ref st, .ref mi, .ref mk, .long 0, .long 1, .int 0, .ref m6, .ref m7, .int 0, .ref m9, .ref m10, .int 0, .int 0, .int 0, .int 0, .ref m15, .ref m16, .ref m17, .ref m18, .ref m19, .ref m20, .ref m21, .ref m22, .ref m23, .ref m24]), (st, eI G 2246 st0)]) [0, 1] (by decide) rfl
  have hFc := va_free (wc := [(mo, eO 10 [.ref st, .ref mi, .ref mk, .long 0, .long 1, .int 0, .ref m6, .ref m7, .int 0, .ref m9, .ref m10, .int 0, .int 0, .int 0, .int 0, .ref m15, .ref m16, .ref m17, .ref m18, .ref m19, .ref m20, .ref m21, .ref m22, .ref m23, .ref m24]), (st, eI G 2246 st0)]) hD hS hA [0, 1] rfl
  refine va_calli (va_runV (As := [.int a1]) (rest := []) ⟨hx, hb, hml, hown, hts⟩ (c_isTrial0 l G s.heap.size mo st mi mk m6 m7 m9 m10 m15 m16 m17 m18 m19 m20 m21 m22 m23 m24 a1 ) (my_cwV hts ok_X11_isTrial w_680 rfl rfl ⟨Nat.le_of_ble_eq_true rfl, Nat.le_of_ble_eq_true rfl⟩) ⟨wP.blind, va_recv hG.1 hPc (ci := 10) (q0 := 0) rfl rfl, fun U hU hW => ⟨rfl, by rw [hU], by rw [hU]; exact hPc, kG.warm hW hG, hDc.weaken (fun _ _ _ _ => trivial)⟩⟩ rfl rfl hl.1 rfl (lv_room (Nat.le_of_ble_eq_true rfl)) dX11_jury_2 ⟨Nat.le_of_ble_eq_true rfl, Nat.le_of_ble_eq_true rfl⟩) hS (fun q _ h => hFc q h) hFc (fun r u t H1 locs ht hvm hw hB hz1 hk1 hS => ?_)
  obtain ⟨hP1, hD1⟩ := hB
  rw [ht] at hP1
  try dsimp only at hw
  obtain ⟨hP, hD⟩ := va_join (wr := []) (w1 := [(mo, eO 10 [.ref st, .ref mi, .ref mk, .long 0, .long 1, .int 0, .ref m6, .ref m7, .int 0, .ref m9, .ref m10, .int 0, .int 0, .int 1, .int 0, .ref m15, .ref m16, .ref m17, .ref m18, .ref m19, .ref m20, .ref m21, .ref m22, .ref m23, .ref m24]), (st, eI G 2246 st0)]) hP hD [0, 1] [] rfl rfl (by decide) (by decide) hk1 hFc hP1 hD1
  generalize H1 = H at hP hS ⊢
  have hP : va_P G.1 vwCl [(mo, eO 10 [.ref st, .ref mi, .ref mk, .long 0, .long 1, .int 0, .ref m6, .ref m7, .int 0, .ref m9, .ref m10, .int 0, .int 0, .int 1, .int 0, .ref m15, .ref m16, .ref m17, .ref m18, .ref m19, .ref m20, .ref m21, .ref m22, .ref m23, .ref m24]), (st, eI G 2246 st0)] H := hP
  have hD : va_D A [(mo, eO 10 [.ref st, .ref mi, .ref mk, .long 0, .long 1, .int 0, .ref m6, .ref m7, .int 0, .ref m9, .ref m10, .int 0, .int 0, .int 1, .int 0, .ref m15, .ref m16, .ref m17, .ref m18, .ref m19, .ref m20, .ref m21, .ref m22, .ref m23, .ref m24]), (st, eI G 2246 st0)] := hD
  subst hw
  refine lv_if_eq (tgt := 17) hx hb dX11_jury_5 (by decide) (fun c_5 => ?_) (fun c_5 => absurd (by decide) c_5)
  refine lv_bipush (v := (-2)) hx hb dX11_jury_17 (by decide) ?_
  exact W.iret (v := (-2)) hx hb hr (fun t ht hW => ⟨⟨_, (), rfl, (rfl), trivial⟩, hS.F ht⟩) hS.2.2 dX11_jury_19
set_option maxHeartbeats 4000000 in
set_option maxRecDepth 100000 in
theorem m_twelve (l : Launch) (G : gW) (sz : Nat) (mo : Nat) (st : Nat) (mi : Nat) (mk : Nat) (m6 : Nat) (m7 : Nat) (m9 : Nat) (m10 : Nat) (m15 : Nat) (m16 : Nat) (m17 : Nat) (m18 : Nat) (m19 : Nat) (m20 : Nat) (m21 : Nat) (m22 : Nat) (m23 : Nat) (m24 : Nat) (a1 : Int32) (a2 : Int32)  : Met l yX11_twelve (wsT yX11_twelve cX11_twelve 9 (some .int)) ({ frames := 3, cells := 0, slots := 0, locals := 68 }) (wP G [.ref mo, .int a1, .int a2] sz [(mo, eO 10 [.ref st, .ref mi, .ref mk, .long 0, .long 1, .int 0, .ref m6, .ref m7, .int 0, .ref m9, .ref m10, .int 0, .int 0, .int 0, .int 0, .ref m15, .ref m16, .ref m17, .ref m18, .ref m19, .ref m20, .ref m21, .ref m22, .ref m23, .ref m24]), (st, eI G 2246 st0)]) (va_Qi (fun (r : Int32) (_ : Unit) => r = (-2)) (fun _ _ => True) (va_A [(mo, eO 10 [.ref st, .ref mi, .ref mk, .long 0, .long 1, .int 0, .ref m6, .ref m7, .int 0, .ref m9, .ref m10, .int 0, .int 0, .int 0, .int 0, .ref m15, .ref m16, .ref m17, .ref m18, .ref m19, .ref m20, .ref m21, .ref m22, .ref m23, .ref m24]), (st, eI G 2246 st0)] sz)) 0 0 (va_A [(mo, eO 10 [.ref st, .ref mi, .ref mk, .long 0, .long 1, .int 0, .ref m6, .ref m7, .int 0, .ref m9, .ref m10, .int 0, .int 0, .int 0, .int 0, .ref m15, .ref m16, .ref m17, .ref m18, .ref m19, .ref m20, .ref m21, .ref m22, .ref m23, .ref m24]), (st, eI G 2246 st0)] sz) := by
  refine Met.ofW (cc := cX11_twelve) (maxL := 9) (ret := (some .int)) (by decide) rfl ?_
  intro p e s m args below meth c s₁ B hml hv
  obtain ⟨rfl, hsz, hP, hG, hD0⟩ := hv
  have hx := B.exec
  have hb := B.bytes
  have hr := B.returns
  have hts := my_hts (atoms_spec (ws := wsT yX11_twelve cX11_twelve 9 (some .int)) B.pre)
  have hown : s.vm.findClass RX11 = some m.cls := findClass_of_methodNamed B.named
  have hlocks := B.notSynchronized
  subst hsz
  have hD := hD0.self (sz := s.heap.size)
  generalize hAe : va_A [(mo, eO 10 [.ref st, .ref mi, .ref mk, .long 0, .long 1, .int 0, .ref m6, .ref m7, .int 0, .ref m9, .ref m10, .int 0, .int 0, .int 0, .int 0, .ref m15, .ref m16, .ref m17, .ref m18, .ref m19, .ref m20, .ref m21, .ref m22, .ref m23, .ref m24]), (st, eI G 2246 st0)] s.heap.size = A at hD ⊢
  have hA : ∀ q : Nat, s.heap.size ≤ q → A q := fun q h => by rw [← hAe]; exact Or.inr h
  have hS : va_S A s.heap s.heap [] := va_S.rf
  have hP : va_P G.1 vwCl [(mo, eO 10 [.ref st, .ref mi, .ref mk, .long 0, .long 1, .int 0, .ref m6, .ref m7, .int 0, .ref m9, .ref m10, .int 0, .int 0, .int 0, .int 0, .ref m15, .ref m16, .ref m17, .ref m18, .ref m19, .ref m20, .ref m21, .ref m22, .ref m23, .ref m24]), (st, eI G 2246 st0)] s.heap := hP
  have hl := lv_entry ([.ref mo, .int a1, .int a2]) (n := 9) (Nat.le_of_ble_eq_true rfl)
  rw [lg_entry_eq]
  generalize (lg_sl ([.ref mo, .int a1, .int a2]) ++ List.replicate (9 - (lg_sl ([.ref mo, .int a1, .int a2])).length) Slot.unset).toArray = ls at hl ⊢
  have hl : lv_has ls 9 [(0, .ref mo), (1, .int a1), (2, .int a2)] := hl
  refine lv_aload_n hx hb dX11_twelve_0 rfl (lv_at hl 0 rfl) ?_
  refine lv_iload_n hx hb dX11_twelve_1 rfl (lv_at hl 1 rfl) ?_
  have hPc := hP.sub (ws' := [(mo, eO 10 [.ref st, .ref mi, .ref mk, .long 0, .long 1, .int 0, .ref m6, .ref m7, .int 0, .ref m9, .ref m10, .int 0, .int 0, .int 0, .int 0, .ref m15, .ref m16, .ref m17, .ref m18, .ref m19, .ref m20, .ref m21, .ref m22, .ref m23, .ref m24]), (st, eI G 2246 st0)]) [0, 1] rfl
  have hDc := hD.sub (ws' := [(mo, eO 10 [.ref st, .ref mi, .ref mk, .long 0, .long 1, .int 0, .ref m6, .ref m7, .int 0, .ref m9, .ref m10, .int 0, .int 0, .int 0, .int 0, .ref m15, .ref m16, .ref m17, .ref m18, .ref m19, .ref m20, .ref m21, .ref m22, .ref m23, .ref m24]), (st, eI G 2246 st0)]) [0, 1] (by decide) rfl
  have hFc := va_free (wc := [(mo, eO 10 [.ref st, .ref mi, .ref mk, .long 0, .long 1, .int 0, .ref m6, .ref m7, .int 0, .ref m9, .ref m10, .int 0, .int 0, .int 0, .int 0, .ref m15, .ref m16, .ref m17, .ref m18, .ref m19, .ref m20, .ref m21, .ref m22, .ref m23, .ref m24]), (st, eI G 2246 st0)]) hD hS hA [0, 1] rfl
  refine va_calli (va_runV (As := [.int a1]) (rest := []) ⟨hx, hb, hml, hown, hts⟩ (c_isTrial0 l G s.heap.size mo st mi mk m6 m7 m9 m10 m15 m16 m17 m18 m19 m20 m21 m22 m23 m24 a1 ) (my_cwV hts ok_X11_isTrial w_680 rfl rfl ⟨Nat.le_of_ble_eq_true rfl, Nat.le_of_ble_eq_true rfl⟩) ⟨wP.blind, va_recv hG.1 hPc (ci := 10) (q0 := 0) rfl rfl, fun U hU hW => ⟨rfl, by rw [hU], by rw [hU]; exact hPc, kG.warm hW hG, hDc.weaken (fun _ _ _ _ => trivial)⟩⟩ rfl rfl hl.1 rfl (lv_room (Nat.le_of_ble_eq_true rfl)) dX11_twelve_2 ⟨Nat.le_of_ble_eq_true rfl, Nat.le_of_ble_eq_true rfl⟩) hS (fun q _ h => hFc q h) hFc (fun r u t H1 locs ht hvm hw hB hz1 hk1 hS => ?_)
  obtain ⟨hP1, hD1⟩ := hB
  rw [ht] at hP1
  try dsimp only at hw
  obtain ⟨hP, hD⟩ := va_join (wr := []) (w1 := [(mo, eO 10 [.ref st, .ref mi, .ref mk, .long 0, .long 1, .int 0, .ref m6, .ref m7, .int 0, .ref m9, .ref m10, .int 0, .int 0, .int 1, .int 0, .ref m15, .ref m16, .ref m17, .ref m18, .ref m19, .ref m20, .ref m21, .ref m22, .ref m23, .ref m24]), (st, eI G 2246 st0)]) hP hD [0, 1] [] rfl rfl (by decide) (by decide) hk1 hFc hP1 hD1
  generalize H1 = H at hP hS ⊢
  have hP : va_P G.1 vwCl [(mo, eO 10 [.ref st, .ref mi, .ref mk, .long 0, .long 1, .int 0, .ref m6, .ref m7, .int 0, .ref m9, .ref m10, .int 0, .int 0, .int 1, .int 0, .ref m15, .ref m16, .ref m17, .ref m18, .ref m19, .ref m20, .ref m21, .ref m22, .ref m23, .ref m24]), (st, eI G 2246 st0)] H := hP
  have hD : va_D A [(mo, eO 10 [.ref st, .ref mi, .ref mk, .long 0, .long 1, .int 0, .ref m6, .ref m7, .int 0, .ref m9, .ref m10, .int 0, .int 0, .int 1, .int 0, .ref m15, .ref m16, .ref m17, .ref m18, .ref m19, .ref m20, .ref m21, .ref m22, .ref m23, .ref m24]), (st, eI G 2246 st0)] := hD
  subst hw
  refine lv_if_eq (tgt := 18) hx hb dX11_twelve_5 (by decide) (fun c_5 => ?_) (fun c_5 => absurd (by decide) c_5)
  refine lv_bipush (v := (-2)) hx hb dX11_twelve_18 (by decide) ?_
  exact W.iret (v := (-2)) hx hb hr (fun t ht hW => ⟨⟨_, (), rfl, (rfl), trivial⟩, hS.F ht⟩) hS.2.2 dX11_twelve_20
set_option maxHeartbeats 4000000 in
set_option maxRecDepth 100000 in
theorem m_beside (l : Launch) (G : gW) (sz : Nat) (mo : Nat) (st : Nat) (mi : Nat) (mk : Nat) (m6 : Nat) (m7 : Nat) (m9 : Nat) (m10 : Nat) (m15 : Nat) (m16 : Nat) (m17 : Nat) (m18 : Nat) (m19 : Nat) (m20 : Nat) (m21 : Nat) (m22 : Nat) (m23 : Nat) (m24 : Nat) (a1 : Int32) (a2 : Int32) (a3 : Int32)  : Met l yX11_beside (wsT yX11_beside cX11_beside 5 (some .int)) ({ frames := 3, cells := 0, slots := 0, locals := 68 }) (wP G [.ref mo, .int a1, .int a2, .int a3] sz [(mo, eO 10 [.ref st, .ref mi, .ref mk, .long 0, .long 1, .int 0, .ref m6, .ref m7, .int 0, .ref m9, .ref m10, .int 0, .int 0, .int 0, .int 0, .ref m15, .ref m16, .ref m17, .ref m18, .ref m19, .ref m20, .ref m21, .ref m22, .ref m23, .ref m24]), (st, eI G 2246 st0)]) (va_Qi (fun (r : Int32) (_ : Unit) => r = (-2)) (fun _ _ => True) (va_A [(mo, eO 10 [.ref st, .ref mi, .ref mk, .long 0, .long 1, .int 0, .ref m6, .ref m7, .int 0, .ref m9, .ref m10, .int 0, .int 0, .int 0, .int 0, .ref m15, .ref m16, .ref m17, .ref m18, .ref m19, .ref m20, .ref m21, .ref m22, .ref m23, .ref m24]), (st, eI G 2246 st0)] sz)) 0 0 (va_A [(mo, eO 10 [.ref st, .ref mi, .ref mk, .long 0, .long 1, .int 0, .ref m6, .ref m7, .int 0, .ref m9, .ref m10, .int 0, .int 0, .int 0, .int 0, .ref m15, .ref m16, .ref m17, .ref m18, .ref m19, .ref m20, .ref m21, .ref m22, .ref m23, .ref m24]), (st, eI G 2246 st0)] sz) := by
  refine Met.ofW (cc := cX11_beside) (maxL := 5) (ret := (some .int)) (by decide) rfl ?_
  intro p e s m args below meth c s₁ B hml hv
  obtain ⟨rfl, hsz, hP, hG, hD0⟩ := hv
  have hx := B.exec
  have hb := B.bytes
  have hr := B.returns
  have hts := my_hts (atoms_spec (ws := wsT yX11_beside cX11_beside 5 (some .int)) B.pre)
  have hown : s.vm.findClass RX11 = some m.cls := findClass_of_methodNamed B.named
  have hlocks := B.notSynchronized
  subst hsz
  have hD := hD0.self (sz := s.heap.size)
  generalize hAe : va_A [(mo, eO 10 [.ref st, .ref mi, .ref mk, .long 0, .long 1, .int 0, .ref m6, .ref m7, .int 0, .ref m9, .ref m10, .int 0, .int 0, .int 0, .int 0, .ref m15, .ref m16, .ref m17, .ref m18, .ref m19, .ref m20, .ref m21, .ref m22, .ref m23, .ref m24]), (st, eI G 2246 st0)] s.heap.size = A at hD ⊢
  have hA : ∀ q : Nat, s.heap.size ≤ q → A q := fun q h => by rw [← hAe]; exact Or.inr h
  have hS : va_S A s.heap s.heap [] := va_S.rf
  have hP : va_P G.1 vwCl [(mo, eO 10 [.ref st, .ref mi, .ref mk, .long 0, .long 1, .int 0, .ref m6, .ref m7, .int 0, .ref m9, .ref m10, .int 0, .int 0, .int 0, .int 0, .ref m15, .ref m16, .ref m17, .ref m18, .ref m19, .ref m20, .ref m21, .ref m22, .ref m23, .ref m24]), (st, eI G 2246 st0)] s.heap := hP
  have hl := lv_entry ([.ref mo, .int a1, .int a2, .int a3]) (n := 5) (Nat.le_of_ble_eq_true rfl)
  rw [lg_entry_eq]
  generalize (lg_sl ([.ref mo, .int a1, .int a2, .int a3]) ++ List.replicate (5 - (lg_sl ([.ref mo, .int a1, .int a2, .int a3])).length) Slot.unset).toArray = ls at hl ⊢
  have hl : lv_has ls 5 [(0, .ref mo), (1, .int a1), (2, .int a2), (3, .int a3)] := hl
  refine lv_aload_n hx hb dX11_beside_0 rfl (lv_at hl 0 rfl) ?_
  refine lv_iload_n hx hb dX11_beside_1 rfl (lv_at hl 1 rfl) ?_
  have hPc := hP.sub (ws' := [(mo, eO 10 [.ref st, .ref mi, .ref mk, .long 0, .long 1, .int 0, .ref m6, .ref m7, .int 0, .ref m9, .ref m10, .int 0, .int 0, .int 0, .int 0, .ref m15, .ref m16, .ref m17, .ref m18, .ref m19, .ref m20, .ref m21, .ref m22, .ref m23, .ref m24]), (st, eI G 2246 st0)]) [0, 1] rfl
  have hDc := hD.sub (ws' := [(mo, eO 10 [.ref st, .ref mi, .ref mk, .long 0, .long 1, .int 0, .ref m6, .ref m7, .int 0, .ref m9, .ref m10, .int 0, .int 0, .int 0, .int 0, .ref m15, .ref m16, .ref m17, .ref m18, .ref m19, .ref m20, .ref m21, .ref m22, .ref m23, .ref m24]), (st, eI G 2246 st0)]) [0, 1] (by decide) rfl
  have hFc := va_free (wc := [(mo, eO 10 [.ref st, .ref mi, .ref mk, .long 0, .long 1, .int 0, .ref m6, .ref m7, .int 0, .ref m9, .ref m10, .int 0, .int 0, .int 0, .int 0, .ref m15, .ref m16, .ref m17, .ref m18, .ref m19, .ref m20, .ref m21, .ref m22, .ref m23, .ref m24]), (st, eI G 2246 st0)]) hD hS hA [0, 1] rfl
  refine va_calli (va_runV (As := [.int a1]) (rest := []) ⟨hx, hb, hml, hown, hts⟩ (c_isTrial0 l G s.heap.size mo st mi mk m6 m7 m9 m10 m15 m16 m17 m18 m19 m20 m21 m22 m23 m24 a1 ) (my_cwV hts ok_X11_isTrial w_680 rfl rfl ⟨Nat.le_of_ble_eq_true rfl, Nat.le_of_ble_eq_true rfl⟩) ⟨wP.blind, va_recv hG.1 hPc (ci := 10) (q0 := 0) rfl rfl, fun U hU hW => ⟨rfl, by rw [hU], by rw [hU]; exact hPc, kG.warm hW hG, hDc.weaken (fun _ _ _ _ => trivial)⟩⟩ rfl rfl hl.1 rfl (lv_room (Nat.le_of_ble_eq_true rfl)) dX11_beside_2 ⟨Nat.le_of_ble_eq_true rfl, Nat.le_of_ble_eq_true rfl⟩) hS (fun q _ h => hFc q h) hFc (fun r u t H1 locs ht hvm hw hB hz1 hk1 hS => ?_)
  obtain ⟨hP1, hD1⟩ := hB
  rw [ht] at hP1
  try dsimp only at hw
  obtain ⟨hP, hD⟩ := va_join (wr := []) (w1 := [(mo, eO 10 [.ref st, .ref mi, .ref mk, .long 0, .long 1, .int 0, .ref m6, .ref m7, .int 0, .ref m9, .ref m10, .int 0, .int 0, .int 1, .int 0, .ref m15, .ref m16, .ref m17, .ref m18, .ref m19, .ref m20, .ref m21, .ref m22, .ref m23, .ref m24]), (st, eI G 2246 st0)]) hP hD [0, 1] [] rfl rfl (by decide) (by decide) hk1 hFc hP1 hD1
  generalize H1 = H at hP hS ⊢
  have hP : va_P G.1 vwCl [(mo, eO 10 [.ref st, .ref mi, .ref mk, .long 0, .long 1, .int 0, .ref m6, .ref m7, .int 0, .ref m9, .ref m10, .int 0, .int 0, .int 1, .int 0, .ref m15, .ref m16, .ref m17, .ref m18, .ref m19, .ref m20, .ref m21, .ref m22, .ref m23, .ref m24]), (st, eI G 2246 st0)] H := hP
  have hD : va_D A [(mo, eO 10 [.ref st, .ref mi, .ref mk, .long 0, .long 1, .int 0, .ref m6, .ref m7, .int 0, .ref m9, .ref m10, .int 0, .int 0, .int 1, .int 0, .ref m15, .ref m16, .ref m17, .ref m18, .ref m19, .ref m20, .ref m21, .ref m22, .ref m23, .ref m24]), (st, eI G 2246 st0)] := hD
  subst hw
  refine lv_if_eq (tgt := 25) hx hb dX11_beside_5 (by decide) (fun c_5 => ?_) (fun c_5 => absurd (by decide) c_5)
  refine lv_bipush (v := (-2)) hx hb dX11_beside_25 (by decide) ?_
  exact W.iret (v := (-2)) hx hb hr (fun t ht hW => ⟨⟨_, (), rfl, (rfl), trivial⟩, hS.F ht⟩) hS.2.2 dX11_beside_27
set_option maxHeartbeats 4000000 in
set_option maxRecDepth 100000 in
theorem m_about (l : Launch) (G : gW) (sz : Nat) (mo : Nat) (st : Nat) (mi : Nat) (mk : Nat) (m6 : Nat) (m7 : Nat) (m9 : Nat) (m10 : Nat) (m15 : Nat) (m16 : Nat) (m17 : Nat) (m18 : Nat) (m19 : Nat) (m20 : Nat) (m21 : Nat) (m22 : Nat) (m23 : Nat) (m24 : Nat) (a1 : Int32) (a2 : Int32)  : Met l yX11_about (wsT yX11_about cX11_about 3 (some .int)) ({ frames := 3, cells := 0, slots := 0, locals := 68 }) (wP G [.ref mo, .int a1, .int a2] sz [(mo, eO 10 [.ref st, .ref mi, .ref mk, .long 0, .long 1, .int 0, .ref m6, .ref m7, .int 0, .ref m9, .ref m10, .int 0, .int 0, .int 0, .int 0, .ref m15, .ref m16, .ref m17, .ref m18, .ref m19, .ref m20, .ref m21, .ref m22, .ref m23, .ref m24]), (st, eI G 2246 st0)]) (va_Qi (fun (r : Int32) (_ : Unit) => r = (-2000000000)) (fun _ _ => True) (va_A [(mo, eO 10 [.ref st, .ref mi, .ref mk, .long 0, .long 1, .int 0, .ref m6, .ref m7, .int 0, .ref m9, .ref m10, .int 0, .int 0, .int 0, .int 0, .ref m15, .ref m16, .ref m17, .ref m18, .ref m19, .ref m20, .ref m21, .ref m22, .ref m23, .ref m24]), (st, eI G 2246 st0)] sz)) 0 0 (va_A [(mo, eO 10 [.ref st, .ref mi, .ref mk, .long 0, .long 1, .int 0, .ref m6, .ref m7, .int 0, .ref m9, .ref m10, .int 0, .int 0, .int 0, .int 0, .ref m15, .ref m16, .ref m17, .ref m18, .ref m19, .ref m20, .ref m21, .ref m22, .ref m23, .ref m24]), (st, eI G 2246 st0)] sz) := by
  refine Met.ofW (cc := cX11_about) (maxL := 3) (ret := (some .int)) (by decide) rfl ?_
  intro p e s m args below meth c s₁ B hml hv
  obtain ⟨rfl, hsz, hP, hG, hD0⟩ := hv
  have hx := B.exec
  have hb := B.bytes
  have hr := B.returns
  have hts := my_hts (atoms_spec (ws := wsT yX11_about cX11_about 3 (some .int)) B.pre)
  have hown : s.vm.findClass RX11 = some m.cls := findClass_of_methodNamed B.named
  have hlocks := B.notSynchronized
  subst hsz
  have hD := hD0.self (sz := s.heap.size)
  generalize hAe : va_A [(mo, eO 10 [.ref st, .ref mi, .ref mk, .long 0, .long 1, .int 0, .ref m6, .ref m7, .int 0, .ref m9, .ref m10, .int 0, .int 0, .int 0, .int 0, .ref m15, .ref m16, .ref m17, .ref m18, .ref m19, .ref m20, .ref m21, .ref m22, .ref m23, .ref m24]), (st, eI G 2246 st0)] s.heap.size = A at hD ⊢
  have hA : ∀ q : Nat, s.heap.size ≤ q → A q := fun q h => by rw [← hAe]; exact Or.inr h
  have hS : va_S A s.heap s.heap [] := va_S.rf
  have hP : va_P G.1 vwCl [(mo, eO 10 [.ref st, .ref mi, .ref mk, .long 0, .long 1, .int 0, .ref m6, .ref m7, .int 0, .ref m9, .ref m10, .int 0, .int 0, .int 0, .int 0, .ref m15, .ref m16, .ref m17, .ref m18, .ref m19, .ref m20, .ref m21, .ref m22, .ref m23, .ref m24]), (st, eI G 2246 st0)] s.heap := hP
  have hl := lv_entry ([.ref mo, .int a1, .int a2]) (n := 3) (Nat.le_of_ble_eq_true rfl)
  rw [lg_entry_eq]
  generalize (lg_sl ([.ref mo, .int a1, .int a2]) ++ List.replicate (3 - (lg_sl ([.ref mo, .int a1, .int a2])).length) Slot.unset).toArray = ls at hl ⊢
  have hl : lv_has ls 3 [(0, .ref mo), (1, .int a1), (2, .int a2)] := hl
  refine lv_aload_n hx hb dX11_about_0 rfl (lv_at hl 0 rfl) ?_
  refine lv_iload_n hx hb dX11_about_1 rfl (lv_at hl 1 rfl) ?_
  have hPc := hP.sub (ws' := [(mo, eO 10 [.ref st, .ref mi, .ref mk, .long 0, .long 1, .int 0, .ref m6, .ref m7, .int 0, .ref m9, .ref m10, .int 0, .int 0, .int 0, .int 0, .ref m15, .ref m16, .ref m17, .ref m18, .ref m19, .ref m20, .ref m21, .ref m22, .ref m23, .ref m24]), (st, eI G 2246 st0)]) [0, 1] rfl
  have hDc := hD.sub (ws' := [(mo, eO 10 [.ref st, .ref mi, .ref mk, .long 0, .long 1, .int 0, .ref m6, .ref m7, .int 0, .ref m9, .ref m10, .int 0, .int 0, .int 0, .int 0, .ref m15, .ref m16, .ref m17, .ref m18, .ref m19, .ref m20, .ref m21, .ref m22, .ref m23, .ref m24]), (st, eI G 2246 st0)]) [0, 1] (by decide) rfl
  have hFc := va_free (wc := [(mo, eO 10 [.ref st, .ref mi, .ref mk, .long 0, .long 1, .int 0, .ref m6, .ref m7, .int 0, .ref m9, .ref m10, .int 0, .int 0, .int 0, .int 0, .ref m15, .ref m16, .ref m17, .ref m18, .ref m19, .ref m20, .ref m21, .ref m22, .ref m23, .ref m24]), (st, eI G 2246 st0)]) hD hS hA [0, 1] rfl
  refine va_calli (va_runV (As := [.int a1]) (rest := []) ⟨hx, hb, hml, hown, hts⟩ (c_isTrial0 l G s.heap.size mo st mi mk m6 m7 m9 m10 m15 m16 m17 m18 m19 m20 m21 m22 m23 m24 a1 ) (my_cwV hts ok_X11_isTrial w_680 rfl rfl ⟨Nat.le_of_ble_eq_true rfl, Nat.le_of_ble_eq_true rfl⟩) ⟨wP.blind, va_recv hG.1 hPc (ci := 10) (q0 := 0) rfl rfl, fun U hU hW => ⟨rfl, by rw [hU], by rw [hU]; exact hPc, kG.warm hW hG, hDc.weaken (fun _ _ _ _ => trivial)⟩⟩ rfl rfl hl.1 rfl (lv_room (Nat.le_of_ble_eq_true rfl)) dX11_about_2 ⟨Nat.le_of_ble_eq_true rfl, Nat.le_of_ble_eq_true rfl⟩) hS (fun q _ h => hFc q h) hFc (fun r u t H1 locs ht hvm hw hB hz1 hk1 hS => ?_)
  obtain ⟨hP1, hD1⟩ := hB
  rw [ht] at hP1
  try dsimp only at hw
  obtain ⟨hP, hD⟩ := va_join (wr := []) (w1 := [(mo, eO 10 [.ref st, .ref mi, .ref mk, .long 0, .long 1, .int 0, .ref m6, .ref m7, .int 0, .ref m9, .ref m10, .int 0, .int 0, .int 1, .int 0, .ref m15, .ref m16, .ref m17, .ref m18, .ref m19, .ref m20, .ref m21, .ref m22, .ref m23, .ref m24]), (st, eI G 2246 st0)]) hP hD [0, 1] [] rfl rfl (by decide) (by decide) hk1 hFc hP1 hD1
  generalize H1 = H at hP hS ⊢
  have hP : va_P G.1 vwCl [(mo, eO 10 [.ref st, .ref mi, .ref mk, .long 0, .long 1, .int 0, .ref m6, .ref m7, .int 0, .ref m9, .ref m10, .int 0, .int 0, .int 1, .int 0, .ref m15, .ref m16, .ref m17, .ref m18, .ref m19, .ref m20, .ref m21, .ref m22, .ref m23, .ref m24]), (st, eI G 2246 st0)] H := hP
  have hD : va_D A [(mo, eO 10 [.ref st, .ref mi, .ref mk, .long 0, .long 1, .int 0, .ref m6, .ref m7, .int 0, .ref m9, .ref m10, .int 0, .int 0, .int 1, .int 0, .ref m15, .ref m16, .ref m17, .ref m18, .ref m19, .ref m20, .ref m21, .ref m22, .ref m23, .ref m24]), (st, eI G 2246 st0)] := hD
  subst hw
  refine lv_if_eq (tgt := 33) hx hb dX11_about_5 (by decide) (fun c_5 => ?_) (fun c_5 => absurd (by decide) c_5)
  refine lv_ldc (v := (-2000000000)) hx hb hown (hts (.constant RX11 232 (-2000000000)) w_729) dX11_about_33 ?_
  exact W.iret (v := (-2000000000)) hx hb hr (fun t ht hW => ⟨⟨_, (), rfl, (rfl), trivial⟩, hS.F ht⟩) hS.2.2 dX11_about_35
set_option maxHeartbeats 4000000 in
set_option maxRecDepth 100000 in
theorem m_bad (l : Launch) (G : gW) (sz : Nat) (mo : Nat) (st : Nat) (mi : Nat) (mk : Nat) (m6 : Nat) (m7 : Nat) (m9 : Nat) (m10 : Nat) (m15 : Nat) (m16 : Nat) (m17 : Nat) (m18 : Nat) (m19 : Nat) (m20 : Nat) (m21 : Nat) (m22 : Nat) (m23 : Nat) (m24 : Nat) (a1 : Int32)  : Met l yX11_bad (wsT yX11_bad cX11_bad 4 (some .int)) ({ frames := 2, cells := 0, slots := 0, locals := 45 }) (wP G [.ref mo, .int a1] sz [(mo, eO 10 [.ref st, .ref mi, .ref mk, .long 0, .long 1, .int 0, .ref m6, .ref m7, .int 0, .ref m9, .ref m10, .int 0, .int 0, .int 0, .int 0, .ref m15, .ref m16, .ref m17, .ref m18, .ref m19, .ref m20, .ref m21, .ref m22, .ref m23, .ref m24]), (st, eI G 2246 st0)]) (va_Qi (fun (r : Int32) (_ : Unit) => r = if inB 0 a1 9999 = true then 0 else (-2)) (fun _ _ => True) (va_A [(mo, eO 10 [.ref st, .ref mi, .ref mk, .long 0, .long 1, .int 0, .ref m6, .ref m7, .int 0, .ref m9, .ref m10, .int 0, .int 0, .int 0, .int 0, .ref m15, .ref m16, .ref m17, .ref m18, .ref m19, .ref m20, .ref m21, .ref m22, .ref m23, .ref m24]), (st, eI G 2246 st0)] sz)) 0 0 (va_A [(mo, eO 10 [.ref st, .ref mi, .ref mk, .long 0, .long 1, .int 0, .ref m6, .ref m7, .int 0, .ref m9, .ref m10, .int 0, .int 0, .int 0, .int 0, .ref m15, .ref m16, .ref m17, .ref m18, .ref m19, .ref m20, .ref m21, .ref m22, .ref m23, .ref m24]), (st, eI G 2246 st0)] sz) := by
  refine Met.ofW (cc := cX11_bad) (maxL := 4) (ret := (some .int)) (by decide) rfl ?_
  intro p e s m args below meth c s₁ B hml hv
  obtain ⟨rfl, hsz, hP, hG, hD0⟩ := hv
  have hx := B.exec
  have hb := B.bytes
  have hr := B.returns
  have hts := my_hts (atoms_spec (ws := wsT yX11_bad cX11_bad 4 (some .int)) B.pre)
  have hown : s.vm.findClass RX11 = some m.cls := findClass_of_methodNamed B.named
  have hlocks := B.notSynchronized
  subst hsz
  have hD := hD0.self (sz := s.heap.size)
  generalize hAe : va_A [(mo, eO 10 [.ref st, .ref mi, .ref mk, .long 0, .long 1, .int 0, .ref m6, .ref m7, .int 0, .ref m9, .ref m10, .int 0, .int 0, .int 0, .int 0, .ref m15, .ref m16, .ref m17, .ref m18, .ref m19, .ref m20, .ref m21, .ref m22, .ref m23, .ref m24]), (st, eI G 2246 st0)] s.heap.size = A at hD ⊢
  have hA : ∀ q : Nat, s.heap.size ≤ q → A q := fun q h => by rw [← hAe]; exact Or.inr h
  have hS : va_S A s.heap s.heap [] := va_S.rf
  have hP : va_P G.1 vwCl [(mo, eO 10 [.ref st, .ref mi, .ref mk, .long 0, .long 1, .int 0, .ref m6, .ref m7, .int 0, .ref m9, .ref m10, .int 0, .int 0, .int 0, .int 0, .ref m15, .ref m16, .ref m17, .ref m18, .ref m19, .ref m20, .ref m21, .ref m22, .ref m23, .ref m24]), (st, eI G 2246 st0)] s.heap := hP
  have hl := lv_entry ([.ref mo, .int a1]) (n := 4) (Nat.le_of_ble_eq_true rfl)
  rw [lg_entry_eq]
  generalize (lg_sl ([.ref mo, .int a1]) ++ List.replicate (4 - (lg_sl ([.ref mo, .int a1])).length) Slot.unset).toArray = ls at hl ⊢
  have hl : lv_has ls 4 [(0, .ref mo), (1, .int a1)] := hl
  refine lv_iload_n hx hb dX11_bad_0 rfl (lv_at hl 1 rfl) ?_
  have hPc := hP.sub (ws' := []) [] rfl
  refine rd_calli (va_runS (As := [.int a1]) (rest := []) ⟨hx, hb, hml, hown, hts⟩ (c_misDay l G a1 ) (my_cwS hts ok_X11_isDay w_190 rfl rfl ⟨Nat.le_of_ble_eq_true rfl, Nat.le_of_ble_eq_true rfl⟩) ⟨rP.blind, fun U hU hW => ⟨rfl, by rw [hU]; exact hPc, kG.warm hW hG⟩⟩ rfl rfl hl.1 rfl (lv_room (Nat.le_of_ble_eq_true rfl)) dX11_bad_1 ⟨Nat.le_of_ble_eq_true rfl, Nat.le_of_ble_eq_true rfl⟩) (fun r hr9 => ?_)
  subst hr9
  refine my_ifne (tgt := 10) hx hb dX11_bad_4 (by decide) (fun c_4 => ?_) (fun c_4 => ?_)
  · refine lv_aload_n hx hb dX11_bad_10 rfl (lv_at hl 0 rfl) ?_
    have hPc := hP.sub (ws' := [(mo, eO 10 [.ref st, .ref mi, .ref mk, .long 0, .long 1, .int 0, .ref m6, .ref m7, .int 0, .ref m9, .ref m10, .int 0, .int 0, .int 0, .int 0, .ref m15, .ref m16, .ref m17, .ref m18, .ref m19, .ref m20, .ref m21, .ref m22, .ref m23, .ref m24]), (st, eI G 2246 st0)]) [0, 1] rfl
    have hDc := hD.sub (ws' := [(mo, eO 10 [.ref st, .ref mi, .ref mk, .long 0, .long 1, .int 0, .ref m6, .ref m7, .int 0, .ref m9, .ref m10, .int 0, .int 0, .int 0, .int 0, .ref m15, .ref m16, .ref m17, .ref m18, .ref m19, .ref m20, .ref m21, .ref m22, .ref m23, .ref m24]), (st, eI G 2246 st0)]) [0, 1] (by decide) rfl
    have hFc := va_free (wc := [(mo, eO 10 [.ref st, .ref mi, .ref mk, .long 0, .long 1, .int 0, .ref m6, .ref m7, .int 0, .ref m9, .ref m10, .int 0, .int 0, .int 0, .int 0, .ref m15, .ref m16, .ref m17, .ref m18, .ref m19, .ref m20, .ref m21, .ref m22, .ref m23, .ref m24]), (st, eI G 2246 st0)]) hD hS hA [0, 1] rfl
    refine va_callv (va_runV (As := []) (rest := []) ⟨hx, hb, hml, hown, hts⟩ (c_finds0 l G s.heap.size mo st mi mk m6 m7 m9 m10 m15 m16 m17 m18 m19 m20 m21 m22 m23 m24 ) (my_cwV hts ok_X11_finds w_523 rfl rfl ⟨Nat.le_of_ble_eq_true rfl, Nat.le_of_ble_eq_true rfl⟩) ⟨wP.blind, va_recv hG.1 hPc (ci := 10) (q0 := 0) rfl rfl, fun U hU hW => ⟨rfl, by rw [hU], by rw [hU]; exact hPc, kG.warm hW hG, hDc.weaken (fun _ _ _ _ => trivial)⟩⟩ rfl rfl hl.1 rfl (lv_room (Nat.le_of_ble_eq_true rfl)) dX11_bad_11 ⟨Nat.le_of_ble_eq_true rfl, Nat.le_of_ble_eq_true rfl⟩) hS (fun q _ h => hFc q h) hFc (fun u t H1 locs ht hvm hw hB hz1 hk1 hS => ?_)
    obtain ⟨hP1, hD1⟩ := hB
    rw [ht] at hP1
    try dsimp only at hw
    obtain ⟨hP, hD⟩ := va_join (wr := []) (w1 := [(mo, eO 10 [.ref st, .ref mi, .ref mk, .long 0, .long 1, .int 0, .ref m6, .ref m7, .int 0, .ref m9, .ref m10, .int 0, .int 0, .int 1, .int 0, .ref m15, .ref m16, .ref m17, .ref m18, .ref m19, .ref m20, .ref m21, .ref m22, .ref m23, .ref m24]), (st, eI G 2246 st0)]) hP hD [0, 1] [] rfl rfl (by decide) (by decide) hk1 hFc hP1 hD1
    generalize H1 = H at hP hS ⊢
    have hP : va_P G.1 vwCl [(mo, eO 10 [.ref st, .ref mi, .ref mk, .long 0, .long 1, .int 0, .ref m6, .ref m7, .int 0, .ref m9, .ref m10, .int 0, .int 0, .int 1, .int 0, .ref m15, .ref m16, .ref m17, .ref m18, .ref m19, .ref m20, .ref m21, .ref m22, .ref m23, .ref m24]), (st, eI G 2246 st0)] H := hP
    have hD : va_D A [(mo, eO 10 [.ref st, .ref mi, .ref mk, .long 0, .long 1, .int 0, .ref m6, .ref m7, .int 0, .ref m9, .ref m10, .int 0, .int 0, .int 1, .int 0, .ref m15, .ref m16, .ref m17, .ref m18, .ref m19, .ref m20, .ref m21, .ref m22, .ref m23, .ref m24]), (st, eI G 2246 st0)] := hD
    refine lv_iconst (v := 0) hx hb dX11_bad_14 (by decide) ?_
    refine lv_istore_n (lv' := [(2, .int 0), (0, .ref mo), (1, .int a1)]) hx hb dX11_bad_15 rfl hl (by decide) rfl (fun ls hl => ?_)
    refine lv_iconst (v := 0) hx hb dX11_bad_16 (by decide) ?_
    refine lv_istore_n (lv' := [(3, .int 0), (2, .int 0), (0, .ref mo), (1, .int a1)]) hx hb dX11_bad_17 rfl hl (by decide) rfl (fun ls hl => ?_)
    refine lv_iload_n hx hb dX11_bad_18 rfl (lv_at hl 0 rfl) ?_
    refine lv_aload_n hx hb dX11_bad_19 rfl (lv_at hl 2 rfl) ?_
    refine va_get (D := G.1) (ci := 10) (v := .ref st) (C := RX11) (T := TX11) (N := 25) hx hb hts inlX11 hown hG.1 hP 0 rfl rfl 0 (by decide) (hts (.fieldLink RX11 7 "SwornListsModel" "st" "[I") w_112) (fun _ h9 => h9) rfl dX11_bad_20 ?_
    refine lv_iconst (v := 4) hx hb dX11_bad_23 (by decide) ?_
    refine va_iald hx hb hG.1 hP 1 0 rfl rfl (by unfold vp_in; decide) dX11_bad_24 ?_
    refine my_bei (v := 0) (by first | rfl | decide) ?_
    refine lv_icmp_ge (tgt := 60) hx hb dX11_bad_25 (by decide) (fun c_25 => ?_) (fun c_25 => absurd (by decide) c_25)
    refine lv_iload_n hx hb dX11_bad_60 rfl (lv_at hl 1 rfl) ?_
    exact W.iret (v := 0) hx hb hr (fun t ht hW => ⟨⟨_, (), rfl, (by simp [c_4]), trivial⟩, hS.F ht⟩) hS.2.2 dX11_bad_61
  · refine lv_bipush (v := (-2)) hx hb dX11_bad_7 (by decide) ?_
    exact W.iret (v := (-2)) hx hb hr (fun t ht hW => ⟨⟨_, (), rfl, (by simp [c_4]), trivial⟩, hS.F ht⟩) hS.2.2 dX11_bad_9
set_option maxHeartbeats 4000000 in
set_option maxRecDepth 100000 in
theorem m_sums (l : Launch) (G : gW) (sz : Nat) (mo : Nat) (st : Nat) (mi : Nat) (mk : Nat) (m6 : Nat) (m7 : Nat) (m9 : Nat) (m10 : Nat) (m15 : Nat) (m16 : Nat) (m17 : Nat) (m18 : Nat) (m19 : Nat) (m20 : Nat) (m21 : Nat) (m22 : Nat) (m23 : Nat) (m24 : Nat) (a1 : Int32) (a2 : Int32)  : Met l yX11_sums (wsT yX11_sums cX11_sums 3 (some .int)) ({ frames := 1, cells := 0, slots := 0, locals := 25 }) (wP G [.ref mo, .int a1, .int a2] sz [(mo, eO 10 [.ref st, .ref mi, .ref mk, .long 0, .long 1, .int 0, .ref m6, .ref m7, .int 0, .ref m9, .ref m10, .int 0, .int 0, .int 0, .int 0, .ref m15, .ref m16, .ref m17, .ref m18, .ref m19, .ref m20, .ref m21, .ref m22, .ref m23, .ref m24]), (st, eI G 2246 st0)]) (va_Qi (fun (r : Int32) (_ : Unit) => r = if (inB 0 a1 100 = true) ∧ (inB 0 a2 1000 = true) then 1 else (-2)) (fun _ _ => True) (va_A [(mo, eO 10 [.ref st, .ref mi, .ref mk, .long 0, .long 1, .int 0, .ref m6, .ref m7, .int 0, .ref m9, .ref m10, .int 0, .int 0, .int 0, .int 0, .ref m15, .ref m16, .ref m17, .ref m18, .ref m19, .ref m20, .ref m21, .ref m22, .ref m23, .ref m24]), (st, eI G 2246 st0)] sz)) 0 0 (va_A [(mo, eO 10 [.ref st, .ref mi, .ref mk, .long 0, .long 1, .int 0, .ref m6, .ref m7, .int 0, .ref m9, .ref m10, .int 0, .int 0, .int 0, .int 0, .ref m15, .ref m16, .ref m17, .ref m18, .ref m19, .ref m20, .ref m21, .ref m22, .ref m23, .ref m24]), (st, eI G 2246 st0)] sz) := by
  refine Met.ofW (cc := cX11_sums) (maxL := 3) (ret := (some .int)) (by decide) rfl ?_
  intro p e s m args below meth c s₁ B hml hv
  obtain ⟨rfl, hsz, hP, hG, hD0⟩ := hv
  have hx := B.exec
  have hb := B.bytes
  have hr := B.returns
  have hts := my_hts (atoms_spec (ws := wsT yX11_sums cX11_sums 3 (some .int)) B.pre)
  have hown : s.vm.findClass RX11 = some m.cls := findClass_of_methodNamed B.named
  have hlocks := B.notSynchronized
  subst hsz
  have hD := hD0.self (sz := s.heap.size)
  generalize hAe : va_A [(mo, eO 10 [.ref st, .ref mi, .ref mk, .long 0, .long 1, .int 0, .ref m6, .ref m7, .int 0, .ref m9, .ref m10, .int 0, .int 0, .int 0, .int 0, .ref m15, .ref m16, .ref m17, .ref m18, .ref m19, .ref m20, .ref m21, .ref m22, .ref m23, .ref m24]), (st, eI G 2246 st0)] s.heap.size = A at hD ⊢
  have hA : ∀ q : Nat, s.heap.size ≤ q → A q := fun q h => by rw [← hAe]; exact Or.inr h
  have hS : va_S A s.heap s.heap [] := va_S.rf
  have hP : va_P G.1 vwCl [(mo, eO 10 [.ref st, .ref mi, .ref mk, .long 0, .long 1, .int 0, .ref m6, .ref m7, .int 0, .ref m9, .ref m10, .int 0, .int 0, .int 0, .int 0, .ref m15, .ref m16, .ref m17, .ref m18, .ref m19, .ref m20, .ref m21, .ref m22, .ref m23, .ref m24]), (st, eI G 2246 st0)] s.heap := hP
  have hl := lv_entry ([.ref mo, .int a1, .int a2]) (n := 3) (Nat.le_of_ble_eq_true rfl)
  rw [lg_entry_eq]
  generalize (lg_sl ([.ref mo, .int a1, .int a2]) ++ List.replicate (3 - (lg_sl ([.ref mo, .int a1, .int a2])).length) Slot.unset).toArray = ls at hl ⊢
  have hl : lv_has ls 3 [(0, .ref mo), (1, .int a1), (2, .int a2)] := hl
  refine lv_iload_n hx hb dX11_sums_0 rfl (lv_at hl 1 rfl) ?_
  refine lv_i2l hx hb dX11_sums_1 rfl ?_
  refine lv_lconst (v := 0) hx hb dX11_sums_2 (by decide) ?_
  refine my_bel (v := Int32.toInt64 0) (by decide) ?_
  refine lv_ldc2 (v := 100) hx hb hown (hts (.constantLong RX11 202 (100)) w_670) dX11_sums_3 ?_
  refine my_bel (v := Int32.toInt64 100) (by decide) ?_
  have hPc := hP.sub (ws' := []) [] rfl
  refine rd_calli (va_runS (As := [.long (Int32.toInt64 a1), .long (Int32.toInt64 0), .long (Int32.toInt64 100)]) (rest := []) ⟨hx, hb, hml, hown, hts⟩ (c_in l G a1 0 100 ) (my_cwS hts ok_X11_in w_162 rfl rfl ⟨Nat.le_of_ble_eq_true rfl, Nat.le_of_ble_eq_true rfl⟩) ⟨rP.blind, fun U hU hW => ⟨rfl, by rw [hU]; exact hPc, kG.warm hW hG⟩⟩ rfl rfl hl.1 rfl (lv_room (Nat.le_of_ble_eq_true rfl)) dX11_sums_6 ⟨Nat.le_of_ble_eq_true rfl, Nat.le_of_ble_eq_true rfl⟩) (fun r hr9 => ?_)
  subst hr9
  refine my_ifeq (tgt := 24) hx hb dX11_sums_9 (by decide) (fun c_9 => ?_) (fun c_9 => ?_)
  · refine lv_bipush (v := (-2)) hx hb dX11_sums_24 (by decide) ?_
    exact W.iret (v := (-2)) hx hb hr (fun t ht hW => ⟨⟨_, (), rfl, (by simp [c_9]), trivial⟩, hS.F ht⟩) hS.2.2 dX11_sums_26
  · refine lv_iload_n hx hb dX11_sums_12 rfl (lv_at hl 2 rfl) ?_
    refine lv_i2l hx hb dX11_sums_13 rfl ?_
    refine lv_lconst (v := 0) hx hb dX11_sums_14 (by decide) ?_
    refine my_bel (v := Int32.toInt64 0) (by decide) ?_
    refine lv_ldc2 (v := 1000) hx hb hown (hts (.constantLong RX11 79 (1000)) w_160) dX11_sums_15 ?_
    refine my_bel (v := Int32.toInt64 1000) (by decide) ?_
    have hPc := hP.sub (ws' := []) [] rfl
    refine rd_calli (va_runS (As := [.long (Int32.toInt64 a2), .long (Int32.toInt64 0), .long (Int32.toInt64 1000)]) (rest := []) ⟨hx, hb, hml, hown, hts⟩ (c_in l G a2 0 1000 ) (my_cwS hts ok_X11_in w_162 rfl rfl ⟨Nat.le_of_ble_eq_true rfl, Nat.le_of_ble_eq_true rfl⟩) ⟨rP.blind, fun U hU hW => ⟨rfl, by rw [hU]; exact hPc, kG.warm hW hG⟩⟩ rfl rfl hl.1 rfl (lv_room (Nat.le_of_ble_eq_true rfl)) dX11_sums_18 ⟨Nat.le_of_ble_eq_true rfl, Nat.le_of_ble_eq_true rfl⟩) (fun r hr9 => ?_)
    subst hr9
    refine my_ifne (tgt := 27) hx hb dX11_sums_21 (by decide) (fun c_21 => ?_) (fun c_21 => ?_)
    · refine lv_aload_n hx hb dX11_sums_27 rfl (lv_at hl 0 rfl) ?_
      refine va_get (D := G.1) (ci := 10) (v := .ref st) (C := RX11) (T := TX11) (N := 25) hx hb hts inlX11 hown hG.1 hP 0 rfl rfl 0 (by decide) (hts (.fieldLink RX11 7 "SwornListsModel" "st" "[I") w_112) (fun _ h9 => h9) rfl dX11_sums_28 ?_
      refine lv_iconst (v := 5) hx hb dX11_sums_31 (by decide) ?_
      refine lv_iload_n hx hb dX11_sums_32 rfl (lv_at hl 1 rfl) ?_
      refine va_iast hx hb hG.1 hP hD hS 1 0 rfl rfl (by unfold vp_in; decide) dX11_sums_33 (fun H locs hP hD hS => ?_)
      have hP : va_P G.1 vwCl [(mo, eO 10 [.ref st, .ref mi, .ref mk, .long 0, .long 1, .int 0, .ref m6, .ref m7, .int 0, .ref m9, .ref m10, .int 0, .int 0, .int 0, .int 0, .ref m15, .ref m16, .ref m17, .ref m18, .ref m19, .ref m20, .ref m21, .ref m22, .ref m23, .ref m24]), (st, eI G 2246 (upd st0 (Int32.toNatClampNeg 5) a1))] H := hP
      have hD : va_D A [(mo, eO 10 [.ref st, .ref mi, .ref mk, .long 0, .long 1, .int 0, .ref m6, .ref m7, .int 0, .ref m9, .ref m10, .int 0, .int 0, .int 0, .int 0, .ref m15, .ref m16, .ref m17, .ref m18, .ref m19, .ref m20, .ref m21, .ref m22, .ref m23, .ref m24]), (st, eI G 2246 (upd st0 (Int32.toNatClampNeg 5) a1))] := hD
      refine lv_aload_n hx hb dX11_sums_34 rfl (lv_at hl 0 rfl) ?_
      refine va_get (D := G.1) (ci := 10) (v := .ref st) (C := RX11) (T := TX11) (N := 25) hx hb hts inlX11 hown hG.1 hP 0 rfl rfl 0 (by decide) (hts (.fieldLink RX11 7 "SwornListsModel" "st" "[I") w_112) (fun _ h9 => h9) rfl dX11_sums_35 ?_
      refine lv_bipush (v := 6) hx hb dX11_sums_38 (by decide) ?_
      refine lv_iload_n hx hb dX11_sums_40 rfl (lv_at hl 2 rfl) ?_
      refine va_iast hx hb hG.1 hP hD hS 1 0 rfl rfl (by unfold vp_in; decide) dX11_sums_41 (fun H locs hP hD hS => ?_)
      have hP : va_P G.1 vwCl [(mo, eO 10 [.ref st, .ref mi, .ref mk, .long 0, .long 1, .int 0, .ref m6, .ref m7, .int 0, .ref m9, .ref m10, .int 0, .int 0, .int 0, .int 0, .ref m15, .ref m16, .ref m17, .ref m18, .ref m19, .ref m20, .ref m21, .ref m22, .ref m23, .ref m24]), (st, eI G 2246 (upd (upd st0 (Int32.toNatClampNeg 5) a1) (Int32.toNatClampNeg 6) a2))] H := hP
      have hD : va_D A [(mo, eO 10 [.ref st, .ref mi, .ref mk, .long 0, .long 1, .int 0, .ref m6, .ref m7, .int 0, .ref m9, .ref m10, .int 0, .int 0, .int 0, .int 0, .ref m15, .ref m16, .ref m17, .ref m18, .ref m19, .ref m20, .ref m21, .ref m22, .ref m23, .ref m24]), (st, eI G 2246 (upd (upd st0 (Int32.toNatClampNeg 5) a1) (Int32.toNatClampNeg 6) a2))] := hD
      refine lv_iconst (v := 1) hx hb dX11_sums_42 (by decide) ?_
      exact W.iret (v := 1) hx hb hr (fun t ht hW => ⟨⟨_, (), rfl, (by simp [c_9, c_21]), trivial⟩, hS.F ht⟩) hS.2.2 dX11_sums_43
    · refine lv_bipush (v := (-2)) hx hb dX11_sums_24 (by decide) ?_
      exact W.iret (v := (-2)) hx hb hr (fun t ht hW => ⟨⟨_, (), rfl, (by simp [c_9, c_21]), trivial⟩, hS.F ht⟩) hS.2.2 dX11_sums_26
set_option maxHeartbeats 4000000 in
set_option maxRecDepth 100000 in
theorem m_owed (l : Launch) (G : gW) (mo : Nat) (st : Nat) (mi : Nat) (mk : Nat) (m6 : Nat) (m7 : Nat) (m9 : Nat) (m10 : Nat) (m15 : Nat) (m16 : Nat) (m17 : Nat) (m18 : Nat) (m19 : Nat) (m20 : Nat) (m21 : Nat) (m22 : Nat) (m23 : Nat) (m24 : Nat) (a1 : Int32) (a2 : Int32)  : Met l yX11_owed (wsT yX11_owed cX11_owed 5 (some .int)) ({ frames := 2, cells := 0, slots := 0, locals := 47 }) (rP G [.ref mo, .int a1, .int a2] [(mo, eO 10 [.ref st, .ref mi, .ref mk, .long 0, .long 1, .int 0, .ref m6, .ref m7, .int 0, .ref m9, .ref m10, .int 0, .int 0, .int 0, .int 0, .ref m15, .ref m16, .ref m17, .ref m18, .ref m19, .ref m20, .ref m21, .ref m22, .ref m23, .ref m24]), (st, eI G 2246 st0)]) (rQi (fun r => r = (-1000000))) 0 0 fr0 := by
  refine Met.ofW (cc := cX11_owed) (maxL := 5) (ret := (some .int)) (by decide) rfl ?_
  intro p e s m args below meth c s₁ B hml hv
  obtain ⟨rfl, hP, hG⟩ := hv
  have hx := B.exec
  have hb := B.bytes
  have hr := B.returns
  have hts := my_hts (atoms_spec (ws := wsT yX11_owed cX11_owed 5 (some .int)) B.pre)
  have hown : s.vm.findClass RX11 = some m.cls := findClass_of_methodNamed B.named
  have hlocks := B.notSynchronized
  have hP : va_P G.1 vwCl [(mo, eO 10 [.ref st, .ref mi, .ref mk, .long 0, .long 1, .int 0, .ref m6, .ref m7, .int 0, .ref m9, .ref m10, .int 0, .int 0, .int 0, .int 0, .ref m15, .ref m16, .ref m17, .ref m18, .ref m19, .ref m20, .ref m21, .ref m22, .ref m23, .ref m24]), (st, eI G 2246 st0)] s.heap := hP
  have hl := lv_entry ([.ref mo, .int a1, .int a2]) (n := 5) (Nat.le_of_ble_eq_true rfl)
  rw [lg_entry_eq]
  generalize (lg_sl ([.ref mo, .int a1, .int a2]) ++ List.replicate (5 - (lg_sl ([.ref mo, .int a1, .int a2])).length) Slot.unset).toArray = ls at hl ⊢
  have hl : lv_has ls 5 [(0, .ref mo), (1, .int a1), (2, .int a2)] := hl
  refine lv_aload_n hx hb dX11_owed_0 rfl (lv_at hl 0 rfl) ?_
  refine lv_iconst (v := 0) hx hb dX11_owed_1 (by decide) ?_
  refine lv_iload_n hx hb dX11_owed_2 rfl (lv_at hl 1 rfl) ?_
  have hPc := hP.sub (ws' := [(mo, eO 10 [.ref st, .ref mi, .ref mk, .long 0, .long 1, .int 0, .ref m6, .ref m7, .int 0, .ref m9, .ref m10, .int 0, .int 0, .int 0, .int 0, .ref m15, .ref m16, .ref m17, .ref m18, .ref m19, .ref m20, .ref m21, .ref m22, .ref m23, .ref m24]), (st, eI G 2246 st0)]) [0, 1] rfl
  refine rd_calli (va_runV (As := [.int 0, .int a1]) (rest := []) ⟨hx, hb, hml, hown, hts⟩ (c_is0 l G mo st mi mk m6 m7 m9 m10 m15 m16 m17 m18 m19 m20 m21 m22 m23 m24 0 a1 0 1 0 0 0 0 0 0 (by unfold vp_in; decide) (by decide)) (my_cwV hts ok_X11_is w_186 rfl rfl ⟨Nat.le_of_ble_eq_true rfl, Nat.le_of_ble_eq_true rfl⟩) ⟨rP.blind, va_recv hG.1 hPc (ci := 10) (q0 := 0) rfl rfl, fun U hU hW => ⟨rfl, by rw [hU]; exact hPc, kG.warm hW hG⟩⟩ rfl rfl hl.1 rfl (lv_room (Nat.le_of_ble_eq_true rfl)) dX11_owed_3 ⟨Nat.le_of_ble_eq_true rfl, Nat.le_of_ble_eq_true rfl⟩) (fun r hr9 => ?_)
  subst hr9
  refine lv_if_eq (tgt := 16) hx hb dX11_owed_6 (by decide) (fun c_6 => ?_) (fun c_6 => absurd (by decide) c_6)
  refine lv_ldc (v := (-1000000)) hx hb hown (hts (.constant RX11 233 (-1000000)) w_756) dX11_owed_16 ?_
  exact W.iret (v := (-1000000)) hx hb hr (fun t ht hW => ⟨_, rfl, (rfl), ht⟩) (fun _ h => absurd h List.not_mem_nil) dX11_owed_18
set_option maxHeartbeats 4000000 in
set_option maxRecDepth 100000 in
theorem m_part (l : Launch) (G : gW) (mo : Nat) (st : Nat) (mi : Nat) (mk : Nat) (m6 : Nat) (m7 : Nat) (m9 : Nat) (m10 : Nat) (m15 : Nat) (m16 : Nat) (m17 : Nat) (m18 : Nat) (m19 : Nat) (m20 : Nat) (m21 : Nat) (m22 : Nat) (m23 : Nat) (m24 : Nat) (a1 : Int32)  : Met l yX11_part (wsT yX11_part cX11_part 2 (some .long)) ({ frames := 0, cells := 0, slots := 0, locals := 0 }) (rP G [.ref mo, .int a1] [(mo, eO 10 [.ref st, .ref mi, .ref mk, .long 0, .long 1, .int 0, .ref m6, .ref m7, .int 0, .ref m9, .ref m10, .int 0, .int 0, .int 0, .int 0, .ref m15, .ref m16, .ref m17, .ref m18, .ref m19, .ref m20, .ref m21, .ref m22, .ref m23, .ref m24])]) (rQl (fun r => r = if a1 = 0 then 0 else if a1 = 1 then 1 else (-1))) 0 0 fr0 := by
  refine Met.ofW (cc := cX11_part) (maxL := 2) (ret := (some .long)) (by decide) rfl ?_
  intro p e s m args below meth c s₁ B hml hv
  obtain ⟨rfl, hP, hG⟩ := hv
  have hx := B.exec
  have hb := B.bytes
  have hr := B.returns
  have hts := my_hts (atoms_spec (ws := wsT yX11_part cX11_part 2 (some .long)) B.pre)
  have hown : s.vm.findClass RX11 = some m.cls := findClass_of_methodNamed B.named
  have hlocks := B.notSynchronized
  have hP : va_P G.1 vwCl [(mo, eO 10 [.ref st, .ref mi, .ref mk, .long 0, .long 1, .int 0, .ref m6, .ref m7, .int 0, .ref m9, .ref m10, .int 0, .int 0, .int 0, .int 0, .ref m15, .ref m16, .ref m17, .ref m18, .ref m19, .ref m20, .ref m21, .ref m22, .ref m23, .ref m24])] s.heap := hP
  have hl := lv_entry ([.ref mo, .int a1]) (n := 2) (Nat.le_of_ble_eq_true rfl)
  rw [lg_entry_eq]
  generalize (lg_sl ([.ref mo, .int a1]) ++ List.replicate (2 - (lg_sl ([.ref mo, .int a1])).length) Slot.unset).toArray = ls at hl ⊢
  have hl : lv_has ls 2 [(0, .ref mo), (1, .int a1)] := hl
  refine lv_iload_n hx hb dX11_part_0 rfl (lv_at hl 1 rfl) ?_
  refine lv_if_ne (tgt := 11) hx hb dX11_part_1 (by decide) (fun c_1 => ?_) (fun c_1 => ?_)
  · refine lv_iload_n hx hb dX11_part_11 rfl (lv_at hl 1 rfl) ?_
    refine lv_iconst (v := 1) hx hb dX11_part_12 (by decide) ?_
    refine lv_icmp_ne (tgt := 23) hx hb dX11_part_13 (by decide) (fun c_13 => ?_) (fun c_13 => ?_)
    · refine lv_ldc2 (v := (-1)) hx hb hown (hts (.constantLong RX11 194 (-1)) w_648) dX11_part_23 ?_
      exact W.lret (v := (-1)) hx hb hr (fun t ht hW => ⟨_, rfl, (by simp [c_1, c_13]), ht⟩) (fun _ h => absurd h List.not_mem_nil) dX11_part_26
    · refine lv_aload_n hx hb dX11_part_16 rfl (lv_at hl 0 rfl) ?_
      refine va_get (D := G.1) (ci := 10) (v := .long 1) (C := RX11) (T := TX11) (N := 25) hx hb hts inlX11 hown hG.1 hP 0 rfl rfl 4 (by decide) (hts (.fieldLink RX11 63 "SwornListsModel" "below" "J") w_129) (fun _ h9 => h9) rfl dX11_part_17 ?_
      refine lv_goto (tgt := 26) hx hb dX11_part_20 (by decide) ?_
      exact W.lret (v := 1) hx hb hr (fun t ht hW => ⟨_, rfl, (by simp [c_1, c_13]), ht⟩) (fun _ h => absurd h List.not_mem_nil) dX11_part_26
  · refine lv_aload_n hx hb dX11_part_4 rfl (lv_at hl 0 rfl) ?_
    refine va_get (D := G.1) (ci := 10) (v := .long 0) (C := RX11) (T := TX11) (N := 25) hx hb hts inlX11 hown hG.1 hP 0 rfl rfl 3 (by decide) (hts (.fieldLink RX11 238 "SwornListsModel" "above" "J") w_783) (fun _ h9 => h9) rfl dX11_part_5 ?_
    refine lv_goto (tgt := 26) hx hb dX11_part_8 (by decide) ?_
    exact W.lret (v := 0) hx hb hr (fun t ht hW => ⟨_, rfl, (by simp [c_1]), ht⟩) (fun _ h => absurd h List.not_mem_nil) dX11_part_26
set_option maxHeartbeats 4000000 in
set_option maxRecDepth 100000 in
theorem m_clash (l : Launch) (G : gW) (sz : Nat) (mo : Nat) (st : Nat) (mi : Nat) (mk : Nat) (m6 : Nat) (m7 : Nat) (m9 : Nat) (m10 : Nat) (m15 : Nat) (m16 : Nat) (m17 : Nat) (m18 : Nat) (m19 : Nat) (m20 : Nat) (m21 : Nat) (m22 : Nat) (m23 : Nat) (m24 : Nat) (a1 : Int32) (a2 : Int32)  : Met l yX11_clash (wsT yX11_clash cX11_clash 10 (some .int)) ({ frames := 2, cells := 0, slots := 0, locals := 47 }) (wP G [.ref mo, .int a1, .int a2] sz [(mo, eO 10 [.ref st, .ref mi, .ref mk, .long 0, .long 1, .int 0, .ref m6, .ref m7, .int 0, .ref m9, .ref m10, .int 0, .int 0, .int 0, .int 0, .ref m15, .ref m16, .ref m17, .ref m18, .ref m19, .ref m20, .ref m21, .ref m22, .ref m23, .ref m24]), (st, eI G 2246 st0)]) (va_Qi (fun (r : Int32) (_ : Unit) => r = if a1 = 0 ∧ a2 = (-1) then 0 else (-10)) (fun _ _ => True) (va_A [(mo, eO 10 [.ref st, .ref mi, .ref mk, .long 0, .long 1, .int 0, .ref m6, .ref m7, .int 0, .ref m9, .ref m10, .int 0, .int 0, .int 0, .int 0, .ref m15, .ref m16, .ref m17, .ref m18, .ref m19, .ref m20, .ref m21, .ref m22, .ref m23, .ref m24]), (st, eI G 2246 st0)] sz)) 0 0 (va_A [(mo, eO 10 [.ref st, .ref mi, .ref mk, .long 0, .long 1, .int 0, .ref m6, .ref m7, .int 0, .ref m9, .ref m10, .int 0, .int 0, .int 0, .int 0, .ref m15, .ref m16, .ref m17, .ref m18, .ref m19, .ref m20, .ref m21, .ref m22, .ref m23, .ref m24]), (st, eI G 2246 st0)] sz) := by
  refine Met.ofW (cc := cX11_clash) (maxL := 10) (ret := (some .int)) (by decide) rfl ?_
  intro p e s m args below meth c s₁ B hml hv
  obtain ⟨rfl, hsz, hP, hG, hD0⟩ := hv
  have hx := B.exec
  have hb := B.bytes
  have hr := B.returns
  have hts := my_hts (atoms_spec (ws := wsT yX11_clash cX11_clash 10 (some .int)) B.pre)
  have hown : s.vm.findClass RX11 = some m.cls := findClass_of_methodNamed B.named
  have hlocks := B.notSynchronized
  subst hsz
  have hD := hD0.self (sz := s.heap.size)
  generalize hAe : va_A [(mo, eO 10 [.ref st, .ref mi, .ref mk, .long 0, .long 1, .int 0, .ref m6, .ref m7, .int 0, .ref m9, .ref m10, .int 0, .int 0, .int 0, .int 0, .ref m15, .ref m16, .ref m17, .ref m18, .ref m19, .ref m20, .ref m21, .ref m22, .ref m23, .ref m24]), (st, eI G 2246 st0)] s.heap.size = A at hD ⊢
  have hA : ∀ q : Nat, s.heap.size ≤ q → A q := fun q h => by rw [← hAe]; exact Or.inr h
  have hS : va_S A s.heap s.heap [] := va_S.rf
  have hP : va_P G.1 vwCl [(mo, eO 10 [.ref st, .ref mi, .ref mk, .long 0, .long 1, .int 0, .ref m6, .ref m7, .int 0, .ref m9, .ref m10, .int 0, .int 0, .int 0, .int 0, .ref m15, .ref m16, .ref m17, .ref m18, .ref m19, .ref m20, .ref m21, .ref m22, .ref m23, .ref m24]), (st, eI G 2246 st0)] s.heap := hP
  have hl := lv_entry ([.ref mo, .int a1, .int a2]) (n := 10) (Nat.le_of_ble_eq_true rfl)
  rw [lg_entry_eq]
  generalize (lg_sl ([.ref mo, .int a1, .int a2]) ++ List.replicate (10 - (lg_sl ([.ref mo, .int a1, .int a2])).length) Slot.unset).toArray = ls at hl ⊢
  have hl : lv_has ls 10 [(0, .ref mo), (1, .int a1), (2, .int a2)] := hl
  refine lv_iload_n hx hb dX11_clash_0 rfl (lv_at hl 1 rfl) ?_
  refine lv_i2l hx hb dX11_clash_1 rfl ?_
  refine lv_lconst (v := 0) hx hb dX11_clash_2 (by decide) ?_
  refine my_bel (v := Int32.toInt64 0) (by decide) ?_
  refine lv_iconst (v := 1) hx hb dX11_clash_3 (by decide) ?_
  refine lv_aload_n hx hb dX11_clash_4 rfl (lv_at hl 0 rfl) ?_
  refine va_get (D := G.1) (ci := 10) (v := .ref st) (C := RX11) (T := TX11) (N := 25) hx hb hts inlX11 hown hG.1 hP 0 rfl rfl 0 (by decide) (hts (.fieldLink RX11 7 "SwornListsModel" "st" "[I") w_112) (fun _ h9 => h9) rfl dX11_clash_5 ?_
  refine lv_iconst (v := 4) hx hb dX11_clash_8 (by decide) ?_
  refine va_iald hx hb hG.1 hP 1 0 rfl rfl (by unfold vp_in; decide) dX11_clash_9 ?_
  refine my_bei (v := 0) (by first | rfl | decide) ?_
  refine lv_ishl hx hb dX11_clash_10 ?_
  refine my_bei (v := 1) (by decide) ?_
  refine lv_iconst (v := 1) hx hb dX11_clash_11 (by decide) ?_
  refine lv_isub hx hb dX11_clash_12 ?_
  refine my_bei (v := 0) (by decide) ?_
  refine lv_i2l hx hb dX11_clash_13 rfl ?_
  have hPc := hP.sub (ws' := []) [] rfl
  refine rd_calli (va_runS (As := [.long (Int32.toInt64 a1), .long (Int32.toInt64 0), .long (Int32.toInt64 0)]) (rest := []) ⟨hx, hb, hml, hown, hts⟩ (c_in l G a1 0 0 ) (my_cwS hts ok_X11_in w_162 rfl rfl ⟨Nat.le_of_ble_eq_true rfl, Nat.le_of_ble_eq_true rfl⟩) ⟨rP.blind, fun U hU hW => ⟨rfl, by rw [hU]; exact hPc, kG.warm hW hG⟩⟩ rfl rfl hl.1 rfl (lv_room (Nat.le_of_ble_eq_true rfl)) dX11_clash_14 ⟨Nat.le_of_ble_eq_true rfl, Nat.le_of_ble_eq_true rfl⟩) (fun r hr9 => ?_)
  subst hr9
  refine my_bei (v := b2 (a1 = 0)) (b2_iff inB_z) ?_
  refine my_ifeq (tgt := 51) hx hb dX11_clash_17 (by decide) (fun c_17 => ?_) (fun c_17 => ?_)
  · refine lv_bipush (v := (-10)) hx hb dX11_clash_51 (by decide) ?_
    exact W.iret (v := (-10)) hx hb hr (fun t ht hW => ⟨⟨_, (), rfl, (by simp [c_17]), trivial⟩, hS.F ht⟩) hS.2.2 dX11_clash_53
  · have e9 : a1 = 0 := c_17
    subst e9
    refine lv_iload_n hx hb dX11_clash_20 rfl (lv_at hl 1 rfl) ?_
    have hPc := hP.sub (ws' := []) [] rfl
    refine rd_calli (va_runS (As := [.int 0]) (rest := []) ⟨hx, hb, hml, hown, hts⟩ (c_sizeOf0 l G  ) (my_cwS hts ok_X11_sizeOf w_584 rfl rfl ⟨Nat.le_of_ble_eq_true rfl, Nat.le_of_ble_eq_true rfl⟩) ⟨rP.blind, fun U hU hW => ⟨rfl, by rw [hU]; exact hPc, kG.warm hW hG⟩⟩ rfl rfl hl.1 rfl (lv_room (Nat.le_of_ble_eq_true rfl)) dX11_clash_21 ⟨Nat.le_of_ble_eq_true rfl, Nat.le_of_ble_eq_true rfl⟩) (fun r hr9 => ?_)
    subst hr9
    refine lv_bipush (v := 6) hx hb dX11_clash_24 (by decide) ?_
    refine lv_icmp_gt (tgt := 51) hx hb dX11_clash_26 (by decide) (fun c_26 => absurd c_26 (by decide)) (fun c_26 => ?_)
    refine lv_iload_n hx hb dX11_clash_29 rfl (lv_at hl 2 rfl) ?_
    refine lv_iconst (v := (-1)) hx hb dX11_clash_30 (by decide) ?_
    refine lv_icmp_eq (tgt := 54) hx hb dX11_clash_31 (by decide) (fun c_31 => ?_) (fun c_31 => ?_)
    · refine lv_iconst (v := 0) hx hb dX11_clash_54 (by decide) ?_
      refine lv_istore_n (lv' := [(3, .int 0), (0, .ref mo), (1, .int 0), (2, .int a2)]) hx hb dX11_clash_55 rfl hl (by decide) rfl (fun ls hl => ?_)
      refine lv_iconst (v := 1) hx hb dX11_clash_56 (by decide) ?_
      refine lv_istore (lv' := [(4, .int 1), (3, .int 0), (0, .ref mo), (1, .int 0), (2, .int a2)]) hx hb dX11_clash_57 hl (by decide) rfl (fun ls hl => ?_)
      refine lv_iconst (v := 0) hx hb dX11_clash_59 (by decide) ?_
      refine lv_istore (lv' := [(5, .int 0), (4, .int 1), (3, .int 0), (0, .ref mo), (1, .int 0), (2, .int a2)]) hx hb dX11_clash_60 hl (by decide) rfl (fun ls hl => ?_)
      refine lv_iload hx hb dX11_clash_62 (lv_at hl 0 rfl) ?_
      refine lv_aload_n hx hb dX11_clash_64 rfl (lv_at hl 3 rfl) ?_
      refine va_get (D := G.1) (ci := 10) (v := .ref st) (C := RX11) (T := TX11) (N := 25) hx hb hts inlX11 hown hG.1 hP 0 rfl rfl 0 (by decide) (hts (.fieldLink RX11 7 "SwornListsModel" "st" "[I") w_112) (fun _ h9 => h9) rfl dX11_clash_65 ?_
      refine lv_iconst (v := 4) hx hb dX11_clash_68 (by decide) ?_
      refine va_iald hx hb hG.1 hP 1 0 rfl rfl (by unfold vp_in; decide) dX11_clash_69 ?_
      refine my_bei (v := 0) (by first | rfl | decide) ?_
      refine lv_icmp_ge (tgt := 107) hx hb dX11_clash_70 (by decide) (fun c_70 => ?_) (fun c_70 => absurd (by decide) c_70)
      refine lv_iconst (v := (-1)) hx hb dX11_clash_107 (by decide) ?_
      refine lv_istore (lv' := [(5, .int (-1)), (4, .int 1), (3, .int 0), (0, .ref mo), (1, .int 0), (2, .int a2)]) hx hb dX11_clash_108 hl (by decide) rfl (fun ls hl => ?_)
      refine lv_iconst (v := 0) hx hb dX11_clash_110 (by decide) ?_
      refine lv_istore (lv' := [(6, .int 0), (5, .int (-1)), (4, .int 1), (3, .int 0), (0, .ref mo), (1, .int 0), (2, .int a2)]) hx hb dX11_clash_111 hl (by decide) rfl (fun ls hl => ?_)
      refine lv_iload hx hb dX11_clash_113 (lv_at hl 0 rfl) ?_
      refine lv_iload hx hb dX11_clash_115 (lv_at hl 2 rfl) ?_
      refine lv_icmp_ge (tgt := 234) hx hb dX11_clash_117 (by decide) (fun c_117 => absurd c_117 (by decide)) (fun c_117 => ?_)
      refine lv_iload hx hb dX11_clash_120 (lv_at hl 0 rfl) ?_
      refine lv_istore (lv' := [(7, .int 0), (6, .int 0), (5, .int (-1)), (4, .int 1), (3, .int 0), (0, .ref mo), (1, .int 0), (2, .int a2)]) hx hb dX11_clash_122 hl (by decide) rfl (fun ls hl => ?_)
      refine lv_iconst (v := 0) hx hb dX11_clash_124 (by decide) ?_
      refine lv_istore (lv' := [(8, .int 0), (7, .int 0), (6, .int 0), (5, .int (-1)), (4, .int 1), (3, .int 0), (0, .ref mo), (1, .int 0), (2, .int a2)]) hx hb dX11_clash_125 hl (by decide) rfl (fun ls hl => ?_)
      refine lv_iload_n hx hb dX11_clash_127 rfl (lv_at hl 5 rfl) ?_
      refine lv_iconst (v := 1) hx hb dX11_clash_128 (by decide) ?_
      refine lv_isub hx hb dX11_clash_129 ?_
      refine my_bei (v := (-1)) (by decide) ?_
      refine lv_istore (lv' := [(9, .int (-1)), (8, .int 0), (7, .int 0), (6, .int 0), (5, .int (-1)), (4, .int 1), (3, .int 0), (0, .ref mo), (1, .int 0), (2, .int a2)]) hx hb dX11_clash_130 hl (by decide) rfl (fun ls hl => ?_)
      refine lv_iload hx hb dX11_clash_132 (lv_at hl 0 rfl) ?_
      refine lv_if_lt (tgt := 174) hx hb dX11_clash_134 (by decide) (fun c_134 => ?_) (fun c_134 => absurd (by decide) c_134)
      refine lv_iload hx hb dX11_clash_174 (lv_at hl 4 rfl) ?_
      refine lv_iconst (v := (-1)) hx hb dX11_clash_176 (by decide) ?_
      refine lv_icmp_eq (tgt := 187) hx hb dX11_clash_177 (by decide) (fun c_177 => ?_) (fun c_177 => absurd (by decide) c_177)
      refine lv_aload_n hx hb dX11_clash_187 rfl (lv_at hl 7 rfl) ?_
      refine lv_iload_n hx hb dX11_clash_188 rfl (lv_at hl 6 rfl) ?_
      have hPc := hP.sub (ws' := [(mo, eO 10 [.ref st, .ref mi, .ref mk, .long 0, .long 1, .int 0, .ref m6, .ref m7, .int 0, .ref m9, .ref m10, .int 0, .int 0, .int 0, .int 0, .ref m15, .ref m16, .ref m17, .ref m18, .ref m19, .ref m20, .ref m21, .ref m22, .ref m23, .ref m24])]) [0] rfl
      refine rd_calli (va_runV (As := [.int 0]) (rest := []) ⟨hx, hb, hml, hown, hts⟩ (c_areApart0 l G mo st mi mk m6 m7 m9 m10 m15 m16 m17 m18 m19 m20 m21 m22 m23 m24 0 1 0 0 0 0 0 0 ) (my_cwV hts ok_X11_areApart w_863 rfl rfl ⟨Nat.le_of_ble_eq_true rfl, Nat.le_of_ble_eq_true rfl⟩) ⟨rP.blind, va_recv hG.1 hPc (ci := 10) (q0 := 0) rfl rfl, fun U hU hW => ⟨rfl, by rw [hU]; exact hPc, kG.warm hW hG⟩⟩ rfl rfl hl.1 rfl (lv_room (Nat.le_of_ble_eq_true rfl)) dX11_clash_189 ⟨Nat.le_of_ble_eq_true rfl, Nat.le_of_ble_eq_true rfl⟩) (fun r hr9 => ?_)
      subst hr9
      refine lv_if_eq (tgt := 228) hx hb dX11_clash_192 (by decide) (fun c_192 => absurd c_192 (by decide)) (fun c_192 => ?_)
      refine lv_iload hx hb dX11_clash_195 (lv_at hl 1 rfl) ?_
      refine lv_istore (lv' := [(5, .int 0), (9, .int (-1)), (8, .int 0), (7, .int 0), (6, .int 0), (4, .int 1), (3, .int 0), (0, .ref mo), (1, .int 0), (2, .int a2)]) hx hb dX11_clash_197 hl (by decide) rfl (fun ls hl => ?_)
      refine lv_iconst (v := 0) hx hb dX11_clash_199 (by decide) ?_
      refine lv_istore (lv' := [(9, .int 0), (5, .int 0), (8, .int 0), (7, .int 0), (6, .int 0), (4, .int 1), (3, .int 0), (0, .ref mo), (1, .int 0), (2, .int a2)]) hx hb dX11_clash_200 hl (by decide) rfl (fun ls hl => ?_)
      refine lv_iload hx hb dX11_clash_202 (lv_at hl 0 rfl) ?_
      refine lv_iload_n hx hb dX11_clash_204 rfl (lv_at hl 6 rfl) ?_
      refine lv_icmp_ge (tgt := 228) hx hb dX11_clash_205 (by decide) (fun c_205 => ?_) (fun c_205 => absurd (by decide) c_205)
      refine lv_iinc (v := 1) (lv' := [(6, .int 1), (9, .int 0), (5, .int 0), (8, .int 0), (7, .int 0), (4, .int 1), (3, .int 0), (0, .ref mo), (1, .int 0), (2, .int a2)]) hx hb dX11_clash_228 hl (k := 4) rfl (by decide) (by decide) rfl (fun ls hl => ?_)
      refine lv_goto (tgt := 113) hx hb dX11_clash_231 (by decide) ?_
      refine lv_iload hx hb dX11_clash_113 (lv_at hl 0 rfl) ?_
      refine lv_iload hx hb dX11_clash_115 (lv_at hl 5 rfl) ?_
      refine lv_icmp_ge (tgt := 234) hx hb dX11_clash_117 (by decide) (fun c_117 => ?_) (fun c_117 => absurd (by decide) c_117)
      refine lv_iconst (v := 0) hx hb dX11_clash_234 (by decide) ?_
      refine lv_istore (lv' := [(6, .int 0), (9, .int 0), (5, .int 0), (8, .int 0), (7, .int 0), (4, .int 1), (3, .int 0), (0, .ref mo), (1, .int 0), (2, .int a2)]) hx hb dX11_clash_235 hl (by decide) rfl (fun ls hl => ?_)
      refine lv_iload_n hx hb dX11_clash_237 rfl (lv_at hl 9 rfl) ?_
      refine lv_iconst (v := (-1)) hx hb dX11_clash_238 (by decide) ?_
      refine lv_icmp_eq (tgt := 259) hx hb dX11_clash_239 (by decide) (fun c_239 => ?_) (fun c_239 => absurd (c_31) c_239)
      refine lv_iload hx hb dX11_clash_259 (lv_at hl 2 rfl) ?_
      refine lv_iconst (v := (-1)) hx hb dX11_clash_261 (by decide) ?_
      refine lv_icmp_ne (tgt := 270) hx hb dX11_clash_262 (by decide) (fun c_262 => ?_) (fun c_262 => absurd c_262 (by decide))
      refine lv_iload_n hx hb dX11_clash_270 rfl (lv_at hl 9 rfl) ?_
      refine lv_iconst (v := (-1)) hx hb dX11_clash_271 (by decide) ?_
      refine lv_icmp_ne (tgt := 280) hx hb dX11_clash_272 (by decide) (fun c_272 => absurd (c_31) c_272) (fun c_272 => ?_)
      refine lv_iload hx hb dX11_clash_275 (lv_at hl 2 rfl) ?_
      refine lv_goto (tgt := 287) hx hb dX11_clash_277 (by decide) ?_
      exact W.iret (v := 0) hx hb hr (fun t ht hW => ⟨⟨_, (), rfl, (by simp [c_17, c_31]), trivial⟩, hS.F ht⟩) hS.2.2 dX11_clash_287
    · refine lv_aload_n hx hb dX11_clash_34 rfl (lv_at hl 0 rfl) ?_
      refine lv_iconst (v := 4) hx hb dX11_clash_35 (by decide) ?_
      refine lv_iload_n hx hb dX11_clash_36 rfl (lv_at hl 2 rfl) ?_
      have hPc := hP.sub (ws' := [(mo, eO 10 [.ref st, .ref mi, .ref mk, .long 0, .long 1, .int 0, .ref m6, .ref m7, .int 0, .ref m9, .ref m10, .int 0, .int 0, .int 0, .int 0, .ref m15, .ref m16, .ref m17, .ref m18, .ref m19, .ref m20, .ref m21, .ref m22, .ref m23, .ref m24]), (st, eI G 2246 st0)]) [0, 1] rfl
      refine rd_calli (va_runV (As := [.int 4, .int a2]) (rest := []) ⟨hx, hb, hml, hown, hts⟩ (c_is0 l G mo st mi mk m6 m7 m9 m10 m15 m16 m17 m18 m19 m20 m21 m22 m23 m24 4 a2 0 1 0 0 0 0 0 0 (by unfold vp_in; decide) (by decide)) (my_cwV hts ok_X11_is w_186 rfl rfl ⟨Nat.le_of_ble_eq_true rfl, Nat.le_of_ble_eq_true rfl⟩) ⟨rP.blind, va_recv hG.1 hPc (ci := 10) (q0 := 0) rfl rfl, fun U hU hW => ⟨rfl, by rw [hU]; exact hPc, kG.warm hW hG⟩⟩ rfl rfl hl.1 rfl (lv_room (Nat.le_of_ble_eq_true rfl)) dX11_clash_37 ⟨Nat.le_of_ble_eq_true rfl, Nat.le_of_ble_eq_true rfl⟩) (fun r hr9 => ?_)
      subst hr9
      refine lv_if_eq (tgt := 51) hx hb dX11_clash_40 (by decide) (fun c_40 => ?_) (fun c_40 => absurd (by decide) c_40)
      refine lv_bipush (v := (-10)) hx hb dX11_clash_51 (by decide) ?_
      exact W.iret (v := (-10)) hx hb hr (fun t ht hW => ⟨⟨_, (), rfl, (by simp [c_17, c_31]), trivial⟩, hS.F ht⟩) hS.2.2 dX11_clash_53
set_option maxHeartbeats 4000000 in
set_option maxRecDepth 100000 in
theorem m_turn (l : Launch) (G : gW) (sz : Nat) (mo : Nat) (st : Nat) (mi : Nat) (mk : Nat) (m6 : Nat) (m7 : Nat) (m9 : Nat) (m10 : Nat) (m15 : Nat) (m16 : Nat) (m17 : Nat) (m18 : Nat) (m19 : Nat) (m20 : Nat) (m21 : Nat) (m22 : Nat) (m23 : Nat) (m24 : Nat) (a1 : Int32) (a2 : Int32)  : Met l yX11_turn (wsT yX11_turn cX11_turn 9 (some .int)) ({ frames := 2, cells := 0, slots := 0, locals := 53 }) (wP G [.ref mo, .int a1, .int a2] sz [(mo, eO 10 [.ref st, .ref mi, .ref mk, .long 0, .long 1, .int 0, .ref m6, .ref m7, .int 0, .ref m9, .ref m10, .int 0, .int 0, .int 0, .int 0, .ref m15, .ref m16, .ref m17, .ref m18, .ref m19, .ref m20, .ref m21, .ref m22, .ref m23, .ref m24]), (st, eI G 2246 st0)]) (va_Qi (fun (r : Int32) (_ : Unit) => r = if (inB 0 a1 3 = true) ∧ (inB 0 a2 9999 = true) then (-1) else (-2)) (fun _ _ => True) (va_A [(mo, eO 10 [.ref st, .ref mi, .ref mk, .long 0, .long 1, .int 0, .ref m6, .ref m7, .int 0, .ref m9, .ref m10, .int 0, .int 0, .int 0, .int 0, .ref m15, .ref m16, .ref m17, .ref m18, .ref m19, .ref m20, .ref m21, .ref m22, .ref m23, .ref m24]), (st, eI G 2246 st0)] sz)) 0 0 (va_A [(mo, eO 10 [.ref st, .ref mi, .ref mk, .long 0, .long 1, .int 0, .ref m6, .ref m7, .int 0, .ref m9, .ref m10, .int 0, .int 0, .int 0, .int 0, .ref m15, .ref m16, .ref m17, .ref m18, .ref m19, .ref m20, .ref m21, .ref m22, .ref m23, .ref m24]), (st, eI G 2246 st0)] sz) := by
  refine Met.ofW (cc := cX11_turn) (maxL := 9) (ret := (some .int)) (by decide) rfl ?_
  intro p e s m args below meth c s₁ B hml hv
  obtain ⟨rfl, hsz, hP, hG, hD0⟩ := hv
  have hx := B.exec
  have hb := B.bytes
  have hr := B.returns
  have hts := my_hts (atoms_spec (ws := wsT yX11_turn cX11_turn 9 (some .int)) B.pre)
  have hown : s.vm.findClass RX11 = some m.cls := findClass_of_methodNamed B.named
  have hlocks := B.notSynchronized
  subst hsz
  have hD := hD0.self (sz := s.heap.size)
  generalize hAe : va_A [(mo, eO 10 [.ref st, .ref mi, .ref mk, .long 0, .long 1, .int 0, .ref m6, .ref m7, .int 0, .ref m9, .ref m10, .int 0, .int 0, .int 0, .int 0, .ref m15, .ref m16, .ref m17, .ref m18, .ref m19, .ref m20, .ref m21, .ref m22, .ref m23, .ref m24]), (st, eI G 2246 st0)] s.heap.size = A at hD ⊢
  have hA : ∀ q : Nat, s.heap.size ≤ q → A q := fun q h => by rw [← hAe]; exact Or.inr h
  have hS : va_S A s.heap s.heap [] := va_S.rf
  have hP : va_P G.1 vwCl [(mo, eO 10 [.ref st, .ref mi, .ref mk, .long 0, .long 1, .int 0, .ref m6, .ref m7, .int 0, .ref m9, .ref m10, .int 0, .int 0, .int 0, .int 0, .ref m15, .ref m16, .ref m17, .ref m18, .ref m19, .ref m20, .ref m21, .ref m22, .ref m23, .ref m24]), (st, eI G 2246 st0)] s.heap := hP
  have hl := lv_entry ([.ref mo, .int a1, .int a2]) (n := 9) (Nat.le_of_ble_eq_true rfl)
  rw [lg_entry_eq]
  generalize (lg_sl ([.ref mo, .int a1, .int a2]) ++ List.replicate (9 - (lg_sl ([.ref mo, .int a1, .int a2])).length) Slot.unset).toArray = ls at hl ⊢
  have hl : lv_has ls 9 [(0, .ref mo), (1, .int a1), (2, .int a2)] := hl
  refine lv_iload_n hx hb dX11_turn_0 rfl (lv_at hl 1 rfl) ?_
  refine lv_i2l hx hb dX11_turn_1 rfl ?_
  refine lv_lconst (v := 0) hx hb dX11_turn_2 (by decide) ?_
  refine my_bel (v := Int32.toInt64 0) (by decide) ?_
  refine lv_ldc2 (v := 3) hx hb hown (hts (.constantLong RX11 77 (3)) w_159) dX11_turn_3 ?_
  refine my_bel (v := Int32.toInt64 3) (by decide) ?_
  have hPc := hP.sub (ws' := []) [] rfl
  refine rd_calli (va_runS (As := [.long (Int32.toInt64 a1), .long (Int32.toInt64 0), .long (Int32.toInt64 3)]) (rest := []) ⟨hx, hb, hml, hown, hts⟩ (c_in l G a1 0 3 ) (my_cwS hts ok_X11_in w_162 rfl rfl ⟨Nat.le_of_ble_eq_true rfl, Nat.le_of_ble_eq_true rfl⟩) ⟨rP.blind, fun U hU hW => ⟨rfl, by rw [hU]; exact hPc, kG.warm hW hG⟩⟩ rfl rfl hl.1 rfl (lv_room (Nat.le_of_ble_eq_true rfl)) dX11_turn_6 ⟨Nat.le_of_ble_eq_true rfl, Nat.le_of_ble_eq_true rfl⟩) (fun r hr9 => ?_)
  subst hr9
  refine my_ifeq (tgt := 19) hx hb dX11_turn_9 (by decide) (fun c_9 => ?_) (fun c_9 => ?_)
  · refine lv_bipush (v := (-2)) hx hb dX11_turn_19 (by decide) ?_
    exact W.iret (v := (-2)) hx hb hr (fun t ht hW => ⟨⟨_, (), rfl, (by simp [c_9]), trivial⟩, hS.F ht⟩) hS.2.2 dX11_turn_21
  · refine lv_iload_n hx hb dX11_turn_12 rfl (lv_at hl 2 rfl) ?_
    have hPc := hP.sub (ws' := []) [] rfl
    refine rd_calli (va_runS (As := [.int a2]) (rest := []) ⟨hx, hb, hml, hown, hts⟩ (c_misDay l G a2 ) (my_cwS hts ok_X11_isDay w_190 rfl rfl ⟨Nat.le_of_ble_eq_true rfl, Nat.le_of_ble_eq_true rfl⟩) ⟨rP.blind, fun U hU hW => ⟨rfl, by rw [hU]; exact hPc, kG.warm hW hG⟩⟩ rfl rfl hl.1 rfl (lv_room (Nat.le_of_ble_eq_true rfl)) dX11_turn_13 ⟨Nat.le_of_ble_eq_true rfl, Nat.le_of_ble_eq_true rfl⟩) (fun r hr9 => ?_)
    subst hr9
    refine my_ifne (tgt := 22) hx hb dX11_turn_16 (by decide) (fun c_16 => ?_) (fun c_16 => ?_)
    · refine lv_aload_n hx hb dX11_turn_22 rfl (lv_at hl 0 rfl) ?_
      have hPc := hP.sub (ws' := [(mo, eO 10 [.ref st, .ref mi, .ref mk, .long 0, .long 1, .int 0, .ref m6, .ref m7, .int 0, .ref m9, .ref m10, .int 0, .int 0, .int 0, .int 0, .ref m15, .ref m16, .ref m17, .ref m18, .ref m19, .ref m20, .ref m21, .ref m22, .ref m23, .ref m24]), (st, eI G 2246 st0)]) [0, 1] rfl
      have hDc := hD.sub (ws' := [(mo, eO 10 [.ref st, .ref mi, .ref mk, .long 0, .long 1, .int 0, .ref m6, .ref m7, .int 0, .ref m9, .ref m10, .int 0, .int 0, .int 0, .int 0, .ref m15, .ref m16, .ref m17, .ref m18, .ref m19, .ref m20, .ref m21, .ref m22, .ref m23, .ref m24]), (st, eI G 2246 st0)]) [0, 1] (by decide) rfl
      have hFc := va_free (wc := [(mo, eO 10 [.ref st, .ref mi, .ref mk, .long 0, .long 1, .int 0, .ref m6, .ref m7, .int 0, .ref m9, .ref m10, .int 0, .int 0, .int 0, .int 0, .ref m15, .ref m16, .ref m17, .ref m18, .ref m19, .ref m20, .ref m21, .ref m22, .ref m23, .ref m24]), (st, eI G 2246 st0)]) hD hS hA [0, 1] rfl
      refine va_callv (va_runV (As := []) (rest := []) ⟨hx, hb, hml, hown, hts⟩ (c_finds0 l G s.heap.size mo st mi mk m6 m7 m9 m10 m15 m16 m17 m18 m19 m20 m21 m22 m23 m24 ) (my_cwV hts ok_X11_finds w_523 rfl rfl ⟨Nat.le_of_ble_eq_true rfl, Nat.le_of_ble_eq_true rfl⟩) ⟨wP.blind, va_recv hG.1 hPc (ci := 10) (q0 := 0) rfl rfl, fun U hU hW => ⟨rfl, by rw [hU], by rw [hU]; exact hPc, kG.warm hW hG, hDc.weaken (fun _ _ _ _ => trivial)⟩⟩ rfl rfl hl.1 rfl (lv_room (Nat.le_of_ble_eq_true rfl)) dX11_turn_23 ⟨Nat.le_of_ble_eq_true rfl, Nat.le_of_ble_eq_true rfl⟩) hS (fun q _ h => hFc q h) hFc (fun u t H1 locs ht hvm hw hB hz1 hk1 hS => ?_)
      obtain ⟨hP1, hD1⟩ := hB
      rw [ht] at hP1
      try dsimp only at hw
      obtain ⟨hP, hD⟩ := va_join (wr := []) (w1 := [(mo, eO 10 [.ref st, .ref mi, .ref mk, .long 0, .long 1, .int 0, .ref m6, .ref m7, .int 0, .ref m9, .ref m10, .int 0, .int 0, .int 1, .int 0, .ref m15, .ref m16, .ref m17, .ref m18, .ref m19, .ref m20, .ref m21, .ref m22, .ref m23, .ref m24]), (st, eI G 2246 st0)]) hP hD [0, 1] [] rfl rfl (by decide) (by decide) hk1 hFc hP1 hD1
      generalize H1 = H at hP hS ⊢
      have hP : va_P G.1 vwCl [(mo, eO 10 [.ref st, .ref mi, .ref mk, .long 0, .long 1, .int 0, .ref m6, .ref m7, .int 0, .ref m9, .ref m10, .int 0, .int 0, .int 1, .int 0, .ref m15, .ref m16, .ref m17, .ref m18, .ref m19, .ref m20, .ref m21, .ref m22, .ref m23, .ref m24]), (st, eI G 2246 st0)] H := hP
      have hD : va_D A [(mo, eO 10 [.ref st, .ref mi, .ref mk, .long 0, .long 1, .int 0, .ref m6, .ref m7, .int 0, .ref m9, .ref m10, .int 0, .int 0, .int 1, .int 0, .ref m15, .ref m16, .ref m17, .ref m18, .ref m19, .ref m20, .ref m21, .ref m22, .ref m23, .ref m24]), (st, eI G 2246 st0)] := hD
      refine lv_aload_n hx hb dX11_turn_26 rfl (lv_at hl 0 rfl) ?_
      refine lv_iload_n hx hb dX11_turn_27 rfl (lv_at hl 2 rfl) ?_
      have hPc := hP.sub (ws' := [(mo, eO 10 [.ref st, .ref mi, .ref mk, .long 0, .long 1, .int 0, .ref m6, .ref m7, .int 0, .ref m9, .ref m10, .int 0, .int 0, .int 1, .int 0, .ref m15, .ref m16, .ref m17, .ref m18, .ref m19, .ref m20, .ref m21, .ref m22, .ref m23, .ref m24]), (st, eI G 2246 st0)]) [0, 1] rfl
      refine rd_calli (va_runV (As := [.int a2]) (rest := []) ⟨hx, hb, hml, hown, hts⟩ (c_theRoll0 l G mo st mi mk m6 m7 m9 m10 m15 m16 m17 m18 m19 m20 m21 m22 m23 m24 a2 0 1 0 0 0 0 1 0 ) (my_cwV hts ok_X11_theRoll w_234 rfl rfl ⟨Nat.le_of_ble_eq_true rfl, Nat.le_of_ble_eq_true rfl⟩) ⟨rP.blind, va_recv hG.1 hPc (ci := 10) (q0 := 0) rfl rfl, fun U hU hW => ⟨rfl, by rw [hU]; exact hPc, kG.warm hW hG⟩⟩ rfl rfl hl.1 rfl (lv_room (Nat.le_of_ble_eq_true rfl)) dX11_turn_28 ⟨Nat.le_of_ble_eq_true rfl, Nat.le_of_ble_eq_true rfl⟩) (fun r hr9 => ?_)
      subst hr9
      refine lv_aload_n hx hb dX11_turn_31 rfl (lv_at hl 0 rfl) ?_
      refine lv_iconst (v := 0) hx hb dX11_turn_32 (by decide) ?_
      refine lv_iload_n hx hb dX11_turn_33 rfl (lv_at hl 2 rfl) ?_
      refine lv_iconst (v := (-1)) hx hb dX11_turn_34 (by decide) ?_
      have hPc := hP.sub (ws' := [(mo, eO 10 [.ref st, .ref mi, .ref mk, .long 0, .long 1, .int 0, .ref m6, .ref m7, .int 0, .ref m9, .ref m10, .int 0, .int 0, .int 1, .int 0, .ref m15, .ref m16, .ref m17, .ref m18, .ref m19, .ref m20, .ref m21, .ref m22, .ref m23, .ref m24]), (st, eI G 2246 st0)]) [0, 1] rfl
      refine rd_calli (va_runV (As := [.int 0, .int a2, .int (-1)]) (rest := [.int 0]) ⟨hx, hb, hml, hown, hts⟩ (c_whom0 l G mo st mi mk m6 m7 m9 m10 m15 m16 m17 m18 m19 m20 m21 m22 m23 m24 a2 0 1 0 0 0 0 1 0 ) (my_cwV hts ok_X11_whom w_536 rfl rfl ⟨Nat.le_of_ble_eq_true rfl, Nat.le_of_ble_eq_true rfl⟩) ⟨rP.blind, va_recv hG.1 hPc (ci := 10) (q0 := 0) rfl rfl, fun U hU hW => ⟨rfl, by rw [hU]; exact hPc, kG.warm hW hG⟩⟩ rfl rfl hl.1 rfl (lv_room (Nat.le_of_ble_eq_true rfl)) dX11_turn_35 ⟨Nat.le_of_ble_eq_true rfl, Nat.le_of_ble_eq_true rfl⟩) (fun r hr9 => ?_)
      subst hr9
      refine lv_iand hx hb dX11_turn_38 ?_
      refine my_bei (v := 0) (by decide) ?_
      refine lv_istore_n (lv' := [(3, .int 0), (0, .ref mo), (1, .int a1), (2, .int a2)]) hx hb dX11_turn_39 rfl hl (by decide) rfl (fun ls hl => ?_)
      refine lv_iconst (v := (-1)) hx hb dX11_turn_40 (by decide) ?_
      refine lv_istore (lv' := [(4, .int (-1)), (3, .int 0), (0, .ref mo), (1, .int a1), (2, .int a2)]) hx hb dX11_turn_41 hl (by decide) rfl (fun ls hl => ?_)
      refine lv_iconst (v := 0) hx hb dX11_turn_43 (by decide) ?_
      refine lv_istore (lv' := [(5, .int 0), (4, .int (-1)), (3, .int 0), (0, .ref mo), (1, .int a1), (2, .int a2)]) hx hb dX11_turn_44 hl (by decide) rfl (fun ls hl => ?_)
      refine lv_iconst (v := 0) hx hb dX11_turn_46 (by decide) ?_
      refine lv_istore (lv' := [(6, .int 0), (5, .int 0), (4, .int (-1)), (3, .int 0), (0, .ref mo), (1, .int a1), (2, .int a2)]) hx hb dX11_turn_47 hl (by decide) rfl (fun ls hl => ?_)
      refine lv_iconst (v := 0) hx hb dX11_turn_49 (by decide) ?_
      refine lv_istore (lv' := [(7, .int 0), (6, .int 0), (5, .int 0), (4, .int (-1)), (3, .int 0), (0, .ref mo), (1, .int a1), (2, .int a2)]) hx hb dX11_turn_50 hl (by decide) rfl (fun ls hl => ?_)
      refine lv_iload hx hb dX11_turn_52 (lv_at hl 0 rfl) ?_
      refine lv_aload_n hx hb dX11_turn_54 rfl (lv_at hl 5 rfl) ?_
      refine va_get (D := G.1) (ci := 10) (v := .ref st) (C := RX11) (T := TX11) (N := 25) hx hb hts inlX11 hown hG.1 hP 0 rfl rfl 0 (by decide) (hts (.fieldLink RX11 7 "SwornListsModel" "st" "[I") w_112) (fun _ h9 => h9) rfl dX11_turn_55 ?_
      refine lv_iconst (v := 0) hx hb dX11_turn_58 (by decide) ?_
      refine va_iald hx hb hG.1 hP 1 0 rfl rfl (by unfold vp_in; decide) dX11_turn_59 ?_
      refine my_bei (v := 0) (by first | rfl | decide) ?_
      refine lv_icmp_ge (tgt := 171) hx hb dX11_turn_60 (by decide) (fun c_60 => ?_) (fun c_60 => absurd (by decide) c_60)
      refine lv_iload hx hb dX11_turn_171 (lv_at hl 3 rfl) ?_
      exact W.iret (v := (-1)) hx hb hr (fun t ht hW => ⟨⟨_, (), rfl, (by simp [c_9, c_16]), trivial⟩, hS.F ht⟩) hS.2.2 dX11_turn_173
    · refine lv_bipush (v := (-2)) hx hb dX11_turn_19 (by decide) ?_
      exact W.iret (v := (-2)) hx hb hr (fun t ht hW => ⟨⟨_, (), rfl, (by simp [c_9, c_16]), trivial⟩, hS.F ht⟩) hS.2.2 dX11_turn_21
set_option maxHeartbeats 4000000 in
set_option maxRecDepth 100000 in
theorem m_from (l : Launch) (G : gW) (mo : Nat) (st : Nat) (mi : Nat) (mk : Nat) (m6 : Nat) (m7 : Nat) (m9 : Nat) (m10 : Nat) (m15 : Nat) (m16 : Nat) (m17 : Nat) (m18 : Nat) (m19 : Nat) (m20 : Nat) (m21 : Nat) (m22 : Nat) (m23 : Nat) (m24 : Nat) (a1 : Int32)  : Met l yX11_from (wsT yX11_from cX11_from 3 (some .int)) ({ frames := 1, cells := 0, slots := 0, locals := 25 }) (rP G [.ref mo, .int a1] [(mo, eO 10 [.ref st, .ref mi, .ref mk, .long 0, .long 1, .int 0, .ref m6, .ref m7, .int 0, .ref m9, .ref m10, .int 0, .int 0, .int 0, .int 0, .ref m15, .ref m16, .ref m17, .ref m18, .ref m19, .ref m20, .ref m21, .ref m22, .ref m23, .ref m24]), (mk, eZ G 2 (fun _ => 0))]) (rQi (fun r => r = if inB 0 a1 1 = true then (-3) else (-2))) 0 0 fr0 := by
  refine Met.ofW (cc := cX11_from) (maxL := 3) (ret := (some .int)) (by decide) rfl ?_
  intro p e s m args below meth c s₁ B hml hv
  obtain ⟨rfl, hP, hG⟩ := hv
  have hx := B.exec
  have hb := B.bytes
  have hr := B.returns
  have hts := my_hts (atoms_spec (ws := wsT yX11_from cX11_from 3 (some .int)) B.pre)
  have hown : s.vm.findClass RX11 = some m.cls := findClass_of_methodNamed B.named
  have hlocks := B.notSynchronized
  have hP : va_P G.1 vwCl [(mo, eO 10 [.ref st, .ref mi, .ref mk, .long 0, .long 1, .int 0, .ref m6, .ref m7, .int 0, .ref m9, .ref m10, .int 0, .int 0, .int 0, .int 0, .ref m15, .ref m16, .ref m17, .ref m18, .ref m19, .ref m20, .ref m21, .ref m22, .ref m23, .ref m24]), (mk, eZ G 2 (fun _ => 0))] s.heap := hP
  have hl := lv_entry ([.ref mo, .int a1]) (n := 3) (Nat.le_of_ble_eq_true rfl)
  rw [lg_entry_eq]
  generalize (lg_sl ([.ref mo, .int a1]) ++ List.replicate (3 - (lg_sl ([.ref mo, .int a1])).length) Slot.unset).toArray = ls at hl ⊢
  have hl : lv_has ls 3 [(0, .ref mo), (1, .int a1)] := hl
  refine lv_iload_n hx hb dX11_from_0 rfl (lv_at hl 1 rfl) ?_
  refine lv_i2l hx hb dX11_from_1 rfl ?_
  refine lv_lconst (v := 0) hx hb dX11_from_2 (by decide) ?_
  refine my_bel (v := Int32.toInt64 0) (by decide) ?_
  refine lv_lconst (v := 1) hx hb dX11_from_3 (by decide) ?_
  refine my_bel (v := Int32.toInt64 1) (by decide) ?_
  have hPc := hP.sub (ws' := []) [] rfl
  refine rd_calli (va_runS (As := [.long (Int32.toInt64 a1), .long (Int32.toInt64 0), .long (Int32.toInt64 1)]) (rest := []) ⟨hx, hb, hml, hown, hts⟩ (c_in l G a1 0 1 ) (my_cwS hts ok_X11_in w_162 rfl rfl ⟨Nat.le_of_ble_eq_true rfl, Nat.le_of_ble_eq_true rfl⟩) ⟨rP.blind, fun U hU hW => ⟨rfl, by rw [hU]; exact hPc, kG.warm hW hG⟩⟩ rfl rfl hl.1 rfl (lv_room (Nat.le_of_ble_eq_true rfl)) dX11_from_4 ⟨Nat.le_of_ble_eq_true rfl, Nat.le_of_ble_eq_true rfl⟩) (fun r hr9 => ?_)
  subst hr9
  refine my_ifne (tgt := 13) hx hb dX11_from_7 (by decide) (fun c_7 => ?_) (fun c_7 => ?_)
  · rcases (inB_01.mp c_7) with e9 | e9
    · subst e9
      refine lv_aload_n hx hb dX11_from_13 rfl (lv_at hl 0 rfl) ?_
      refine va_get (D := G.1) (ci := 10) (v := .ref mk) (C := RX11) (T := TX11) (N := 25) hx hb hts inlX11 hown hG.1 hP 0 rfl rfl 2 (by decide) (hts (.fieldLink RX11 16 "SwornListsModel" "isKept" "[Z") w_114) (fun _ h9 => h9) rfl dX11_from_14 ?_
      refine lv_iload_n hx hb dX11_from_17 rfl (lv_at hl 1 rfl) ?_
      refine va_zald hx hb hG.1 hP 1 2 rfl rfl (by unfold vp_in; decide) dX11_from_18 ?_
      refine my_bei (v := 0) (by first | rfl | decide) ?_
      refine lv_if_ne (tgt := 25) hx hb dX11_from_19 (by decide) (fun c_19 => absurd (by decide) c_19) (fun c_19 => ?_)
      refine lv_bipush (v := (-3)) hx hb dX11_from_22 (by decide) ?_
      exact W.iret (v := (-3)) hx hb hr (fun t ht hW => ⟨_, rfl, (by simp [c_7]), ht⟩) (fun _ h => absurd h List.not_mem_nil) dX11_from_24
    · subst e9
      refine lv_aload_n hx hb dX11_from_13 rfl (lv_at hl 0 rfl) ?_
      refine va_get (D := G.1) (ci := 10) (v := .ref mk) (C := RX11) (T := TX11) (N := 25) hx hb hts inlX11 hown hG.1 hP 0 rfl rfl 2 (by decide) (hts (.fieldLink RX11 16 "SwornListsModel" "isKept" "[Z") w_114) (fun _ h9 => h9) rfl dX11_from_14 ?_
      refine lv_iload_n hx hb dX11_from_17 rfl (lv_at hl 1 rfl) ?_
      refine va_zald hx hb hG.1 hP 1 2 rfl rfl (by unfold vp_in; decide) dX11_from_18 ?_
      refine my_bei (v := 0) (by first | rfl | decide) ?_
      refine lv_if_ne (tgt := 25) hx hb dX11_from_19 (by decide) (fun c_19 => absurd (by decide) c_19) (fun c_19 => ?_)
      refine lv_bipush (v := (-3)) hx hb dX11_from_22 (by decide) ?_
      exact W.iret (v := (-3)) hx hb hr (fun t ht hW => ⟨_, rfl, (by simp [c_7]), ht⟩) (fun _ h => absurd h List.not_mem_nil) dX11_from_24
  · refine lv_bipush (v := (-2)) hx hb dX11_from_10 (by decide) ?_
    exact W.iret (v := (-2)) hx hb hr (fun t ht hW => ⟨_, rfl, (by simp [c_7]), ht⟩) (fun _ h => absurd h List.not_mem_nil) dX11_from_12
set_option maxHeartbeats 4000000 in
set_option maxRecDepth 100000 in
theorem m_count (l : Launch) (G : gW) (sz : Nat) (mo : Nat) (st : Nat) (mi : Nat) (mk : Nat) (m6 : Nat) (m7 : Nat) (m9 : Nat) (m10 : Nat) (m15 : Nat) (m16 : Nat) (m17 : Nat) (m18 : Nat) (m19 : Nat) (m20 : Nat) (m21 : Nat) (m22 : Nat) (m23 : Nat) (m24 : Nat) (a1 : Int32)  : Met l yX11_count (wsT yX11_count cX11_count 2 (some .int)) ({ frames := 2, cells := 0, slots := 0, locals := 44 }) (wP G [.ref mo, .int a1] sz [(mo, eO 10 [.ref st, .ref mi, .ref mk, .long 0, .long 1, .int 0, .ref m6, .ref m7, .int 0, .ref m9, .ref m10, .int 0, .int 0, .int 0, .int 0, .ref m15, .ref m16, .ref m17, .ref m18, .ref m19, .ref m20, .ref m21, .ref m22, .ref m23, .ref m24]), (st, eI G 2246 st0)]) (va_Qi (fun (r : Int32) (_ : Unit) => r = if inB 0 a1 5 = true then 0 else (-2)) (fun _ _ => True) (va_A [(mo, eO 10 [.ref st, .ref mi, .ref mk, .long 0, .long 1, .int 0, .ref m6, .ref m7, .int 0, .ref m9, .ref m10, .int 0, .int 0, .int 0, .int 0, .ref m15, .ref m16, .ref m17, .ref m18, .ref m19, .ref m20, .ref m21, .ref m22, .ref m23, .ref m24]), (st, eI G 2246 st0)] sz)) 0 0 (va_A [(mo, eO 10 [.ref st, .ref mi, .ref mk, .long 0, .long 1, .int 0, .ref m6, .ref m7, .int 0, .ref m9, .ref m10, .int 0, .int 0, .int 0, .int 0, .ref m15, .ref m16, .ref m17, .ref m18, .ref m19, .ref m20, .ref m21, .ref m22, .ref m23, .ref m24]), (st, eI G 2246 st0)] sz) := by
  refine Met.ofW (cc := cX11_count) (maxL := 2) (ret := (some .int)) (by decide) rfl ?_
  intro p e s m args below meth c s₁ B hml hv
  obtain ⟨rfl, hsz, hP, hG, hD0⟩ := hv
  have hx := B.exec
  have hb := B.bytes
  have hr := B.returns
  have hts := my_hts (atoms_spec (ws := wsT yX11_count cX11_count 2 (some .int)) B.pre)
  have hown : s.vm.findClass RX11 = some m.cls := findClass_of_methodNamed B.named
  have hlocks := B.notSynchronized
  subst hsz
  have hD := hD0.self (sz := s.heap.size)
  generalize hAe : va_A [(mo, eO 10 [.ref st, .ref mi, .ref mk, .long 0, .long 1, .int 0, .ref m6, .ref m7, .int 0, .ref m9, .ref m10, .int 0, .int 0, .int 0, .int 0, .ref m15, .ref m16, .ref m17, .ref m18, .ref m19, .ref m20, .ref m21, .ref m22, .ref m23, .ref m24]), (st, eI G 2246 st0)] s.heap.size = A at hD ⊢
  have hA : ∀ q : Nat, s.heap.size ≤ q → A q := fun q h => by rw [← hAe]; exact Or.inr h
  have hS : va_S A s.heap s.heap [] := va_S.rf
  have hP : va_P G.1 vwCl [(mo, eO 10 [.ref st, .ref mi, .ref mk, .long 0, .long 1, .int 0, .ref m6, .ref m7, .int 0, .ref m9, .ref m10, .int 0, .int 0, .int 0, .int 0, .ref m15, .ref m16, .ref m17, .ref m18, .ref m19, .ref m20, .ref m21, .ref m22, .ref m23, .ref m24]), (st, eI G 2246 st0)] s.heap := hP
  have hl := lv_entry ([.ref mo, .int a1]) (n := 2) (Nat.le_of_ble_eq_true rfl)
  rw [lg_entry_eq]
  generalize (lg_sl ([.ref mo, .int a1]) ++ List.replicate (2 - (lg_sl ([.ref mo, .int a1])).length) Slot.unset).toArray = ls at hl ⊢
  have hl : lv_has ls 2 [(0, .ref mo), (1, .int a1)] := hl
  refine lv_iload_n hx hb dX11_count_0 rfl (lv_at hl 1 rfl) ?_
  refine lv_i2l hx hb dX11_count_1 rfl ?_
  refine lv_lconst (v := 0) hx hb dX11_count_2 (by decide) ?_
  refine my_bel (v := Int32.toInt64 0) (by decide) ?_
  refine lv_ldc2 (v := 5) hx hb hown (hts (.constantLong RX11 256 (5)) w_938) dX11_count_3 ?_
  refine my_bel (v := Int32.toInt64 5) (by decide) ?_
  have hPc := hP.sub (ws' := []) [] rfl
  refine rd_calli (va_runS (As := [.long (Int32.toInt64 a1), .long (Int32.toInt64 0), .long (Int32.toInt64 5)]) (rest := []) ⟨hx, hb, hml, hown, hts⟩ (c_in l G a1 0 5 ) (my_cwS hts ok_X11_in w_162 rfl rfl ⟨Nat.le_of_ble_eq_true rfl, Nat.le_of_ble_eq_true rfl⟩) ⟨rP.blind, fun U hU hW => ⟨rfl, by rw [hU]; exact hPc, kG.warm hW hG⟩⟩ rfl rfl hl.1 rfl (lv_room (Nat.le_of_ble_eq_true rfl)) dX11_count_6 ⟨Nat.le_of_ble_eq_true rfl, Nat.le_of_ble_eq_true rfl⟩) (fun r hr9 => ?_)
  subst hr9
  refine my_ifeq (tgt := 20) hx hb dX11_count_9 (by decide) (fun c_9 => ?_) (fun c_9 => ?_)
  · refine lv_bipush (v := (-2)) hx hb dX11_count_20 (by decide) ?_
    exact W.iret (v := (-2)) hx hb hr (fun t ht hW => ⟨⟨_, (), rfl, (by simp [c_9]), trivial⟩, hS.F ht⟩) hS.2.2 dX11_count_22
  · refine lv_aload_n hx hb dX11_count_12 rfl (lv_at hl 0 rfl) ?_
    refine lv_iload_n hx hb dX11_count_13 rfl (lv_at hl 1 rfl) ?_
    have hPc := hP.sub (ws' := [(mo, eO 10 [.ref st, .ref mi, .ref mk, .long 0, .long 1, .int 0, .ref m6, .ref m7, .int 0, .ref m9, .ref m10, .int 0, .int 0, .int 0, .int 0, .ref m15, .ref m16, .ref m17, .ref m18, .ref m19, .ref m20, .ref m21, .ref m22, .ref m23, .ref m24]), (st, eI G 2246 st0)]) [0, 1] rfl
    have hDc := hD.sub (ws' := [(mo, eO 10 [.ref st, .ref mi, .ref mk, .long 0, .long 1, .int 0, .ref m6, .ref m7, .int 0, .ref m9, .ref m10, .int 0, .int 0, .int 0, .int 0, .ref m15, .ref m16, .ref m17, .ref m18, .ref m19, .ref m20, .ref m21, .ref m22, .ref m23, .ref m24]), (st, eI G 2246 st0)]) [0, 1] (by decide) rfl
    have hFc := va_free (wc := [(mo, eO 10 [.ref st, .ref mi, .ref mk, .long 0, .long 1, .int 0, .ref m6, .ref m7, .int 0, .ref m9, .ref m10, .int 0, .int 0, .int 0, .int 0, .ref m15, .ref m16, .ref m17, .ref m18, .ref m19, .ref m20, .ref m21, .ref m22, .ref m23, .ref m24]), (st, eI G 2246 st0)]) hD hS hA [0, 1] rfl
    refine va_calli (va_runV (As := [.int a1]) (rest := []) ⟨hx, hb, hml, hown, hts⟩ (c_countOf0 l G s.heap.size mo st mi mk m6 m7 m9 m10 m15 m16 m17 m18 m19 m20 m21 m22 m23 m24 a1 (by first | assumption | decide)) (my_cwV hts ok_X11_countOf w_939 rfl rfl ⟨Nat.le_of_ble_eq_true rfl, Nat.le_of_ble_eq_true rfl⟩) ⟨wP.blind, va_recv hG.1 hPc (ci := 10) (q0 := 0) rfl rfl, fun U hU hW => ⟨rfl, by rw [hU], by rw [hU]; exact hPc, kG.warm hW hG, hDc.weaken (fun _ _ _ _ => trivial)⟩⟩ rfl rfl hl.1 rfl (lv_room (Nat.le_of_ble_eq_true rfl)) dX11_count_14 ⟨Nat.le_of_ble_eq_true rfl, Nat.le_of_ble_eq_true rfl⟩) hS (fun q _ h => hFc q h) hFc (fun r u t H1 locs ht hvm hw hB hz1 hk1 hS => ?_)
    obtain ⟨hP1, hD1⟩ := hB
    rw [ht] at hP1
    try dsimp only at hw
    obtain ⟨hP, hD⟩ := va_join (wr := []) (w1 := [(mo, eO 10 [.ref st, .ref mi, .ref mk, .long 0, .long 1, .int 0, .ref m6, .ref m7, .int 0, .ref m9, .ref m10, .int 0, .int 0, .int 1, .int 0, .ref m15, .ref m16, .ref m17, .ref m18, .ref m19, .ref m20, .ref m21, .ref m22, .ref m23, .ref m24]), (st, eI G 2246 st0)]) hP hD [0, 1] [] rfl rfl (by decide) (by decide) hk1 hFc hP1 hD1
    generalize H1 = H at hP hS ⊢
    have hP : va_P G.1 vwCl [(mo, eO 10 [.ref st, .ref mi, .ref mk, .long 0, .long 1, .int 0, .ref m6, .ref m7, .int 0, .ref m9, .ref m10, .int 0, .int 0, .int 1, .int 0, .ref m15, .ref m16, .ref m17, .ref m18, .ref m19, .ref m20, .ref m21, .ref m22, .ref m23, .ref m24]), (st, eI G 2246 st0)] H := hP
    have hD : va_D A [(mo, eO 10 [.ref st, .ref mi, .ref mk, .long 0, .long 1, .int 0, .ref m6, .ref m7, .int 0, .ref m9, .ref m10, .int 0, .int 0, .int 1, .int 0, .ref m15, .ref m16, .ref m17, .ref m18, .ref m19, .ref m20, .ref m21, .ref m22, .ref m23, .ref m24]), (st, eI G 2246 st0)] := hD
    subst hw
    refine lv_goto (tgt := 22) hx hb dX11_count_17 (by decide) ?_
    exact W.iret (v := 0) hx hb hr (fun t ht hW => ⟨⟨_, (), rfl, (by simp [c_9]), trivial⟩, hS.F ht⟩) hS.2.2 dX11_count_22
set_option maxHeartbeats 4000000 in
set_option maxRecDepth 100000 in
theorem m_digest (l : Launch) (G : gW) (sz : Nat) (mo : Nat) (st : Nat) (mi : Nat) (mk : Nat) (m6 : Nat) (m7 : Nat) (m9 : Nat) (m10 : Nat) (m15 : Nat) (m16 : Nat) (m17 : Nat) (m18 : Nat) (m19 : Nat) (m20 : Nat) (m21 : Nat) (m22 : Nat) (m23 : Nat) (m24 : Nat)  : Met l yX11_digest (wsT yX11_digest cX11_digest 5 (some .long)) ({ frames := 2, cells := 0, slots := 0, locals := 44 }) (wP G [.ref mo] sz [(mo, eO 10 [.ref st, .ref mi, .ref mk, .long 0, .long 1, .int 0, .ref m6, .ref m7, .int 0, .ref m9, .ref m10, .int 0, .int 0, .int 0, .int 0, .ref m15, .ref m16, .ref m17, .ref m18, .ref m19, .ref m20, .ref m21, .ref m22, .ref m23, .ref m24]), (st, eI G 2246 st0)]) (va_Ql (fun (r : Int64) (_ : Unit) => r = 8905220040111940639) (fun _ _ => True) (va_A [(mo, eO 10 [.ref st, .ref mi, .ref mk, .long 0, .long 1, .int 0, .ref m6, .ref m7, .int 0, .ref m9, .ref m10, .int 0, .int 0, .int 0, .int 0, .ref m15, .ref m16, .ref m17, .ref m18, .ref m19, .ref m20, .ref m21, .ref m22, .ref m23, .ref m24]), (st, eI G 2246 st0)] sz)) 0 0 (va_A [(mo, eO 10 [.ref st, .ref mi, .ref mk, .long 0, .long 1, .int 0, .ref m6, .ref m7, .int 0, .ref m9, .ref m10, .int 0, .int 0, .int 0, .int 0, .ref m15, .ref m16, .ref m17, .ref m18, .ref m19, .ref m20, .ref m21, .ref m22, .ref m23, .ref m24]), (st, eI G 2246 st0)] sz) := by
  refine Met.ofW (cc := cX11_digest) (maxL := 5) (ret := (some .long)) (by decide) rfl ?_
  intro p e s m args below meth c s₁ B hml hv
  obtain ⟨rfl, hsz, hP, hG, hD0⟩ := hv
  have hx := B.exec
  have hb := B.bytes
  have hr := B.returns
  have hts := my_hts (atoms_spec (ws := wsT yX11_digest cX11_digest 5 (some .long)) B.pre)
  have hown : s.vm.findClass RX11 = some m.cls := findClass_of_methodNamed B.named
  have hlocks := B.notSynchronized
  subst hsz
  have hD := hD0.self (sz := s.heap.size)
  generalize hAe : va_A [(mo, eO 10 [.ref st, .ref mi, .ref mk, .long 0, .long 1, .int 0, .ref m6, .ref m7, .int 0, .ref m9, .ref m10, .int 0, .int 0, .int 0, .int 0, .ref m15, .ref m16, .ref m17, .ref m18, .ref m19, .ref m20, .ref m21, .ref m22, .ref m23, .ref m24]), (st, eI G 2246 st0)] s.heap.size = A at hD ⊢
  have hA : ∀ q : Nat, s.heap.size ≤ q → A q := fun q h => by rw [← hAe]; exact Or.inr h
  have hS : va_S A s.heap s.heap [] := va_S.rf
  have hP : va_P G.1 vwCl [(mo, eO 10 [.ref st, .ref mi, .ref mk, .long 0, .long 1, .int 0, .ref m6, .ref m7, .int 0, .ref m9, .ref m10, .int 0, .int 0, .int 0, .int 0, .ref m15, .ref m16, .ref m17, .ref m18, .ref m19, .ref m20, .ref m21, .ref m22, .ref m23, .ref m24]), (st, eI G 2246 st0)] s.heap := hP
  have hl := lv_entry ([.ref mo]) (n := 5) (Nat.le_of_ble_eq_true rfl)
  rw [lg_entry_eq]
  generalize (lg_sl ([.ref mo]) ++ List.replicate (5 - (lg_sl ([.ref mo])).length) Slot.unset).toArray = ls at hl ⊢
  have hl : lv_has ls 5 [(0, .ref mo)] := hl
  refine lv_ldc2 (v := 367) hx hb hown (hts (.constantLong RX11 263 (367)) w_975) dX11_digest_0 ?_
  refine lv_lstore_n (lv' := [(1, .long 367), (0, .ref mo)]) hx hb dX11_digest_3 rfl hl (by decide) rfl (fun ls hl => ?_)
  refine lv_iconst (v := 0) hx hb dX11_digest_4 (by decide) ?_
  refine lv_istore_n (lv' := [(3, .int 0), (1, .long 367), (0, .ref mo)]) hx hb dX11_digest_5 rfl hl (by decide) rfl (fun ls hl => ?_)
  refine lv_iload_n hx hb dX11_digest_6 rfl (lv_at hl 0 rfl) ?_
  refine lv_bipush (v := 6) hx hb dX11_digest_7 (by decide) ?_
  refine lv_icmp_ge (tgt := 31) hx hb dX11_digest_9 (by decide) (fun c_9 => absurd c_9 (by decide)) (fun c_9 => ?_)
  refine lv_ldc2 (v := 31) hx hb hown (hts (.constantLong RX11 261 (31)) w_976) dX11_digest_12 ?_
  refine lv_lload_n hx hb dX11_digest_15 rfl (lv_at hl 1 rfl) ?_
  refine lv_lmul hx hb dX11_digest_16 ?_
  refine my_bel (v := 11377) (by decide +kernel) ?_
  refine lv_aload_n hx hb dX11_digest_17 rfl (lv_at hl 2 rfl) ?_
  refine lv_iload_n hx hb dX11_digest_18 rfl (lv_at hl 0 rfl) ?_
  have hPc := hP.sub (ws' := [(mo, eO 10 [.ref st, .ref mi, .ref mk, .long 0, .long 1, .int 0, .ref m6, .ref m7, .int 0, .ref m9, .ref m10, .int 0, .int 0, .int 0, .int 0, .ref m15, .ref m16, .ref m17, .ref m18, .ref m19, .ref m20, .ref m21, .ref m22, .ref m23, .ref m24]), (st, eI G 2246 st0)]) [0, 1] rfl
  have hDc := hD.sub (ws' := [(mo, eO 10 [.ref st, .ref mi, .ref mk, .long 0, .long 1, .int 0, .ref m6, .ref m7, .int 0, .ref m9, .ref m10, .int 0, .int 0, .int 0, .int 0, .ref m15, .ref m16, .ref m17, .ref m18, .ref m19, .ref m20, .ref m21, .ref m22, .ref m23, .ref m24]), (st, eI G 2246 st0)]) [0, 1] (by decide) rfl
  have hFc := va_free (wc := [(mo, eO 10 [.ref st, .ref mi, .ref mk, .long 0, .long 1, .int 0, .ref m6, .ref m7, .int 0, .ref m9, .ref m10, .int 0, .int 0, .int 0, .int 0, .ref m15, .ref m16, .ref m17, .ref m18, .ref m19, .ref m20, .ref m21, .ref m22, .ref m23, .ref m24]), (st, eI G 2246 st0)]) hD hS hA [0, 1] rfl
  refine va_calli (va_runV (As := [.int 0]) (rest := [.long 11377]) ⟨hx, hb, hml, hown, hts⟩ (c_countOf0 l G s.heap.size mo st mi mk m6 m7 m9 m10 m15 m16 m17 m18 m19 m20 m21 m22 m23 m24 0 (by first | assumption | decide)) (my_cwV hts ok_X11_countOf w_939 rfl rfl ⟨Nat.le_of_ble_eq_true rfl, Nat.le_of_ble_eq_true rfl⟩) ⟨wP.blind, va_recv hG.1 hPc (ci := 10) (q0 := 0) rfl rfl, fun U hU hW => ⟨rfl, by rw [hU], by rw [hU]; exact hPc, kG.warm hW hG, hDc.weaken (fun _ _ _ _ => trivial)⟩⟩ rfl rfl hl.1 rfl (lv_room (Nat.le_of_ble_eq_true rfl)) dX11_digest_19 ⟨Nat.le_of_ble_eq_true rfl, Nat.le_of_ble_eq_true rfl⟩) hS (fun q _ h => hFc q h) hFc (fun r u t H1 locs ht hvm hw hB hz1 hk1 hS => ?_)
  obtain ⟨hP1, hD1⟩ := hB
  rw [ht] at hP1
  try dsimp only at hw
  obtain ⟨hP, hD⟩ := va_join (wr := []) (w1 := [(mo, eO 10 [.ref st, .ref mi, .ref mk, .long 0, .long 1, .int 0, .ref m6, .ref m7, .int 0, .ref m9, .ref m10, .int 0, .int 0, .int 1, .int 0, .ref m15, .ref m16, .ref m17, .ref m18, .ref m19, .ref m20, .ref m21, .ref m22, .ref m23, .ref m24]), (st, eI G 2246 st0)]) hP hD [0, 1] [] rfl rfl (by decide) (by decide) hk1 hFc hP1 hD1
  generalize H1 = H at hP hS ⊢
  have hP : va_P G.1 vwCl [(mo, eO 10 [.ref st, .ref mi, .ref mk, .long 0, .long 1, .int 0, .ref m6, .ref m7, .int 0, .ref m9, .ref m10, .int 0, .int 0, .int 1, .int 0, .ref m15, .ref m16, .ref m17, .ref m18, .ref m19, .ref m20, .ref m21, .ref m22, .ref m23, .ref m24]), (st, eI G 2246 st0)] H := hP
  have hD : va_D A [(mo, eO 10 [.ref st, .ref mi, .ref mk, .long 0, .long 1, .int 0, .ref m6, .ref m7, .int 0, .ref m9, .ref m10, .int 0, .int 0, .int 1, .int 0, .ref m15, .ref m16, .ref m17, .ref m18, .ref m19, .ref m20, .ref m21, .ref m22, .ref m23, .ref m24]), (st, eI G 2246 st0)] := hD
  subst hw
  refine lv_i2l (v := 0) hx hb dX11_digest_22 (by decide) ?_
  refine lv_ladd hx hb dX11_digest_23 ?_
  refine my_bel (v := 11377) (by decide +kernel) ?_
  refine lv_lstore_n (lv' := [(1, .long 11377), (3, .int 0), (0, .ref mo)]) hx hb dX11_digest_24 rfl hl (by decide) rfl (fun ls hl => ?_)
  refine lv_iinc (v := 1) (lv' := [(3, .int 1), (1, .long 11377), (0, .ref mo)]) hx hb dX11_digest_25 hl (k := 1) rfl (by decide) (by decide) rfl (fun ls hl => ?_)
  refine lv_goto (tgt := 6) hx hb dX11_digest_28 (by decide) ?_
  refine lv_iload_n hx hb dX11_digest_6 rfl (lv_at hl 0 rfl) ?_
  refine lv_bipush (v := 6) hx hb dX11_digest_7 (by decide) ?_
  refine lv_icmp_ge (tgt := 31) hx hb dX11_digest_9 (by decide) (fun c_9 => absurd c_9 (by decide)) (fun c_9 => ?_)
  refine lv_ldc2 (v := 31) hx hb hown (hts (.constantLong RX11 261 (31)) w_976) dX11_digest_12 ?_
  refine lv_lload_n hx hb dX11_digest_15 rfl (lv_at hl 1 rfl) ?_
  refine lv_lmul hx hb dX11_digest_16 ?_
  refine my_bel (v := 352687) (by decide +kernel) ?_
  refine lv_aload_n hx hb dX11_digest_17 rfl (lv_at hl 2 rfl) ?_
  refine lv_iload_n hx hb dX11_digest_18 rfl (lv_at hl 0 rfl) ?_
  have hPc := hP.sub (ws' := [(mo, eO 10 [.ref st, .ref mi, .ref mk, .long 0, .long 1, .int 0, .ref m6, .ref m7, .int 0, .ref m9, .ref m10, .int 0, .int 0, .int 1, .int 0, .ref m15, .ref m16, .ref m17, .ref m18, .ref m19, .ref m20, .ref m21, .ref m22, .ref m23, .ref m24]), (st, eI G 2246 st0)]) [0, 1] rfl
  have hDc := hD.sub (ws' := [(mo, eO 10 [.ref st, .ref mi, .ref mk, .long 0, .long 1, .int 0, .ref m6, .ref m7, .int 0, .ref m9, .ref m10, .int 0, .int 0, .int 1, .int 0, .ref m15, .ref m16, .ref m17, .ref m18, .ref m19, .ref m20, .ref m21, .ref m22, .ref m23, .ref m24]), (st, eI G 2246 st0)]) [0, 1] (by decide) rfl
  have hFc := va_free (wc := [(mo, eO 10 [.ref st, .ref mi, .ref mk, .long 0, .long 1, .int 0, .ref m6, .ref m7, .int 0, .ref m9, .ref m10, .int 0, .int 0, .int 1, .int 0, .ref m15, .ref m16, .ref m17, .ref m18, .ref m19, .ref m20, .ref m21, .ref m22, .ref m23, .ref m24]), (st, eI G 2246 st0)]) hD hS hA [0, 1] rfl
  refine va_calli (va_runV (As := [.int 1]) (rest := [.long 352687]) ⟨hx, hb, hml, hown, hts⟩ (c_countOf1 l G H.size mo st mi mk m6 m7 m9 m10 m15 m16 m17 m18 m19 m20 m21 m22 m23 m24 1 (by first | assumption | decide)) (my_cwV hts ok_X11_countOf w_939 rfl rfl ⟨Nat.le_of_ble_eq_true rfl, Nat.le_of_ble_eq_true rfl⟩) ⟨wP.blind, va_recv hG.1 hPc (ci := 10) (q0 := 0) rfl rfl, fun U hU hW => ⟨rfl, by rw [hU], by rw [hU]; exact hPc, kG.warm hW hG, hDc.weaken (fun _ _ _ _ => trivial)⟩⟩ rfl rfl hl.1 rfl (lv_room (Nat.le_of_ble_eq_true rfl)) dX11_digest_19 ⟨Nat.le_of_ble_eq_true rfl, Nat.le_of_ble_eq_true rfl⟩) hS (fun q _ h => hFc q h) hFc (fun r u t H1 locs ht hvm hw hB hz1 hk1 hS => ?_)
  obtain ⟨hP1, hD1⟩ := hB
  rw [ht] at hP1
  try dsimp only at hw
  obtain ⟨hP, hD⟩ := va_join (wr := []) (w1 := [(mo, eO 10 [.ref st, .ref mi, .ref mk, .long 0, .long 1, .int 0, .ref m6, .ref m7, .int 0, .ref m9, .ref m10, .int 0, .int 0, .int 1, .int 0, .ref m15, .ref m16, .ref m17, .ref m18, .ref m19, .ref m20, .ref m21, .ref m22, .ref m23, .ref m24]), (st, eI G 2246 st0)]) hP hD [0, 1] [] rfl rfl (by decide) (by decide) hk1 hFc hP1 hD1
  generalize H1 = H at hP hS ⊢
  have hP : va_P G.1 vwCl [(mo, eO 10 [.ref st, .ref mi, .ref mk, .long 0, .long 1, .int 0, .ref m6, .ref m7, .int 0, .ref m9, .ref m10, .int 0, .int 0, .int 1, .int 0, .ref m15, .ref m16, .ref m17, .ref m18, .ref m19, .ref m20, .ref m21, .ref m22, .ref m23, .ref m24]), (st, eI G 2246 st0)] H := hP
  have hD : va_D A [(mo, eO 10 [.ref st, .ref mi, .ref mk, .long 0, .long 1, .int 0, .ref m6, .ref m7, .int 0, .ref m9, .ref m10, .int 0, .int 0, .int 1, .int 0, .ref m15, .ref m16, .ref m17, .ref m18, .ref m19, .ref m20, .ref m21, .ref m22, .ref m23, .ref m24]), (st, eI G 2246 st0)] := hD
  subst hw
  refine lv_i2l (v := 0) hx hb dX11_digest_22 (by decide) ?_
  refine lv_ladd hx hb dX11_digest_23 ?_
  refine my_bel (v := 352687) (by decide +kernel) ?_
  refine lv_lstore_n (lv' := [(1, .long 352687), (3, .int 1), (0, .ref mo)]) hx hb dX11_digest_24 rfl hl (by decide) rfl (fun ls hl => ?_)
  refine lv_iinc (v := 2) (lv' := [(3, .int 2), (1, .long 352687), (0, .ref mo)]) hx hb dX11_digest_25 hl (k := 1) rfl (by decide) (by decide) rfl (fun ls hl => ?_)
  refine lv_goto (tgt := 6) hx hb dX11_digest_28 (by decide) ?_
  refine lv_iload_n hx hb dX11_digest_6 rfl (lv_at hl 0 rfl) ?_
  refine lv_bipush (v := 6) hx hb dX11_digest_7 (by decide) ?_
  refine lv_icmp_ge (tgt := 31) hx hb dX11_digest_9 (by decide) (fun c_9 => absurd c_9 (by decide)) (fun c_9 => ?_)
  refine lv_ldc2 (v := 31) hx hb hown (hts (.constantLong RX11 261 (31)) w_976) dX11_digest_12 ?_
  refine lv_lload_n hx hb dX11_digest_15 rfl (lv_at hl 1 rfl) ?_
  refine lv_lmul hx hb dX11_digest_16 ?_
  refine my_bel (v := 10933297) (by decide +kernel) ?_
  refine lv_aload_n hx hb dX11_digest_17 rfl (lv_at hl 2 rfl) ?_
  refine lv_iload_n hx hb dX11_digest_18 rfl (lv_at hl 0 rfl) ?_
  have hPc := hP.sub (ws' := [(mo, eO 10 [.ref st, .ref mi, .ref mk, .long 0, .long 1, .int 0, .ref m6, .ref m7, .int 0, .ref m9, .ref m10, .int 0, .int 0, .int 1, .int 0, .ref m15, .ref m16, .ref m17, .ref m18, .ref m19, .ref m20, .ref m21, .ref m22, .ref m23, .ref m24]), (st, eI G 2246 st0)]) [0, 1] rfl
  have hDc := hD.sub (ws' := [(mo, eO 10 [.ref st, .ref mi, .ref mk, .long 0, .long 1, .int 0, .ref m6, .ref m7, .int 0, .ref m9, .ref m10, .int 0, .int 0, .int 1, .int 0, .ref m15, .ref m16, .ref m17, .ref m18, .ref m19, .ref m20, .ref m21, .ref m22, .ref m23, .ref m24]), (st, eI G 2246 st0)]) [0, 1] (by decide) rfl
  have hFc := va_free (wc := [(mo, eO 10 [.ref st, .ref mi, .ref mk, .long 0, .long 1, .int 0, .ref m6, .ref m7, .int 0, .ref m9, .ref m10, .int 0, .int 0, .int 1, .int 0, .ref m15, .ref m16, .ref m17, .ref m18, .ref m19, .ref m20, .ref m21, .ref m22, .ref m23, .ref m24]), (st, eI G 2246 st0)]) hD hS hA [0, 1] rfl
  refine va_calli (va_runV (As := [.int 2]) (rest := [.long 10933297]) ⟨hx, hb, hml, hown, hts⟩ (c_countOf1 l G H.size mo st mi mk m6 m7 m9 m10 m15 m16 m17 m18 m19 m20 m21 m22 m23 m24 2 (by first | assumption | decide)) (my_cwV hts ok_X11_countOf w_939 rfl rfl ⟨Nat.le_of_ble_eq_true rfl, Nat.le_of_ble_eq_true rfl⟩) ⟨wP.blind, va_recv hG.1 hPc (ci := 10) (q0 := 0) rfl rfl, fun U hU hW => ⟨rfl, by rw [hU], by rw [hU]; exact hPc, kG.warm hW hG, hDc.weaken (fun _ _ _ _ => trivial)⟩⟩ rfl rfl hl.1 rfl (lv_room (Nat.le_of_ble_eq_true rfl)) dX11_digest_19 ⟨Nat.le_of_ble_eq_true rfl, Nat.le_of_ble_eq_true rfl⟩) hS (fun q _ h => hFc q h) hFc (fun r u t H1 locs ht hvm hw hB hz1 hk1 hS => ?_)
  obtain ⟨hP1, hD1⟩ := hB
  rw [ht] at hP1
  try dsimp only at hw
  obtain ⟨hP, hD⟩ := va_join (wr := []) (w1 := [(mo, eO 10 [.ref st, .ref mi, .ref mk, .long 0, .long 1, .int 0, .ref m6, .ref m7, .int 0, .ref m9, .ref m10, .int 0, .int 0, .int 1, .int 0, .ref m15, .ref m16, .ref m17, .ref m18, .ref m19, .ref m20, .ref m21, .ref m22, .ref m23, .ref m24]), (st, eI G 2246 st0)]) hP hD [0, 1] [] rfl rfl (by decide) (by decide) hk1 hFc hP1 hD1
  generalize H1 = H at hP hS ⊢
  have hP : va_P G.1 vwCl [(mo, eO 10 [.ref st, .ref mi, .ref mk, .long 0, .long 1, .int 0, .ref m6, .ref m7, .int 0, .ref m9, .ref m10, .int 0, .int 0, .int 1, .int 0, .ref m15, .ref m16, .ref m17, .ref m18, .ref m19, .ref m20, .ref m21, .ref m22, .ref m23, .ref m24]), (st, eI G 2246 st0)] H := hP
  have hD : va_D A [(mo, eO 10 [.ref st, .ref mi, .ref mk, .long 0, .long 1, .int 0, .ref m6, .ref m7, .int 0, .ref m9, .ref m10, .int 0, .int 0, .int 1, .int 0, .ref m15, .ref m16, .ref m17, .ref m18, .ref m19, .ref m20, .ref m21, .ref m22, .ref m23, .ref m24]), (st, eI G 2246 st0)] := hD
  subst hw
  refine lv_i2l (v := 0) hx hb dX11_digest_22 (by decide) ?_
  refine lv_ladd hx hb dX11_digest_23 ?_
  refine my_bel (v := 10933297) (by decide +kernel) ?_
  refine lv_lstore_n (lv' := [(1, .long 10933297), (3, .int 2), (0, .ref mo)]) hx hb dX11_digest_24 rfl hl (by decide) rfl (fun ls hl => ?_)
  refine lv_iinc (v := 3) (lv' := [(3, .int 3), (1, .long 10933297), (0, .ref mo)]) hx hb dX11_digest_25 hl (k := 1) rfl (by decide) (by decide) rfl (fun ls hl => ?_)
  refine lv_goto (tgt := 6) hx hb dX11_digest_28 (by decide) ?_
  refine lv_iload_n hx hb dX11_digest_6 rfl (lv_at hl 0 rfl) ?_
  refine lv_bipush (v := 6) hx hb dX11_digest_7 (by decide) ?_
  refine lv_icmp_ge (tgt := 31) hx hb dX11_digest_9 (by decide) (fun c_9 => absurd c_9 (by decide)) (fun c_9 => ?_)
  refine lv_ldc2 (v := 31) hx hb hown (hts (.constantLong RX11 261 (31)) w_976) dX11_digest_12 ?_
  refine lv_lload_n hx hb dX11_digest_15 rfl (lv_at hl 1 rfl) ?_
  refine lv_lmul hx hb dX11_digest_16 ?_
  refine my_bel (v := 338932207) (by decide +kernel) ?_
  refine lv_aload_n hx hb dX11_digest_17 rfl (lv_at hl 2 rfl) ?_
  refine lv_iload_n hx hb dX11_digest_18 rfl (lv_at hl 0 rfl) ?_
  have hPc := hP.sub (ws' := [(mo, eO 10 [.ref st, .ref mi, .ref mk, .long 0, .long 1, .int 0, .ref m6, .ref m7, .int 0, .ref m9, .ref m10, .int 0, .int 0, .int 1, .int 0, .ref m15, .ref m16, .ref m17, .ref m18, .ref m19, .ref m20, .ref m21, .ref m22, .ref m23, .ref m24]), (st, eI G 2246 st0)]) [0, 1] rfl
  have hDc := hD.sub (ws' := [(mo, eO 10 [.ref st, .ref mi, .ref mk, .long 0, .long 1, .int 0, .ref m6, .ref m7, .int 0, .ref m9, .ref m10, .int 0, .int 0, .int 1, .int 0, .ref m15, .ref m16, .ref m17, .ref m18, .ref m19, .ref m20, .ref m21, .ref m22, .ref m23, .ref m24]), (st, eI G 2246 st0)]) [0, 1] (by decide) rfl
  have hFc := va_free (wc := [(mo, eO 10 [.ref st, .ref mi, .ref mk, .long 0, .long 1, .int 0, .ref m6, .ref m7, .int 0, .ref m9, .ref m10, .int 0, .int 0, .int 1, .int 0, .ref m15, .ref m16, .ref m17, .ref m18, .ref m19, .ref m20, .ref m21, .ref m22, .ref m23, .ref m24]), (st, eI G 2246 st0)]) hD hS hA [0, 1] rfl
  refine va_calli (va_runV (As := [.int 3]) (rest := [.long 338932207]) ⟨hx, hb, hml, hown, hts⟩ (c_countOf1 l G H.size mo st mi mk m6 m7 m9 m10 m15 m16 m17 m18 m19 m20 m21 m22 m23 m24 3 (by first | assumption | decide)) (my_cwV hts ok_X11_countOf w_939 rfl rfl ⟨Nat.le_of_ble_eq_true rfl, Nat.le_of_ble_eq_true rfl⟩) ⟨wP.blind, va_recv hG.1 hPc (ci := 10) (q0 := 0) rfl rfl, fun U hU hW => ⟨rfl, by rw [hU], by rw [hU]; exact hPc, kG.warm hW hG, hDc.weaken (fun _ _ _ _ => trivial)⟩⟩ rfl rfl hl.1 rfl (lv_room (Nat.le_of_ble_eq_true rfl)) dX11_digest_19 ⟨Nat.le_of_ble_eq_true rfl, Nat.le_of_ble_eq_true rfl⟩) hS (fun q _ h => hFc q h) hFc (fun r u t H1 locs ht hvm hw hB hz1 hk1 hS => ?_)
  obtain ⟨hP1, hD1⟩ := hB
  rw [ht] at hP1
  try dsimp only at hw
  obtain ⟨hP, hD⟩ := va_join (wr := []) (w1 := [(mo, eO 10 [.ref st, .ref mi, .ref mk, .long 0, .long 1, .int 0, .ref m6, .ref m7, .int 0, .ref m9, .ref m10, .int 0, .int 0, .int 1, .int 0, .ref m15, .ref m16, .ref m17, .ref m18, .ref m19, .ref m20, .ref m21, .ref m22, .ref m23, .ref m24]), (st, eI G 2246 st0)]) hP hD [0, 1] [] rfl rfl (by decide) (by decide) hk1 hFc hP1 hD1
  generalize H1 = H at hP hS ⊢
  have hP : va_P G.1 vwCl [(mo, eO 10 [.ref st, .ref mi, .ref mk, .long 0, .long 1, .int 0, .ref m6, .ref m7, .int 0, .ref m9, .ref m10, .int 0, .int 0, .int 1, .int 0, .ref m15, .ref m16, .ref m17, .ref m18, .ref m19, .ref m20, .ref m21, .ref m22, .ref m23, .ref m24]), (st, eI G 2246 st0)] H := hP
  have hD : va_D A [(mo, eO 10 [.ref st, .ref mi, .ref mk, .long 0, .long 1, .int 0, .ref m6, .ref m7, .int 0, .ref m9, .ref m10, .int 0, .int 0, .int 1, .int 0, .ref m15, .ref m16, .ref m17, .ref m18, .ref m19, .ref m20, .ref m21, .ref m22, .ref m23, .ref m24]), (st, eI G 2246 st0)] := hD
  subst hw
  refine lv_i2l (v := 0) hx hb dX11_digest_22 (by decide) ?_
  refine lv_ladd hx hb dX11_digest_23 ?_
  refine my_bel (v := 338932207) (by decide +kernel) ?_
  refine lv_lstore_n (lv' := [(1, .long 338932207), (3, .int 3), (0, .ref mo)]) hx hb dX11_digest_24 rfl hl (by decide) rfl (fun ls hl => ?_)
  refine lv_iinc (v := 4) (lv' := [(3, .int 4), (1, .long 338932207), (0, .ref mo)]) hx hb dX11_digest_25 hl (k := 1) rfl (by decide) (by decide) rfl (fun ls hl => ?_)
  refine lv_goto (tgt := 6) hx hb dX11_digest_28 (by decide) ?_
  refine lv_iload_n hx hb dX11_digest_6 rfl (lv_at hl 0 rfl) ?_
  refine lv_bipush (v := 6) hx hb dX11_digest_7 (by decide) ?_
  refine lv_icmp_ge (tgt := 31) hx hb dX11_digest_9 (by decide) (fun c_9 => absurd c_9 (by decide)) (fun c_9 => ?_)
  refine lv_ldc2 (v := 31) hx hb hown (hts (.constantLong RX11 261 (31)) w_976) dX11_digest_12 ?_
  refine lv_lload_n hx hb dX11_digest_15 rfl (lv_at hl 1 rfl) ?_
  refine lv_lmul hx hb dX11_digest_16 ?_
  refine my_bel (v := 10506898417) (by decide +kernel) ?_
  refine lv_aload_n hx hb dX11_digest_17 rfl (lv_at hl 2 rfl) ?_
  refine lv_iload_n hx hb dX11_digest_18 rfl (lv_at hl 0 rfl) ?_
  have hPc := hP.sub (ws' := [(mo, eO 10 [.ref st, .ref mi, .ref mk, .long 0, .long 1, .int 0, .ref m6, .ref m7, .int 0, .ref m9, .ref m10, .int 0, .int 0, .int 1, .int 0, .ref m15, .ref m16, .ref m17, .ref m18, .ref m19, .ref m20, .ref m21, .ref m22, .ref m23, .ref m24]), (st, eI G 2246 st0)]) [0, 1] rfl
  have hDc := hD.sub (ws' := [(mo, eO 10 [.ref st, .ref mi, .ref mk, .long 0, .long 1, .int 0, .ref m6, .ref m7, .int 0, .ref m9, .ref m10, .int 0, .int 0, .int 1, .int 0, .ref m15, .ref m16, .ref m17, .ref m18, .ref m19, .ref m20, .ref m21, .ref m22, .ref m23, .ref m24]), (st, eI G 2246 st0)]) [0, 1] (by decide) rfl
  have hFc := va_free (wc := [(mo, eO 10 [.ref st, .ref mi, .ref mk, .long 0, .long 1, .int 0, .ref m6, .ref m7, .int 0, .ref m9, .ref m10, .int 0, .int 0, .int 1, .int 0, .ref m15, .ref m16, .ref m17, .ref m18, .ref m19, .ref m20, .ref m21, .ref m22, .ref m23, .ref m24]), (st, eI G 2246 st0)]) hD hS hA [0, 1] rfl
  refine va_calli (va_runV (As := [.int 4]) (rest := [.long 10506898417]) ⟨hx, hb, hml, hown, hts⟩ (c_countOf1 l G H.size mo st mi mk m6 m7 m9 m10 m15 m16 m17 m18 m19 m20 m21 m22 m23 m24 4 (by first | assumption | decide)) (my_cwV hts ok_X11_countOf w_939 rfl rfl ⟨Nat.le_of_ble_eq_true rfl, Nat.le_of_ble_eq_true rfl⟩) ⟨wP.blind, va_recv hG.1 hPc (ci := 10) (q0 := 0) rfl rfl, fun U hU hW => ⟨rfl, by rw [hU], by rw [hU]; exact hPc, kG.warm hW hG, hDc.weaken (fun _ _ _ _ => trivial)⟩⟩ rfl rfl hl.1 rfl (lv_room (Nat.le_of_ble_eq_true rfl)) dX11_digest_19 ⟨Nat.le_of_ble_eq_true rfl, Nat.le_of_ble_eq_true rfl⟩) hS (fun q _ h => hFc q h) hFc (fun r u t H1 locs ht hvm hw hB hz1 hk1 hS => ?_)
  obtain ⟨hP1, hD1⟩ := hB
  rw [ht] at hP1
  try dsimp only at hw
  obtain ⟨hP, hD⟩ := va_join (wr := []) (w1 := [(mo, eO 10 [.ref st, .ref mi, .ref mk, .long 0, .long 1, .int 0, .ref m6, .ref m7, .int 0, .ref m9, .ref m10, .int 0, .int 0, .int 1, .int 0, .ref m15, .ref m16, .ref m17, .ref m18, .ref m19, .ref m20, .ref m21, .ref m22, .ref m23, .ref m24]), (st, eI G 2246 st0)]) hP hD [0, 1] [] rfl rfl (by decide) (by decide) hk1 hFc hP1 hD1
  generalize H1 = H at hP hS ⊢
  have hP : va_P G.1 vwCl [(mo, eO 10 [.ref st, .ref mi, .ref mk, .long 0, .long 1, .int 0, .ref m6, .ref m7, .int 0, .ref m9, .ref m10, .int 0, .int 0, .int 1, .int 0, .ref m15, .ref m16, .ref m17, .ref m18, .ref m19, .ref m20, .ref m21, .ref m22, .ref m23, .ref m24]), (st, eI G 2246 st0)] H := hP
  have hD : va_D A [(mo, eO 10 [.ref st, .ref mi, .ref mk, .long 0, .long 1, .int 0, .ref m6, .ref m7, .int 0, .ref m9, .ref m10, .int 0, .int 0, .int 1, .int 0, .ref m15, .ref m16, .ref m17, .ref m18, .ref m19, .ref m20, .ref m21, .ref m22, .ref m23, .ref m24]), (st, eI G 2246 st0)] := hD
  subst hw
  refine lv_i2l (v := 0) hx hb dX11_digest_22 (by decide) ?_
  refine lv_ladd hx hb dX11_digest_23 ?_
  refine my_bel (v := 10506898417) (by decide +kernel) ?_
  refine lv_lstore_n (lv' := [(1, .long 10506898417), (3, .int 4), (0, .ref mo)]) hx hb dX11_digest_24 rfl hl (by decide) rfl (fun ls hl => ?_)
  refine lv_iinc (v := 5) (lv' := [(3, .int 5), (1, .long 10506898417), (0, .ref mo)]) hx hb dX11_digest_25 hl (k := 1) rfl (by decide) (by decide) rfl (fun ls hl => ?_)
  refine lv_goto (tgt := 6) hx hb dX11_digest_28 (by decide) ?_
  refine lv_iload_n hx hb dX11_digest_6 rfl (lv_at hl 0 rfl) ?_
  refine lv_bipush (v := 6) hx hb dX11_digest_7 (by decide) ?_
  refine lv_icmp_ge (tgt := 31) hx hb dX11_digest_9 (by decide) (fun c_9 => absurd c_9 (by decide)) (fun c_9 => ?_)
  refine lv_ldc2 (v := 31) hx hb hown (hts (.constantLong RX11 261 (31)) w_976) dX11_digest_12 ?_
  refine lv_lload_n hx hb dX11_digest_15 rfl (lv_at hl 1 rfl) ?_
  refine lv_lmul hx hb dX11_digest_16 ?_
  refine my_bel (v := 325713850927) (by decide +kernel) ?_
  refine lv_aload_n hx hb dX11_digest_17 rfl (lv_at hl 2 rfl) ?_
  refine lv_iload_n hx hb dX11_digest_18 rfl (lv_at hl 0 rfl) ?_
  have hPc := hP.sub (ws' := [(mo, eO 10 [.ref st, .ref mi, .ref mk, .long 0, .long 1, .int 0, .ref m6, .ref m7, .int 0, .ref m9, .ref m10, .int 0, .int 0, .int 1, .int 0, .ref m15, .ref m16, .ref m17, .ref m18, .ref m19, .ref m20, .ref m21, .ref m22, .ref m23, .ref m24]), (st, eI G 2246 st0)]) [0, 1] rfl
  have hDc := hD.sub (ws' := [(mo, eO 10 [.ref st, .ref mi, .ref mk, .long 0, .long 1, .int 0, .ref m6, .ref m7, .int 0, .ref m9, .ref m10, .int 0, .int 0, .int 1, .int 0, .ref m15, .ref m16, .ref m17, .ref m18, .ref m19, .ref m20, .ref m21, .ref m22, .ref m23, .ref m24]), (st, eI G 2246 st0)]) [0, 1] (by decide) rfl
  have hFc := va_free (wc := [(mo, eO 10 [.ref st, .ref mi, .ref mk, .long 0, .long 1, .int 0, .ref m6, .ref m7, .int 0, .ref m9, .ref m10, .int 0, .int 0, .int 1, .int 0, .ref m15, .ref m16, .ref m17, .ref m18, .ref m19, .ref m20, .ref m21, .ref m22, .ref m23, .ref m24]), (st, eI G 2246 st0)]) hD hS hA [0, 1] rfl
  refine va_calli (va_runV (As := [.int 5]) (rest := [.long 325713850927]) ⟨hx, hb, hml, hown, hts⟩ (c_countOf1 l G H.size mo st mi mk m6 m7 m9 m10 m15 m16 m17 m18 m19 m20 m21 m22 m23 m24 5 (by first | assumption | decide)) (my_cwV hts ok_X11_countOf w_939 rfl rfl ⟨Nat.le_of_ble_eq_true rfl, Nat.le_of_ble_eq_true rfl⟩) ⟨wP.blind, va_recv hG.1 hPc (ci := 10) (q0 := 0) rfl rfl, fun U hU hW => ⟨rfl, by rw [hU], by rw [hU]; exact hPc, kG.warm hW hG, hDc.weaken (fun _ _ _ _ => trivial)⟩⟩ rfl rfl hl.1 rfl (lv_room (Nat.le_of_ble_eq_true rfl)) dX11_digest_19 ⟨Nat.le_of_ble_eq_true rfl, Nat.le_of_ble_eq_true rfl⟩) hS (fun q _ h => hFc q h) hFc (fun r u t H1 locs ht hvm hw hB hz1 hk1 hS => ?_)
  obtain ⟨hP1, hD1⟩ := hB
  rw [ht] at hP1
  try dsimp only at hw
  obtain ⟨hP, hD⟩ := va_join (wr := []) (w1 := [(mo, eO 10 [.ref st, .ref mi, .ref mk, .long 0, .long 1, .int 0, .ref m6, .ref m7, .int 0, .ref m9, .ref m10, .int 0, .int 0, .int 1, .int 0, .ref m15, .ref m16, .ref m17, .ref m18, .ref m19, .ref m20, .ref m21, .ref m22, .ref m23, .ref m24]), (st, eI G 2246 st0)]) hP hD [0, 1] [] rfl rfl (by decide) (by decide) hk1 hFc hP1 hD1
  generalize H1 = H at hP hS ⊢
  have hP : va_P G.1 vwCl [(mo, eO 10 [.ref st, .ref mi, .ref mk, .long 0, .long 1, .int 0, .ref m6, .ref m7, .int 0, .ref m9, .ref m10, .int 0, .int 0, .int 1, .int 0, .ref m15, .ref m16, .ref m17, .ref m18, .ref m19, .ref m20, .ref m21, .ref m22, .ref m23, .ref m24]), (st, eI G 2246 st0)] H := hP
  have hD : va_D A [(mo, eO 10 [.ref st, .ref mi, .ref mk, .long 0, .long 1, .int 0, .ref m6, .ref m7, .int 0, .ref m9, .ref m10, .int 0, .int 0, .int 1, .int 0, .ref m15, .ref m16, .ref m17, .ref m18, .ref m19, .ref m20, .ref m21, .ref m22, .ref m23, .ref m24]), (st, eI G 2246 st0)] := hD
  subst hw
  refine lv_i2l (v := 0) hx hb dX11_digest_22 (by decide) ?_
  refine lv_ladd hx hb dX11_digest_23 ?_
  refine my_bel (v := 325713850927) (by decide +kernel) ?_
  refine lv_lstore_n (lv' := [(1, .long 325713850927), (3, .int 5), (0, .ref mo)]) hx hb dX11_digest_24 rfl hl (by decide) rfl (fun ls hl => ?_)
  refine lv_iinc (v := 6) (lv' := [(3, .int 6), (1, .long 325713850927), (0, .ref mo)]) hx hb dX11_digest_25 hl (k := 1) rfl (by decide) (by decide) rfl (fun ls hl => ?_)
  refine lv_goto (tgt := 6) hx hb dX11_digest_28 (by decide) ?_
  refine lv_iload_n hx hb dX11_digest_6 rfl (lv_at hl 0 rfl) ?_
  refine lv_bipush (v := 6) hx hb dX11_digest_7 (by decide) ?_
  refine lv_icmp_ge (tgt := 31) hx hb dX11_digest_9 (by decide) (fun c_9 => ?_) (fun c_9 => absurd (by decide) c_9)
  refine lv_aload_n hx hb dX11_digest_31 rfl (lv_at hl 2 rfl) ?_
  refine lv_lload_n hx hb dX11_digest_32 rfl (lv_at hl 1 rfl) ?_
  refine lv_bipush (v := 10) hx hb dX11_digest_33 (by decide) ?_
  refine lv_iconst (v := 4) hx hb dX11_digest_35 (by decide) ?_
  refine lv_aload_n hx hb dX11_digest_36 rfl (lv_at hl 2 rfl) ?_
  refine va_get (D := G.1) (ci := 10) (v := .ref st) (C := RX11) (T := TX11) (N := 25) hx hb hts inlX11 hown hG.1 hP 0 rfl rfl 0 (by decide) (hts (.fieldLink RX11 7 "SwornListsModel" "st" "[I") w_112) (fun _ h9 => h9) rfl dX11_digest_37 ?_
  refine lv_iconst (v := 0) hx hb dX11_digest_40 (by decide) ?_
  refine va_iald hx hb hG.1 hP 1 0 rfl rfl (by unfold vp_in; decide) dX11_digest_41 ?_
  refine my_bei (v := 0) (by first | rfl | decide) ?_
  refine lv_imul hx hb dX11_digest_42 ?_
  refine my_bei (v := 0) (by decide) ?_
  have hPc := hP.sub (ws' := [(mo, eO 10 [.ref st, .ref mi, .ref mk, .long 0, .long 1, .int 0, .ref m6, .ref m7, .int 0, .ref m9, .ref m10, .int 0, .int 0, .int 1, .int 0, .ref m15, .ref m16, .ref m17, .ref m18, .ref m19, .ref m20, .ref m21, .ref m22, .ref m23, .ref m24]), (st, eI G 2246 st0)]) [0, 1] rfl
  refine rd_calll (va_runV (As := [.long 325713850927, .int 10, .int 0]) (rest := []) ⟨hx, hb, hml, hown, hts⟩ (c_mixed_10 l G mo st mi mk m6 m7 m9 m10 m15 m16 m17 m18 m19 m20 m21 m22 m23 m24 325713850927 0 1 0 0 0 0 1 0 ) (my_cwV hts ok_X11_mixed w_977 rfl rfl ⟨Nat.le_of_ble_eq_true rfl, Nat.le_of_ble_eq_true rfl⟩) ⟨rP.blind, va_recv hG.1 hPc (ci := 10) (q0 := 0) rfl rfl, fun U hU hW => ⟨rfl, by rw [hU]; exact hPc, kG.warm hW hG⟩⟩ rfl rfl hl.1 rfl (lv_room (Nat.le_of_ble_eq_true rfl)) dX11_digest_43 ⟨Nat.le_of_ble_eq_true rfl, Nat.le_of_ble_eq_true rfl⟩) (fun r hr9 => ?_)
  subst hr9
  refine lv_lstore_n (lv' := [(1, .long 325713850927), (3, .int 6), (0, .ref mo)]) hx hb dX11_digest_46 rfl hl (by decide) rfl (fun ls hl => ?_)
  refine lv_aload_n hx hb dX11_digest_47 rfl (lv_at hl 2 rfl) ?_
  refine lv_lload_n hx hb dX11_digest_48 rfl (lv_at hl 0 rfl) ?_
  refine lv_sipush (v := 130) hx hb dX11_digest_49 (by decide) ?_
  refine lv_iconst (v := 3) hx hb dX11_digest_52 (by decide) ?_
  refine lv_aload_n hx hb dX11_digest_53 rfl (lv_at hl 2 rfl) ?_
  refine va_get (D := G.1) (ci := 10) (v := .ref st) (C := RX11) (T := TX11) (N := 25) hx hb hts inlX11 hown hG.1 hP 0 rfl rfl 0 (by decide) (hts (.fieldLink RX11 7 "SwornListsModel" "st" "[I") w_112) (fun _ h9 => h9) rfl dX11_digest_54 ?_
  refine lv_iconst (v := 1) hx hb dX11_digest_57 (by decide) ?_
  refine va_iald hx hb hG.1 hP 1 0 rfl rfl (by unfold vp_in; decide) dX11_digest_58 ?_
  refine my_bei (v := 0) (by first | rfl | decide) ?_
  refine lv_imul hx hb dX11_digest_59 ?_
  refine my_bei (v := 0) (by decide) ?_
  have hPc := hP.sub (ws' := [(mo, eO 10 [.ref st, .ref mi, .ref mk, .long 0, .long 1, .int 0, .ref m6, .ref m7, .int 0, .ref m9, .ref m10, .int 0, .int 0, .int 1, .int 0, .ref m15, .ref m16, .ref m17, .ref m18, .ref m19, .ref m20, .ref m21, .ref m22, .ref m23, .ref m24]), (st, eI G 2246 st0)]) [0, 1] rfl
  refine rd_calll (va_runV (As := [.long 325713850927, .int 130, .int 0]) (rest := []) ⟨hx, hb, hml, hown, hts⟩ (c_mixed_130 l G mo st mi mk m6 m7 m9 m10 m15 m16 m17 m18 m19 m20 m21 m22 m23 m24 325713850927 0 1 0 0 0 0 1 0 ) (my_cwV hts ok_X11_mixed w_977 rfl rfl ⟨Nat.le_of_ble_eq_true rfl, Nat.le_of_ble_eq_true rfl⟩) ⟨rP.blind, va_recv hG.1 hPc (ci := 10) (q0 := 0) rfl rfl, fun U hU hW => ⟨rfl, by rw [hU]; exact hPc, kG.warm hW hG⟩⟩ rfl rfl hl.1 rfl (lv_room (Nat.le_of_ble_eq_true rfl)) dX11_digest_60 ⟨Nat.le_of_ble_eq_true rfl, Nat.le_of_ble_eq_true rfl⟩) (fun r hr9 => ?_)
  subst hr9
  refine lv_lstore_n (lv' := [(1, .long 325713850927), (3, .int 6), (0, .ref mo)]) hx hb dX11_digest_63 rfl hl (by decide) rfl (fun ls hl => ?_)
  refine lv_aload_n hx hb dX11_digest_64 rfl (lv_at hl 2 rfl) ?_
  refine lv_lload_n hx hb dX11_digest_65 rfl (lv_at hl 0 rfl) ?_
  refine lv_sipush (v := 250) hx hb dX11_digest_66 (by decide) ?_
  refine lv_iconst (v := 3) hx hb dX11_digest_69 (by decide) ?_
  refine lv_aload_n hx hb dX11_digest_70 rfl (lv_at hl 2 rfl) ?_
  refine va_get (D := G.1) (ci := 10) (v := .ref st) (C := RX11) (T := TX11) (N := 25) hx hb hts inlX11 hown hG.1 hP 0 rfl rfl 0 (by decide) (hts (.fieldLink RX11 7 "SwornListsModel" "st" "[I") w_112) (fun _ h9 => h9) rfl dX11_digest_71 ?_
  refine lv_iconst (v := 2) hx hb dX11_digest_74 (by decide) ?_
  refine va_iald hx hb hG.1 hP 1 0 rfl rfl (by unfold vp_in; decide) dX11_digest_75 ?_
  refine my_bei (v := 0) (by first | rfl | decide) ?_
  refine lv_imul hx hb dX11_digest_76 ?_
  refine my_bei (v := 0) (by decide) ?_
  have hPc := hP.sub (ws' := [(mo, eO 10 [.ref st, .ref mi, .ref mk, .long 0, .long 1, .int 0, .ref m6, .ref m7, .int 0, .ref m9, .ref m10, .int 0, .int 0, .int 1, .int 0, .ref m15, .ref m16, .ref m17, .ref m18, .ref m19, .ref m20, .ref m21, .ref m22, .ref m23, .ref m24]), (st, eI G 2246 st0)]) [0, 1] rfl
  refine rd_calll (va_runV (As := [.long 325713850927, .int 250, .int 0]) (rest := []) ⟨hx, hb, hml, hown, hts⟩ (c_mixed_250 l G mo st mi mk m6 m7 m9 m10 m15 m16 m17 m18 m19 m20 m21 m22 m23 m24 325713850927 0 1 0 0 0 0 1 0 ) (my_cwV hts ok_X11_mixed w_977 rfl rfl ⟨Nat.le_of_ble_eq_true rfl, Nat.le_of_ble_eq_true rfl⟩) ⟨rP.blind, va_recv hG.1 hPc (ci := 10) (q0 := 0) rfl rfl, fun U hU hW => ⟨rfl, by rw [hU]; exact hPc, kG.warm hW hG⟩⟩ rfl rfl hl.1 rfl (lv_room (Nat.le_of_ble_eq_true rfl)) dX11_digest_77 ⟨Nat.le_of_ble_eq_true rfl, Nat.le_of_ble_eq_true rfl⟩) (fun r hr9 => ?_)
  subst hr9
  refine lv_lstore_n (lv' := [(1, .long 325713850927), (3, .int 6), (0, .ref mo)]) hx hb dX11_digest_80 rfl hl (by decide) rfl (fun ls hl => ?_)
  refine lv_iconst (v := 0) hx hb dX11_digest_81 (by decide) ?_
  refine lv_istore_n (lv' := [(3, .int 0), (1, .long 325713850927), (0, .ref mo)]) hx hb dX11_digest_82 rfl hl (by decide) rfl (fun ls hl => ?_)
  refine lv_iload_n hx hb dX11_digest_83 rfl (lv_at hl 0 rfl) ?_
  refine lv_aload_n hx hb dX11_digest_84 rfl (lv_at hl 2 rfl) ?_
  refine va_get (D := G.1) (ci := 10) (v := .ref st) (C := RX11) (T := TX11) (N := 25) hx hb hts inlX11 hown hG.1 hP 0 rfl rfl 0 (by decide) (hts (.fieldLink RX11 7 "SwornListsModel" "st" "[I") w_112) (fun _ h9 => h9) rfl dX11_digest_85 ?_
  refine lv_iconst (v := 3) hx hb dX11_digest_88 (by decide) ?_
  refine va_iald hx hb hG.1 hP 1 0 rfl rfl (by unfold vp_in; decide) dX11_digest_89 ?_
  refine my_bei (v := 0) (by first | rfl | decide) ?_
  refine lv_icmp_ge (tgt := 130) hx hb dX11_digest_90 (by decide) (fun c_90 => ?_) (fun c_90 => absurd (by decide) c_90)
  refine lv_iconst (v := 0) hx hb dX11_digest_130 (by decide) ?_
  refine lv_istore_n (lv' := [(3, .int 0), (1, .long 325713850927), (0, .ref mo)]) hx hb dX11_digest_131 rfl hl (by decide) rfl (fun ls hl => ?_)
  refine lv_iload_n hx hb dX11_digest_132 rfl (lv_at hl 0 rfl) ?_
  refine lv_aload_n hx hb dX11_digest_133 rfl (lv_at hl 2 rfl) ?_
  refine va_get (D := G.1) (ci := 10) (v := .ref st) (C := RX11) (T := TX11) (N := 25) hx hb hts inlX11 hown hG.1 hP 0 rfl rfl 0 (by decide) (hts (.fieldLink RX11 7 "SwornListsModel" "st" "[I") w_112) (fun _ h9 => h9) rfl dX11_digest_134 ?_
  refine lv_iconst (v := 4) hx hb dX11_digest_137 (by decide) ?_
  refine va_iald hx hb hG.1 hP 1 0 rfl rfl (by unfold vp_in; decide) dX11_digest_138 ?_
  refine my_bei (v := 0) (by first | rfl | decide) ?_
  refine lv_icmp_ge (tgt := 208) hx hb dX11_digest_139 (by decide) (fun c_139 => ?_) (fun c_139 => absurd (by decide) c_139)
  refine lv_iconst (v := 0) hx hb dX11_digest_208 (by decide) ?_
  refine lv_istore_n (lv' := [(3, .int 0), (1, .long 325713850927), (0, .ref mo)]) hx hb dX11_digest_209 rfl hl (by decide) rfl (fun ls hl => ?_)
  refine lv_iload_n hx hb dX11_digest_210 rfl (lv_at hl 0 rfl) ?_
  refine lv_iconst (v := 4) hx hb dX11_digest_211 (by decide) ?_
  refine lv_icmp_ge (tgt := 250) hx hb dX11_digest_212 (by decide) (fun c_212 => absurd c_212 (by decide)) (fun c_212 => ?_)
  refine lv_aload_n hx hb dX11_digest_215 rfl (lv_at hl 2 rfl) ?_
  refine lv_lload_n hx hb dX11_digest_216 rfl (lv_at hl 1 rfl) ?_
  refine lv_sipush (v := 262) hx hb dX11_digest_217 (by decide) ?_
  refine lv_bipush (v := 51) hx hb dX11_digest_220 (by decide) ?_
  refine lv_iload_n hx hb dX11_digest_222 rfl (lv_at hl 0 rfl) ?_
  refine lv_imul hx hb dX11_digest_223 ?_
  refine my_bei (v := 0) (by decide) ?_
  refine lv_iadd hx hb dX11_digest_224 ?_
  refine my_bei (v := 262) (by decide) ?_
  refine lv_iconst (v := 1) hx hb dX11_digest_225 (by decide) ?_
  refine lv_aload_n hx hb dX11_digest_226 rfl (lv_at hl 2 rfl) ?_
  refine va_get (D := G.1) (ci := 10) (v := .ref st) (C := RX11) (T := TX11) (N := 25) hx hb hts inlX11 hown hG.1 hP 0 rfl rfl 0 (by decide) (hts (.fieldLink RX11 7 "SwornListsModel" "st" "[I") w_112) (fun _ h9 => h9) rfl dX11_digest_227 ?_
  refine lv_sipush (v := 262) hx hb dX11_digest_230 (by decide) ?_
  refine lv_bipush (v := 51) hx hb dX11_digest_233 (by decide) ?_
  refine lv_iload_n hx hb dX11_digest_235 rfl (lv_at hl 0 rfl) ?_
  refine lv_imul hx hb dX11_digest_236 ?_
  refine my_bei (v := 0) (by decide) ?_
  refine lv_iadd hx hb dX11_digest_237 ?_
  refine my_bei (v := 262) (by decide) ?_
  refine va_iald hx hb hG.1 hP 1 0 rfl rfl (by unfold vp_in; decide) dX11_digest_238 ?_
  refine my_bei (v := 0) (by first | rfl | decide) ?_
  refine lv_iadd hx hb dX11_digest_239 ?_
  refine my_bei (v := 1) (by decide) ?_
  have hPc := hP.sub (ws' := [(mo, eO 10 [.ref st, .ref mi, .ref mk, .long 0, .long 1, .int 0, .ref m6, .ref m7, .int 0, .ref m9, .ref m10, .int 0, .int 0, .int 1, .int 0, .ref m15, .ref m16, .ref m17, .ref m18, .ref m19, .ref m20, .ref m21, .ref m22, .ref m23, .ref m24]), (st, eI G 2246 st0)]) [0, 1] rfl
  refine rd_calll (va_runV (As := [.long 325713850927, .int 262, .int 1]) (rest := []) ⟨hx, hb, hml, hown, hts⟩ (c_mixed_262 l G mo st mi mk m6 m7 m9 m10 m15 m16 m17 m18 m19 m20 m21 m22 m23 m24 325713850927 0 1 0 0 0 0 1 0 ) (my_cwV hts ok_X11_mixed w_977 rfl rfl ⟨Nat.le_of_ble_eq_true rfl, Nat.le_of_ble_eq_true rfl⟩) ⟨rP.blind, va_recv hG.1 hPc (ci := 10) (q0 := 0) rfl rfl, fun U hU hW => ⟨rfl, by rw [hU]; exact hPc, kG.warm hW hG⟩⟩ rfl rfl hl.1 rfl (lv_room (Nat.le_of_ble_eq_true rfl)) dX11_digest_240 ⟨Nat.le_of_ble_eq_true rfl, Nat.le_of_ble_eq_true rfl⟩) (fun r hr9 => ?_)
  subst hr9
  refine my_bel (v := 10097129378737) (by decide +kernel) ?_
  refine lv_lstore_n (lv' := [(1, .long 10097129378737), (3, .int 0), (0, .ref mo)]) hx hb dX11_digest_243 rfl hl (by decide) rfl (fun ls hl => ?_)
  refine lv_iinc (v := 1) (lv' := [(3, .int 1), (1, .long 10097129378737), (0, .ref mo)]) hx hb dX11_digest_244 hl (k := 1) rfl (by decide) (by decide) rfl (fun ls hl => ?_)
  refine lv_goto (tgt := 210) hx hb dX11_digest_247 (by decide) ?_
  refine lv_iload_n hx hb dX11_digest_210 rfl (lv_at hl 0 rfl) ?_
  refine lv_iconst (v := 4) hx hb dX11_digest_211 (by decide) ?_
  refine lv_icmp_ge (tgt := 250) hx hb dX11_digest_212 (by decide) (fun c_212 => absurd c_212 (by decide)) (fun c_212 => ?_)
  refine lv_aload_n hx hb dX11_digest_215 rfl (lv_at hl 2 rfl) ?_
  refine lv_lload_n hx hb dX11_digest_216 rfl (lv_at hl 1 rfl) ?_
  refine lv_sipush (v := 262) hx hb dX11_digest_217 (by decide) ?_
  refine lv_bipush (v := 51) hx hb dX11_digest_220 (by decide) ?_
  refine lv_iload_n hx hb dX11_digest_222 rfl (lv_at hl 0 rfl) ?_
  refine lv_imul hx hb dX11_digest_223 ?_
  refine my_bei (v := 51) (by decide) ?_
  refine lv_iadd hx hb dX11_digest_224 ?_
  refine my_bei (v := 313) (by decide) ?_
  refine lv_iconst (v := 1) hx hb dX11_digest_225 (by decide) ?_
  refine lv_aload_n hx hb dX11_digest_226 rfl (lv_at hl 2 rfl) ?_
  refine va_get (D := G.1) (ci := 10) (v := .ref st) (C := RX11) (T := TX11) (N := 25) hx hb hts inlX11 hown hG.1 hP 0 rfl rfl 0 (by decide) (hts (.fieldLink RX11 7 "SwornListsModel" "st" "[I") w_112) (fun _ h9 => h9) rfl dX11_digest_227 ?_
  refine lv_sipush (v := 262) hx hb dX11_digest_230 (by decide) ?_
  refine lv_bipush (v := 51) hx hb dX11_digest_233 (by decide) ?_
  refine lv_iload_n hx hb dX11_digest_235 rfl (lv_at hl 0 rfl) ?_
  refine lv_imul hx hb dX11_digest_236 ?_
  refine my_bei (v := 51) (by decide) ?_
  refine lv_iadd hx hb dX11_digest_237 ?_
  refine my_bei (v := 313) (by decide) ?_
  refine va_iald hx hb hG.1 hP 1 0 rfl rfl (by unfold vp_in; decide) dX11_digest_238 ?_
  refine my_bei (v := 0) (by first | rfl | decide) ?_
  refine lv_iadd hx hb dX11_digest_239 ?_
  refine my_bei (v := 1) (by decide) ?_
  have hPc := hP.sub (ws' := [(mo, eO 10 [.ref st, .ref mi, .ref mk, .long 0, .long 1, .int 0, .ref m6, .ref m7, .int 0, .ref m9, .ref m10, .int 0, .int 0, .int 1, .int 0, .ref m15, .ref m16, .ref m17, .ref m18, .ref m19, .ref m20, .ref m21, .ref m22, .ref m23, .ref m24]), (st, eI G 2246 st0)]) [0, 1] rfl
  refine rd_calll (va_runV (As := [.long 10097129378737, .int 313, .int 1]) (rest := []) ⟨hx, hb, hml, hown, hts⟩ (c_mixed_313 l G mo st mi mk m6 m7 m9 m10 m15 m16 m17 m18 m19 m20 m21 m22 m23 m24 10097129378737 0 1 0 0 0 0 1 0 ) (my_cwV hts ok_X11_mixed w_977 rfl rfl ⟨Nat.le_of_ble_eq_true rfl, Nat.le_of_ble_eq_true rfl⟩) ⟨rP.blind, va_recv hG.1 hPc (ci := 10) (q0 := 0) rfl rfl, fun U hU hW => ⟨rfl, by rw [hU]; exact hPc, kG.warm hW hG⟩⟩ rfl rfl hl.1 rfl (lv_room (Nat.le_of_ble_eq_true rfl)) dX11_digest_240 ⟨Nat.le_of_ble_eq_true rfl, Nat.le_of_ble_eq_true rfl⟩) (fun r hr9 => ?_)
  subst hr9
  refine my_bel (v := 313011010740847) (by decide +kernel) ?_
  refine lv_lstore_n (lv' := [(1, .long 313011010740847), (3, .int 1), (0, .ref mo)]) hx hb dX11_digest_243 rfl hl (by decide) rfl (fun ls hl => ?_)
  refine lv_iinc (v := 2) (lv' := [(3, .int 2), (1, .long 313011010740847), (0, .ref mo)]) hx hb dX11_digest_244 hl (k := 1) rfl (by decide) (by decide) rfl (fun ls hl => ?_)
  refine lv_goto (tgt := 210) hx hb dX11_digest_247 (by decide) ?_
  refine lv_iload_n hx hb dX11_digest_210 rfl (lv_at hl 0 rfl) ?_
  refine lv_iconst (v := 4) hx hb dX11_digest_211 (by decide) ?_
  refine lv_icmp_ge (tgt := 250) hx hb dX11_digest_212 (by decide) (fun c_212 => absurd c_212 (by decide)) (fun c_212 => ?_)
  refine lv_aload_n hx hb dX11_digest_215 rfl (lv_at hl 2 rfl) ?_
  refine lv_lload_n hx hb dX11_digest_216 rfl (lv_at hl 1 rfl) ?_
  refine lv_sipush (v := 262) hx hb dX11_digest_217 (by decide) ?_
  refine lv_bipush (v := 51) hx hb dX11_digest_220 (by decide) ?_
  refine lv_iload_n hx hb dX11_digest_222 rfl (lv_at hl 0 rfl) ?_
  refine lv_imul hx hb dX11_digest_223 ?_
  refine my_bei (v := 102) (by decide) ?_
  refine lv_iadd hx hb dX11_digest_224 ?_
  refine my_bei (v := 364) (by decide) ?_
  refine lv_iconst (v := 1) hx hb dX11_digest_225 (by decide) ?_
  refine lv_aload_n hx hb dX11_digest_226 rfl (lv_at hl 2 rfl) ?_
  refine va_get (D := G.1) (ci := 10) (v := .ref st) (C := RX11) (T := TX11) (N := 25) hx hb hts inlX11 hown hG.1 hP 0 rfl rfl 0 (by decide) (hts (.fieldLink RX11 7 "SwornListsModel" "st" "[I") w_112) (fun _ h9 => h9) rfl dX11_digest_227 ?_
  refine lv_sipush (v := 262) hx hb dX11_digest_230 (by decide) ?_
  refine lv_bipush (v := 51) hx hb dX11_digest_233 (by decide) ?_
  refine lv_iload_n hx hb dX11_digest_235 rfl (lv_at hl 0 rfl) ?_
  refine lv_imul hx hb dX11_digest_236 ?_
  refine my_bei (v := 102) (by decide) ?_
  refine lv_iadd hx hb dX11_digest_237 ?_
  refine my_bei (v := 364) (by decide) ?_
  refine va_iald hx hb hG.1 hP 1 0 rfl rfl (by unfold vp_in; decide) dX11_digest_238 ?_
  refine my_bei (v := 0) (by first | rfl | decide) ?_
  refine lv_iadd hx hb dX11_digest_239 ?_
  refine my_bei (v := 1) (by decide) ?_
  have hPc := hP.sub (ws' := [(mo, eO 10 [.ref st, .ref mi, .ref mk, .long 0, .long 1, .int 0, .ref m6, .ref m7, .int 0, .ref m9, .ref m10, .int 0, .int 0, .int 1, .int 0, .ref m15, .ref m16, .ref m17, .ref m18, .ref m19, .ref m20, .ref m21, .ref m22, .ref m23, .ref m24]), (st, eI G 2246 st0)]) [0, 1] rfl
  refine rd_calll (va_runV (As := [.long 313011010740847, .int 364, .int 1]) (rest := []) ⟨hx, hb, hml, hown, hts⟩ (c_mixed_364 l G mo st mi mk m6 m7 m9 m10 m15 m16 m17 m18 m19 m20 m21 m22 m23 m24 313011010740847 0 1 0 0 0 0 1 0 ) (my_cwV hts ok_X11_mixed w_977 rfl rfl ⟨Nat.le_of_ble_eq_true rfl, Nat.le_of_ble_eq_true rfl⟩) ⟨rP.blind, va_recv hG.1 hPc (ci := 10) (q0 := 0) rfl rfl, fun U hU hW => ⟨rfl, by rw [hU]; exact hPc, kG.warm hW hG⟩⟩ rfl rfl hl.1 rfl (lv_room (Nat.le_of_ble_eq_true rfl)) dX11_digest_240 ⟨Nat.le_of_ble_eq_true rfl, Nat.le_of_ble_eq_true rfl⟩) (fun r hr9 => ?_)
  subst hr9
  refine my_bel (v := 9703341332966257) (by decide +kernel) ?_
  refine lv_lstore_n (lv' := [(1, .long 9703341332966257), (3, .int 2), (0, .ref mo)]) hx hb dX11_digest_243 rfl hl (by decide) rfl (fun ls hl => ?_)
  refine lv_iinc (v := 3) (lv' := [(3, .int 3), (1, .long 9703341332966257), (0, .ref mo)]) hx hb dX11_digest_244 hl (k := 1) rfl (by decide) (by decide) rfl (fun ls hl => ?_)
  refine lv_goto (tgt := 210) hx hb dX11_digest_247 (by decide) ?_
  refine lv_iload_n hx hb dX11_digest_210 rfl (lv_at hl 0 rfl) ?_
  refine lv_iconst (v := 4) hx hb dX11_digest_211 (by decide) ?_
  refine lv_icmp_ge (tgt := 250) hx hb dX11_digest_212 (by decide) (fun c_212 => absurd c_212 (by decide)) (fun c_212 => ?_)
  refine lv_aload_n hx hb dX11_digest_215 rfl (lv_at hl 2 rfl) ?_
  refine lv_lload_n hx hb dX11_digest_216 rfl (lv_at hl 1 rfl) ?_
  refine lv_sipush (v := 262) hx hb dX11_digest_217 (by decide) ?_
  refine lv_bipush (v := 51) hx hb dX11_digest_220 (by decide) ?_
  refine lv_iload_n hx hb dX11_digest_222 rfl (lv_at hl 0 rfl) ?_
  refine lv_imul hx hb dX11_digest_223 ?_
  refine my_bei (v := 153) (by decide) ?_
  refine lv_iadd hx hb dX11_digest_224 ?_
  refine my_bei (v := 415) (by decide) ?_
  refine lv_iconst (v := 1) hx hb dX11_digest_225 (by decide) ?_
  refine lv_aload_n hx hb dX11_digest_226 rfl (lv_at hl 2 rfl) ?_
  refine va_get (D := G.1) (ci := 10) (v := .ref st) (C := RX11) (T := TX11) (N := 25) hx hb hts inlX11 hown hG.1 hP 0 rfl rfl 0 (by decide) (hts (.fieldLink RX11 7 "SwornListsModel" "st" "[I") w_112) (fun _ h9 => h9) rfl dX11_digest_227 ?_
  refine lv_sipush (v := 262) hx hb dX11_digest_230 (by decide) ?_
  refine lv_bipush (v := 51) hx hb dX11_digest_233 (by decide) ?_
  refine lv_iload_n hx hb dX11_digest_235 rfl (lv_at hl 0 rfl) ?_
  refine lv_imul hx hb dX11_digest_236 ?_
  refine my_bei (v := 153) (by decide) ?_
  refine lv_iadd hx hb dX11_digest_237 ?_
  refine my_bei (v := 415) (by decide) ?_
  refine va_iald hx hb hG.1 hP 1 0 rfl rfl (by unfold vp_in; decide) dX11_digest_238 ?_
  refine my_bei (v := 0) (by first | rfl | decide) ?_
  refine lv_iadd hx hb dX11_digest_239 ?_
  refine my_bei (v := 1) (by decide) ?_
  have hPc := hP.sub (ws' := [(mo, eO 10 [.ref st, .ref mi, .ref mk, .long 0, .long 1, .int 0, .ref m6, .ref m7, .int 0, .ref m9, .ref m10, .int 0, .int 0, .int 1, .int 0, .ref m15, .ref m16, .ref m17, .ref m18, .ref m19, .ref m20, .ref m21, .ref m22, .ref m23, .ref m24]), (st, eI G 2246 st0)]) [0, 1] rfl
  refine rd_calll (va_runV (As := [.long 9703341332966257, .int 415, .int 1]) (rest := []) ⟨hx, hb, hml, hown, hts⟩ (c_mixed_415 l G mo st mi mk m6 m7 m9 m10 m15 m16 m17 m18 m19 m20 m21 m22 m23 m24 9703341332966257 0 1 0 0 0 0 1 0 ) (my_cwV hts ok_X11_mixed w_977 rfl rfl ⟨Nat.le_of_ble_eq_true rfl, Nat.le_of_ble_eq_true rfl⟩) ⟨rP.blind, va_recv hG.1 hPc (ci := 10) (q0 := 0) rfl rfl, fun U hU hW => ⟨rfl, by rw [hU]; exact hPc, kG.warm hW hG⟩⟩ rfl rfl hl.1 rfl (lv_room (Nat.le_of_ble_eq_true rfl)) dX11_digest_240 ⟨Nat.le_of_ble_eq_true rfl, Nat.le_of_ble_eq_true rfl⟩) (fun r hr9 => ?_)
  subst hr9
  refine my_bel (v := 300803581321953967) (by decide +kernel) ?_
  refine lv_lstore_n (lv' := [(1, .long 300803581321953967), (3, .int 3), (0, .ref mo)]) hx hb dX11_digest_243 rfl hl (by decide) rfl (fun ls hl => ?_)
  refine lv_iinc (v := 4) (lv' := [(3, .int 4), (1, .long 300803581321953967), (0, .ref mo)]) hx hb dX11_digest_244 hl (k := 1) rfl (by decide) (by decide) rfl (fun ls hl => ?_)
  refine lv_goto (tgt := 210) hx hb dX11_digest_247 (by decide) ?_
  refine lv_iload_n hx hb dX11_digest_210 rfl (lv_at hl 0 rfl) ?_
  refine lv_iconst (v := 4) hx hb dX11_digest_211 (by decide) ?_
  refine lv_icmp_ge (tgt := 250) hx hb dX11_digest_212 (by decide) (fun c_212 => ?_) (fun c_212 => absurd (by decide) c_212)
  refine lv_aload_n hx hb dX11_digest_250 rfl (lv_at hl 2 rfl) ?_
  refine lv_lload_n hx hb dX11_digest_251 rfl (lv_at hl 1 rfl) ?_
  refine lv_iconst (v := 5) hx hb dX11_digest_252 (by decide) ?_
  refine lv_iconst (v := 2) hx hb dX11_digest_253 (by decide) ?_
  have hPc := hP.sub (ws' := [(mo, eO 10 [.ref st, .ref mi, .ref mk, .long 0, .long 1, .int 0, .ref m6, .ref m7, .int 0, .ref m9, .ref m10, .int 0, .int 0, .int 1, .int 0, .ref m15, .ref m16, .ref m17, .ref m18, .ref m19, .ref m20, .ref m21, .ref m22, .ref m23, .ref m24]), (st, eI G 2246 st0)]) [0, 1] rfl
  refine rd_calll (va_runV (As := [.long 300803581321953967, .int 5, .int 2]) (rest := []) ⟨hx, hb, hml, hown, hts⟩ (c_mixed_5 l G mo st mi mk m6 m7 m9 m10 m15 m16 m17 m18 m19 m20 m21 m22 m23 m24 300803581321953967 0 1 0 0 0 0 1 0 ) (my_cwV hts ok_X11_mixed w_977 rfl rfl ⟨Nat.le_of_ble_eq_true rfl, Nat.le_of_ble_eq_true rfl⟩) ⟨rP.blind, va_recv hG.1 hPc (ci := 10) (q0 := 0) rfl rfl, fun U hU hW => ⟨rfl, by rw [hU]; exact hPc, kG.warm hW hG⟩⟩ rfl rfl hl.1 rfl (lv_room (Nat.le_of_ble_eq_true rfl)) dX11_digest_254 ⟨Nat.le_of_ble_eq_true rfl, Nat.le_of_ble_eq_true rfl⟩) (fun r hr9 => ?_)
  subst hr9
  refine my_bel (v := (-6075663528955063394)) (by decide +kernel) ?_
  refine lv_lstore_n (lv' := [(1, .long (-6075663528955063394)), (3, .int 4), (0, .ref mo)]) hx hb dX11_digest_257 rfl hl (by decide) rfl (fun ls hl => ?_)
  refine lv_ldc2 (v := 31) hx hb hown (hts (.constantLong RX11 261 (31)) w_976) dX11_digest_258 ?_
  refine lv_ldc2 (v := 31) hx hb hown (hts (.constantLong RX11 261 (31)) w_976) dX11_digest_261 ?_
  refine lv_lload_n hx hb dX11_digest_264 rfl (lv_at hl 0 rfl) ?_
  refine lv_lmul hx hb dX11_digest_265 ?_
  refine my_bel (v := (-3878128660511449054)) (by decide +kernel) ?_
  refine lv_aload_n hx hb dX11_digest_266 rfl (lv_at hl 2 rfl) ?_
  refine va_get (D := G.1) (ci := 10) (v := .long 0) (C := RX11) (T := TX11) (N := 25) hx hb hts inlX11 hown hG.1 hP 0 rfl rfl 3 (by decide) (hts (.fieldLink RX11 238 "SwornListsModel" "above" "J") w_783) (fun _ h9 => h9) rfl dX11_digest_267 ?_
  refine lv_ladd hx hb dX11_digest_270 ?_
  refine my_bel (v := (-3878128660511449054)) (by decide +kernel) ?_
  refine lv_lmul hx hb dX11_digest_271 ?_
  refine my_bel (v := 8905220040111940638) (by decide +kernel) ?_
  refine lv_aload_n hx hb dX11_digest_272 rfl (lv_at hl 2 rfl) ?_
  refine va_get (D := G.1) (ci := 10) (v := .long 1) (C := RX11) (T := TX11) (N := 25) hx hb hts inlX11 hown hG.1 hP 0 rfl rfl 4 (by decide) (hts (.fieldLink RX11 63 "SwornListsModel" "below" "J") w_129) (fun _ h9 => h9) rfl dX11_digest_273 ?_
  refine lv_ladd hx hb dX11_digest_276 ?_
  refine my_bel (v := 8905220040111940639) (by decide +kernel) ?_
  exact W.lret (v := 8905220040111940639) hx hb hr (fun t ht hW => ⟨⟨_, (), rfl, (rfl), trivial⟩, hS.F ht⟩) hS.2.2 dX11_digest_277

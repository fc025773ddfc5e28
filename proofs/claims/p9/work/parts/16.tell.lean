theorem ok_X1_tell : okV yX1_tell cX1_tell 8 (some .long) 3 := ⟨⟨w_431, w_14, ⟨by decide +kernel, by decide +kernel, by decide +kernel⟩⟩, trivial, w_429, w_430⟩
set_option maxHeartbeats 4000000 in
set_option maxRecDepth 100000 in
theorem u_tell (l : Launch) (G : gW) (g : Nat → Nat) (hg : gOK g) (f : Nat → va_E) (se : Nat) (hf : Nat → Option Nat) (pay : Int32) (fine : Int32) (nt : Nat) (ct : Nat → Int32) (np : Nat) (dp : Nat → Int32) (k : Nat) (ln : Nat) (sc : Nat) (sp : Nat → Int32) (vv : Nat → Int64) (n : Int32) (q : Int32) (hctc : f 1 = eO 1 [.ref (g 36), .ref (g 12), .ref (g 13), .ref (g 15), .int (nI se)]) (hhs : f 12 = eA G 4 10 hf) (hbk : f 36 = eO 0 [.ref (g 37), .ref (g 39), .ref (g 41), .ref (g 43), .ref (g 45), .ref (g 47), .ref (g 112), .int pay, .int fine]) (htr : f 45 = eO 5 [.int (nI 10), .int (nI 70), .ref (g 46), .int (nI nt)]) (hct : f 46 = eI G (10 * 70) ct) (hpr : f 37 = eO 5 [.int (nI 30), .int (nI 4), .ref (g 38), .int (nI np)]) (hpd : f 38 = eI G (30 * 4) dp) (htx : f k = eO 7 [.ref (g (k + 1)), .ref (g (k + 2)), .int (nI ln), .int (nI sc)]) (hpx : f (k + 2) = eI G 50 sp) (hvl : f 15 = eJ G 50 vv) (hse : se ≤ 10) (hhf : ∀ i, i < 10 → hf i = some (g (2 * i + 16))) (hH : ∀ i, i < 10 → okH G g f (2 * i + 16)) (hnt : nt ≤ 10) (hnp : np ≤ 30) (hk3 : k + 2 < 333) (hln : ln ≤ 50) (hsc : sc ≤ 50) (hkt : 36 ≤ k) : Met l yX1_tell (wsT yX1_tell cX1_tell 8 (some .long)) ({ frames := 3, cells := 0, slots := 0, locals := 71 }) (bP G g f [.ref (g 1), .ref (g k), .int n, .int q]) (bQl G g (fun (z9 : Int64) (f' : Nat → va_E) => ∃ vv9 : Nat → Int64, f' 15 = eJ G 50 vv9 ∧ ∀ j, j ≠ 15 → f' j = f j)) 0 0 (gA g) := by
  refine Met.ofW (cc := cX1_tell) (maxL := 8) (ret := (some .long)) (by decide) rfl ?_
  intro p e s m args below meth c s₁ B hml hv
  obtain ⟨rfl, hP, hG⟩ := hv
  have hx := B.exec
  have hb := B.bytes
  have hr := B.returns
  have hts := my_hts (atoms_spec (ws := wsT yX1_tell cX1_tell 8 (some .long)) B.pre)
  have hown : s.vm.findClass RX1 = some m.cls := findClass_of_methodNamed B.named
  have hlocks := B.notSynchronized
  have hS : va_S (gA g) s.heap s.heap [] := va_S.rf
  have hl := lv_entry ([.ref (g 1), .ref (g k), .int n, .int q]) (n := 8) (Nat.le_of_ble_eq_true rfl)
  rw [lg_entry_eq]
  generalize (lg_sl ([.ref (g 1), .ref (g k), .int n, .int q]) ++ List.replicate (8 - (lg_sl ([.ref (g 1), .ref (g k), .int n, .int q])).length) Slot.unset).toArray = ls at hl ⊢
  have hl : lv_has ls 8 [(0, .ref (g 1)), (1, .ref (g k)), (2, .int n), (3, .int q)] := hl
  refine lv_iconst (v := 0) hx hb dX1_tell_0 (by decide) ?_
  refine lv_istore (lv' := [(4, .int 0), (0, .ref (g 1)), (1, .ref (g k)), (2, .int n), (3, .int q)]) hx hb dX1_tell_1 hl (by decide) rfl (fun ls hl => ?_)
  refine lv_iconst (v := 0) hx hb dX1_tell_3 (by decide) ?_
  refine lv_istore (lv' := [(5, .int 0), (4, .int 0), (0, .ref (g 1)), (1, .ref (g k)), (2, .int n), (3, .int q)]) hx hb dX1_tell_4 hl (by decide) rfl (fun ls hl => ?_)
  have key1 : ∀ (n9 : Nat) (i : Nat) (tp : Nat) (vv1 : Nat → Int64) (f_1 : Nat → va_E) (H : Heap) (locs : List Loc) (ls : Array Slot), (i ≤ sc) → (tp ≤ 50) → (∀ z, z < 10 → okH G g f_1 (2 * z + 16)) → sc - i < n9 → f_1 1 = eO 1 [.ref (g 36), .ref (g 12), .ref (g 13), .ref (g 15), .int (nI se)] → f_1 12 = eA G 4 10 hf → f_1 36 = eO 0 [.ref (g 37), .ref (g 39), .ref (g 41), .ref (g 43), .ref (g 45), .ref (g 47), .ref (g 112), .int pay, .int fine] → f_1 45 = eO 5 [.int (nI 10), .int (nI 70), .ref (g 46), .int (nI nt)] → f_1 46 = eI G (10 * 70) ct → f_1 37 = eO 5 [.int (nI 30), .int (nI 4), .ref (g 38), .int (nI np)] → f_1 38 = eI G (30 * 4) dp → f_1 k = eO 7 [.ref (g (k + 1)), .ref (g (k + 2)), .int (nI ln), .int (nI sc)] → f_1 (k + 2) = eI G 50 sp → f_1 15 = eJ G 50 vv1 → (∀ j, j ≠ 15 → f_1 j = f j) → va_P G.1 vwCl (wl g f_1) H → va_S (gA g) s.heap H locs → lv_has ls 8 [(0, .ref (g 1)), (1, .ref (g k)), (2, .int n), (3, .int q), (4, .int (nI tp)), (5, .int (nI i))] → W p l e (headSpec (wsT yX1_tell cX1_tell 8 (some .long)) ({ frames := 3, cells := 0, slots := 0, locals := 71 })).room s m ([.ref (g 1), .ref (g k), .int n, .int q] : List Value).toArray below meth c H locs 0 0 (MQ below (bQl G g (fun (z9 : Int64) (f' : Nat → va_E) => ∃ vv9 : Nat → Int64, f' 15 = eJ G 50 vv9 ∧ ∀ j, j ≠ 15 → f' j = f j)) ([.ref (g 1), .ref (g k), .int n, .int q] : List Value).toArray s 0 0 (gA g)) (F0 m 6 ls []) := by
    intro n9
    induction n9 with
    | zero => intro i tp vv1 f_1 H locs ls hi htp hH1 hn9; exact absurd hn9 (Nat.not_lt_zero _)
    | succ n9 ih =>
      intro i tp vv1 f_1 H locs ls hi htp hH1 hn9 hctc hhs hbk htr hct hpr hpd htx hpx hvl o_1 hP hS hl
      refine lv_iload hx hb dX1_tell_6 (lv_at hl 5 rfl) ?_
      refine lv_aload_n hx hb dX1_tell_8 rfl (lv_at hl 1 rfl) ?_
      refine rd_calli (va_runV (As := []) (rest := [.int (nI i)]) ⟨hx, hb, hml, hown, hts⟩ (t_stepCount l G g hg f_1 k ln sc htx (by first | assumption | omega | decide) (by first | assumption | omega | decide) (by first | assumption | omega | decide)) (my_cwV hts ok_X8_stepCount w_432 rfl rfl ⟨Nat.le_of_ble_eq_true rfl, Nat.le_of_ble_eq_true rfl⟩) ⟨bP.blind, va_recv hG.1 hP (ci := 7) (q0 := k) rfl (wl_at (by omega) htx), fun U hU hW => ⟨rfl, by rw [hU]; exact hP, kG.warm hW hG⟩⟩ rfl rfl hl.1 rfl (lv_room (Nat.le_of_ble_eq_true rfl)) dX1_tell_9 ⟨Nat.le_of_ble_eq_true rfl, Nat.le_of_ble_eq_true rfl⟩) (fun r hr9 => ?_)
      subst hr9
      refine lv_icmp_ge (tgt := 171) hx hb dX1_tell_12 (by decide) (fun c_12 => ?_) (fun c_12 => ?_)
      · refine lv_aload_n hx hb dX1_tell_171 rfl (lv_at hl 0 rfl) ?_
        refine va_get (D := G.1) (ci := 1) (v := .ref (g 15)) (C := RX1) (T := TX1) (N := 5) hx hb hts inlX1 hown hG.1 hP 1 (wl_at (by decide) hctc) rfl 3 (by decide) (hts (.fieldLink RX1 29 "SwornLists$Court" "values" "[J") w_47) (fun _ h9 => h9) rfl dX1_tell_172 ?_
        refine lv_iconst (v := 0) hx hb dX1_tell_175 (by decide) ?_
        refine va_lald hx hb hG.1 hP 15 1 (wl_at (by decide) hvl) rfl (by unfold vp_in; decide) dX1_tell_176 ?_
        exact W.lret (v := vv1 (Int32.toNatClampNeg 0)) hx hb hr (fun t ht hW => ⟨⟨_, f_1, rfl, (⟨vv1, hvl, fun j hj => (o_1 j (by omega))⟩), by rw [ht]; exact hP⟩, hS.F ht⟩) hS.2.2 dX1_tell_177
      · have hi9 : i < sc := Nat.not_le.mp (fun z => c_12 (nI_le z (by omega)))
        refine lv_aload_n hx hb dX1_tell_15 rfl (lv_at hl 1 rfl) ?_
        refine lv_iload hx hb dX1_tell_16 (lv_at hl 5 rfl) ?_
        refine rd_calli (va_runV (As := [.int (nI i)]) (rest := []) ⟨hx, hb, hml, hown, hts⟩ (t_stepAt l G g hg f_1 k ln sc sp (nI i) htx hpx (by first | assumption | omega | decide) (by first | assumption | omega | decide) (by first | assumption | omega | decide)) (my_cwV hts ok_X8_stepAt w_436 rfl rfl ⟨Nat.le_of_ble_eq_true rfl, Nat.le_of_ble_eq_true rfl⟩) ⟨bP.blind, va_recv hG.1 hP (ci := 7) (q0 := k) rfl (wl_at (by omega) htx), fun U hU hW => ⟨rfl, by rw [hU]; exact hP, kG.warm hW hG⟩⟩ rfl rfl hl.1 rfl (lv_room (Nat.le_of_ble_eq_true rfl)) dX1_tell_18 ⟨Nat.le_of_ble_eq_true rfl, Nat.le_of_ble_eq_true rfl⟩) (fun r hr9 => ?_)
        subst hr9
        refine lv_istore (lv' := [(6, .int (if inN (nI i) sc = true then sp (Int32.toNatClampNeg (nI i)) else 0)), (0, .ref (g 1)), (1, .ref (g k)), (2, .int n), (3, .int q), (4, .int (nI tp)), (5, .int (nI i))]) hx hb dX1_tell_21 hl (by decide) rfl (fun ls hl => ?_)
        refine lv_iload hx hb dX1_tell_23 (lv_at hl 0 rfl) ?_
        refine lv_if_ge (tgt := 37) hx hb dX1_tell_25 (by decide) (fun c_25 => ?_) (fun c_25 => ?_)
        · refine lv_iconst (v := 0) hx hb dX1_tell_37 (by decide) ?_
          refine lv_istore (lv' := [(7, .int 0), (6, .int (if inN (nI i) sc = true then sp (Int32.toNatClampNeg (nI i)) else 0)), (0, .ref (g 1)), (1, .ref (g k)), (2, .int n), (3, .int q), (4, .int (nI tp)), (5, .int (nI i))]) hx hb dX1_tell_38 hl (by decide) rfl (fun ls hl => ?_)
          refine lv_iload hx hb dX1_tell_40 (lv_at hl 0 rfl) ?_
          refine lv_if_ne (tgt := 85) hx hb dX1_tell_42 (by decide) (fun c_42 => absurd (by decide) c_42) (fun c_42 => ?_)
          refine lv_iload hx hb dX1_tell_45 (lv_at hl 6 rfl) ?_
          refine lv_bipush (v := 50) hx hb dX1_tell_47 (by decide) ?_
          refine lv_icmp_ge (tgt := 85) hx hb dX1_tell_49 (by decide) (fun c_49 => ?_) (fun c_49 => ?_)
          · refine lv_iload hx hb dX1_tell_85 (lv_at hl 0 rfl) ?_
            refine lv_bipush (v := 6) hx hb dX1_tell_87 (by decide) ?_
            refine lv_icmp_ne (tgt := 125) hx hb dX1_tell_89 (by decide) (fun c_89 => ?_) (fun c_89 => absurd c_89 (by decide))
            refine lv_iload hx hb dX1_tell_125 (lv_at hl 6 rfl) ?_
            refine lv_iconst (v := 2) hx hb dX1_tell_127 (by decide) ?_
            refine lv_icmp_lt (tgt := 165) hx hb dX1_tell_128 (by decide) (fun c_128 => ?_) (fun c_128 => ?_)
            · refine lv_iinc (v := nI (i + 1)) (lv' := [(5, .int (nI (i + 1))), (7, .int 0), (6, .int (if inN (nI i) sc = true then sp (Int32.toNatClampNeg (nI i)) else 0)), (0, .ref (g 1)), (1, .ref (g k)), (2, .int n), (3, .int q), (4, .int (nI tp))]) hx hb dX1_tell_165 hl (k := 7) rfl (nI_1 i) (by decide) rfl (fun ls hl => ?_)
              refine lv_goto (tgt := 6) hx hb dX1_tell_168 (by decide) ?_
              exact ih (i + 1) tp vv1 f_1 _ _ _ (hi9) (by omega) (hH1) (by omega) (hctc) (hhs) (hbk) (htr) (hct) (hpr) (hpd) (htx) (hpx) (hvl) (fun j hj => (o_1 j (by omega))) hP hS (lv_sub hl [3, 4, 5, 6, 7, 0] rfl)
            · have ht2 : 2 ≤ tp := Nat.not_lt.mp (fun z => c_128 (nI_lt (b := 2) z (by decide)))
              refine lv_iinc (v := nI (tp - 1)) (lv' := [(4, .int (nI (tp - 1))), (7, .int 0), (6, .int (if inN (nI i) sc = true then sp (Int32.toNatClampNeg (nI i)) else 0)), (0, .ref (g 1)), (1, .ref (g k)), (2, .int n), (3, .int q), (5, .int (nI i))]) hx hb dX1_tell_131 hl (k := 6) rfl (sb_m1 (by omega)) (by decide) rfl (fun ls hl => ?_)
              refine lv_aload_n hx hb dX1_tell_134 rfl (lv_at hl 3 rfl) ?_
              refine va_get (D := G.1) (ci := 1) (v := .ref (g 15)) (C := RX1) (T := TX1) (N := 5) hx hb hts inlX1 hown hG.1 hP 1 (wl_at (by decide) hctc) rfl 3 (by decide) (hts (.fieldLink RX1 29 "SwornLists$Court" "values" "[J") w_47) (fun _ h9 => h9) rfl dX1_tell_135 ?_
              refine lv_iload hx hb dX1_tell_138 (lv_at hl 0 rfl) ?_
              refine lv_iconst (v := 1) hx hb dX1_tell_140 (by decide) ?_
              refine lv_isub hx hb dX1_tell_141 ?_
              refine my_bei (v := nI (tp - 1 - 1)) (pk_sub (b := 1) (by omega)) ?_
              refine lv_iload hx hb dX1_tell_142 (lv_at hl 2 rfl) ?_
              refine lv_ineg hx hb dX1_tell_144 ?_
              refine lv_aload_n hx hb dX1_tell_145 rfl (lv_at hl 3 rfl) ?_
              refine va_get (D := G.1) (ci := 1) (v := .ref (g 15)) (C := RX1) (T := TX1) (N := 5) hx hb hts inlX1 hown hG.1 hP 1 (wl_at (by decide) hctc) rfl 3 (by decide) (hts (.fieldLink RX1 29 "SwornLists$Court" "values" "[J") w_47) (fun _ h9 => h9) rfl dX1_tell_146 ?_
              refine lv_iload hx hb dX1_tell_149 (lv_at hl 0 rfl) ?_
              refine lv_iconst (v := 1) hx hb dX1_tell_151 (by decide) ?_
              refine lv_isub hx hb dX1_tell_152 ?_
              refine my_bei (v := nI (tp - 1 - 1)) (pk_sub (b := 1) (by omega)) ?_
              refine va_lald hx hb hG.1 hP 15 1 (wl_at (by decide) hvl) rfl (vp_in_nI (by omega) (by decide)) dX1_tell_153 ?_
              refine lv_aload_n hx hb dX1_tell_154 rfl (lv_at hl 3 rfl) ?_
              refine va_get (D := G.1) (ci := 1) (v := .ref (g 15)) (C := RX1) (T := TX1) (N := 5) hx hb hts inlX1 hown hG.1 hP 1 (wl_at (by decide) hctc) rfl 3 (by decide) (hts (.fieldLink RX1 29 "SwornLists$Court" "values" "[J") w_47) (fun _ h9 => h9) rfl dX1_tell_155 ?_
              refine lv_iload hx hb dX1_tell_158 (lv_at hl 0 rfl) ?_
              refine va_lald hx hb hG.1 hP 15 1 (wl_at (by decide) hvl) rfl (vp_in_nI (by omega) (by decide)) dX1_tell_160 ?_
              refine rd_calll (va_runS (As := [.int (-(if inN (nI i) sc = true then sp (Int32.toNatClampNeg (nI i)) else 0)), .long (vv1 (Int32.toNatClampNeg (nI (tp - 1 - 1)))), .long (vv1 (Int32.toNatClampNeg (nI (tp - 1))))]) (rest := [.int (nI (tp - 1 - 1)), .ref (g 15)]) ⟨hx, hb, hml, hown, hts⟩ (g_joined l G g hg f_1 (-(if inN (nI i) sc = true then sp (Int32.toNatClampNeg (nI i)) else 0)) (vv1 (Int32.toNatClampNeg (nI (tp - 1 - 1)))) (vv1 (Int32.toNatClampNeg (nI (tp - 1))))  ) (my_cwS hts ok_X7_joined w_461 rfl rfl ⟨Nat.le_of_ble_eq_true rfl, Nat.le_of_ble_eq_true rfl⟩) ⟨bP.blind, fun U hU hW => ⟨rfl, by rw [hU]; exact hP, kG.warm hW hG⟩⟩ rfl rfl hl.1 rfl (lv_room (Nat.le_of_ble_eq_true rfl)) dX1_tell_161 ⟨Nat.le_of_ble_eq_true rfl, Nat.le_of_ble_eq_true rfl⟩) (fun v2 _ => ?_)
              refine va_last hx hb hG.1 hP (wl_D hg f_1) hS 15 1 (wl_at (by decide) hvl) rfl (vp_in_nI (by omega) (by decide)) dX1_tell_164 (fun H locs hP _ hS => ?_)
              obtain ⟨f_2, hP, e_2, o_2⟩ := b_put (by decide) hP
              have hvl : f_2 15 = eJ G 50 (vp_updL vv1 (Int32.toNatClampNeg (nI (tp - 1 - 1))) v2) := e_2
              replace hctc := (o_2 1 (by decide)).trans hctc
              replace hhs := (o_2 12 (by decide)).trans hhs
              replace hbk := (o_2 36 (by decide)).trans hbk
              replace htr := (o_2 45 (by decide)).trans htr
              replace hct := (o_2 46 (by decide)).trans hct
              replace hpr := (o_2 37 (by decide)).trans hpr
              replace hpd := (o_2 38 (by decide)).trans hpd
              replace htx : f_2 k = eO 7 [.ref (g (k + 1)), .ref (g (k + 2)), .int (nI ln), .int (nI sc)] := (o_2 k (by omega)).trans htx
              replace hpx : f_2 (k + 2) = eI G 50 sp := (o_2 (k + 2) (by omega)).trans hpx
              refine lv_iinc (v := nI (i + 1)) (lv' := [(5, .int (nI (i + 1))), (4, .int (nI (tp - 1))), (7, .int 0), (6, .int (if inN (nI i) sc = true then sp (Int32.toNatClampNeg (nI i)) else 0)), (0, .ref (g 1)), (1, .ref (g k)), (2, .int n), (3, .int q)]) hx hb dX1_tell_165 hl (k := 7) rfl (nI_1 i) (by decide) rfl (fun ls hl => ?_)
              refine lv_goto (tgt := 6) hx hb dX1_tell_168 (by decide) ?_
              exact ih (i + 1) (tp - 1) (vp_updL vv1 (Int32.toNatClampNeg (nI (tp - 1 - 1))) v2) f_2 _ _ _ (hi9) (by omega) (fun z hz => okH_fr (hH1 z hz) (o_2 (2 * z + 16) (by omega)) (o_2 (2 * z + 16 + 1) (by omega))) (by omega) (hctc) (hhs) (hbk) (htr) (hct) (hpr) (hpd) (htx) (hpx) (hvl) (fun j hj => ((o_2 j (by omega))).trans (o_1 j (by omega))) hP hS (lv_sub hl [4, 5, 6, 7, 1, 0] rfl)
          · have ht5 : tp < 50 := Nat.not_le.mp (fun z => c_49 (nI_le (a := 50) z (by omega)))
            refine lv_aload_n hx hb dX1_tell_52 rfl (lv_at hl 2 rfl) ?_
            refine va_get (D := G.1) (ci := 1) (v := .ref (g 15)) (C := RX1) (T := TX1) (N := 5) hx hb hts inlX1 hown hG.1 hP 1 (wl_at (by decide) hctc) rfl 3 (by decide) (hts (.fieldLink RX1 29 "SwornLists$Court" "values" "[J") w_47) (fun _ h9 => h9) rfl dX1_tell_53 ?_
            refine lv_iload hx hb dX1_tell_56 (lv_at hl 6 rfl) ?_
            refine lv_iload hx hb dX1_tell_58 (lv_at hl 1 rfl) ?_
            refine lv_if_lt (tgt := 69) hx hb dX1_tell_60 (by decide) (fun c_60 => ?_) (fun c_60 => ?_)
            · refine lv_aload_n hx hb dX1_tell_69 rfl (lv_at hl 2 rfl) ?_
              refine lv_iload hx hb dX1_tell_70 (lv_at hl 1 rfl) ?_
              refine lv_ineg hx hb dX1_tell_72 ?_
              refine lv_iload_n hx hb dX1_tell_73 rfl (lv_at hl 4 rfl) ?_
              refine lv_iload_n hx hb dX1_tell_74 rfl (lv_at hl 5 rfl) ?_
              refine rd_calll (va_runV (As := [.int (-(if inN (nI i) sc = true then sp (Int32.toNatClampNeg (nI i)) else 0)), .int n, .int q]) (rest := [.int (nI tp), .ref (g 15)]) ⟨hx, hb, hml, hown, hts⟩ (u_letter l G g hg f_1 se hf pay fine nt ct np dp (-(if inN (nI i) sc = true then sp (Int32.toNatClampNeg (nI i)) else 0)) n q hctc hhs hbk htr hct hpr hpd (by first | assumption | omega | decide) (by first | assumption | omega | decide) (hH1) (by first | assumption | omega | decide) (by first | assumption | omega | decide)) (my_cwV hts ok_X1_letter w_441 rfl rfl ⟨Nat.le_of_ble_eq_true rfl, Nat.le_of_ble_eq_true rfl⟩) ⟨bP.blind, va_recv hG.1 hP (ci := 1) (q0 := 1) rfl (wl_at (by decide) hctc), fun U hU hW => ⟨rfl, by rw [hU]; exact hP, kG.warm hW hG⟩⟩ rfl rfl hl.1 rfl (lv_room (Nat.le_of_ble_eq_true rfl)) dX1_tell_75 ⟨Nat.le_of_ble_eq_true rfl, Nat.le_of_ble_eq_true rfl⟩) (fun v3 _ => ?_)
              refine va_last hx hb hG.1 hP (wl_D hg f_1) hS 15 1 (wl_at (by decide) hvl) rfl (vp_in_nI (by omega) (by decide)) dX1_tell_78 (fun H locs hP _ hS => ?_)
              obtain ⟨f_3, hP, e_3, o_3⟩ := b_put (by decide) hP
              have hvl : f_3 15 = eJ G 50 (vp_updL vv1 (Int32.toNatClampNeg (nI tp)) v3) := e_3
              replace hctc := (o_3 1 (by decide)).trans hctc
              replace hhs := (o_3 12 (by decide)).trans hhs
              replace hbk := (o_3 36 (by decide)).trans hbk
              replace htr := (o_3 45 (by decide)).trans htr
              replace hct := (o_3 46 (by decide)).trans hct
              replace hpr := (o_3 37 (by decide)).trans hpr
              replace hpd := (o_3 38 (by decide)).trans hpd
              replace htx : f_3 k = eO 7 [.ref (g (k + 1)), .ref (g (k + 2)), .int (nI ln), .int (nI sc)] := (o_3 k (by omega)).trans htx
              replace hpx : f_3 (k + 2) = eI G 50 sp := (o_3 (k + 2) (by omega)).trans hpx
              refine lv_iinc (v := nI (tp + 1)) (lv' := [(4, .int (nI (tp + 1))), (7, .int 0), (6, .int (if inN (nI i) sc = true then sp (Int32.toNatClampNeg (nI i)) else 0)), (0, .ref (g 1)), (1, .ref (g k)), (2, .int n), (3, .int q), (5, .int (nI i))]) hx hb dX1_tell_79 hl (k := 6) rfl (nI_1 tp) (by decide) rfl (fun ls hl => ?_)
              refine lv_goto (tgt := 165) hx hb dX1_tell_82 (by decide) ?_
              refine lv_iinc (v := nI (i + 1)) (lv' := [(5, .int (nI (i + 1))), (4, .int (nI (tp + 1))), (7, .int 0), (6, .int (if inN (nI i) sc = true then sp (Int32.toNatClampNeg (nI i)) else 0)), (0, .ref (g 1)), (1, .ref (g k)), (2, .int n), (3, .int q)]) hx hb dX1_tell_165 hl (k := 7) rfl (nI_1 i) (by decide) rfl (fun ls hl => ?_)
              refine lv_goto (tgt := 6) hx hb dX1_tell_168 (by decide) ?_
              exact ih (i + 1) (tp + 1) (vp_updL vv1 (Int32.toNatClampNeg (nI tp)) v3) f_3 _ _ _ (hi9) (by omega) (fun z hz => okH_fr (hH1 z hz) (o_3 (2 * z + 16) (by omega)) (o_3 (2 * z + 16 + 1) (by omega))) (by omega) (hctc) (hhs) (hbk) (htr) (hct) (hpr) (hpd) (htx) (hpx) (hvl) (fun j hj => ((o_3 j (by omega))).trans (o_1 j (by omega))) hP hS (lv_sub hl [4, 5, 6, 7, 1, 0] rfl)
            · refine lv_iload hx hb dX1_tell_63 (lv_at hl 1 rfl) ?_
              refine lv_i2l hx hb dX1_tell_65 rfl ?_
              refine lv_goto (tgt := 78) hx hb dX1_tell_66 (by decide) ?_
              refine va_last hx hb hG.1 hP (wl_D hg f_1) hS 15 1 (wl_at (by decide) hvl) rfl (vp_in_nI (by omega) (by decide)) dX1_tell_78 (fun H locs hP _ hS => ?_)
              obtain ⟨f_4, hP, e_4, o_4⟩ := b_put (by decide) hP
              have hvl : f_4 15 = eJ G 50 (vp_updL vv1 (Int32.toNatClampNeg (nI tp)) (Int32.toInt64 (if inN (nI i) sc = true then sp (Int32.toNatClampNeg (nI i)) else 0))) := e_4
              replace hctc := (o_4 1 (by decide)).trans hctc
              replace hhs := (o_4 12 (by decide)).trans hhs
              replace hbk := (o_4 36 (by decide)).trans hbk
              replace htr := (o_4 45 (by decide)).trans htr
              replace hct := (o_4 46 (by decide)).trans hct
              replace hpr := (o_4 37 (by decide)).trans hpr
              replace hpd := (o_4 38 (by decide)).trans hpd
              replace htx : f_4 k = eO 7 [.ref (g (k + 1)), .ref (g (k + 2)), .int (nI ln), .int (nI sc)] := (o_4 k (by omega)).trans htx
              replace hpx : f_4 (k + 2) = eI G 50 sp := (o_4 (k + 2) (by omega)).trans hpx
              refine lv_iinc (v := nI (tp + 1)) (lv' := [(4, .int (nI (tp + 1))), (7, .int 0), (6, .int (if inN (nI i) sc = true then sp (Int32.toNatClampNeg (nI i)) else 0)), (0, .ref (g 1)), (1, .ref (g k)), (2, .int n), (3, .int q), (5, .int (nI i))]) hx hb dX1_tell_79 hl (k := 6) rfl (nI_1 tp) (by decide) rfl (fun ls hl => ?_)
              refine lv_goto (tgt := 165) hx hb dX1_tell_82 (by decide) ?_
              refine lv_iinc (v := nI (i + 1)) (lv' := [(5, .int (nI (i + 1))), (4, .int (nI (tp + 1))), (7, .int 0), (6, .int (if inN (nI i) sc = true then sp (Int32.toNatClampNeg (nI i)) else 0)), (0, .ref (g 1)), (1, .ref (g k)), (2, .int n), (3, .int q)]) hx hb dX1_tell_165 hl (k := 7) rfl (nI_1 i) (by decide) rfl (fun ls hl => ?_)
              refine lv_goto (tgt := 6) hx hb dX1_tell_168 (by decide) ?_
              exact ih (i + 1) (tp + 1) (vp_updL vv1 (Int32.toNatClampNeg (nI tp)) (Int32.toInt64 (if inN (nI i) sc = true then sp (Int32.toNatClampNeg (nI i)) else 0))) f_4 _ _ _ (hi9) (by omega) (fun z hz => okH_fr (hH1 z hz) (o_4 (2 * z + 16) (by omega)) (o_4 (2 * z + 16 + 1) (by omega))) (by omega) (hctc) (hhs) (hbk) (htr) (hct) (hpr) (hpd) (htx) (hpx) (hvl) (fun j hj => ((o_4 j (by omega))).trans (o_1 j (by omega))) hP hS (lv_sub hl [4, 5, 6, 7, 1, 0] rfl)
        · refine lv_iload hx hb dX1_tell_28 (lv_at hl 0 rfl) ?_
          refine lv_ineg hx hb dX1_tell_30 ?_
          refine rd_calli (va_runS (As := [.int (-(if inN (nI i) sc = true then sp (Int32.toNatClampNeg (nI i)) else 0))]) (rest := []) ⟨hx, hb, hml, hown, hts⟩ (g_rank l G g hg f_1 (-(if inN (nI i) sc = true then sp (Int32.toNatClampNeg (nI i)) else 0))  ) (my_cwS hts ok_X7_rank w_440 rfl rfl ⟨Nat.le_of_ble_eq_true rfl, Nat.le_of_ble_eq_true rfl⟩) ⟨bP.blind, fun U hU hW => ⟨rfl, by rw [hU]; exact hP, kG.warm hW hG⟩⟩ rfl rfl hl.1 rfl (lv_room (Nat.le_of_ble_eq_true rfl)) dX1_tell_31 ⟨Nat.le_of_ble_eq_true rfl, Nat.le_of_ble_eq_true rfl⟩) (fun v4 _ => ?_)
          refine lv_goto (tgt := 38) hx hb dX1_tell_34 (by decide) ?_
          refine lv_istore (lv' := [(7, .int v4), (6, .int (if inN (nI i) sc = true then sp (Int32.toNatClampNeg (nI i)) else 0)), (0, .ref (g 1)), (1, .ref (g k)), (2, .int n), (3, .int q), (4, .int (nI tp)), (5, .int (nI i))]) hx hb dX1_tell_38 hl (by decide) rfl (fun ls hl => ?_)
          refine lv_iload hx hb dX1_tell_40 (lv_at hl 0 rfl) ?_
          refine lv_if_ne (tgt := 85) hx hb dX1_tell_42 (by decide) (fun c_42 => ?_) (fun c_42 => ?_)
          · refine lv_iload hx hb dX1_tell_85 (lv_at hl 0 rfl) ?_
            refine lv_bipush (v := 6) hx hb dX1_tell_87 (by decide) ?_
            refine lv_icmp_ne (tgt := 125) hx hb dX1_tell_89 (by decide) (fun c_89 => ?_) (fun c_89 => ?_)
            · refine lv_iload hx hb dX1_tell_125 (lv_at hl 6 rfl) ?_
              refine lv_iconst (v := 2) hx hb dX1_tell_127 (by decide) ?_
              refine lv_icmp_lt (tgt := 165) hx hb dX1_tell_128 (by decide) (fun c_128 => ?_) (fun c_128 => ?_)
              · refine lv_iinc (v := nI (i + 1)) (lv' := [(5, .int (nI (i + 1))), (7, .int v4), (6, .int (if inN (nI i) sc = true then sp (Int32.toNatClampNeg (nI i)) else 0)), (0, .ref (g 1)), (1, .ref (g k)), (2, .int n), (3, .int q), (4, .int (nI tp))]) hx hb dX1_tell_165 hl (k := 7) rfl (nI_1 i) (by decide) rfl (fun ls hl => ?_)
                refine lv_goto (tgt := 6) hx hb dX1_tell_168 (by decide) ?_
                exact ih (i + 1) tp vv1 f_1 _ _ _ (hi9) (by omega) (hH1) (by omega) (hctc) (hhs) (hbk) (htr) (hct) (hpr) (hpd) (htx) (hpx) (hvl) (fun j hj => (o_1 j (by omega))) hP hS (lv_sub hl [3, 4, 5, 6, 7, 0] rfl)
              · have ht2 : 2 ≤ tp := Nat.not_lt.mp (fun z => c_128 (nI_lt (b := 2) z (by decide)))
                refine lv_iinc (v := nI (tp - 1)) (lv' := [(4, .int (nI (tp - 1))), (7, .int v4), (6, .int (if inN (nI i) sc = true then sp (Int32.toNatClampNeg (nI i)) else 0)), (0, .ref (g 1)), (1, .ref (g k)), (2, .int n), (3, .int q), (5, .int (nI i))]) hx hb dX1_tell_131 hl (k := 6) rfl (sb_m1 (by omega)) (by decide) rfl (fun ls hl => ?_)
                refine lv_aload_n hx hb dX1_tell_134 rfl (lv_at hl 3 rfl) ?_
                refine va_get (D := G.1) (ci := 1) (v := .ref (g 15)) (C := RX1) (T := TX1) (N := 5) hx hb hts inlX1 hown hG.1 hP 1 (wl_at (by decide) hctc) rfl 3 (by decide) (hts (.fieldLink RX1 29 "SwornLists$Court" "values" "[J") w_47) (fun _ h9 => h9) rfl dX1_tell_135 ?_
                refine lv_iload hx hb dX1_tell_138 (lv_at hl 0 rfl) ?_
                refine lv_iconst (v := 1) hx hb dX1_tell_140 (by decide) ?_
                refine lv_isub hx hb dX1_tell_141 ?_
                refine my_bei (v := nI (tp - 1 - 1)) (pk_sub (b := 1) (by omega)) ?_
                refine lv_iload hx hb dX1_tell_142 (lv_at hl 2 rfl) ?_
                refine lv_ineg hx hb dX1_tell_144 ?_
                refine lv_aload_n hx hb dX1_tell_145 rfl (lv_at hl 3 rfl) ?_
                refine va_get (D := G.1) (ci := 1) (v := .ref (g 15)) (C := RX1) (T := TX1) (N := 5) hx hb hts inlX1 hown hG.1 hP 1 (wl_at (by decide) hctc) rfl 3 (by decide) (hts (.fieldLink RX1 29 "SwornLists$Court" "values" "[J") w_47) (fun _ h9 => h9) rfl dX1_tell_146 ?_
                refine lv_iload hx hb dX1_tell_149 (lv_at hl 0 rfl) ?_
                refine lv_iconst (v := 1) hx hb dX1_tell_151 (by decide) ?_
                refine lv_isub hx hb dX1_tell_152 ?_
                refine my_bei (v := nI (tp - 1 - 1)) (pk_sub (b := 1) (by omega)) ?_
                refine va_lald hx hb hG.1 hP 15 1 (wl_at (by decide) hvl) rfl (vp_in_nI (by omega) (by decide)) dX1_tell_153 ?_
                refine lv_aload_n hx hb dX1_tell_154 rfl (lv_at hl 3 rfl) ?_
                refine va_get (D := G.1) (ci := 1) (v := .ref (g 15)) (C := RX1) (T := TX1) (N := 5) hx hb hts inlX1 hown hG.1 hP 1 (wl_at (by decide) hctc) rfl 3 (by decide) (hts (.fieldLink RX1 29 "SwornLists$Court" "values" "[J") w_47) (fun _ h9 => h9) rfl dX1_tell_155 ?_
                refine lv_iload hx hb dX1_tell_158 (lv_at hl 0 rfl) ?_
                refine va_lald hx hb hG.1 hP 15 1 (wl_at (by decide) hvl) rfl (vp_in_nI (by omega) (by decide)) dX1_tell_160 ?_
                refine rd_calll (va_runS (As := [.int (-(if inN (nI i) sc = true then sp (Int32.toNatClampNeg (nI i)) else 0)), .long (vv1 (Int32.toNatClampNeg (nI (tp - 1 - 1)))), .long (vv1 (Int32.toNatClampNeg (nI (tp - 1))))]) (rest := [.int (nI (tp - 1 - 1)), .ref (g 15)]) ⟨hx, hb, hml, hown, hts⟩ (g_joined l G g hg f_1 (-(if inN (nI i) sc = true then sp (Int32.toNatClampNeg (nI i)) else 0)) (vv1 (Int32.toNatClampNeg (nI (tp - 1 - 1)))) (vv1 (Int32.toNatClampNeg (nI (tp - 1))))  ) (my_cwS hts ok_X7_joined w_461 rfl rfl ⟨Nat.le_of_ble_eq_true rfl, Nat.le_of_ble_eq_true rfl⟩) ⟨bP.blind, fun U hU hW => ⟨rfl, by rw [hU]; exact hP, kG.warm hW hG⟩⟩ rfl rfl hl.1 rfl (lv_room (Nat.le_of_ble_eq_true rfl)) dX1_tell_161 ⟨Nat.le_of_ble_eq_true rfl, Nat.le_of_ble_eq_true rfl⟩) (fun v5 _ => ?_)
                refine va_last hx hb hG.1 hP (wl_D hg f_1) hS 15 1 (wl_at (by decide) hvl) rfl (vp_in_nI (by omega) (by decide)) dX1_tell_164 (fun H locs hP _ hS => ?_)
                obtain ⟨f_5, hP, e_5, o_5⟩ := b_put (by decide) hP
                have hvl : f_5 15 = eJ G 50 (vp_updL vv1 (Int32.toNatClampNeg (nI (tp - 1 - 1))) v5) := e_5
                replace hctc := (o_5 1 (by decide)).trans hctc
                replace hhs := (o_5 12 (by decide)).trans hhs
                replace hbk := (o_5 36 (by decide)).trans hbk
                replace htr := (o_5 45 (by decide)).trans htr
                replace hct := (o_5 46 (by decide)).trans hct
                replace hpr := (o_5 37 (by decide)).trans hpr
                replace hpd := (o_5 38 (by decide)).trans hpd
                replace htx : f_5 k = eO 7 [.ref (g (k + 1)), .ref (g (k + 2)), .int (nI ln), .int (nI sc)] := (o_5 k (by omega)).trans htx
                replace hpx : f_5 (k + 2) = eI G 50 sp := (o_5 (k + 2) (by omega)).trans hpx
                refine lv_iinc (v := nI (i + 1)) (lv' := [(5, .int (nI (i + 1))), (4, .int (nI (tp - 1))), (7, .int v4), (6, .int (if inN (nI i) sc = true then sp (Int32.toNatClampNeg (nI i)) else 0)), (0, .ref (g 1)), (1, .ref (g k)), (2, .int n), (3, .int q)]) hx hb dX1_tell_165 hl (k := 7) rfl (nI_1 i) (by decide) rfl (fun ls hl => ?_)
                refine lv_goto (tgt := 6) hx hb dX1_tell_168 (by decide) ?_
                exact ih (i + 1) (tp - 1) (vp_updL vv1 (Int32.toNatClampNeg (nI (tp - 1 - 1))) v5) f_5 _ _ _ (hi9) (by omega) (fun z hz => okH_fr (hH1 z hz) (o_5 (2 * z + 16) (by omega)) (o_5 (2 * z + 16 + 1) (by omega))) (by omega) (hctc) (hhs) (hbk) (htr) (hct) (hpr) (hpd) (htx) (hpx) (hvl) (fun j hj => ((o_5 j (by omega))).trans (o_1 j (by omega))) hP hS (lv_sub hl [4, 5, 6, 7, 1, 0] rfl)
            · refine lv_iload hx hb dX1_tell_92 (lv_at hl 6 rfl) ?_
              refine lv_iconst (v := 1) hx hb dX1_tell_94 (by decide) ?_
              refine lv_icmp_lt (tgt := 125) hx hb dX1_tell_95 (by decide) (fun c_95 => ?_) (fun c_95 => ?_)
              · refine lv_iload hx hb dX1_tell_125 (lv_at hl 6 rfl) ?_
                refine lv_iconst (v := 2) hx hb dX1_tell_127 (by decide) ?_
                refine lv_icmp_lt (tgt := 165) hx hb dX1_tell_128 (by decide) (fun c_128 => ?_) (fun c_128 => ?_)
                · refine lv_iinc (v := nI (i + 1)) (lv' := [(5, .int (nI (i + 1))), (7, .int v4), (6, .int (if inN (nI i) sc = true then sp (Int32.toNatClampNeg (nI i)) else 0)), (0, .ref (g 1)), (1, .ref (g k)), (2, .int n), (3, .int q), (4, .int (nI tp))]) hx hb dX1_tell_165 hl (k := 7) rfl (nI_1 i) (by decide) rfl (fun ls hl => ?_)
                  refine lv_goto (tgt := 6) hx hb dX1_tell_168 (by decide) ?_
                  exact ih (i + 1) tp vv1 f_1 _ _ _ (hi9) (by omega) (hH1) (by omega) (hctc) (hhs) (hbk) (htr) (hct) (hpr) (hpd) (htx) (hpx) (hvl) (fun j hj => (o_1 j (by omega))) hP hS (lv_sub hl [3, 4, 5, 6, 7, 0] rfl)
                · have ht2 : 2 ≤ tp := Nat.not_lt.mp (fun z => c_128 (nI_lt (b := 2) z (by decide)))
                  refine lv_iinc (v := nI (tp - 1)) (lv' := [(4, .int (nI (tp - 1))), (7, .int v4), (6, .int (if inN (nI i) sc = true then sp (Int32.toNatClampNeg (nI i)) else 0)), (0, .ref (g 1)), (1, .ref (g k)), (2, .int n), (3, .int q), (5, .int (nI i))]) hx hb dX1_tell_131 hl (k := 6) rfl (sb_m1 (by omega)) (by decide) rfl (fun ls hl => ?_)
                  refine lv_aload_n hx hb dX1_tell_134 rfl (lv_at hl 3 rfl) ?_
                  refine va_get (D := G.1) (ci := 1) (v := .ref (g 15)) (C := RX1) (T := TX1) (N := 5) hx hb hts inlX1 hown hG.1 hP 1 (wl_at (by decide) hctc) rfl 3 (by decide) (hts (.fieldLink RX1 29 "SwornLists$Court" "values" "[J") w_47) (fun _ h9 => h9) rfl dX1_tell_135 ?_
                  refine lv_iload hx hb dX1_tell_138 (lv_at hl 0 rfl) ?_
                  refine lv_iconst (v := 1) hx hb dX1_tell_140 (by decide) ?_
                  refine lv_isub hx hb dX1_tell_141 ?_
                  refine my_bei (v := nI (tp - 1 - 1)) (pk_sub (b := 1) (by omega)) ?_
                  refine lv_iload hx hb dX1_tell_142 (lv_at hl 2 rfl) ?_
                  refine lv_ineg hx hb dX1_tell_144 ?_
                  refine lv_aload_n hx hb dX1_tell_145 rfl (lv_at hl 3 rfl) ?_
                  refine va_get (D := G.1) (ci := 1) (v := .ref (g 15)) (C := RX1) (T := TX1) (N := 5) hx hb hts inlX1 hown hG.1 hP 1 (wl_at (by decide) hctc) rfl 3 (by decide) (hts (.fieldLink RX1 29 "SwornLists$Court" "values" "[J") w_47) (fun _ h9 => h9) rfl dX1_tell_146 ?_
                  refine lv_iload hx hb dX1_tell_149 (lv_at hl 0 rfl) ?_
                  refine lv_iconst (v := 1) hx hb dX1_tell_151 (by decide) ?_
                  refine lv_isub hx hb dX1_tell_152 ?_
                  refine my_bei (v := nI (tp - 1 - 1)) (pk_sub (b := 1) (by omega)) ?_
                  refine va_lald hx hb hG.1 hP 15 1 (wl_at (by decide) hvl) rfl (vp_in_nI (by omega) (by decide)) dX1_tell_153 ?_
                  refine lv_aload_n hx hb dX1_tell_154 rfl (lv_at hl 3 rfl) ?_
                  refine va_get (D := G.1) (ci := 1) (v := .ref (g 15)) (C := RX1) (T := TX1) (N := 5) hx hb hts inlX1 hown hG.1 hP 1 (wl_at (by decide) hctc) rfl 3 (by decide) (hts (.fieldLink RX1 29 "SwornLists$Court" "values" "[J") w_47) (fun _ h9 => h9) rfl dX1_tell_155 ?_
                  refine lv_iload hx hb dX1_tell_158 (lv_at hl 0 rfl) ?_
                  refine va_lald hx hb hG.1 hP 15 1 (wl_at (by decide) hvl) rfl (vp_in_nI (by omega) (by decide)) dX1_tell_160 ?_
                  refine rd_calll (va_runS (As := [.int (-(if inN (nI i) sc = true then sp (Int32.toNatClampNeg (nI i)) else 0)), .long (vv1 (Int32.toNatClampNeg (nI (tp - 1 - 1)))), .long (vv1 (Int32.toNatClampNeg (nI (tp - 1))))]) (rest := [.int (nI (tp - 1 - 1)), .ref (g 15)]) ⟨hx, hb, hml, hown, hts⟩ (g_joined l G g hg f_1 (-(if inN (nI i) sc = true then sp (Int32.toNatClampNeg (nI i)) else 0)) (vv1 (Int32.toNatClampNeg (nI (tp - 1 - 1)))) (vv1 (Int32.toNatClampNeg (nI (tp - 1))))  ) (my_cwS hts ok_X7_joined w_461 rfl rfl ⟨Nat.le_of_ble_eq_true rfl, Nat.le_of_ble_eq_true rfl⟩) ⟨bP.blind, fun U hU hW => ⟨rfl, by rw [hU]; exact hP, kG.warm hW hG⟩⟩ rfl rfl hl.1 rfl (lv_room (Nat.le_of_ble_eq_true rfl)) dX1_tell_161 ⟨Nat.le_of_ble_eq_true rfl, Nat.le_of_ble_eq_true rfl⟩) (fun v6 _ => ?_)
                  refine va_last hx hb hG.1 hP (wl_D hg f_1) hS 15 1 (wl_at (by decide) hvl) rfl (vp_in_nI (by omega) (by decide)) dX1_tell_164 (fun H locs hP _ hS => ?_)
                  obtain ⟨f_6, hP, e_6, o_6⟩ := b_put (by decide) hP
                  have hvl : f_6 15 = eJ G 50 (vp_updL vv1 (Int32.toNatClampNeg (nI (tp - 1 - 1))) v6) := e_6
                  replace hctc := (o_6 1 (by decide)).trans hctc
                  replace hhs := (o_6 12 (by decide)).trans hhs
                  replace hbk := (o_6 36 (by decide)).trans hbk
                  replace htr := (o_6 45 (by decide)).trans htr
                  replace hct := (o_6 46 (by decide)).trans hct
                  replace hpr := (o_6 37 (by decide)).trans hpr
                  replace hpd := (o_6 38 (by decide)).trans hpd
                  replace htx : f_6 k = eO 7 [.ref (g (k + 1)), .ref (g (k + 2)), .int (nI ln), .int (nI sc)] := (o_6 k (by omega)).trans htx
                  replace hpx : f_6 (k + 2) = eI G 50 sp := (o_6 (k + 2) (by omega)).trans hpx
                  refine lv_iinc (v := nI (i + 1)) (lv' := [(5, .int (nI (i + 1))), (4, .int (nI (tp - 1))), (7, .int v4), (6, .int (if inN (nI i) sc = true then sp (Int32.toNatClampNeg (nI i)) else 0)), (0, .ref (g 1)), (1, .ref (g k)), (2, .int n), (3, .int q)]) hx hb dX1_tell_165 hl (k := 7) rfl (nI_1 i) (by decide) rfl (fun ls hl => ?_)
                  refine lv_goto (tgt := 6) hx hb dX1_tell_168 (by decide) ?_
                  exact ih (i + 1) (tp - 1) (vp_updL vv1 (Int32.toNatClampNeg (nI (tp - 1 - 1))) v6) f_6 _ _ _ (hi9) (by omega) (fun z hz => okH_fr (hH1 z hz) (o_6 (2 * z + 16) (by omega)) (o_6 (2 * z + 16 + 1) (by omega))) (by omega) (hctc) (hhs) (hbk) (htr) (hct) (hpr) (hpd) (htx) (hpx) (hvl) (fun j hj => ((o_6 j (by omega))).trans (o_1 j (by omega))) hP hS (lv_sub hl [4, 5, 6, 7, 1, 0] rfl)
              · have ht1 : 1 ≤ tp := Nat.not_lt.mp (fun z => c_95 (nI_lt (b := 1) z (by decide)))
                refine lv_aload_n hx hb dX1_tell_98 rfl (lv_at hl 2 rfl) ?_
                refine va_get (D := G.1) (ci := 1) (v := .ref (g 15)) (C := RX1) (T := TX1) (N := 5) hx hb hts inlX1 hown hG.1 hP 1 (wl_at (by decide) hctc) rfl 3 (by decide) (hts (.fieldLink RX1 29 "SwornLists$Court" "values" "[J") w_47) (fun _ h9 => h9) rfl dX1_tell_99 ?_
                refine lv_iload hx hb dX1_tell_102 (lv_at hl 6 rfl) ?_
                refine lv_iconst (v := 1) hx hb dX1_tell_104 (by decide) ?_
                refine lv_isub hx hb dX1_tell_105 ?_
                refine my_bei (v := nI (tp - 1)) (pk_sub (b := 1) ht1) ?_
                refine lv_iload hx hb dX1_tell_106 (lv_at hl 1 rfl) ?_
                refine lv_ineg hx hb dX1_tell_108 ?_
                refine lv_aload_n hx hb dX1_tell_109 rfl (lv_at hl 2 rfl) ?_
                refine va_get (D := G.1) (ci := 1) (v := .ref (g 15)) (C := RX1) (T := TX1) (N := 5) hx hb hts inlX1 hown hG.1 hP 1 (wl_at (by decide) hctc) rfl 3 (by decide) (hts (.fieldLink RX1 29 "SwornLists$Court" "values" "[J") w_47) (fun _ h9 => h9) rfl dX1_tell_110 ?_
                refine lv_iload hx hb dX1_tell_113 (lv_at hl 6 rfl) ?_
                refine lv_iconst (v := 1) hx hb dX1_tell_115 (by decide) ?_
                refine lv_isub hx hb dX1_tell_116 ?_
                refine my_bei (v := nI (tp - 1)) (pk_sub (b := 1) ht1) ?_
                refine va_lald hx hb hG.1 hP 15 1 (wl_at (by decide) hvl) rfl (vp_in_nI (by omega) (by decide)) dX1_tell_117 ?_
                refine rd_calll (va_runS (As := [.int (-(if inN (nI i) sc = true then sp (Int32.toNatClampNeg (nI i)) else 0)), .long (vv1 (Int32.toNatClampNeg (nI (tp - 1))))]) (rest := [.int (nI (tp - 1)), .ref (g 15)]) ⟨hx, hb, hml, hown, hts⟩ (g_turned l G g hg f_1 (-(if inN (nI i) sc = true then sp (Int32.toNatClampNeg (nI i)) else 0)) (vv1 (Int32.toNatClampNeg (nI (tp - 1))))  ) (my_cwS hts ok_X7_turned w_455 rfl rfl ⟨Nat.le_of_ble_eq_true rfl, Nat.le_of_ble_eq_true rfl⟩) ⟨bP.blind, fun U hU hW => ⟨rfl, by rw [hU]; exact hP, kG.warm hW hG⟩⟩ rfl rfl hl.1 rfl (lv_room (Nat.le_of_ble_eq_true rfl)) dX1_tell_118 ⟨Nat.le_of_ble_eq_true rfl, Nat.le_of_ble_eq_true rfl⟩) (fun v7 _ => ?_)
                refine va_last hx hb hG.1 hP (wl_D hg f_1) hS 15 1 (wl_at (by decide) hvl) rfl (vp_in_nI (by omega) (by decide)) dX1_tell_121 (fun H locs hP _ hS => ?_)
                obtain ⟨f_7, hP, e_7, o_7⟩ := b_put (by decide) hP
                have hvl : f_7 15 = eJ G 50 (vp_updL vv1 (Int32.toNatClampNeg (nI (tp - 1))) v7) := e_7
                replace hctc := (o_7 1 (by decide)).trans hctc
                replace hhs := (o_7 12 (by decide)).trans hhs
                replace hbk := (o_7 36 (by decide)).trans hbk
                replace htr := (o_7 45 (by decide)).trans htr
                replace hct := (o_7 46 (by decide)).trans hct
                replace hpr := (o_7 37 (by decide)).trans hpr
                replace hpd := (o_7 38 (by decide)).trans hpd
                replace htx : f_7 k = eO 7 [.ref (g (k + 1)), .ref (g (k + 2)), .int (nI ln), .int (nI sc)] := (o_7 k (by omega)).trans htx
                replace hpx : f_7 (k + 2) = eI G 50 sp := (o_7 (k + 2) (by omega)).trans hpx
                refine lv_goto (tgt := 165) hx hb dX1_tell_122 (by decide) ?_
                refine lv_iinc (v := nI (i + 1)) (lv' := [(5, .int (nI (i + 1))), (7, .int v4), (6, .int (if inN (nI i) sc = true then sp (Int32.toNatClampNeg (nI i)) else 0)), (0, .ref (g 1)), (1, .ref (g k)), (2, .int n), (3, .int q), (4, .int (nI tp))]) hx hb dX1_tell_165 hl (k := 7) rfl (nI_1 i) (by decide) rfl (fun ls hl => ?_)
                refine lv_goto (tgt := 6) hx hb dX1_tell_168 (by decide) ?_
                exact ih (i + 1) tp (vp_updL vv1 (Int32.toNatClampNeg (nI (tp - 1))) v7) f_7 _ _ _ (hi9) (by omega) (fun z hz => okH_fr (hH1 z hz) (o_7 (2 * z + 16) (by omega)) (o_7 (2 * z + 16 + 1) (by omega))) (by omega) (hctc) (hhs) (hbk) (htr) (hct) (hpr) (hpd) (htx) (hpx) (hvl) (fun j hj => ((o_7 j (by omega))).trans (o_1 j (by omega))) hP hS (lv_sub hl [3, 4, 5, 6, 7, 0] rfl)
          · refine lv_iload hx hb dX1_tell_45 (lv_at hl 6 rfl) ?_
            refine lv_bipush (v := 50) hx hb dX1_tell_47 (by decide) ?_
            refine lv_icmp_ge (tgt := 85) hx hb dX1_tell_49 (by decide) (fun c_49 => ?_) (fun c_49 => ?_)
            · refine lv_iload hx hb dX1_tell_85 (lv_at hl 0 rfl) ?_
              refine lv_bipush (v := 6) hx hb dX1_tell_87 (by decide) ?_
              refine lv_icmp_ne (tgt := 125) hx hb dX1_tell_89 (by decide) (fun c_89 => ?_) (fun c_89 => ?_)
              · refine lv_iload hx hb dX1_tell_125 (lv_at hl 6 rfl) ?_
                refine lv_iconst (v := 2) hx hb dX1_tell_127 (by decide) ?_
                refine lv_icmp_lt (tgt := 165) hx hb dX1_tell_128 (by decide) (fun c_128 => ?_) (fun c_128 => ?_)
                · refine lv_iinc (v := nI (i + 1)) (lv' := [(5, .int (nI (i + 1))), (7, .int v4), (6, .int (if inN (nI i) sc = true then sp (Int32.toNatClampNeg (nI i)) else 0)), (0, .ref (g 1)), (1, .ref (g k)), (2, .int n), (3, .int q), (4, .int (nI tp))]) hx hb dX1_tell_165 hl (k := 7) rfl (nI_1 i) (by decide) rfl (fun ls hl => ?_)
                  refine lv_goto (tgt := 6) hx hb dX1_tell_168 (by decide) ?_
                  exact ih (i + 1) tp vv1 f_1 _ _ _ (hi9) (by omega) (hH1) (by omega) (hctc) (hhs) (hbk) (htr) (hct) (hpr) (hpd) (htx) (hpx) (hvl) (fun j hj => (o_1 j (by omega))) hP hS (lv_sub hl [3, 4, 5, 6, 7, 0] rfl)
                · have ht2 : 2 ≤ tp := Nat.not_lt.mp (fun z => c_128 (nI_lt (b := 2) z (by decide)))
                  refine lv_iinc (v := nI (tp - 1)) (lv' := [(4, .int (nI (tp - 1))), (7, .int v4), (6, .int (if inN (nI i) sc = true then sp (Int32.toNatClampNeg (nI i)) else 0)), (0, .ref (g 1)), (1, .ref (g k)), (2, .int n), (3, .int q), (5, .int (nI i))]) hx hb dX1_tell_131 hl (k := 6) rfl (sb_m1 (by omega)) (by decide) rfl (fun ls hl => ?_)
                  refine lv_aload_n hx hb dX1_tell_134 rfl (lv_at hl 3 rfl) ?_
                  refine va_get (D := G.1) (ci := 1) (v := .ref (g 15)) (C := RX1) (T := TX1) (N := 5) hx hb hts inlX1 hown hG.1 hP 1 (wl_at (by decide) hctc) rfl 3 (by decide) (hts (.fieldLink RX1 29 "SwornLists$Court" "values" "[J") w_47) (fun _ h9 => h9) rfl dX1_tell_135 ?_
                  refine lv_iload hx hb dX1_tell_138 (lv_at hl 0 rfl) ?_
                  refine lv_iconst (v := 1) hx hb dX1_tell_140 (by decide) ?_
                  refine lv_isub hx hb dX1_tell_141 ?_
                  refine my_bei (v := nI (tp - 1 - 1)) (pk_sub (b := 1) (by omega)) ?_
                  refine lv_iload hx hb dX1_tell_142 (lv_at hl 2 rfl) ?_
                  refine lv_ineg hx hb dX1_tell_144 ?_
                  refine lv_aload_n hx hb dX1_tell_145 rfl (lv_at hl 3 rfl) ?_
                  refine va_get (D := G.1) (ci := 1) (v := .ref (g 15)) (C := RX1) (T := TX1) (N := 5) hx hb hts inlX1 hown hG.1 hP 1 (wl_at (by decide) hctc) rfl 3 (by decide) (hts (.fieldLink RX1 29 "SwornLists$Court" "values" "[J") w_47) (fun _ h9 => h9) rfl dX1_tell_146 ?_
                  refine lv_iload hx hb dX1_tell_149 (lv_at hl 0 rfl) ?_
                  refine lv_iconst (v := 1) hx hb dX1_tell_151 (by decide) ?_
                  refine lv_isub hx hb dX1_tell_152 ?_
                  refine my_bei (v := nI (tp - 1 - 1)) (pk_sub (b := 1) (by omega)) ?_
                  refine va_lald hx hb hG.1 hP 15 1 (wl_at (by decide) hvl) rfl (vp_in_nI (by omega) (by decide)) dX1_tell_153 ?_
                  refine lv_aload_n hx hb dX1_tell_154 rfl (lv_at hl 3 rfl) ?_
                  refine va_get (D := G.1) (ci := 1) (v := .ref (g 15)) (C := RX1) (T := TX1) (N := 5) hx hb hts inlX1 hown hG.1 hP 1 (wl_at (by decide) hctc) rfl 3 (by decide) (hts (.fieldLink RX1 29 "SwornLists$Court" "values" "[J") w_47) (fun _ h9 => h9) rfl dX1_tell_155 ?_
                  refine lv_iload hx hb dX1_tell_158 (lv_at hl 0 rfl) ?_
                  refine va_lald hx hb hG.1 hP 15 1 (wl_at (by decide) hvl) rfl (vp_in_nI (by omega) (by decide)) dX1_tell_160 ?_
                  refine rd_calll (va_runS (As := [.int (-(if inN (nI i) sc = true then sp (Int32.toNatClampNeg (nI i)) else 0)), .long (vv1 (Int32.toNatClampNeg (nI (tp - 1 - 1)))), .long (vv1 (Int32.toNatClampNeg (nI (tp - 1))))]) (rest := [.int (nI (tp - 1 - 1)), .ref (g 15)]) ⟨hx, hb, hml, hown, hts⟩ (g_joined l G g hg f_1 (-(if inN (nI i) sc = true then sp (Int32.toNatClampNeg (nI i)) else 0)) (vv1 (Int32.toNatClampNeg (nI (tp - 1 - 1)))) (vv1 (Int32.toNatClampNeg (nI (tp - 1))))  ) (my_cwS hts ok_X7_joined w_461 rfl rfl ⟨Nat.le_of_ble_eq_true rfl, Nat.le_of_ble_eq_true rfl⟩) ⟨bP.blind, fun U hU hW => ⟨rfl, by rw [hU]; exact hP, kG.warm hW hG⟩⟩ rfl rfl hl.1 rfl (lv_room (Nat.le_of_ble_eq_true rfl)) dX1_tell_161 ⟨Nat.le_of_ble_eq_true rfl, Nat.le_of_ble_eq_true rfl⟩) (fun v8 _ => ?_)
                  refine va_last hx hb hG.1 hP (wl_D hg f_1) hS 15 1 (wl_at (by decide) hvl) rfl (vp_in_nI (by omega) (by decide)) dX1_tell_164 (fun H locs hP _ hS => ?_)
                  obtain ⟨f_8, hP, e_8, o_8⟩ := b_put (by decide) hP
                  have hvl : f_8 15 = eJ G 50 (vp_updL vv1 (Int32.toNatClampNeg (nI (tp - 1 - 1))) v8) := e_8
                  replace hctc := (o_8 1 (by decide)).trans hctc
                  replace hhs := (o_8 12 (by decide)).trans hhs
                  replace hbk := (o_8 36 (by decide)).trans hbk
                  replace htr := (o_8 45 (by decide)).trans htr
                  replace hct := (o_8 46 (by decide)).trans hct
                  replace hpr := (o_8 37 (by decide)).trans hpr
                  replace hpd := (o_8 38 (by decide)).trans hpd
                  replace htx : f_8 k = eO 7 [.ref (g (k + 1)), .ref (g (k + 2)), .int (nI ln), .int (nI sc)] := (o_8 k (by omega)).trans htx
                  replace hpx : f_8 (k + 2) = eI G 50 sp := (o_8 (k + 2) (by omega)).trans hpx
                  refine lv_iinc (v := nI (i + 1)) (lv' := [(5, .int (nI (i + 1))), (4, .int (nI (tp - 1))), (7, .int v4), (6, .int (if inN (nI i) sc = true then sp (Int32.toNatClampNeg (nI i)) else 0)), (0, .ref (g 1)), (1, .ref (g k)), (2, .int n), (3, .int q)]) hx hb dX1_tell_165 hl (k := 7) rfl (nI_1 i) (by decide) rfl (fun ls hl => ?_)
                  refine lv_goto (tgt := 6) hx hb dX1_tell_168 (by decide) ?_
                  exact ih (i + 1) (tp - 1) (vp_updL vv1 (Int32.toNatClampNeg (nI (tp - 1 - 1))) v8) f_8 _ _ _ (hi9) (by omega) (fun z hz => okH_fr (hH1 z hz) (o_8 (2 * z + 16) (by omega)) (o_8 (2 * z + 16 + 1) (by omega))) (by omega) (hctc) (hhs) (hbk) (htr) (hct) (hpr) (hpd) (htx) (hpx) (hvl) (fun j hj => ((o_8 j (by omega))).trans (o_1 j (by omega))) hP hS (lv_sub hl [4, 5, 6, 7, 1, 0] rfl)
              · refine lv_iload hx hb dX1_tell_92 (lv_at hl 6 rfl) ?_
                refine lv_iconst (v := 1) hx hb dX1_tell_94 (by decide) ?_
                refine lv_icmp_lt (tgt := 125) hx hb dX1_tell_95 (by decide) (fun c_95 => ?_) (fun c_95 => ?_)
                · refine lv_iload hx hb dX1_tell_125 (lv_at hl 6 rfl) ?_
                  refine lv_iconst (v := 2) hx hb dX1_tell_127 (by decide) ?_
                  refine lv_icmp_lt (tgt := 165) hx hb dX1_tell_128 (by decide) (fun c_128 => ?_) (fun c_128 => ?_)
                  · refine lv_iinc (v := nI (i + 1)) (lv' := [(5, .int (nI (i + 1))), (7, .int v4), (6, .int (if inN (nI i) sc = true then sp (Int32.toNatClampNeg (nI i)) else 0)), (0, .ref (g 1)), (1, .ref (g k)), (2, .int n), (3, .int q), (4, .int (nI tp))]) hx hb dX1_tell_165 hl (k := 7) rfl (nI_1 i) (by decide) rfl (fun ls hl => ?_)
                    refine lv_goto (tgt := 6) hx hb dX1_tell_168 (by decide) ?_
                    exact ih (i + 1) tp vv1 f_1 _ _ _ (hi9) (by omega) (hH1) (by omega) (hctc) (hhs) (hbk) (htr) (hct) (hpr) (hpd) (htx) (hpx) (hvl) (fun j hj => (o_1 j (by omega))) hP hS (lv_sub hl [3, 4, 5, 6, 7, 0] rfl)
                  · have ht2 : 2 ≤ tp := Nat.not_lt.mp (fun z => c_128 (nI_lt (b := 2) z (by decide)))
                    refine lv_iinc (v := nI (tp - 1)) (lv' := [(4, .int (nI (tp - 1))), (7, .int v4), (6, .int (if inN (nI i) sc = true then sp (Int32.toNatClampNeg (nI i)) else 0)), (0, .ref (g 1)), (1, .ref (g k)), (2, .int n), (3, .int q), (5, .int (nI i))]) hx hb dX1_tell_131 hl (k := 6) rfl (sb_m1 (by omega)) (by decide) rfl (fun ls hl => ?_)
                    refine lv_aload_n hx hb dX1_tell_134 rfl (lv_at hl 3 rfl) ?_
                    refine va_get (D := G.1) (ci := 1) (v := .ref (g 15)) (C := RX1) (T := TX1) (N := 5) hx hb hts inlX1 hown hG.1 hP 1 (wl_at (by decide) hctc) rfl 3 (by decide) (hts (.fieldLink RX1 29 "SwornLists$Court" "values" "[J") w_47) (fun _ h9 => h9) rfl dX1_tell_135 ?_
                    refine lv_iload hx hb dX1_tell_138 (lv_at hl 0 rfl) ?_
                    refine lv_iconst (v := 1) hx hb dX1_tell_140 (by decide) ?_
                    refine lv_isub hx hb dX1_tell_141 ?_
                    refine my_bei (v := nI (tp - 1 - 1)) (pk_sub (b := 1) (by omega)) ?_
                    refine lv_iload hx hb dX1_tell_142 (lv_at hl 2 rfl) ?_
                    refine lv_ineg hx hb dX1_tell_144 ?_
                    refine lv_aload_n hx hb dX1_tell_145 rfl (lv_at hl 3 rfl) ?_
                    refine va_get (D := G.1) (ci := 1) (v := .ref (g 15)) (C := RX1) (T := TX1) (N := 5) hx hb hts inlX1 hown hG.1 hP 1 (wl_at (by decide) hctc) rfl 3 (by decide) (hts (.fieldLink RX1 29 "SwornLists$Court" "values" "[J") w_47) (fun _ h9 => h9) rfl dX1_tell_146 ?_
                    refine lv_iload hx hb dX1_tell_149 (lv_at hl 0 rfl) ?_
                    refine lv_iconst (v := 1) hx hb dX1_tell_151 (by decide) ?_
                    refine lv_isub hx hb dX1_tell_152 ?_
                    refine my_bei (v := nI (tp - 1 - 1)) (pk_sub (b := 1) (by omega)) ?_
                    refine va_lald hx hb hG.1 hP 15 1 (wl_at (by decide) hvl) rfl (vp_in_nI (by omega) (by decide)) dX1_tell_153 ?_
                    refine lv_aload_n hx hb dX1_tell_154 rfl (lv_at hl 3 rfl) ?_
                    refine va_get (D := G.1) (ci := 1) (v := .ref (g 15)) (C := RX1) (T := TX1) (N := 5) hx hb hts inlX1 hown hG.1 hP 1 (wl_at (by decide) hctc) rfl 3 (by decide) (hts (.fieldLink RX1 29 "SwornLists$Court" "values" "[J") w_47) (fun _ h9 => h9) rfl dX1_tell_155 ?_
                    refine lv_iload hx hb dX1_tell_158 (lv_at hl 0 rfl) ?_
                    refine va_lald hx hb hG.1 hP 15 1 (wl_at (by decide) hvl) rfl (vp_in_nI (by omega) (by decide)) dX1_tell_160 ?_
                    refine rd_calll (va_runS (As := [.int (-(if inN (nI i) sc = true then sp (Int32.toNatClampNeg (nI i)) else 0)), .long (vv1 (Int32.toNatClampNeg (nI (tp - 1 - 1)))), .long (vv1 (Int32.toNatClampNeg (nI (tp - 1))))]) (rest := [.int (nI (tp - 1 - 1)), .ref (g 15)]) ⟨hx, hb, hml, hown, hts⟩ (g_joined l G g hg f_1 (-(if inN (nI i) sc = true then sp (Int32.toNatClampNeg (nI i)) else 0)) (vv1 (Int32.toNatClampNeg (nI (tp - 1 - 1)))) (vv1 (Int32.toNatClampNeg (nI (tp - 1))))  ) (my_cwS hts ok_X7_joined w_461 rfl rfl ⟨Nat.le_of_ble_eq_true rfl, Nat.le_of_ble_eq_true rfl⟩) ⟨bP.blind, fun U hU hW => ⟨rfl, by rw [hU]; exact hP, kG.warm hW hG⟩⟩ rfl rfl hl.1 rfl (lv_room (Nat.le_of_ble_eq_true rfl)) dX1_tell_161 ⟨Nat.le_of_ble_eq_true rfl, Nat.le_of_ble_eq_true rfl⟩) (fun v9 _ => ?_)
                    refine va_last hx hb hG.1 hP (wl_D hg f_1) hS 15 1 (wl_at (by decide) hvl) rfl (vp_in_nI (by omega) (by decide)) dX1_tell_164 (fun H locs hP _ hS => ?_)
                    obtain ⟨f_9, hP, e_9, o_9⟩ := b_put (by decide) hP
                    have hvl : f_9 15 = eJ G 50 (vp_updL vv1 (Int32.toNatClampNeg (nI (tp - 1 - 1))) v9) := e_9
                    replace hctc := (o_9 1 (by decide)).trans hctc
                    replace hhs := (o_9 12 (by decide)).trans hhs
                    replace hbk := (o_9 36 (by decide)).trans hbk
                    replace htr := (o_9 45 (by decide)).trans htr
                    replace hct := (o_9 46 (by decide)).trans hct
                    replace hpr := (o_9 37 (by decide)).trans hpr
                    replace hpd := (o_9 38 (by decide)).trans hpd
                    replace htx : f_9 k = eO 7 [.ref (g (k + 1)), .ref (g (k + 2)), .int (nI ln), .int (nI sc)] := (o_9 k (by omega)).trans htx
                    replace hpx : f_9 (k + 2) = eI G 50 sp := (o_9 (k + 2) (by omega)).trans hpx
                    refine lv_iinc (v := nI (i + 1)) (lv' := [(5, .int (nI (i + 1))), (4, .int (nI (tp - 1))), (7, .int v4), (6, .int (if inN (nI i) sc = true then sp (Int32.toNatClampNeg (nI i)) else 0)), (0, .ref (g 1)), (1, .ref (g k)), (2, .int n), (3, .int q)]) hx hb dX1_tell_165 hl (k := 7) rfl (nI_1 i) (by decide) rfl (fun ls hl => ?_)
                    refine lv_goto (tgt := 6) hx hb dX1_tell_168 (by decide) ?_
                    exact ih (i + 1) (tp - 1) (vp_updL vv1 (Int32.toNatClampNeg (nI (tp - 1 - 1))) v9) f_9 _ _ _ (hi9) (by omega) (fun z hz => okH_fr (hH1 z hz) (o_9 (2 * z + 16) (by omega)) (o_9 (2 * z + 16 + 1) (by omega))) (by omega) (hctc) (hhs) (hbk) (htr) (hct) (hpr) (hpd) (htx) (hpx) (hvl) (fun j hj => ((o_9 j (by omega))).trans (o_1 j (by omega))) hP hS (lv_sub hl [4, 5, 6, 7, 1, 0] rfl)
                · have ht1 : 1 ≤ tp := Nat.not_lt.mp (fun z => c_95 (nI_lt (b := 1) z (by decide)))
                  refine lv_aload_n hx hb dX1_tell_98 rfl (lv_at hl 2 rfl) ?_
                  refine va_get (D := G.1) (ci := 1) (v := .ref (g 15)) (C := RX1) (T := TX1) (N := 5) hx hb hts inlX1 hown hG.1 hP 1 (wl_at (by decide) hctc) rfl 3 (by decide) (hts (.fieldLink RX1 29 "SwornLists$Court" "values" "[J") w_47) (fun _ h9 => h9) rfl dX1_tell_99 ?_
                  refine lv_iload hx hb dX1_tell_102 (lv_at hl 6 rfl) ?_
                  refine lv_iconst (v := 1) hx hb dX1_tell_104 (by decide) ?_
                  refine lv_isub hx hb dX1_tell_105 ?_
                  refine my_bei (v := nI (tp - 1)) (pk_sub (b := 1) ht1) ?_
                  refine lv_iload hx hb dX1_tell_106 (lv_at hl 1 rfl) ?_
                  refine lv_ineg hx hb dX1_tell_108 ?_
                  refine lv_aload_n hx hb dX1_tell_109 rfl (lv_at hl 2 rfl) ?_
                  refine va_get (D := G.1) (ci := 1) (v := .ref (g 15)) (C := RX1) (T := TX1) (N := 5) hx hb hts inlX1 hown hG.1 hP 1 (wl_at (by decide) hctc) rfl 3 (by decide) (hts (.fieldLink RX1 29 "SwornLists$Court" "values" "[J") w_47) (fun _ h9 => h9) rfl dX1_tell_110 ?_
                  refine lv_iload hx hb dX1_tell_113 (lv_at hl 6 rfl) ?_
                  refine lv_iconst (v := 1) hx hb dX1_tell_115 (by decide) ?_
                  refine lv_isub hx hb dX1_tell_116 ?_
                  refine my_bei (v := nI (tp - 1)) (pk_sub (b := 1) ht1) ?_
                  refine va_lald hx hb hG.1 hP 15 1 (wl_at (by decide) hvl) rfl (vp_in_nI (by omega) (by decide)) dX1_tell_117 ?_
                  refine rd_calll (va_runS (As := [.int (-(if inN (nI i) sc = true then sp (Int32.toNatClampNeg (nI i)) else 0)), .long (vv1 (Int32.toNatClampNeg (nI (tp - 1))))]) (rest := [.int (nI (tp - 1)), .ref (g 15)]) ⟨hx, hb, hml, hown, hts⟩ (g_turned l G g hg f_1 (-(if inN (nI i) sc = true then sp (Int32.toNatClampNeg (nI i)) else 0)) (vv1 (Int32.toNatClampNeg (nI (tp - 1))))  ) (my_cwS hts ok_X7_turned w_455 rfl rfl ⟨Nat.le_of_ble_eq_true rfl, Nat.le_of_ble_eq_true rfl⟩) ⟨bP.blind, fun U hU hW => ⟨rfl, by rw [hU]; exact hP, kG.warm hW hG⟩⟩ rfl rfl hl.1 rfl (lv_room (Nat.le_of_ble_eq_true rfl)) dX1_tell_118 ⟨Nat.le_of_ble_eq_true rfl, Nat.le_of_ble_eq_true rfl⟩) (fun v10 _ => ?_)
                  refine va_last hx hb hG.1 hP (wl_D hg f_1) hS 15 1 (wl_at (by decide) hvl) rfl (vp_in_nI (by omega) (by decide)) dX1_tell_121 (fun H locs hP _ hS => ?_)
                  obtain ⟨f_10, hP, e_10, o_10⟩ := b_put (by decide) hP
                  have hvl : f_10 15 = eJ G 50 (vp_updL vv1 (Int32.toNatClampNeg (nI (tp - 1))) v10) := e_10
                  replace hctc := (o_10 1 (by decide)).trans hctc
                  replace hhs := (o_10 12 (by decide)).trans hhs
                  replace hbk := (o_10 36 (by decide)).trans hbk
                  replace htr := (o_10 45 (by decide)).trans htr
                  replace hct := (o_10 46 (by decide)).trans hct
                  replace hpr := (o_10 37 (by decide)).trans hpr
                  replace hpd := (o_10 38 (by decide)).trans hpd
                  replace htx : f_10 k = eO 7 [.ref (g (k + 1)), .ref (g (k + 2)), .int (nI ln), .int (nI sc)] := (o_10 k (by omega)).trans htx
                  replace hpx : f_10 (k + 2) = eI G 50 sp := (o_10 (k + 2) (by omega)).trans hpx
                  refine lv_goto (tgt := 165) hx hb dX1_tell_122 (by decide) ?_
                  refine lv_iinc (v := nI (i + 1)) (lv' := [(5, .int (nI (i + 1))), (7, .int v4), (6, .int (if inN (nI i) sc = true then sp (Int32.toNatClampNeg (nI i)) else 0)), (0, .ref (g 1)), (1, .ref (g k)), (2, .int n), (3, .int q), (4, .int (nI tp))]) hx hb dX1_tell_165 hl (k := 7) rfl (nI_1 i) (by decide) rfl (fun ls hl => ?_)
                  refine lv_goto (tgt := 6) hx hb dX1_tell_168 (by decide) ?_
                  exact ih (i + 1) tp (vp_updL vv1 (Int32.toNatClampNeg (nI (tp - 1))) v10) f_10 _ _ _ (hi9) (by omega) (fun z hz => okH_fr (hH1 z hz) (o_10 (2 * z + 16) (by omega)) (o_10 (2 * z + 16 + 1) (by omega))) (by omega) (hctc) (hhs) (hbk) (htr) (hct) (hpr) (hpd) (htx) (hpx) (hvl) (fun j hj => ((o_10 j (by omega))).trans (o_1 j (by omega))) hP hS (lv_sub hl [3, 4, 5, 6, 7, 0] rfl)
            · have ht5 : tp < 50 := Nat.not_le.mp (fun z => c_49 (nI_le (a := 50) z (by omega)))
              refine lv_aload_n hx hb dX1_tell_52 rfl (lv_at hl 2 rfl) ?_
              refine va_get (D := G.1) (ci := 1) (v := .ref (g 15)) (C := RX1) (T := TX1) (N := 5) hx hb hts inlX1 hown hG.1 hP 1 (wl_at (by decide) hctc) rfl 3 (by decide) (hts (.fieldLink RX1 29 "SwornLists$Court" "values" "[J") w_47) (fun _ h9 => h9) rfl dX1_tell_53 ?_
              refine lv_iload hx hb dX1_tell_56 (lv_at hl 6 rfl) ?_
              refine lv_iload hx hb dX1_tell_58 (lv_at hl 1 rfl) ?_
              refine lv_if_lt (tgt := 69) hx hb dX1_tell_60 (by decide) (fun c_60 => ?_) (fun c_60 => ?_)
              · refine lv_aload_n hx hb dX1_tell_69 rfl (lv_at hl 2 rfl) ?_
                refine lv_iload hx hb dX1_tell_70 (lv_at hl 1 rfl) ?_
                refine lv_ineg hx hb dX1_tell_72 ?_
                refine lv_iload_n hx hb dX1_tell_73 rfl (lv_at hl 4 rfl) ?_
                refine lv_iload_n hx hb dX1_tell_74 rfl (lv_at hl 5 rfl) ?_
                refine rd_calll (va_runV (As := [.int (-(if inN (nI i) sc = true then sp (Int32.toNatClampNeg (nI i)) else 0)), .int n, .int q]) (rest := [.int (nI tp), .ref (g 15)]) ⟨hx, hb, hml, hown, hts⟩ (u_letter l G g hg f_1 se hf pay fine nt ct np dp (-(if inN (nI i) sc = true then sp (Int32.toNatClampNeg (nI i)) else 0)) n q hctc hhs hbk htr hct hpr hpd (by first | assumption | omega | decide) (by first | assumption | omega | decide) (hH1) (by first | assumption | omega | decide) (by first | assumption | omega | decide)) (my_cwV hts ok_X1_letter w_441 rfl rfl ⟨Nat.le_of_ble_eq_true rfl, Nat.le_of_ble_eq_true rfl⟩) ⟨bP.blind, va_recv hG.1 hP (ci := 1) (q0 := 1) rfl (wl_at (by decide) hctc), fun U hU hW => ⟨rfl, by rw [hU]; exact hP, kG.warm hW hG⟩⟩ rfl rfl hl.1 rfl (lv_room (Nat.le_of_ble_eq_true rfl)) dX1_tell_75 ⟨Nat.le_of_ble_eq_true rfl, Nat.le_of_ble_eq_true rfl⟩) (fun v11 _ => ?_)
                refine va_last hx hb hG.1 hP (wl_D hg f_1) hS 15 1 (wl_at (by decide) hvl) rfl (vp_in_nI (by omega) (by decide)) dX1_tell_78 (fun H locs hP _ hS => ?_)
                obtain ⟨f_11, hP, e_11, o_11⟩ := b_put (by decide) hP
                have hvl : f_11 15 = eJ G 50 (vp_updL vv1 (Int32.toNatClampNeg (nI tp)) v11) := e_11
                replace hctc := (o_11 1 (by decide)).trans hctc
                replace hhs := (o_11 12 (by decide)).trans hhs
                replace hbk := (o_11 36 (by decide)).trans hbk
                replace htr := (o_11 45 (by decide)).trans htr
                replace hct := (o_11 46 (by decide)).trans hct
                replace hpr := (o_11 37 (by decide)).trans hpr
                replace hpd := (o_11 38 (by decide)).trans hpd
                replace htx : f_11 k = eO 7 [.ref (g (k + 1)), .ref (g (k + 2)), .int (nI ln), .int (nI sc)] := (o_11 k (by omega)).trans htx
                replace hpx : f_11 (k + 2) = eI G 50 sp := (o_11 (k + 2) (by omega)).trans hpx
                refine lv_iinc (v := nI (tp + 1)) (lv' := [(4, .int (nI (tp + 1))), (7, .int v4), (6, .int (if inN (nI i) sc = true then sp (Int32.toNatClampNeg (nI i)) else 0)), (0, .ref (g 1)), (1, .ref (g k)), (2, .int n), (3, .int q), (5, .int (nI i))]) hx hb dX1_tell_79 hl (k := 6) rfl (nI_1 tp) (by decide) rfl (fun ls hl => ?_)
                refine lv_goto (tgt := 165) hx hb dX1_tell_82 (by decide) ?_
                refine lv_iinc (v := nI (i + 1)) (lv' := [(5, .int (nI (i + 1))), (4, .int (nI (tp + 1))), (7, .int v4), (6, .int (if inN (nI i) sc = true then sp (Int32.toNatClampNeg (nI i)) else 0)), (0, .ref (g 1)), (1, .ref (g k)), (2, .int n), (3, .int q)]) hx hb dX1_tell_165 hl (k := 7) rfl (nI_1 i) (by decide) rfl (fun ls hl => ?_)
                refine lv_goto (tgt := 6) hx hb dX1_tell_168 (by decide) ?_
                exact ih (i + 1) (tp + 1) (vp_updL vv1 (Int32.toNatClampNeg (nI tp)) v11) f_11 _ _ _ (hi9) (by omega) (fun z hz => okH_fr (hH1 z hz) (o_11 (2 * z + 16) (by omega)) (o_11 (2 * z + 16 + 1) (by omega))) (by omega) (hctc) (hhs) (hbk) (htr) (hct) (hpr) (hpd) (htx) (hpx) (hvl) (fun j hj => ((o_11 j (by omega))).trans (o_1 j (by omega))) hP hS (lv_sub hl [4, 5, 6, 7, 1, 0] rfl)
              · refine lv_iload hx hb dX1_tell_63 (lv_at hl 1 rfl) ?_
                refine lv_i2l hx hb dX1_tell_65 rfl ?_
                refine lv_goto (tgt := 78) hx hb dX1_tell_66 (by decide) ?_
                refine va_last hx hb hG.1 hP (wl_D hg f_1) hS 15 1 (wl_at (by decide) hvl) rfl (vp_in_nI (by omega) (by decide)) dX1_tell_78 (fun H locs hP _ hS => ?_)
                obtain ⟨f_12, hP, e_12, o_12⟩ := b_put (by decide) hP
                have hvl : f_12 15 = eJ G 50 (vp_updL vv1 (Int32.toNatClampNeg (nI tp)) (Int32.toInt64 (if inN (nI i) sc = true then sp (Int32.toNatClampNeg (nI i)) else 0))) := e_12
                replace hctc := (o_12 1 (by decide)).trans hctc
                replace hhs := (o_12 12 (by decide)).trans hhs
                replace hbk := (o_12 36 (by decide)).trans hbk
                replace htr := (o_12 45 (by decide)).trans htr
                replace hct := (o_12 46 (by decide)).trans hct
                replace hpr := (o_12 37 (by decide)).trans hpr
                replace hpd := (o_12 38 (by decide)).trans hpd
                replace htx : f_12 k = eO 7 [.ref (g (k + 1)), .ref (g (k + 2)), .int (nI ln), .int (nI sc)] := (o_12 k (by omega)).trans htx
                replace hpx : f_12 (k + 2) = eI G 50 sp := (o_12 (k + 2) (by omega)).trans hpx
                refine lv_iinc (v := nI (tp + 1)) (lv' := [(4, .int (nI (tp + 1))), (7, .int v4), (6, .int (if inN (nI i) sc = true then sp (Int32.toNatClampNeg (nI i)) else 0)), (0, .ref (g 1)), (1, .ref (g k)), (2, .int n), (3, .int q), (5, .int (nI i))]) hx hb dX1_tell_79 hl (k := 6) rfl (nI_1 tp) (by decide) rfl (fun ls hl => ?_)
                refine lv_goto (tgt := 165) hx hb dX1_tell_82 (by decide) ?_
                refine lv_iinc (v := nI (i + 1)) (lv' := [(5, .int (nI (i + 1))), (4, .int (nI (tp + 1))), (7, .int v4), (6, .int (if inN (nI i) sc = true then sp (Int32.toNatClampNeg (nI i)) else 0)), (0, .ref (g 1)), (1, .ref (g k)), (2, .int n), (3, .int q)]) hx hb dX1_tell_165 hl (k := 7) rfl (nI_1 i) (by decide) rfl (fun ls hl => ?_)
                refine lv_goto (tgt := 6) hx hb dX1_tell_168 (by decide) ?_
                exact ih (i + 1) (tp + 1) (vp_updL vv1 (Int32.toNatClampNeg (nI tp)) (Int32.toInt64 (if inN (nI i) sc = true then sp (Int32.toNatClampNeg (nI i)) else 0))) f_12 _ _ _ (hi9) (by omega) (fun z hz => okH_fr (hH1 z hz) (o_12 (2 * z + 16) (by omega)) (o_12 (2 * z + 16 + 1) (by omega))) (by omega) (hctc) (hhs) (hbk) (htr) (hct) (hpr) (hpd) (htx) (hpx) (hvl) (fun j hj => ((o_12 j (by omega))).trans (o_1 j (by omega))) hP hS (lv_sub hl [4, 5, 6, 7, 1, 0] rfl)
  exact key1 (sc + 1) 0 0 vv f _ _ _ (Nat.zero_le _) (by omega) (hH) (by omega) (hctc) (hhs) (hbk) (htr) (hct) (hpr) (hpd) (htx) (hpx) (hvl) (fun j _ => rfl) hP hS (lv_sub hl [2, 3, 4, 5, 1, 0] rfl)


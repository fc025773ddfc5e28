theorem nI_pos9 {n : Nat} (h : n < 2 ^ 31) : 0 ≤ nI n := Int32.le_iff_toInt_le.mpr (by rw [nI_toInt h]; exact Int.natCast_nonneg n)
set_option maxHeartbeats 4000000 in
set_option maxRecDepth 100000 in
theorem u_tellE (l : Launch) (G : gW) (g : Nat → Nat) (hg : gOK g) (f : Nat → va_E) (se : Nat) (hf : Nat → Option Nat) (pay : Int32) (fine : Int32) (nt : Nat) (ct : Nat → Int32) (np : Nat) (dp : Nat → Int32) (k : Nat) (ln : Nat) (sc : Nat) (sp : Nat → Int32) (vv : Nat → Int64) (sw : Nat → Int32) (pn : Nat) (zl : List (Int32 × Int32)) (q : Int32) (hctc : f 1 = eO 1 [.ref (g 36), .ref (g 12), .ref (g 13), .ref (g 15), .int (nI se)]) (hhs : f 12 = eA G 4 10 hf) (hbk : f 36 = eO 0 [.ref (g 37), .ref (g 39), .ref (g 41), .ref (g 43), .ref (g 45), .ref (g 47), .ref (g 112), .int pay, .int fine]) (htr : f 45 = eO 5 [.int (nI 10), .int (nI 70), .ref (g 46), .int (nI nt)]) (hct : f 46 = eI G (10 * 70) ct) (hpr : f 37 = eO 5 [.int (nI 30), .int (nI 4), .ref (g 38), .int (nI np)]) (hpd : f 38 = eI G (30 * 4) dp) (htx : f k = eO 7 [.ref (g (k + 1)), .ref (g (k + 2)), .int (nI ln), .int (nI sc)]) (hpx : f (k + 2) = eI G 50 sp) (hvl : f 15 = eJ G 50 vv) (hse : se ≤ 10) (hhf : ∀ i, i < 10 → hf i = some (g (2 * i + 16))) (hnt : nt ≤ 10) (hnp : np ≤ 30) (hZ : ∀ i, i < 10 → okZ G g f (2 * i + 16) (sw i)) (hk3 : k + 2 < 333) (hln : ln ≤ 50) (hsc : sc ≤ 50) (hkt : 36 ≤ k) (hpn : pn < np) (hls : stk sp sc = zl.map cdp) (hlen : zl.length = sc) (hdl : dpl zl = some 1) (hol : okO zl) : Met l yX1_tell (wsT yX1_tell cX1_tell 8 (some .long)) ({ frames := 3, cells := 0, slots := 0, locals := 71 }) (bP G g f [.ref (g 1), .ref (g k), .int (nI pn), .int q]) (bQl G g (fun (z9 : Int64) (f' : Nat → va_E) => ∃ vv9 : Nat → Int64, z9 = (ev (ltk (fun i c => dp (4 * i + c)) (satN (fun t c => ct (70 * t + c)) sw q pn nt) (sinV (fun t c => ct (70 * t + c)) sw q pn nt) pn q) zl).headD 0 ∧ f' 15 = eJ G 50 vv9 ∧ ∀ j, j ≠ 15 → f' j = f j)) 0 0 (gA g) := by
  refine Met.ofW (cc := cX1_tell) (maxL := 8) (ret := (some .long)) (by decide) rfl ?_
  intro p e s m args below meth c s₁ B hml hv
  obtain ⟨rfl, hP, hG⟩ := hv
  have hx := B.exec
  have hb := B.bytes
  have hr := B.returns
  have hts := my_hts (atoms_spec (ws := wsT yX1_tell cX1_tell 8 (some .long)) B.pre)
  have hown : s.vm.findClass RX1 = some m.cls := findClass_of_methodNamed B.named
  have hlocks := B.notSynchronized
  have hS : va_S (gA g) s.heap s.heap [] := va_S.rf
  have hl := lv_entry ([.ref (g 1), .ref (g k), .int (nI pn), .int q]) (n := 8) (Nat.le_of_ble_eq_true rfl)
  rw [lg_entry_eq]
  generalize (lg_sl ([.ref (g 1), .ref (g k), .int (nI pn), .int q]) ++ List.replicate (8 - (lg_sl ([.ref (g 1), .ref (g k), .int (nI pn), .int q])).length) Slot.unset).toArray = ls at hl ⊢
  have hl : lv_has ls 8 [(0, .ref (g 1)), (1, .ref (g k)), (2, .int (nI pn)), (3, .int q)] := hl
  refine W_q8 (fun Q9 hQ9 => ?_)
  refine lv_iconst (v := 0) hx hb dX1_tell_0 (by decide) ?_
  refine lv_istore (lv' := [(4, .int 0), (0, .ref (g 1)), (1, .ref (g k)), (2, .int (nI pn)), (3, .int q)]) hx hb dX1_tell_1 hl (by decide) rfl (fun ls hl => ?_)
  refine lv_iconst (v := 0) hx hb dX1_tell_3 (by decide) ?_
  refine lv_istore (lv' := [(5, .int 0), (4, .int 0), (0, .ref (g 1)), (1, .ref (g k)), (2, .int (nI pn)), (3, .int q)]) hx hb dX1_tell_4 hl (by decide) rfl (fun ls hl => ?_)
  have key1 : ∀ (n9_1 : Nat) (i : Nat) (tp : Nat) (vv1 : Nat → Int64) (f_1 : Nat → va_E) (H : Heap) (locs : List Loc) (ls : Array Slot), (i ≤ sc) → (stj vv1 tp = ev (ltk (fun i c => dp (4 * i + c)) (satN (fun t c => ct (70 * t + c)) sw q pn nt) (sinV (fun t c => ct (70 * t + c)) sw q pn nt) pn q) (zl.drop (sc - i))) → (∀ z, z < 10 → okZ G g f_1 (2 * z + 16) (sw z)) → sc - i < n9_1 → f_1 1 = eO 1 [.ref (g 36), .ref (g 12), .ref (g 13), .ref (g 15), .int (nI se)] → f_1 12 = eA G 4 10 hf → f_1 36 = eO 0 [.ref (g 37), .ref (g 39), .ref (g 41), .ref (g 43), .ref (g 45), .ref (g 47), .ref (g 112), .int pay, .int fine] → f_1 45 = eO 5 [.int (nI 10), .int (nI 70), .ref (g 46), .int (nI nt)] → f_1 46 = eI G (10 * 70) ct → f_1 37 = eO 5 [.int (nI 30), .int (nI 4), .ref (g 38), .int (nI np)] → f_1 38 = eI G (30 * 4) dp → f_1 k = eO 7 [.ref (g (k + 1)), .ref (g (k + 2)), .int (nI ln), .int (nI sc)] → f_1 (k + 2) = eI G 50 sp → f_1 15 = eJ G 50 vv1 → (∀ j, j ≠ 15 → f_1 j = f j) → va_P G.1 vwCl (wl g f_1) H → va_S (gA g) s.heap H locs → lv_has ls 8 [(0, .ref (g 1)), (1, .ref (g k)), (2, .int (nI pn)), (3, .int q), (4, .int (nI tp)), (5, .int (nI i))] → W p l e (headSpec (wsT yX1_tell cX1_tell 8 (some .long)) ({ frames := 3, cells := 0, slots := 0, locals := 71 })).room s m ([.ref (g 1), .ref (g k), .int (nI pn), .int q] : List Value).toArray below meth c H locs 0 0 Q9 (F0 m 6 ls []) := by
    intro n9_1
    induction n9_1 with
    | zero => intro i tp vv1 f_1 H locs ls hi hst hS1 hn9_1; exact absurd hn9_1 (Nat.not_lt_zero _)
    | succ n9_1 ih_1 =>
      intro i tp vv1 f_1 H locs ls hi hst hS1 hn9_1 hctc hhs hbk htr hct hpr hpd htx hpx hvl o_1 hP hS hl
      refine lv_iload hx hb dX1_tell_6 (lv_at hl 5 rfl) ?_
      refine lv_aload_n hx hb dX1_tell_8 rfl (lv_at hl 1 rfl) ?_
      refine rd_calli (va_runV (As := []) (rest := [.int (nI i)]) ⟨hx, hb, hml, hown, hts⟩ (t_stepCount l G g hg f_1 k ln sc htx (by first | assumption | omega | decide) (by first | assumption | omega | decide) (by first | assumption | omega | decide)) (my_cwV hts ok_X8_stepCount w_432 rfl rfl ⟨Nat.le_of_ble_eq_true rfl, Nat.le_of_ble_eq_true rfl⟩) ⟨bP.blind, va_recv hG.1 hP (ci := 7) (q0 := k) rfl (wl_at (by omega) htx), fun U hU hW => ⟨rfl, by rw [hU]; exact hP, kG.warm hW hG⟩⟩ rfl rfl hl.1 rfl (lv_room (Nat.le_of_ble_eq_true rfl)) dX1_tell_9 ⟨Nat.le_of_ble_eq_true rfl, Nat.le_of_ble_eq_true rfl⟩) (fun r hr9 => ?_)
      subst hr9
      refine lv_icmp_ge (tgt := 171) hx hb dX1_tell_12 (by decide) (fun c_12 => ?_) (fun c_12 => ?_)
      · have k_12 : sc ≤ i := (nI_leI (a := sc) (b := i) (by omega) (by omega)).mp c_12
        refine lv_aload_n hx hb dX1_tell_171 rfl (lv_at hl 0 rfl) ?_
        refine va_get (D := G.1) (ci := 1) (v := .ref (g 15)) (C := RX1) (T := TX1) (N := 5) hx hb hts inlX1 hown hG.1 hP 1 (wl_at (by decide) hctc) rfl 3 (by decide) (hts (.fieldLink RX1 29 "SwornLists$Court" "values" "[J") w_47) (fun _ h9 => h9) rfl dX1_tell_172 ?_
        refine lv_iconst (v := 0) hx hb dX1_tell_175 (by decide) ?_
        refine va_lald hx hb hG.1 hP 15 1 (wl_at (by decide) hvl) rfl (by unfold vp_in; decide) dX1_tell_176 ?_
        refine my_bel (v := vv1 0) (rfl) ?_
        have hin : i = sc := by omega
        rw [hin, Nat.sub_self] at hst
        have hst : stj vv1 tp = ev (ltk (fun i c => dp (4 * i + c)) (satN (fun t c => ct (70 * t + c)) sw q pn nt) (sinV (fun t c => ct (70 * t + c)) sw q pn nt) pn q) zl := hst
        have htp : tp = 1 := by
            have h9 := congrArg List.length hst
            rw [stj_len, ev_len _ _ hdl] at h9
            exact h9
        refine W_q9 hQ9 ?_
        exact W.lret (v := vv1 0) hx hb hr (fun _ hT9 _ => ⟨⟨_, f_1, rfl, (⟨vv1, by rw [← hst, htp]; rfl, hvl, fun j hj => (o_1 j (by omega))⟩), by rw [hT9]; exact hP⟩, hS.F hT9⟩) hS.2.2 dX1_tell_177
      · have k_12 : ¬ sc ≤ i := fun z9 => c_12 ((nI_leI (a := sc) (b := i) (by omega) (by omega)).mpr z9)
        have hi9 : i < sc := Nat.not_le.mp (fun z => c_12 (nI_le z (by omega)))
        obtain ⟨x9, hdx, hsx9, hm9⟩ := dr_next hls hi9
        obtain ⟨d1, hd1⟩ := dpl_suf _ (zl.drop (sc - i)) 1 (by rw [List.take_append_drop (sc - i) zl]; exact hdl)
        obtain ⟨d2, hd2⟩ := dpl_suf _ (zl.drop (sc - (i + 1))) 1 (by rw [List.take_append_drop (sc - (i + 1)) zl]; exact hdl)
        rw [hdx] at hd2
        have htd : tp = d1 := by
          have h9 := congrArg List.length hst
          rw [stj_len, ev_len _ _ hd1] at h9
          exact h9
        have htl : tp ≤ i := by
          have h9 := dpl_le _ _ hd1
          rw [List.length_drop, hlen] at h9
          omega
        rcases okX_split (hol x9 hm9) with ⟨v9, hv9, ex9⟩ | ex9 | ex9 | ex9 | ex9 | ex9 | ex9 | ex9 | ex9 | ex9 | ex9 | ex9 | ex9 | ex9 | ex9 | ex9 | ex9 | ex9
        · have hs9 : sp i = nI v9 := hsx9.trans (by rw [ex9]; rfl)
          refine lv_aload_n hx hb dX1_tell_15 rfl (lv_at hl 1 rfl) ?_
          refine lv_iload hx hb dX1_tell_16 (lv_at hl 5 rfl) ?_
          refine rd_calli (va_runV (As := [.int (nI i)]) (rest := []) ⟨hx, hb, hml, hown, hts⟩ (t_stepAt l G g hg f_1 k ln sc sp (nI i) htx hpx (by first | assumption | omega | decide) (by first | assumption | omega | decide) (by first | assumption | omega | decide)) (my_cwV hts ok_X8_stepAt w_436 rfl rfl ⟨Nat.le_of_ble_eq_true rfl, Nat.le_of_ble_eq_true rfl⟩) ⟨bP.blind, va_recv hG.1 hP (ci := 7) (q0 := k) rfl (wl_at (by omega) htx), fun U hU hW => ⟨rfl, by rw [hU]; exact hP, kG.warm hW hG⟩⟩ rfl rfl hl.1 rfl (lv_room (Nat.le_of_ble_eq_true rfl)) dX1_tell_18 ⟨Nat.le_of_ble_eq_true rfl, Nat.le_of_ble_eq_true rfl⟩) (fun r hr9 => ?_)
          subst hr9
          refine my_bei (v := nI v9) (by rw [if_pos (inN_n hi9 (by omega)), nI_clamp (by omega)]; exact hs9) ?_
          refine lv_istore (lv' := [(6, .int (nI v9)), (0, .ref (g 1)), (1, .ref (g k)), (2, .int (nI pn)), (3, .int q), (4, .int (nI tp)), (5, .int (nI i))]) hx hb dX1_tell_21 hl (by decide) rfl (fun ls hl => ?_)
          refine lv_iload hx hb dX1_tell_23 (lv_at hl 0 rfl) ?_
          refine lv_if_ge (tgt := 37) hx hb dX1_tell_25 (by decide) (fun c_25 => ?_) (fun c_25 => absurd (nI_pos9 (by omega)) c_25)
          refine lv_iconst (v := 0) hx hb dX1_tell_37 (by decide) ?_
          refine lv_istore (lv' := [(7, .int 0), (6, .int (nI v9)), (0, .ref (g 1)), (1, .ref (g k)), (2, .int (nI pn)), (3, .int q), (4, .int (nI tp)), (5, .int (nI i))]) hx hb dX1_tell_38 hl (by decide) rfl (fun ls hl => ?_)
          refine lv_iload hx hb dX1_tell_40 (lv_at hl 0 rfl) ?_
          refine lv_if_ne (tgt := 85) hx hb dX1_tell_42 (by decide) (fun c_42 => absurd (by decide) c_42) (fun c_42 => ?_)
          refine lv_iload hx hb dX1_tell_45 (lv_at hl 6 rfl) ?_
          refine lv_bipush (v := 50) hx hb dX1_tell_47 (by decide) ?_
          refine lv_icmp_ge (tgt := 85) hx hb dX1_tell_49 (by decide) (fun c_49 => absurd c_49 (fun z => absurd ((nI_leI (a := 50) (by decide) (by omega)).mp z) (by omega))) (fun c_49 => ?_)
          refine lv_aload_n hx hb dX1_tell_52 rfl (lv_at hl 2 rfl) ?_
          refine va_get (D := G.1) (ci := 1) (v := .ref (g 15)) (C := RX1) (T := TX1) (N := 5) hx hb hts inlX1 hown hG.1 hP 1 (wl_at (by decide) hctc) rfl 3 (by decide) (hts (.fieldLink RX1 29 "SwornLists$Court" "values" "[J") w_47) (fun _ h9 => h9) rfl dX1_tell_53 ?_
          refine lv_iload hx hb dX1_tell_56 (lv_at hl 6 rfl) ?_
          refine lv_iload hx hb dX1_tell_58 (lv_at hl 1 rfl) ?_
          refine lv_if_lt (tgt := 69) hx hb dX1_tell_60 (by decide) (fun c_60 => absurd c_60 (fun z => absurd (nI_pos9 (n := v9) (by omega)) (Int32.not_le.mpr z))) (fun c_60 => ?_)
          refine lv_iload hx hb dX1_tell_63 (lv_at hl 1 rfl) ?_
          refine lv_i2l hx hb dX1_tell_65 rfl ?_
          refine lv_goto (tgt := 78) hx hb dX1_tell_66 (by decide) ?_
          refine va_last hx hb hG.1 hP (wl_D hg f_1) hS 15 1 (wl_at (by decide) hvl) rfl (vp_in_nI (by omega) (by decide)) dX1_tell_78 (fun H locs hP _ hS => ?_)
          have hP := (congrArg (fun z9 => va_P G.1 vwCl ((wl g f_1).set 15 (g 15, eJ G 50 ((vp_updL vv1 z9 (Int32.toInt64 (nI v9)))))) H) (show Int32.toNatClampNeg (nI tp) = tp from nI_clamp (by omega))).mp hP
          obtain ⟨f_2, hP, e_2, o_2⟩ := b_put (by decide) hP
          have hvl : f_2 15 = eJ G 50 (vp_updL vv1 tp (Int32.toInt64 (nI v9))) := e_2
          refine lv_iinc (v := nI (tp + 1)) (lv' := [(4, .int (nI (tp + 1))), (7, .int 0), (6, .int (nI v9)), (0, .ref (g 1)), (1, .ref (g k)), (2, .int (nI pn)), (3, .int q), (5, .int (nI i))]) hx hb dX1_tell_79 hl (k := 6) rfl (nI_add tp 1) (by decide) rfl (fun ls hl => ?_)
          refine lv_goto (tgt := 165) hx hb dX1_tell_82 (by decide) ?_
          refine lv_iinc (v := nI (i + 1)) (lv' := [(5, .int (nI (i + 1))), (4, .int (nI (tp + 1))), (7, .int 0), (6, .int (nI v9)), (0, .ref (g 1)), (1, .ref (g k)), (2, .int (nI pn)), (3, .int q)]) hx hb dX1_tell_165 hl (k := 7) rfl (nI_add i 1) (by decide) rfl (fun ls hl => ?_)
          refine lv_goto (tgt := 6) hx hb dX1_tell_168 (by decide) ?_
          replace hctc := ((o_2 1 (by decide))).trans hctc
          replace hhs := ((o_2 12 (by decide))).trans hhs
          replace hbk := ((o_2 36 (by decide))).trans hbk
          replace htr := ((o_2 45 (by decide))).trans htr
          replace hct := ((o_2 46 (by decide))).trans hct
          replace hpr := ((o_2 37 (by decide))).trans hpr
          replace hpd := ((o_2 38 (by decide))).trans hpd
          replace htx : f_2 k = eO 7 [.ref (g (k + 1)), .ref (g (k + 2)), .int (nI ln), .int (nI sc)] := ((o_2 k (by omega))).trans htx
          replace hpx : f_2 (k + 2) = eI G 50 sp := ((o_2 (k + 2) (by omega))).trans hpx
          exact ih_1 (i + 1) (tp + 1) (vp_updL vv1 tp (Int32.toInt64 (nI v9))) f_2 _ _ _ (hi9) (by rw [hdx]; show _ = stE (ltk (fun i c => dp (4 * i + c)) (satN (fun t c => ct (70 * t + c)) sw q pn nt) (sinV (fun t c => ct (70 * t + c)) sw q pn nt) pn q) x9 (ev (ltk (fun i c => dp (4 * i + c)) (satN (fun t c => ct (70 * t + c)) sw q pn nt) (sinV (fun t c => ct (70 * t + c)) sw q pn nt) pn q) (zl.drop (sc - i))); rw [← hst]; unfold stE; rw [ex9, if_pos rfl]; exact stj_p) (fun z hz => okZ_fr (hS1 z hz) (o_2 (2 * z + 16) (by omega)) (o_2 (2 * z + 16 + 1) (by omega))) (by omega) (hctc) (hhs) (hbk) (htr) (hct) (hpr) (hpd) (htx) (hpx) (hvl) (fun j hj => ((o_2 j (by omega))).trans (o_1 j (by omega))) hP hS (lv_sub hl [4, 5, 6, 7, 1, 0] rfl)
        · have hs9 : sp i = (-97) := hsx9.trans (by rw [ex9]; decide)
          refine lv_aload_n hx hb dX1_tell_15 rfl (lv_at hl 1 rfl) ?_
          refine lv_iload hx hb dX1_tell_16 (lv_at hl 5 rfl) ?_
          refine rd_calli (va_runV (As := [.int (nI i)]) (rest := []) ⟨hx, hb, hml, hown, hts⟩ (t_stepAt l G g hg f_1 k ln sc sp (nI i) htx hpx (by first | assumption | omega | decide) (by first | assumption | omega | decide) (by first | assumption | omega | decide)) (my_cwV hts ok_X8_stepAt w_436 rfl rfl ⟨Nat.le_of_ble_eq_true rfl, Nat.le_of_ble_eq_true rfl⟩) ⟨bP.blind, va_recv hG.1 hP (ci := 7) (q0 := k) rfl (wl_at (by omega) htx), fun U hU hW => ⟨rfl, by rw [hU]; exact hP, kG.warm hW hG⟩⟩ rfl rfl hl.1 rfl (lv_room (Nat.le_of_ble_eq_true rfl)) dX1_tell_18 ⟨Nat.le_of_ble_eq_true rfl, Nat.le_of_ble_eq_true rfl⟩) (fun r hr9 => ?_)
          subst hr9
          refine my_bei (v := (-97)) (by rw [if_pos (inN_n hi9 (by omega)), nI_clamp (by omega)]; exact hs9) ?_
          refine lv_istore (lv' := [(6, .int (-97)), (0, .ref (g 1)), (1, .ref (g k)), (2, .int (nI pn)), (3, .int q), (4, .int (nI tp)), (5, .int (nI i))]) hx hb dX1_tell_21 hl (by decide) rfl (fun ls hl => ?_)
          refine lv_iload hx hb dX1_tell_23 (lv_at hl 0 rfl) ?_
          refine lv_if_ge (tgt := 37) hx hb dX1_tell_25 (by decide) (fun c_25 => absurd c_25 (by decide)) (fun c_25 => ?_)
          refine lv_iload hx hb dX1_tell_28 (lv_at hl 0 rfl) ?_
          refine lv_ineg hx hb dX1_tell_30 ?_
          refine my_bei (v := 97) (by decide) ?_
          refine rd_calli (va_runS (As := [.int 97]) (rest := []) ⟨hx, hb, hml, hown, hts⟩ (g_rankE l G g hg f_1 97  ) (my_cwS hts ok_X7_rank w_440 rfl rfl ⟨Nat.le_of_ble_eq_true rfl, Nat.le_of_ble_eq_true rfl⟩) ⟨bP.blind, fun U hU hW => ⟨rfl, by rw [hU]; exact hP, kG.warm hW hG⟩⟩ rfl rfl hl.1 rfl (lv_room (Nat.le_of_ble_eq_true rfl)) dX1_tell_31 ⟨Nat.le_of_ble_eq_true rfl, Nat.le_of_ble_eq_true rfl⟩) (fun r hr9 => ?_)
          subst hr9
          refine my_bei (v := 0) (by decide) ?_
          refine lv_goto (tgt := 38) hx hb dX1_tell_34 (by decide) ?_
          refine lv_istore (lv' := [(7, .int 0), (6, .int (-97)), (0, .ref (g 1)), (1, .ref (g k)), (2, .int (nI pn)), (3, .int q), (4, .int (nI tp)), (5, .int (nI i))]) hx hb dX1_tell_38 hl (by decide) rfl (fun ls hl => ?_)
          refine lv_iload hx hb dX1_tell_40 (lv_at hl 0 rfl) ?_
          refine lv_if_ne (tgt := 85) hx hb dX1_tell_42 (by decide) (fun c_42 => absurd (by decide) c_42) (fun c_42 => ?_)
          refine lv_iload hx hb dX1_tell_45 (lv_at hl 6 rfl) ?_
          refine lv_bipush (v := 50) hx hb dX1_tell_47 (by decide) ?_
          refine lv_icmp_ge (tgt := 85) hx hb dX1_tell_49 (by decide) (fun c_49 => absurd c_49 (fun z => absurd ((nI_leI (a := 50) (by decide) (by omega)).mp z) (by omega))) (fun c_49 => ?_)
          refine lv_aload_n hx hb dX1_tell_52 rfl (lv_at hl 2 rfl) ?_
          refine va_get (D := G.1) (ci := 1) (v := .ref (g 15)) (C := RX1) (T := TX1) (N := 5) hx hb hts inlX1 hown hG.1 hP 1 (wl_at (by decide) hctc) rfl 3 (by decide) (hts (.fieldLink RX1 29 "SwornLists$Court" "values" "[J") w_47) (fun _ h9 => h9) rfl dX1_tell_53 ?_
          refine lv_iload hx hb dX1_tell_56 (lv_at hl 6 rfl) ?_
          refine lv_iload hx hb dX1_tell_58 (lv_at hl 1 rfl) ?_
          refine lv_if_lt (tgt := 69) hx hb dX1_tell_60 (by decide) (fun c_60 => ?_) (fun c_60 => absurd (by decide) c_60)
          refine lv_aload_n hx hb dX1_tell_69 rfl (lv_at hl 2 rfl) ?_
          refine lv_iload hx hb dX1_tell_70 (lv_at hl 1 rfl) ?_
          refine lv_ineg hx hb dX1_tell_72 ?_
          refine my_bei (v := 97) (by decide) ?_
          refine lv_iload_n hx hb dX1_tell_73 rfl (lv_at hl 4 rfl) ?_
          refine lv_iload_n hx hb dX1_tell_74 rfl (lv_at hl 5 rfl) ?_
          refine rd_calll (va_runV (As := [.int 97, .int (nI pn), .int q]) (rest := [.int (nI tp), .ref (g 15)]) ⟨hx, hb, hml, hown, hts⟩ (u_letterE l G g hg f_1 se hf pay fine nt ct np dp sw pn 97 q hctc hhs hbk htr hct hpr hpd (by first | assumption | omega | decide) (by first | assumption | omega | decide) (by first | assumption | omega | decide) (by first | assumption | omega | decide) (hS1) (by first | assumption | omega | decide)) (my_cwV hts ok_X1_letter w_441 rfl rfl ⟨Nat.le_of_ble_eq_true rfl, Nat.le_of_ble_eq_true rfl⟩) ⟨bP.blind, va_recv hG.1 hP (ci := 1) (q0 := 1) rfl (wl_at (by decide) hctc), fun U hU hW => ⟨rfl, by rw [hU]; exact hP, kG.warm hW hG⟩⟩ rfl rfl hl.1 rfl (lv_room (Nat.le_of_ble_eq_true rfl)) dX1_tell_75 ⟨Nat.le_of_ble_eq_true rfl, Nat.le_of_ble_eq_true rfl⟩) (fun r hr9 => ?_)
          subst hr9
          refine my_bel (v := (ltk (fun i c => dp (4 * i + c)) (satN (fun t c => ct (70 * t + c)) sw q pn nt) (sinV (fun t c => ct (70 * t + c)) sw q pn nt) pn q) 0) (rfl) ?_
          refine va_last hx hb hG.1 hP (wl_D hg f_1) hS 15 1 (wl_at (by decide) hvl) rfl (vp_in_nI (by omega) (by decide)) dX1_tell_78 (fun H locs hP _ hS => ?_)
          have hP := (congrArg (fun z9 => va_P G.1 vwCl ((wl g f_1).set 15 (g 15, eJ G 50 ((vp_updL vv1 z9 ((ltk (fun i c => dp (4 * i + c)) (satN (fun t c => ct (70 * t + c)) sw q pn nt) (sinV (fun t c => ct (70 * t + c)) sw q pn nt) pn q) 0))))) H) (show Int32.toNatClampNeg (nI tp) = tp from nI_clamp (by omega))).mp hP
          obtain ⟨f_3, hP, e_3, o_3⟩ := b_put (by decide) hP
          have hvl : f_3 15 = eJ G 50 (vp_updL vv1 tp ((ltk (fun i c => dp (4 * i + c)) (satN (fun t c => ct (70 * t + c)) sw q pn nt) (sinV (fun t c => ct (70 * t + c)) sw q pn nt) pn q) 0)) := e_3
          refine lv_iinc (v := nI (tp + 1)) (lv' := [(4, .int (nI (tp + 1))), (7, .int 0), (6, .int (-97)), (0, .ref (g 1)), (1, .ref (g k)), (2, .int (nI pn)), (3, .int q), (5, .int (nI i))]) hx hb dX1_tell_79 hl (k := 6) rfl (nI_add tp 1) (by decide) rfl (fun ls hl => ?_)
          refine lv_goto (tgt := 165) hx hb dX1_tell_82 (by decide) ?_
          refine lv_iinc (v := nI (i + 1)) (lv' := [(5, .int (nI (i + 1))), (4, .int (nI (tp + 1))), (7, .int 0), (6, .int (-97)), (0, .ref (g 1)), (1, .ref (g k)), (2, .int (nI pn)), (3, .int q)]) hx hb dX1_tell_165 hl (k := 7) rfl (nI_add i 1) (by decide) rfl (fun ls hl => ?_)
          refine lv_goto (tgt := 6) hx hb dX1_tell_168 (by decide) ?_
          replace hctc := ((o_3 1 (by decide))).trans hctc
          replace hhs := ((o_3 12 (by decide))).trans hhs
          replace hbk := ((o_3 36 (by decide))).trans hbk
          replace htr := ((o_3 45 (by decide))).trans htr
          replace hct := ((o_3 46 (by decide))).trans hct
          replace hpr := ((o_3 37 (by decide))).trans hpr
          replace hpd := ((o_3 38 (by decide))).trans hpd
          replace htx : f_3 k = eO 7 [.ref (g (k + 1)), .ref (g (k + 2)), .int (nI ln), .int (nI sc)] := ((o_3 k (by omega))).trans htx
          replace hpx : f_3 (k + 2) = eI G 50 sp := ((o_3 (k + 2) (by omega))).trans hpx
          exact ih_1 (i + 1) (tp + 1) (vp_updL vv1 tp ((ltk (fun i c => dp (4 * i + c)) (satN (fun t c => ct (70 * t + c)) sw q pn nt) (sinV (fun t c => ct (70 * t + c)) sw q pn nt) pn q) 0)) f_3 _ _ _ (hi9) (by rw [hdx]; show _ = stE (ltk (fun i c => dp (4 * i + c)) (satN (fun t c => ct (70 * t + c)) sw q pn nt) (sinV (fun t c => ct (70 * t + c)) sw q pn nt) pn q) x9 (ev (ltk (fun i c => dp (4 * i + c)) (satN (fun t c => ct (70 * t + c)) sw q pn nt) (sinV (fun t c => ct (70 * t + c)) sw q pn nt) pn q) (zl.drop (sc - i))); rw [← hst]; unfold stE; rw [ex9, if_neg (by decide), if_pos rfl]; exact stj_p) (fun z hz => okZ_fr (hS1 z hz) (o_3 (2 * z + 16) (by omega)) (o_3 (2 * z + 16 + 1) (by omega))) (by omega) (hctc) (hhs) (hbk) (htr) (hct) (hpr) (hpd) (htx) (hpx) (hvl) (fun j hj => ((o_3 j (by omega))).trans (o_1 j (by omega))) hP hS (lv_sub hl [4, 5, 6, 7, 1, 0] rfl)
        · have hs9 : sp i = (-108) := hsx9.trans (by rw [ex9]; decide)
          refine lv_aload_n hx hb dX1_tell_15 rfl (lv_at hl 1 rfl) ?_
          refine lv_iload hx hb dX1_tell_16 (lv_at hl 5 rfl) ?_
          refine rd_calli (va_runV (As := [.int (nI i)]) (rest := []) ⟨hx, hb, hml, hown, hts⟩ (t_stepAt l G g hg f_1 k ln sc sp (nI i) htx hpx (by first | assumption | omega | decide) (by first | assumption | omega | decide) (by first | assumption | omega | decide)) (my_cwV hts ok_X8_stepAt w_436 rfl rfl ⟨Nat.le_of_ble_eq_true rfl, Nat.le_of_ble_eq_true rfl⟩) ⟨bP.blind, va_recv hG.1 hP (ci := 7) (q0 := k) rfl (wl_at (by omega) htx), fun U hU hW => ⟨rfl, by rw [hU]; exact hP, kG.warm hW hG⟩⟩ rfl rfl hl.1 rfl (lv_room (Nat.le_of_ble_eq_true rfl)) dX1_tell_18 ⟨Nat.le_of_ble_eq_true rfl, Nat.le_of_ble_eq_true rfl⟩) (fun r hr9 => ?_)
          subst hr9
          refine my_bei (v := (-108)) (by rw [if_pos (inN_n hi9 (by omega)), nI_clamp (by omega)]; exact hs9) ?_
          refine lv_istore (lv' := [(6, .int (-108)), (0, .ref (g 1)), (1, .ref (g k)), (2, .int (nI pn)), (3, .int q), (4, .int (nI tp)), (5, .int (nI i))]) hx hb dX1_tell_21 hl (by decide) rfl (fun ls hl => ?_)
          refine lv_iload hx hb dX1_tell_23 (lv_at hl 0 rfl) ?_
          refine lv_if_ge (tgt := 37) hx hb dX1_tell_25 (by decide) (fun c_25 => absurd c_25 (by decide)) (fun c_25 => ?_)
          refine lv_iload hx hb dX1_tell_28 (lv_at hl 0 rfl) ?_
          refine lv_ineg hx hb dX1_tell_30 ?_
          refine my_bei (v := 108) (by decide) ?_
          refine rd_calli (va_runS (As := [.int 108]) (rest := []) ⟨hx, hb, hml, hown, hts⟩ (g_rankE l G g hg f_1 108  ) (my_cwS hts ok_X7_rank w_440 rfl rfl ⟨Nat.le_of_ble_eq_true rfl, Nat.le_of_ble_eq_true rfl⟩) ⟨bP.blind, fun U hU hW => ⟨rfl, by rw [hU]; exact hP, kG.warm hW hG⟩⟩ rfl rfl hl.1 rfl (lv_room (Nat.le_of_ble_eq_true rfl)) dX1_tell_31 ⟨Nat.le_of_ble_eq_true rfl, Nat.le_of_ble_eq_true rfl⟩) (fun r hr9 => ?_)
          subst hr9
          refine my_bei (v := 0) (by decide) ?_
          refine lv_goto (tgt := 38) hx hb dX1_tell_34 (by decide) ?_
          refine lv_istore (lv' := [(7, .int 0), (6, .int (-108)), (0, .ref (g 1)), (1, .ref (g k)), (2, .int (nI pn)), (3, .int q), (4, .int (nI tp)), (5, .int (nI i))]) hx hb dX1_tell_38 hl (by decide) rfl (fun ls hl => ?_)
          refine lv_iload hx hb dX1_tell_40 (lv_at hl 0 rfl) ?_
          refine lv_if_ne (tgt := 85) hx hb dX1_tell_42 (by decide) (fun c_42 => absurd (by decide) c_42) (fun c_42 => ?_)
          refine lv_iload hx hb dX1_tell_45 (lv_at hl 6 rfl) ?_
          refine lv_bipush (v := 50) hx hb dX1_tell_47 (by decide) ?_
          refine lv_icmp_ge (tgt := 85) hx hb dX1_tell_49 (by decide) (fun c_49 => absurd c_49 (fun z => absurd ((nI_leI (a := 50) (by decide) (by omega)).mp z) (by omega))) (fun c_49 => ?_)
          refine lv_aload_n hx hb dX1_tell_52 rfl (lv_at hl 2 rfl) ?_
          refine va_get (D := G.1) (ci := 1) (v := .ref (g 15)) (C := RX1) (T := TX1) (N := 5) hx hb hts inlX1 hown hG.1 hP 1 (wl_at (by decide) hctc) rfl 3 (by decide) (hts (.fieldLink RX1 29 "SwornLists$Court" "values" "[J") w_47) (fun _ h9 => h9) rfl dX1_tell_53 ?_
          refine lv_iload hx hb dX1_tell_56 (lv_at hl 6 rfl) ?_
          refine lv_iload hx hb dX1_tell_58 (lv_at hl 1 rfl) ?_
          refine lv_if_lt (tgt := 69) hx hb dX1_tell_60 (by decide) (fun c_60 => ?_) (fun c_60 => absurd (by decide) c_60)
          refine lv_aload_n hx hb dX1_tell_69 rfl (lv_at hl 2 rfl) ?_
          refine lv_iload hx hb dX1_tell_70 (lv_at hl 1 rfl) ?_
          refine lv_ineg hx hb dX1_tell_72 ?_
          refine my_bei (v := 108) (by decide) ?_
          refine lv_iload_n hx hb dX1_tell_73 rfl (lv_at hl 4 rfl) ?_
          refine lv_iload_n hx hb dX1_tell_74 rfl (lv_at hl 5 rfl) ?_
          refine rd_calll (va_runV (As := [.int 108, .int (nI pn), .int q]) (rest := [.int (nI tp), .ref (g 15)]) ⟨hx, hb, hml, hown, hts⟩ (u_letterE l G g hg f_1 se hf pay fine nt ct np dp sw pn 108 q hctc hhs hbk htr hct hpr hpd (by first | assumption | omega | decide) (by first | assumption | omega | decide) (by first | assumption | omega | decide) (by first | assumption | omega | decide) (hS1) (by first | assumption | omega | decide)) (my_cwV hts ok_X1_letter w_441 rfl rfl ⟨Nat.le_of_ble_eq_true rfl, Nat.le_of_ble_eq_true rfl⟩) ⟨bP.blind, va_recv hG.1 hP (ci := 1) (q0 := 1) rfl (wl_at (by decide) hctc), fun U hU hW => ⟨rfl, by rw [hU]; exact hP, kG.warm hW hG⟩⟩ rfl rfl hl.1 rfl (lv_room (Nat.le_of_ble_eq_true rfl)) dX1_tell_75 ⟨Nat.le_of_ble_eq_true rfl, Nat.le_of_ble_eq_true rfl⟩) (fun r hr9 => ?_)
          subst hr9
          refine my_bel (v := (ltk (fun i c => dp (4 * i + c)) (satN (fun t c => ct (70 * t + c)) sw q pn nt) (sinV (fun t c => ct (70 * t + c)) sw q pn nt) pn q) 1) (rfl) ?_
          refine va_last hx hb hG.1 hP (wl_D hg f_1) hS 15 1 (wl_at (by decide) hvl) rfl (vp_in_nI (by omega) (by decide)) dX1_tell_78 (fun H locs hP _ hS => ?_)
          have hP := (congrArg (fun z9 => va_P G.1 vwCl ((wl g f_1).set 15 (g 15, eJ G 50 ((vp_updL vv1 z9 ((ltk (fun i c => dp (4 * i + c)) (satN (fun t c => ct (70 * t + c)) sw q pn nt) (sinV (fun t c => ct (70 * t + c)) sw q pn nt) pn q) 1))))) H) (show Int32.toNatClampNeg (nI tp) = tp from nI_clamp (by omega))).mp hP
          obtain ⟨f_4, hP, e_4, o_4⟩ := b_put (by decide) hP
          have hvl : f_4 15 = eJ G 50 (vp_updL vv1 tp ((ltk (fun i c => dp (4 * i + c)) (satN (fun t c => ct (70 * t + c)) sw q pn nt) (sinV (fun t c => ct (70 * t + c)) sw q pn nt) pn q) 1)) := e_4
          refine lv_iinc (v := nI (tp + 1)) (lv' := [(4, .int (nI (tp + 1))), (7, .int 0), (6, .int (-108)), (0, .ref (g 1)), (1, .ref (g k)), (2, .int (nI pn)), (3, .int q), (5, .int (nI i))]) hx hb dX1_tell_79 hl (k := 6) rfl (nI_add tp 1) (by decide) rfl (fun ls hl => ?_)
          refine lv_goto (tgt := 165) hx hb dX1_tell_82 (by decide) ?_
          refine lv_iinc (v := nI (i + 1)) (lv' := [(5, .int (nI (i + 1))), (4, .int (nI (tp + 1))), (7, .int 0), (6, .int (-108)), (0, .ref (g 1)), (1, .ref (g k)), (2, .int (nI pn)), (3, .int q)]) hx hb dX1_tell_165 hl (k := 7) rfl (nI_add i 1) (by decide) rfl (fun ls hl => ?_)
          refine lv_goto (tgt := 6) hx hb dX1_tell_168 (by decide) ?_
          replace hctc := ((o_4 1 (by decide))).trans hctc
          replace hhs := ((o_4 12 (by decide))).trans hhs
          replace hbk := ((o_4 36 (by decide))).trans hbk
          replace htr := ((o_4 45 (by decide))).trans htr
          replace hct := ((o_4 46 (by decide))).trans hct
          replace hpr := ((o_4 37 (by decide))).trans hpr
          replace hpd := ((o_4 38 (by decide))).trans hpd
          replace htx : f_4 k = eO 7 [.ref (g (k + 1)), .ref (g (k + 2)), .int (nI ln), .int (nI sc)] := ((o_4 k (by omega))).trans htx
          replace hpx : f_4 (k + 2) = eI G 50 sp := ((o_4 (k + 2) (by omega))).trans hpx
          exact ih_1 (i + 1) (tp + 1) (vp_updL vv1 tp ((ltk (fun i c => dp (4 * i + c)) (satN (fun t c => ct (70 * t + c)) sw q pn nt) (sinV (fun t c => ct (70 * t + c)) sw q pn nt) pn q) 1)) f_4 _ _ _ (hi9) (by rw [hdx]; show _ = stE (ltk (fun i c => dp (4 * i + c)) (satN (fun t c => ct (70 * t + c)) sw q pn nt) (sinV (fun t c => ct (70 * t + c)) sw q pn nt) pn q) x9 (ev (ltk (fun i c => dp (4 * i + c)) (satN (fun t c => ct (70 * t + c)) sw q pn nt) (sinV (fun t c => ct (70 * t + c)) sw q pn nt) pn q) (zl.drop (sc - i))); rw [← hst]; unfold stE; rw [ex9, if_neg (by decide), if_pos rfl]; exact stj_p) (fun z hz => okZ_fr (hS1 z hz) (o_4 (2 * z + 16) (by omega)) (o_4 (2 * z + 16 + 1) (by omega))) (by omega) (hctc) (hhs) (hbk) (htr) (hct) (hpr) (hpd) (htx) (hpx) (hvl) (fun j hj => ((o_4 j (by omega))).trans (o_1 j (by omega))) hP hS (lv_sub hl [4, 5, 6, 7, 1, 0] rfl)
        · have hs9 : sp i = (-116) := hsx9.trans (by rw [ex9]; decide)
          refine lv_aload_n hx hb dX1_tell_15 rfl (lv_at hl 1 rfl) ?_
          refine lv_iload hx hb dX1_tell_16 (lv_at hl 5 rfl) ?_
          refine rd_calli (va_runV (As := [.int (nI i)]) (rest := []) ⟨hx, hb, hml, hown, hts⟩ (t_stepAt l G g hg f_1 k ln sc sp (nI i) htx hpx (by first | assumption | omega | decide) (by first | assumption | omega | decide) (by first | assumption | omega | decide)) (my_cwV hts ok_X8_stepAt w_436 rfl rfl ⟨Nat.le_of_ble_eq_true rfl, Nat.le_of_ble_eq_true rfl⟩) ⟨bP.blind, va_recv hG.1 hP (ci := 7) (q0 := k) rfl (wl_at (by omega) htx), fun U hU hW => ⟨rfl, by rw [hU]; exact hP, kG.warm hW hG⟩⟩ rfl rfl hl.1 rfl (lv_room (Nat.le_of_ble_eq_true rfl)) dX1_tell_18 ⟨Nat.le_of_ble_eq_true rfl, Nat.le_of_ble_eq_true rfl⟩) (fun r hr9 => ?_)
          subst hr9
          refine my_bei (v := (-116)) (by rw [if_pos (inN_n hi9 (by omega)), nI_clamp (by omega)]; exact hs9) ?_
          refine lv_istore (lv' := [(6, .int (-116)), (0, .ref (g 1)), (1, .ref (g k)), (2, .int (nI pn)), (3, .int q), (4, .int (nI tp)), (5, .int (nI i))]) hx hb dX1_tell_21 hl (by decide) rfl (fun ls hl => ?_)
          refine lv_iload hx hb dX1_tell_23 (lv_at hl 0 rfl) ?_
          refine lv_if_ge (tgt := 37) hx hb dX1_tell_25 (by decide) (fun c_25 => absurd c_25 (by decide)) (fun c_25 => ?_)
          refine lv_iload hx hb dX1_tell_28 (lv_at hl 0 rfl) ?_
          refine lv_ineg hx hb dX1_tell_30 ?_
          refine my_bei (v := 116) (by decide) ?_
          refine rd_calli (va_runS (As := [.int 116]) (rest := []) ⟨hx, hb, hml, hown, hts⟩ (g_rankE l G g hg f_1 116  ) (my_cwS hts ok_X7_rank w_440 rfl rfl ⟨Nat.le_of_ble_eq_true rfl, Nat.le_of_ble_eq_true rfl⟩) ⟨bP.blind, fun U hU hW => ⟨rfl, by rw [hU]; exact hP, kG.warm hW hG⟩⟩ rfl rfl hl.1 rfl (lv_room (Nat.le_of_ble_eq_true rfl)) dX1_tell_31 ⟨Nat.le_of_ble_eq_true rfl, Nat.le_of_ble_eq_true rfl⟩) (fun r hr9 => ?_)
          subst hr9
          refine my_bei (v := 0) (by decide) ?_
          refine lv_goto (tgt := 38) hx hb dX1_tell_34 (by decide) ?_
          refine lv_istore (lv' := [(7, .int 0), (6, .int (-116)), (0, .ref (g 1)), (1, .ref (g k)), (2, .int (nI pn)), (3, .int q), (4, .int (nI tp)), (5, .int (nI i))]) hx hb dX1_tell_38 hl (by decide) rfl (fun ls hl => ?_)
          refine lv_iload hx hb dX1_tell_40 (lv_at hl 0 rfl) ?_
          refine lv_if_ne (tgt := 85) hx hb dX1_tell_42 (by decide) (fun c_42 => absurd (by decide) c_42) (fun c_42 => ?_)
          refine lv_iload hx hb dX1_tell_45 (lv_at hl 6 rfl) ?_
          refine lv_bipush (v := 50) hx hb dX1_tell_47 (by decide) ?_
          refine lv_icmp_ge (tgt := 85) hx hb dX1_tell_49 (by decide) (fun c_49 => absurd c_49 (fun z => absurd ((nI_leI (a := 50) (by decide) (by omega)).mp z) (by omega))) (fun c_49 => ?_)
          refine lv_aload_n hx hb dX1_tell_52 rfl (lv_at hl 2 rfl) ?_
          refine va_get (D := G.1) (ci := 1) (v := .ref (g 15)) (C := RX1) (T := TX1) (N := 5) hx hb hts inlX1 hown hG.1 hP 1 (wl_at (by decide) hctc) rfl 3 (by decide) (hts (.fieldLink RX1 29 "SwornLists$Court" "values" "[J") w_47) (fun _ h9 => h9) rfl dX1_tell_53 ?_
          refine lv_iload hx hb dX1_tell_56 (lv_at hl 6 rfl) ?_
          refine lv_iload hx hb dX1_tell_58 (lv_at hl 1 rfl) ?_
          refine lv_if_lt (tgt := 69) hx hb dX1_tell_60 (by decide) (fun c_60 => ?_) (fun c_60 => absurd (by decide) c_60)
          refine lv_aload_n hx hb dX1_tell_69 rfl (lv_at hl 2 rfl) ?_
          refine lv_iload hx hb dX1_tell_70 (lv_at hl 1 rfl) ?_
          refine lv_ineg hx hb dX1_tell_72 ?_
          refine my_bei (v := 116) (by decide) ?_
          refine lv_iload_n hx hb dX1_tell_73 rfl (lv_at hl 4 rfl) ?_
          refine lv_iload_n hx hb dX1_tell_74 rfl (lv_at hl 5 rfl) ?_
          refine rd_calll (va_runV (As := [.int 116, .int (nI pn), .int q]) (rest := [.int (nI tp), .ref (g 15)]) ⟨hx, hb, hml, hown, hts⟩ (u_letterE l G g hg f_1 se hf pay fine nt ct np dp sw pn 116 q hctc hhs hbk htr hct hpr hpd (by first | assumption | omega | decide) (by first | assumption | omega | decide) (by first | assumption | omega | decide) (by first | assumption | omega | decide) (hS1) (by first | assumption | omega | decide)) (my_cwV hts ok_X1_letter w_441 rfl rfl ⟨Nat.le_of_ble_eq_true rfl, Nat.le_of_ble_eq_true rfl⟩) ⟨bP.blind, va_recv hG.1 hP (ci := 1) (q0 := 1) rfl (wl_at (by decide) hctc), fun U hU hW => ⟨rfl, by rw [hU]; exact hP, kG.warm hW hG⟩⟩ rfl rfl hl.1 rfl (lv_room (Nat.le_of_ble_eq_true rfl)) dX1_tell_75 ⟨Nat.le_of_ble_eq_true rfl, Nat.le_of_ble_eq_true rfl⟩) (fun r hr9 => ?_)
          subst hr9
          refine my_bel (v := (ltk (fun i c => dp (4 * i + c)) (satN (fun t c => ct (70 * t + c)) sw q pn nt) (sinV (fun t c => ct (70 * t + c)) sw q pn nt) pn q) 2) (rfl) ?_
          refine va_last hx hb hG.1 hP (wl_D hg f_1) hS 15 1 (wl_at (by decide) hvl) rfl (vp_in_nI (by omega) (by decide)) dX1_tell_78 (fun H locs hP _ hS => ?_)
          have hP := (congrArg (fun z9 => va_P G.1 vwCl ((wl g f_1).set 15 (g 15, eJ G 50 ((vp_updL vv1 z9 ((ltk (fun i c => dp (4 * i + c)) (satN (fun t c => ct (70 * t + c)) sw q pn nt) (sinV (fun t c => ct (70 * t + c)) sw q pn nt) pn q) 2))))) H) (show Int32.toNatClampNeg (nI tp) = tp from nI_clamp (by omega))).mp hP
          obtain ⟨f_5, hP, e_5, o_5⟩ := b_put (by decide) hP
          have hvl : f_5 15 = eJ G 50 (vp_updL vv1 tp ((ltk (fun i c => dp (4 * i + c)) (satN (fun t c => ct (70 * t + c)) sw q pn nt) (sinV (fun t c => ct (70 * t + c)) sw q pn nt) pn q) 2)) := e_5
          refine lv_iinc (v := nI (tp + 1)) (lv' := [(4, .int (nI (tp + 1))), (7, .int 0), (6, .int (-116)), (0, .ref (g 1)), (1, .ref (g k)), (2, .int (nI pn)), (3, .int q), (5, .int (nI i))]) hx hb dX1_tell_79 hl (k := 6) rfl (nI_add tp 1) (by decide) rfl (fun ls hl => ?_)
          refine lv_goto (tgt := 165) hx hb dX1_tell_82 (by decide) ?_
          refine lv_iinc (v := nI (i + 1)) (lv' := [(5, .int (nI (i + 1))), (4, .int (nI (tp + 1))), (7, .int 0), (6, .int (-116)), (0, .ref (g 1)), (1, .ref (g k)), (2, .int (nI pn)), (3, .int q)]) hx hb dX1_tell_165 hl (k := 7) rfl (nI_add i 1) (by decide) rfl (fun ls hl => ?_)
          refine lv_goto (tgt := 6) hx hb dX1_tell_168 (by decide) ?_
          replace hctc := ((o_5 1 (by decide))).trans hctc
          replace hhs := ((o_5 12 (by decide))).trans hhs
          replace hbk := ((o_5 36 (by decide))).trans hbk
          replace htr := ((o_5 45 (by decide))).trans htr
          replace hct := ((o_5 46 (by decide))).trans hct
          replace hpr := ((o_5 37 (by decide))).trans hpr
          replace hpd := ((o_5 38 (by decide))).trans hpd
          replace htx : f_5 k = eO 7 [.ref (g (k + 1)), .ref (g (k + 2)), .int (nI ln), .int (nI sc)] := ((o_5 k (by omega))).trans htx
          replace hpx : f_5 (k + 2) = eI G 50 sp := ((o_5 (k + 2) (by omega))).trans hpx
          exact ih_1 (i + 1) (tp + 1) (vp_updL vv1 tp ((ltk (fun i c => dp (4 * i + c)) (satN (fun t c => ct (70 * t + c)) sw q pn nt) (sinV (fun t c => ct (70 * t + c)) sw q pn nt) pn q) 2)) f_5 _ _ _ (hi9) (by rw [hdx]; show _ = stE (ltk (fun i c => dp (4 * i + c)) (satN (fun t c => ct (70 * t + c)) sw q pn nt) (sinV (fun t c => ct (70 * t + c)) sw q pn nt) pn q) x9 (ev (ltk (fun i c => dp (4 * i + c)) (satN (fun t c => ct (70 * t + c)) sw q pn nt) (sinV (fun t c => ct (70 * t + c)) sw q pn nt) pn q) (zl.drop (sc - i))); rw [← hst]; unfold stE; rw [ex9, if_neg (by decide), if_pos rfl]; exact stj_p) (fun z hz => okZ_fr (hS1 z hz) (o_5 (2 * z + 16) (by omega)) (o_5 (2 * z + 16 + 1) (by omega))) (by omega) (hctc) (hhs) (hbk) (htr) (hct) (hpr) (hpd) (htx) (hpx) (hvl) (fun j hj => ((o_5 j (by omega))).trans (o_1 j (by omega))) hP hS (lv_sub hl [4, 5, 6, 7, 1, 0] rfl)
        · have hs9 : sp i = (-112) := hsx9.trans (by rw [ex9]; decide)
          refine lv_aload_n hx hb dX1_tell_15 rfl (lv_at hl 1 rfl) ?_
          refine lv_iload hx hb dX1_tell_16 (lv_at hl 5 rfl) ?_
          refine rd_calli (va_runV (As := [.int (nI i)]) (rest := []) ⟨hx, hb, hml, hown, hts⟩ (t_stepAt l G g hg f_1 k ln sc sp (nI i) htx hpx (by first | assumption | omega | decide) (by first | assumption | omega | decide) (by first | assumption | omega | decide)) (my_cwV hts ok_X8_stepAt w_436 rfl rfl ⟨Nat.le_of_ble_eq_true rfl, Nat.le_of_ble_eq_true rfl⟩) ⟨bP.blind, va_recv hG.1 hP (ci := 7) (q0 := k) rfl (wl_at (by omega) htx), fun U hU hW => ⟨rfl, by rw [hU]; exact hP, kG.warm hW hG⟩⟩ rfl rfl hl.1 rfl (lv_room (Nat.le_of_ble_eq_true rfl)) dX1_tell_18 ⟨Nat.le_of_ble_eq_true rfl, Nat.le_of_ble_eq_true rfl⟩) (fun r hr9 => ?_)
          subst hr9
          refine my_bei (v := (-112)) (by rw [if_pos (inN_n hi9 (by omega)), nI_clamp (by omega)]; exact hs9) ?_
          refine lv_istore (lv' := [(6, .int (-112)), (0, .ref (g 1)), (1, .ref (g k)), (2, .int (nI pn)), (3, .int q), (4, .int (nI tp)), (5, .int (nI i))]) hx hb dX1_tell_21 hl (by decide) rfl (fun ls hl => ?_)
          refine lv_iload hx hb dX1_tell_23 (lv_at hl 0 rfl) ?_
          refine lv_if_ge (tgt := 37) hx hb dX1_tell_25 (by decide) (fun c_25 => absurd c_25 (by decide)) (fun c_25 => ?_)
          refine lv_iload hx hb dX1_tell_28 (lv_at hl 0 rfl) ?_
          refine lv_ineg hx hb dX1_tell_30 ?_
          refine my_bei (v := 112) (by decide) ?_
          refine rd_calli (va_runS (As := [.int 112]) (rest := []) ⟨hx, hb, hml, hown, hts⟩ (g_rankE l G g hg f_1 112  ) (my_cwS hts ok_X7_rank w_440 rfl rfl ⟨Nat.le_of_ble_eq_true rfl, Nat.le_of_ble_eq_true rfl⟩) ⟨bP.blind, fun U hU hW => ⟨rfl, by rw [hU]; exact hP, kG.warm hW hG⟩⟩ rfl rfl hl.1 rfl (lv_room (Nat.le_of_ble_eq_true rfl)) dX1_tell_31 ⟨Nat.le_of_ble_eq_true rfl, Nat.le_of_ble_eq_true rfl⟩) (fun r hr9 => ?_)
          subst hr9
          refine my_bei (v := 0) (by decide) ?_
          refine lv_goto (tgt := 38) hx hb dX1_tell_34 (by decide) ?_
          refine lv_istore (lv' := [(7, .int 0), (6, .int (-112)), (0, .ref (g 1)), (1, .ref (g k)), (2, .int (nI pn)), (3, .int q), (4, .int (nI tp)), (5, .int (nI i))]) hx hb dX1_tell_38 hl (by decide) rfl (fun ls hl => ?_)
          refine lv_iload hx hb dX1_tell_40 (lv_at hl 0 rfl) ?_
          refine lv_if_ne (tgt := 85) hx hb dX1_tell_42 (by decide) (fun c_42 => absurd (by decide) c_42) (fun c_42 => ?_)
          refine lv_iload hx hb dX1_tell_45 (lv_at hl 6 rfl) ?_
          refine lv_bipush (v := 50) hx hb dX1_tell_47 (by decide) ?_
          refine lv_icmp_ge (tgt := 85) hx hb dX1_tell_49 (by decide) (fun c_49 => absurd c_49 (fun z => absurd ((nI_leI (a := 50) (by decide) (by omega)).mp z) (by omega))) (fun c_49 => ?_)
          refine lv_aload_n hx hb dX1_tell_52 rfl (lv_at hl 2 rfl) ?_
          refine va_get (D := G.1) (ci := 1) (v := .ref (g 15)) (C := RX1) (T := TX1) (N := 5) hx hb hts inlX1 hown hG.1 hP 1 (wl_at (by decide) hctc) rfl 3 (by decide) (hts (.fieldLink RX1 29 "SwornLists$Court" "values" "[J") w_47) (fun _ h9 => h9) rfl dX1_tell_53 ?_
          refine lv_iload hx hb dX1_tell_56 (lv_at hl 6 rfl) ?_
          refine lv_iload hx hb dX1_tell_58 (lv_at hl 1 rfl) ?_
          refine lv_if_lt (tgt := 69) hx hb dX1_tell_60 (by decide) (fun c_60 => ?_) (fun c_60 => absurd (by decide) c_60)
          refine lv_aload_n hx hb dX1_tell_69 rfl (lv_at hl 2 rfl) ?_
          refine lv_iload hx hb dX1_tell_70 (lv_at hl 1 rfl) ?_
          refine lv_ineg hx hb dX1_tell_72 ?_
          refine my_bei (v := 112) (by decide) ?_
          refine lv_iload_n hx hb dX1_tell_73 rfl (lv_at hl 4 rfl) ?_
          refine lv_iload_n hx hb dX1_tell_74 rfl (lv_at hl 5 rfl) ?_
          refine rd_calll (va_runV (As := [.int 112, .int (nI pn), .int q]) (rest := [.int (nI tp), .ref (g 15)]) ⟨hx, hb, hml, hown, hts⟩ (u_letterE l G g hg f_1 se hf pay fine nt ct np dp sw pn 112 q hctc hhs hbk htr hct hpr hpd (by first | assumption | omega | decide) (by first | assumption | omega | decide) (by first | assumption | omega | decide) (by first | assumption | omega | decide) (hS1) (by first | assumption | omega | decide)) (my_cwV hts ok_X1_letter w_441 rfl rfl ⟨Nat.le_of_ble_eq_true rfl, Nat.le_of_ble_eq_true rfl⟩) ⟨bP.blind, va_recv hG.1 hP (ci := 1) (q0 := 1) rfl (wl_at (by decide) hctc), fun U hU hW => ⟨rfl, by rw [hU]; exact hP, kG.warm hW hG⟩⟩ rfl rfl hl.1 rfl (lv_room (Nat.le_of_ble_eq_true rfl)) dX1_tell_75 ⟨Nat.le_of_ble_eq_true rfl, Nat.le_of_ble_eq_true rfl⟩) (fun r hr9 => ?_)
          subst hr9
          refine my_bel (v := (ltk (fun i c => dp (4 * i + c)) (satN (fun t c => ct (70 * t + c)) sw q pn nt) (sinV (fun t c => ct (70 * t + c)) sw q pn nt) pn q) 3) (rfl) ?_
          refine va_last hx hb hG.1 hP (wl_D hg f_1) hS 15 1 (wl_at (by decide) hvl) rfl (vp_in_nI (by omega) (by decide)) dX1_tell_78 (fun H locs hP _ hS => ?_)
          have hP := (congrArg (fun z9 => va_P G.1 vwCl ((wl g f_1).set 15 (g 15, eJ G 50 ((vp_updL vv1 z9 ((ltk (fun i c => dp (4 * i + c)) (satN (fun t c => ct (70 * t + c)) sw q pn nt) (sinV (fun t c => ct (70 * t + c)) sw q pn nt) pn q) 3))))) H) (show Int32.toNatClampNeg (nI tp) = tp from nI_clamp (by omega))).mp hP
          obtain ⟨f_6, hP, e_6, o_6⟩ := b_put (by decide) hP
          have hvl : f_6 15 = eJ G 50 (vp_updL vv1 tp ((ltk (fun i c => dp (4 * i + c)) (satN (fun t c => ct (70 * t + c)) sw q pn nt) (sinV (fun t c => ct (70 * t + c)) sw q pn nt) pn q) 3)) := e_6
          refine lv_iinc (v := nI (tp + 1)) (lv' := [(4, .int (nI (tp + 1))), (7, .int 0), (6, .int (-112)), (0, .ref (g 1)), (1, .ref (g k)), (2, .int (nI pn)), (3, .int q), (5, .int (nI i))]) hx hb dX1_tell_79 hl (k := 6) rfl (nI_add tp 1) (by decide) rfl (fun ls hl => ?_)
          refine lv_goto (tgt := 165) hx hb dX1_tell_82 (by decide) ?_
          refine lv_iinc (v := nI (i + 1)) (lv' := [(5, .int (nI (i + 1))), (4, .int (nI (tp + 1))), (7, .int 0), (6, .int (-112)), (0, .ref (g 1)), (1, .ref (g k)), (2, .int (nI pn)), (3, .int q)]) hx hb dX1_tell_165 hl (k := 7) rfl (nI_add i 1) (by decide) rfl (fun ls hl => ?_)
          refine lv_goto (tgt := 6) hx hb dX1_tell_168 (by decide) ?_
          replace hctc := ((o_6 1 (by decide))).trans hctc
          replace hhs := ((o_6 12 (by decide))).trans hhs
          replace hbk := ((o_6 36 (by decide))).trans hbk
          replace htr := ((o_6 45 (by decide))).trans htr
          replace hct := ((o_6 46 (by decide))).trans hct
          replace hpr := ((o_6 37 (by decide))).trans hpr
          replace hpd := ((o_6 38 (by decide))).trans hpd
          replace htx : f_6 k = eO 7 [.ref (g (k + 1)), .ref (g (k + 2)), .int (nI ln), .int (nI sc)] := ((o_6 k (by omega))).trans htx
          replace hpx : f_6 (k + 2) = eI G 50 sp := ((o_6 (k + 2) (by omega))).trans hpx
          exact ih_1 (i + 1) (tp + 1) (vp_updL vv1 tp ((ltk (fun i c => dp (4 * i + c)) (satN (fun t c => ct (70 * t + c)) sw q pn nt) (sinV (fun t c => ct (70 * t + c)) sw q pn nt) pn q) 3)) f_6 _ _ _ (hi9) (by rw [hdx]; show _ = stE (ltk (fun i c => dp (4 * i + c)) (satN (fun t c => ct (70 * t + c)) sw q pn nt) (sinV (fun t c => ct (70 * t + c)) sw q pn nt) pn q) x9 (ev (ltk (fun i c => dp (4 * i + c)) (satN (fun t c => ct (70 * t + c)) sw q pn nt) (sinV (fun t c => ct (70 * t + c)) sw q pn nt) pn q) (zl.drop (sc - i))); rw [← hst]; unfold stE; rw [ex9, if_neg (by decide), if_pos rfl]; exact stj_p) (fun z hz => okZ_fr (hS1 z hz) (o_6 (2 * z + 16) (by omega)) (o_6 (2 * z + 16 + 1) (by omega))) (by omega) (hctc) (hhs) (hbk) (htr) (hct) (hpr) (hpd) (htx) (hpx) (hvl) (fun j hj => ((o_6 j (by omega))).trans (o_1 j (by omega))) hP hS (lv_sub hl [4, 5, 6, 7, 1, 0] rfl)
        · have hs9 : sp i = (-115) := hsx9.trans (by rw [ex9]; decide)
          refine lv_aload_n hx hb dX1_tell_15 rfl (lv_at hl 1 rfl) ?_
          refine lv_iload hx hb dX1_tell_16 (lv_at hl 5 rfl) ?_
          refine rd_calli (va_runV (As := [.int (nI i)]) (rest := []) ⟨hx, hb, hml, hown, hts⟩ (t_stepAt l G g hg f_1 k ln sc sp (nI i) htx hpx (by first | assumption | omega | decide) (by first | assumption | omega | decide) (by first | assumption | omega | decide)) (my_cwV hts ok_X8_stepAt w_436 rfl rfl ⟨Nat.le_of_ble_eq_true rfl, Nat.le_of_ble_eq_true rfl⟩) ⟨bP.blind, va_recv hG.1 hP (ci := 7) (q0 := k) rfl (wl_at (by omega) htx), fun U hU hW => ⟨rfl, by rw [hU]; exact hP, kG.warm hW hG⟩⟩ rfl rfl hl.1 rfl (lv_room (Nat.le_of_ble_eq_true rfl)) dX1_tell_18 ⟨Nat.le_of_ble_eq_true rfl, Nat.le_of_ble_eq_true rfl⟩) (fun r hr9 => ?_)
          subst hr9
          refine my_bei (v := (-115)) (by rw [if_pos (inN_n hi9 (by omega)), nI_clamp (by omega)]; exact hs9) ?_
          refine lv_istore (lv' := [(6, .int (-115)), (0, .ref (g 1)), (1, .ref (g k)), (2, .int (nI pn)), (3, .int q), (4, .int (nI tp)), (5, .int (nI i))]) hx hb dX1_tell_21 hl (by decide) rfl (fun ls hl => ?_)
          refine lv_iload hx hb dX1_tell_23 (lv_at hl 0 rfl) ?_
          refine lv_if_ge (tgt := 37) hx hb dX1_tell_25 (by decide) (fun c_25 => absurd c_25 (by decide)) (fun c_25 => ?_)
          refine lv_iload hx hb dX1_tell_28 (lv_at hl 0 rfl) ?_
          refine lv_ineg hx hb dX1_tell_30 ?_
          refine my_bei (v := 115) (by decide) ?_
          refine rd_calli (va_runS (As := [.int 115]) (rest := []) ⟨hx, hb, hml, hown, hts⟩ (g_rankE l G g hg f_1 115  ) (my_cwS hts ok_X7_rank w_440 rfl rfl ⟨Nat.le_of_ble_eq_true rfl, Nat.le_of_ble_eq_true rfl⟩) ⟨bP.blind, fun U hU hW => ⟨rfl, by rw [hU]; exact hP, kG.warm hW hG⟩⟩ rfl rfl hl.1 rfl (lv_room (Nat.le_of_ble_eq_true rfl)) dX1_tell_31 ⟨Nat.le_of_ble_eq_true rfl, Nat.le_of_ble_eq_true rfl⟩) (fun r hr9 => ?_)
          subst hr9
          refine my_bei (v := 0) (by decide) ?_
          refine lv_goto (tgt := 38) hx hb dX1_tell_34 (by decide) ?_
          refine lv_istore (lv' := [(7, .int 0), (6, .int (-115)), (0, .ref (g 1)), (1, .ref (g k)), (2, .int (nI pn)), (3, .int q), (4, .int (nI tp)), (5, .int (nI i))]) hx hb dX1_tell_38 hl (by decide) rfl (fun ls hl => ?_)
          refine lv_iload hx hb dX1_tell_40 (lv_at hl 0 rfl) ?_
          refine lv_if_ne (tgt := 85) hx hb dX1_tell_42 (by decide) (fun c_42 => absurd (by decide) c_42) (fun c_42 => ?_)
          refine lv_iload hx hb dX1_tell_45 (lv_at hl 6 rfl) ?_
          refine lv_bipush (v := 50) hx hb dX1_tell_47 (by decide) ?_
          refine lv_icmp_ge (tgt := 85) hx hb dX1_tell_49 (by decide) (fun c_49 => absurd c_49 (fun z => absurd ((nI_leI (a := 50) (by decide) (by omega)).mp z) (by omega))) (fun c_49 => ?_)
          refine lv_aload_n hx hb dX1_tell_52 rfl (lv_at hl 2 rfl) ?_
          refine va_get (D := G.1) (ci := 1) (v := .ref (g 15)) (C := RX1) (T := TX1) (N := 5) hx hb hts inlX1 hown hG.1 hP 1 (wl_at (by decide) hctc) rfl 3 (by decide) (hts (.fieldLink RX1 29 "SwornLists$Court" "values" "[J") w_47) (fun _ h9 => h9) rfl dX1_tell_53 ?_
          refine lv_iload hx hb dX1_tell_56 (lv_at hl 6 rfl) ?_
          refine lv_iload hx hb dX1_tell_58 (lv_at hl 1 rfl) ?_
          refine lv_if_lt (tgt := 69) hx hb dX1_tell_60 (by decide) (fun c_60 => ?_) (fun c_60 => absurd (by decide) c_60)
          refine lv_aload_n hx hb dX1_tell_69 rfl (lv_at hl 2 rfl) ?_
          refine lv_iload hx hb dX1_tell_70 (lv_at hl 1 rfl) ?_
          refine lv_ineg hx hb dX1_tell_72 ?_
          refine my_bei (v := 115) (by decide) ?_
          refine lv_iload_n hx hb dX1_tell_73 rfl (lv_at hl 4 rfl) ?_
          refine lv_iload_n hx hb dX1_tell_74 rfl (lv_at hl 5 rfl) ?_
          refine rd_calll (va_runV (As := [.int 115, .int (nI pn), .int q]) (rest := [.int (nI tp), .ref (g 15)]) ⟨hx, hb, hml, hown, hts⟩ (u_letterE l G g hg f_1 se hf pay fine nt ct np dp sw pn 115 q hctc hhs hbk htr hct hpr hpd (by first | assumption | omega | decide) (by first | assumption | omega | decide) (by first | assumption | omega | decide) (by first | assumption | omega | decide) (hS1) (by first | assumption | omega | decide)) (my_cwV hts ok_X1_letter w_441 rfl rfl ⟨Nat.le_of_ble_eq_true rfl, Nat.le_of_ble_eq_true rfl⟩) ⟨bP.blind, va_recv hG.1 hP (ci := 1) (q0 := 1) rfl (wl_at (by decide) hctc), fun U hU hW => ⟨rfl, by rw [hU]; exact hP, kG.warm hW hG⟩⟩ rfl rfl hl.1 rfl (lv_room (Nat.le_of_ble_eq_true rfl)) dX1_tell_75 ⟨Nat.le_of_ble_eq_true rfl, Nat.le_of_ble_eq_true rfl⟩) (fun r hr9 => ?_)
          subst hr9
          refine my_bel (v := (ltk (fun i c => dp (4 * i + c)) (satN (fun t c => ct (70 * t + c)) sw q pn nt) (sinV (fun t c => ct (70 * t + c)) sw q pn nt) pn q) 4) (rfl) ?_
          refine va_last hx hb hG.1 hP (wl_D hg f_1) hS 15 1 (wl_at (by decide) hvl) rfl (vp_in_nI (by omega) (by decide)) dX1_tell_78 (fun H locs hP _ hS => ?_)
          have hP := (congrArg (fun z9 => va_P G.1 vwCl ((wl g f_1).set 15 (g 15, eJ G 50 ((vp_updL vv1 z9 ((ltk (fun i c => dp (4 * i + c)) (satN (fun t c => ct (70 * t + c)) sw q pn nt) (sinV (fun t c => ct (70 * t + c)) sw q pn nt) pn q) 4))))) H) (show Int32.toNatClampNeg (nI tp) = tp from nI_clamp (by omega))).mp hP
          obtain ⟨f_7, hP, e_7, o_7⟩ := b_put (by decide) hP
          have hvl : f_7 15 = eJ G 50 (vp_updL vv1 tp ((ltk (fun i c => dp (4 * i + c)) (satN (fun t c => ct (70 * t + c)) sw q pn nt) (sinV (fun t c => ct (70 * t + c)) sw q pn nt) pn q) 4)) := e_7
          refine lv_iinc (v := nI (tp + 1)) (lv' := [(4, .int (nI (tp + 1))), (7, .int 0), (6, .int (-115)), (0, .ref (g 1)), (1, .ref (g k)), (2, .int (nI pn)), (3, .int q), (5, .int (nI i))]) hx hb dX1_tell_79 hl (k := 6) rfl (nI_add tp 1) (by decide) rfl (fun ls hl => ?_)
          refine lv_goto (tgt := 165) hx hb dX1_tell_82 (by decide) ?_
          refine lv_iinc (v := nI (i + 1)) (lv' := [(5, .int (nI (i + 1))), (4, .int (nI (tp + 1))), (7, .int 0), (6, .int (-115)), (0, .ref (g 1)), (1, .ref (g k)), (2, .int (nI pn)), (3, .int q)]) hx hb dX1_tell_165 hl (k := 7) rfl (nI_add i 1) (by decide) rfl (fun ls hl => ?_)
          refine lv_goto (tgt := 6) hx hb dX1_tell_168 (by decide) ?_
          replace hctc := ((o_7 1 (by decide))).trans hctc
          replace hhs := ((o_7 12 (by decide))).trans hhs
          replace hbk := ((o_7 36 (by decide))).trans hbk
          replace htr := ((o_7 45 (by decide))).trans htr
          replace hct := ((o_7 46 (by decide))).trans hct
          replace hpr := ((o_7 37 (by decide))).trans hpr
          replace hpd := ((o_7 38 (by decide))).trans hpd
          replace htx : f_7 k = eO 7 [.ref (g (k + 1)), .ref (g (k + 2)), .int (nI ln), .int (nI sc)] := ((o_7 k (by omega))).trans htx
          replace hpx : f_7 (k + 2) = eI G 50 sp := ((o_7 (k + 2) (by omega))).trans hpx
          exact ih_1 (i + 1) (tp + 1) (vp_updL vv1 tp ((ltk (fun i c => dp (4 * i + c)) (satN (fun t c => ct (70 * t + c)) sw q pn nt) (sinV (fun t c => ct (70 * t + c)) sw q pn nt) pn q) 4)) f_7 _ _ _ (hi9) (by rw [hdx]; show _ = stE (ltk (fun i c => dp (4 * i + c)) (satN (fun t c => ct (70 * t + c)) sw q pn nt) (sinV (fun t c => ct (70 * t + c)) sw q pn nt) pn q) x9 (ev (ltk (fun i c => dp (4 * i + c)) (satN (fun t c => ct (70 * t + c)) sw q pn nt) (sinV (fun t c => ct (70 * t + c)) sw q pn nt) pn q) (zl.drop (sc - i))); rw [← hst]; unfold stE; rw [ex9, if_neg (by decide), if_pos rfl]; exact stj_p) (fun z hz => okZ_fr (hS1 z hz) (o_7 (2 * z + 16) (by omega)) (o_7 (2 * z + 16 + 1) (by omega))) (by omega) (hctc) (hhs) (hbk) (htr) (hct) (hpr) (hpd) (htx) (hpx) (hvl) (fun j hj => ((o_7 j (by omega))).trans (o_1 j (by omega))) hP hS (lv_sub hl [4, 5, 6, 7, 1, 0] rfl)
        · have hs9 : sp i = (-121) := hsx9.trans (by rw [ex9]; decide)
          refine lv_aload_n hx hb dX1_tell_15 rfl (lv_at hl 1 rfl) ?_
          refine lv_iload hx hb dX1_tell_16 (lv_at hl 5 rfl) ?_
          refine rd_calli (va_runV (As := [.int (nI i)]) (rest := []) ⟨hx, hb, hml, hown, hts⟩ (t_stepAt l G g hg f_1 k ln sc sp (nI i) htx hpx (by first | assumption | omega | decide) (by first | assumption | omega | decide) (by first | assumption | omega | decide)) (my_cwV hts ok_X8_stepAt w_436 rfl rfl ⟨Nat.le_of_ble_eq_true rfl, Nat.le_of_ble_eq_true rfl⟩) ⟨bP.blind, va_recv hG.1 hP (ci := 7) (q0 := k) rfl (wl_at (by omega) htx), fun U hU hW => ⟨rfl, by rw [hU]; exact hP, kG.warm hW hG⟩⟩ rfl rfl hl.1 rfl (lv_room (Nat.le_of_ble_eq_true rfl)) dX1_tell_18 ⟨Nat.le_of_ble_eq_true rfl, Nat.le_of_ble_eq_true rfl⟩) (fun r hr9 => ?_)
          subst hr9
          refine my_bei (v := (-121)) (by rw [if_pos (inN_n hi9 (by omega)), nI_clamp (by omega)]; exact hs9) ?_
          refine lv_istore (lv' := [(6, .int (-121)), (0, .ref (g 1)), (1, .ref (g k)), (2, .int (nI pn)), (3, .int q), (4, .int (nI tp)), (5, .int (nI i))]) hx hb dX1_tell_21 hl (by decide) rfl (fun ls hl => ?_)
          refine lv_iload hx hb dX1_tell_23 (lv_at hl 0 rfl) ?_
          refine lv_if_ge (tgt := 37) hx hb dX1_tell_25 (by decide) (fun c_25 => absurd c_25 (by decide)) (fun c_25 => ?_)
          refine lv_iload hx hb dX1_tell_28 (lv_at hl 0 rfl) ?_
          refine lv_ineg hx hb dX1_tell_30 ?_
          refine my_bei (v := 121) (by decide) ?_
          refine rd_calli (va_runS (As := [.int 121]) (rest := []) ⟨hx, hb, hml, hown, hts⟩ (g_rankE l G g hg f_1 121  ) (my_cwS hts ok_X7_rank w_440 rfl rfl ⟨Nat.le_of_ble_eq_true rfl, Nat.le_of_ble_eq_true rfl⟩) ⟨bP.blind, fun U hU hW => ⟨rfl, by rw [hU]; exact hP, kG.warm hW hG⟩⟩ rfl rfl hl.1 rfl (lv_room (Nat.le_of_ble_eq_true rfl)) dX1_tell_31 ⟨Nat.le_of_ble_eq_true rfl, Nat.le_of_ble_eq_true rfl⟩) (fun r hr9 => ?_)
          subst hr9
          refine my_bei (v := 0) (by decide) ?_
          refine lv_goto (tgt := 38) hx hb dX1_tell_34 (by decide) ?_
          refine lv_istore (lv' := [(7, .int 0), (6, .int (-121)), (0, .ref (g 1)), (1, .ref (g k)), (2, .int (nI pn)), (3, .int q), (4, .int (nI tp)), (5, .int (nI i))]) hx hb dX1_tell_38 hl (by decide) rfl (fun ls hl => ?_)
          refine lv_iload hx hb dX1_tell_40 (lv_at hl 0 rfl) ?_
          refine lv_if_ne (tgt := 85) hx hb dX1_tell_42 (by decide) (fun c_42 => absurd (by decide) c_42) (fun c_42 => ?_)
          refine lv_iload hx hb dX1_tell_45 (lv_at hl 6 rfl) ?_
          refine lv_bipush (v := 50) hx hb dX1_tell_47 (by decide) ?_
          refine lv_icmp_ge (tgt := 85) hx hb dX1_tell_49 (by decide) (fun c_49 => absurd c_49 (fun z => absurd ((nI_leI (a := 50) (by decide) (by omega)).mp z) (by omega))) (fun c_49 => ?_)
          refine lv_aload_n hx hb dX1_tell_52 rfl (lv_at hl 2 rfl) ?_
          refine va_get (D := G.1) (ci := 1) (v := .ref (g 15)) (C := RX1) (T := TX1) (N := 5) hx hb hts inlX1 hown hG.1 hP 1 (wl_at (by decide) hctc) rfl 3 (by decide) (hts (.fieldLink RX1 29 "SwornLists$Court" "values" "[J") w_47) (fun _ h9 => h9) rfl dX1_tell_53 ?_
          refine lv_iload hx hb dX1_tell_56 (lv_at hl 6 rfl) ?_
          refine lv_iload hx hb dX1_tell_58 (lv_at hl 1 rfl) ?_
          refine lv_if_lt (tgt := 69) hx hb dX1_tell_60 (by decide) (fun c_60 => ?_) (fun c_60 => absurd (by decide) c_60)
          refine lv_aload_n hx hb dX1_tell_69 rfl (lv_at hl 2 rfl) ?_
          refine lv_iload hx hb dX1_tell_70 (lv_at hl 1 rfl) ?_
          refine lv_ineg hx hb dX1_tell_72 ?_
          refine my_bei (v := 121) (by decide) ?_
          refine lv_iload_n hx hb dX1_tell_73 rfl (lv_at hl 4 rfl) ?_
          refine lv_iload_n hx hb dX1_tell_74 rfl (lv_at hl 5 rfl) ?_
          refine rd_calll (va_runV (As := [.int 121, .int (nI pn), .int q]) (rest := [.int (nI tp), .ref (g 15)]) ⟨hx, hb, hml, hown, hts⟩ (u_letterE l G g hg f_1 se hf pay fine nt ct np dp sw pn 121 q hctc hhs hbk htr hct hpr hpd (by first | assumption | omega | decide) (by first | assumption | omega | decide) (by first | assumption | omega | decide) (by first | assumption | omega | decide) (hS1) (by first | assumption | omega | decide)) (my_cwV hts ok_X1_letter w_441 rfl rfl ⟨Nat.le_of_ble_eq_true rfl, Nat.le_of_ble_eq_true rfl⟩) ⟨bP.blind, va_recv hG.1 hP (ci := 1) (q0 := 1) rfl (wl_at (by decide) hctc), fun U hU hW => ⟨rfl, by rw [hU]; exact hP, kG.warm hW hG⟩⟩ rfl rfl hl.1 rfl (lv_room (Nat.le_of_ble_eq_true rfl)) dX1_tell_75 ⟨Nat.le_of_ble_eq_true rfl, Nat.le_of_ble_eq_true rfl⟩) (fun r hr9 => ?_)
          subst hr9
          refine my_bel (v := (ltk (fun i c => dp (4 * i + c)) (satN (fun t c => ct (70 * t + c)) sw q pn nt) (sinV (fun t c => ct (70 * t + c)) sw q pn nt) pn q) 5) (rfl) ?_
          refine va_last hx hb hG.1 hP (wl_D hg f_1) hS 15 1 (wl_at (by decide) hvl) rfl (vp_in_nI (by omega) (by decide)) dX1_tell_78 (fun H locs hP _ hS => ?_)
          have hP := (congrArg (fun z9 => va_P G.1 vwCl ((wl g f_1).set 15 (g 15, eJ G 50 ((vp_updL vv1 z9 ((ltk (fun i c => dp (4 * i + c)) (satN (fun t c => ct (70 * t + c)) sw q pn nt) (sinV (fun t c => ct (70 * t + c)) sw q pn nt) pn q) 5))))) H) (show Int32.toNatClampNeg (nI tp) = tp from nI_clamp (by omega))).mp hP
          obtain ⟨f_8, hP, e_8, o_8⟩ := b_put (by decide) hP
          have hvl : f_8 15 = eJ G 50 (vp_updL vv1 tp ((ltk (fun i c => dp (4 * i + c)) (satN (fun t c => ct (70 * t + c)) sw q pn nt) (sinV (fun t c => ct (70 * t + c)) sw q pn nt) pn q) 5)) := e_8
          refine lv_iinc (v := nI (tp + 1)) (lv' := [(4, .int (nI (tp + 1))), (7, .int 0), (6, .int (-121)), (0, .ref (g 1)), (1, .ref (g k)), (2, .int (nI pn)), (3, .int q), (5, .int (nI i))]) hx hb dX1_tell_79 hl (k := 6) rfl (nI_add tp 1) (by decide) rfl (fun ls hl => ?_)
          refine lv_goto (tgt := 165) hx hb dX1_tell_82 (by decide) ?_
          refine lv_iinc (v := nI (i + 1)) (lv' := [(5, .int (nI (i + 1))), (4, .int (nI (tp + 1))), (7, .int 0), (6, .int (-121)), (0, .ref (g 1)), (1, .ref (g k)), (2, .int (nI pn)), (3, .int q)]) hx hb dX1_tell_165 hl (k := 7) rfl (nI_add i 1) (by decide) rfl (fun ls hl => ?_)
          refine lv_goto (tgt := 6) hx hb dX1_tell_168 (by decide) ?_
          replace hctc := ((o_8 1 (by decide))).trans hctc
          replace hhs := ((o_8 12 (by decide))).trans hhs
          replace hbk := ((o_8 36 (by decide))).trans hbk
          replace htr := ((o_8 45 (by decide))).trans htr
          replace hct := ((o_8 46 (by decide))).trans hct
          replace hpr := ((o_8 37 (by decide))).trans hpr
          replace hpd := ((o_8 38 (by decide))).trans hpd
          replace htx : f_8 k = eO 7 [.ref (g (k + 1)), .ref (g (k + 2)), .int (nI ln), .int (nI sc)] := ((o_8 k (by omega))).trans htx
          replace hpx : f_8 (k + 2) = eI G 50 sp := ((o_8 (k + 2) (by omega))).trans hpx
          exact ih_1 (i + 1) (tp + 1) (vp_updL vv1 tp ((ltk (fun i c => dp (4 * i + c)) (satN (fun t c => ct (70 * t + c)) sw q pn nt) (sinV (fun t c => ct (70 * t + c)) sw q pn nt) pn q) 5)) f_8 _ _ _ (hi9) (by rw [hdx]; show _ = stE (ltk (fun i c => dp (4 * i + c)) (satN (fun t c => ct (70 * t + c)) sw q pn nt) (sinV (fun t c => ct (70 * t + c)) sw q pn nt) pn q) x9 (ev (ltk (fun i c => dp (4 * i + c)) (satN (fun t c => ct (70 * t + c)) sw q pn nt) (sinV (fun t c => ct (70 * t + c)) sw q pn nt) pn q) (zl.drop (sc - i))); rw [← hst]; unfold stE; rw [ex9, if_neg (by decide), if_pos rfl]; exact stj_p) (fun z hz => okZ_fr (hS1 z hz) (o_8 (2 * z + 16) (by omega)) (o_8 (2 * z + 16 + 1) (by omega))) (by omega) (hctc) (hhs) (hbk) (htr) (hct) (hpr) (hpd) (htx) (hpx) (hvl) (fun j hj => ((o_8 j (by omega))).trans (o_1 j (by omega))) hP hS (lv_sub hl [4, 5, 6, 7, 1, 0] rfl)
        · have hs9 : sp i = (-33) := hsx9.trans (by unfold cdp; rw [ex9, if_neg (by decide), if_neg (by decide)]; decide)
          have hd9 := dpl_u hd1 hd2 (Or.inl ex9)
          have hd8 := hd9.1
          refine lv_aload_n hx hb dX1_tell_15 rfl (lv_at hl 1 rfl) ?_
          refine lv_iload hx hb dX1_tell_16 (lv_at hl 5 rfl) ?_
          refine rd_calli (va_runV (As := [.int (nI i)]) (rest := []) ⟨hx, hb, hml, hown, hts⟩ (t_stepAt l G g hg f_1 k ln sc sp (nI i) htx hpx (by first | assumption | omega | decide) (by first | assumption | omega | decide) (by first | assumption | omega | decide)) (my_cwV hts ok_X8_stepAt w_436 rfl rfl ⟨Nat.le_of_ble_eq_true rfl, Nat.le_of_ble_eq_true rfl⟩) ⟨bP.blind, va_recv hG.1 hP (ci := 7) (q0 := k) rfl (wl_at (by omega) htx), fun U hU hW => ⟨rfl, by rw [hU]; exact hP, kG.warm hW hG⟩⟩ rfl rfl hl.1 rfl (lv_room (Nat.le_of_ble_eq_true rfl)) dX1_tell_18 ⟨Nat.le_of_ble_eq_true rfl, Nat.le_of_ble_eq_true rfl⟩) (fun r hr9 => ?_)
          subst hr9
          refine my_bei (v := (-33)) (by rw [if_pos (inN_n hi9 (by omega)), nI_clamp (by omega)]; exact hs9) ?_
          refine lv_istore (lv' := [(6, .int (-33)), (0, .ref (g 1)), (1, .ref (g k)), (2, .int (nI pn)), (3, .int q), (4, .int (nI tp)), (5, .int (nI i))]) hx hb dX1_tell_21 hl (by decide) rfl (fun ls hl => ?_)
          refine lv_iload hx hb dX1_tell_23 (lv_at hl 0 rfl) ?_
          refine lv_if_ge (tgt := 37) hx hb dX1_tell_25 (by decide) (fun c_25 => absurd c_25 (by decide)) (fun c_25 => ?_)
          refine lv_iload hx hb dX1_tell_28 (lv_at hl 0 rfl) ?_
          refine lv_ineg hx hb dX1_tell_30 ?_
          refine my_bei (v := 33) (by decide) ?_
          refine rd_calli (va_runS (As := [.int 33]) (rest := []) ⟨hx, hb, hml, hown, hts⟩ (g_rankE l G g hg f_1 33  ) (my_cwS hts ok_X7_rank w_440 rfl rfl ⟨Nat.le_of_ble_eq_true rfl, Nat.le_of_ble_eq_true rfl⟩) ⟨bP.blind, fun U hU hW => ⟨rfl, by rw [hU]; exact hP, kG.warm hW hG⟩⟩ rfl rfl hl.1 rfl (lv_room (Nat.le_of_ble_eq_true rfl)) dX1_tell_31 ⟨Nat.le_of_ble_eq_true rfl, Nat.le_of_ble_eq_true rfl⟩) (fun r hr9 => ?_)
          subst hr9
          refine my_bei (v := 6) (by decide) ?_
          refine lv_goto (tgt := 38) hx hb dX1_tell_34 (by decide) ?_
          refine lv_istore (lv' := [(7, .int 6), (6, .int (-33)), (0, .ref (g 1)), (1, .ref (g k)), (2, .int (nI pn)), (3, .int q), (4, .int (nI tp)), (5, .int (nI i))]) hx hb dX1_tell_38 hl (by decide) rfl (fun ls hl => ?_)
          refine lv_iload hx hb dX1_tell_40 (lv_at hl 0 rfl) ?_
          refine lv_if_ne (tgt := 85) hx hb dX1_tell_42 (by decide) (fun c_42 => ?_) (fun c_42 => absurd c_42 (by decide))
          refine lv_iload hx hb dX1_tell_85 (lv_at hl 0 rfl) ?_
          refine lv_bipush (v := 6) hx hb dX1_tell_87 (by decide) ?_
          refine lv_icmp_ne (tgt := 125) hx hb dX1_tell_89 (by decide) (fun c_89 => absurd (by decide) c_89) (fun c_89 => ?_)
          refine lv_iload hx hb dX1_tell_92 (lv_at hl 6 rfl) ?_
          refine lv_iconst (v := 1) hx hb dX1_tell_94 (by decide) ?_
          refine lv_icmp_lt (tgt := 125) hx hb dX1_tell_95 (by decide) (fun c_95 => absurd c_95 (fun z => absurd ((nI_ltI (b := 1) (by omega) (by decide)).mp z) (by omega))) (fun c_95 => ?_)
          refine lv_aload_n hx hb dX1_tell_98 rfl (lv_at hl 2 rfl) ?_
          refine va_get (D := G.1) (ci := 1) (v := .ref (g 15)) (C := RX1) (T := TX1) (N := 5) hx hb hts inlX1 hown hG.1 hP 1 (wl_at (by decide) hctc) rfl 3 (by decide) (hts (.fieldLink RX1 29 "SwornLists$Court" "values" "[J") w_47) (fun _ h9 => h9) rfl dX1_tell_99 ?_
          refine lv_iload hx hb dX1_tell_102 (lv_at hl 6 rfl) ?_
          refine lv_iconst (v := 1) hx hb dX1_tell_104 (by decide) ?_
          refine lv_isub hx hb dX1_tell_105 ?_
          refine my_bei (v := nI (tp - 1)) (pk_sub (a := tp) (b := 1) (by omega)) ?_
          refine lv_iload hx hb dX1_tell_106 (lv_at hl 1 rfl) ?_
          refine lv_ineg hx hb dX1_tell_108 ?_
          refine my_bei (v := 33) (by decide) ?_
          refine lv_aload_n hx hb dX1_tell_109 rfl (lv_at hl 2 rfl) ?_
          refine va_get (D := G.1) (ci := 1) (v := .ref (g 15)) (C := RX1) (T := TX1) (N := 5) hx hb hts inlX1 hown hG.1 hP 1 (wl_at (by decide) hctc) rfl 3 (by decide) (hts (.fieldLink RX1 29 "SwornLists$Court" "values" "[J") w_47) (fun _ h9 => h9) rfl dX1_tell_110 ?_
          refine lv_iload hx hb dX1_tell_113 (lv_at hl 6 rfl) ?_
          refine lv_iconst (v := 1) hx hb dX1_tell_115 (by decide) ?_
          refine lv_isub hx hb dX1_tell_116 ?_
          refine my_bei (v := nI (tp - 1)) (pk_sub (a := tp) (b := 1) (by omega)) ?_
          refine va_lald hx hb hG.1 hP 15 1 (wl_at (by decide) hvl) rfl (vp_in_nI (by omega) (by decide)) dX1_tell_117 ?_
          refine my_bel (v := vv1 (tp - 1)) (congrArg vv1 (nI_clamp (n := tp - 1) (by omega))) ?_
          refine rd_calll (va_runS (As := [.int 33, .long (vv1 (tp - 1))]) (rest := [.int (nI (tp - 1)), .ref (g 15)]) ⟨hx, hb, hml, hown, hts⟩ (g_turnedE l G g hg f_1 33 (vv1 (tp - 1))  ) (my_cwS hts ok_X7_turned w_455 rfl rfl ⟨Nat.le_of_ble_eq_true rfl, Nat.le_of_ble_eq_true rfl⟩) ⟨bP.blind, fun U hU hW => ⟨rfl, by rw [hU]; exact hP, kG.warm hW hG⟩⟩ rfl rfl hl.1 rfl (lv_room (Nat.le_of_ble_eq_true rfl)) dX1_tell_118 ⟨Nat.le_of_ble_eq_true rfl, Nat.le_of_ble_eq_true rfl⟩) (fun r hr9 => ?_)
          subst hr9
          refine my_bel (v := (fun a => if a = 0 then 1 else 0) ((vv1 (tp - 1)))) (show trn 33 _ = _ by unfold trn; rw [if_pos rfl]) ?_
          refine va_last hx hb hG.1 hP (wl_D hg f_1) hS 15 1 (wl_at (by decide) hvl) rfl (vp_in_nI (by omega) (by decide)) dX1_tell_121 (fun H locs hP _ hS => ?_)
          have hP := (congrArg (fun z9 => va_P G.1 vwCl ((wl g f_1).set 15 (g 15, eJ G 50 ((vp_updL vv1 z9 ((fun a => if a = 0 then 1 else 0) ((vv1 (tp - 1)))))))) H) (show Int32.toNatClampNeg (nI (tp - 1)) = tp - 1 from nI_clamp (by omega))).mp hP
          obtain ⟨f_9, hP, e_9, o_9⟩ := b_put (by decide) hP
          have hvl : f_9 15 = eJ G 50 (vp_updL vv1 (tp - 1) ((fun a => if a = 0 then 1 else 0) ((vv1 (tp - 1))))) := e_9
          refine lv_goto (tgt := 165) hx hb dX1_tell_122 (by decide) ?_
          refine lv_iinc (v := nI (i + 1)) (lv' := [(5, .int (nI (i + 1))), (7, .int 6), (6, .int (-33)), (0, .ref (g 1)), (1, .ref (g k)), (2, .int (nI pn)), (3, .int q), (4, .int (nI tp))]) hx hb dX1_tell_165 hl (k := 7) rfl (nI_add i 1) (by decide) rfl (fun ls hl => ?_)
          refine lv_goto (tgt := 6) hx hb dX1_tell_168 (by decide) ?_
          replace hctc := ((o_9 1 (by decide))).trans hctc
          replace hhs := ((o_9 12 (by decide))).trans hhs
          replace hbk := ((o_9 36 (by decide))).trans hbk
          replace htr := ((o_9 45 (by decide))).trans htr
          replace hct := ((o_9 46 (by decide))).trans hct
          replace hpr := ((o_9 37 (by decide))).trans hpr
          replace hpd := ((o_9 38 (by decide))).trans hpd
          replace htx : f_9 k = eO 7 [.ref (g (k + 1)), .ref (g (k + 2)), .int (nI ln), .int (nI sc)] := ((o_9 k (by omega))).trans htx
          replace hpx : f_9 (k + 2) = eI G 50 sp := ((o_9 (k + 2) (by omega))).trans hpx
          exact ih_1 (i + 1) tp (vp_updL vv1 (tp - 1) ((fun a => if a = 0 then 1 else 0) ((vv1 (tp - 1))))) f_9 _ _ _ (hi9) (by rw [hdx]; show _ = stE (ltk (fun i c => dp (4 * i + c)) (satN (fun t c => ct (70 * t + c)) sw q pn nt) (sinV (fun t c => ct (70 * t + c)) sw q pn nt) pn q) x9 (ev (ltk (fun i c => dp (4 * i + c)) (satN (fun t c => ct (70 * t + c)) sw q pn nt) (sinV (fun t c => ct (70 * t + c)) sw q pn nt) pn q) (zl.drop (sc - i))); rw [← hst]; unfold stE; rw [ex9, if_neg (by decide), if_neg (by decide), if_neg (by decide), if_pos rfl]; exact stj_u (h := fun a => if a = 0 then 1 else 0) (by omega)) (fun z hz => okZ_fr (hS1 z hz) (o_9 (2 * z + 16) (by omega)) (o_9 (2 * z + 16 + 1) (by omega))) (by omega) (hctc) (hhs) (hbk) (htr) (hct) (hpr) (hpd) (htx) (hpx) (hvl) (fun j hj => ((o_9 j (by omega))).trans (o_1 j (by omega))) hP hS (lv_sub hl [3, 4, 5, 6, 7, 0] rfl)
        · have hs9 : sp i = (-126) := hsx9.trans (by unfold cdp; rw [ex9, if_neg (by decide), if_neg (by decide)]; decide)
          have hd9 := dpl_u hd1 hd2 (Or.inr ex9)
          have hd8 := hd9.1
          refine lv_aload_n hx hb dX1_tell_15 rfl (lv_at hl 1 rfl) ?_
          refine lv_iload hx hb dX1_tell_16 (lv_at hl 5 rfl) ?_
          refine rd_calli (va_runV (As := [.int (nI i)]) (rest := []) ⟨hx, hb, hml, hown, hts⟩ (t_stepAt l G g hg f_1 k ln sc sp (nI i) htx hpx (by first | assumption | omega | decide) (by first | assumption | omega | decide) (by first | assumption | omega | decide)) (my_cwV hts ok_X8_stepAt w_436 rfl rfl ⟨Nat.le_of_ble_eq_true rfl, Nat.le_of_ble_eq_true rfl⟩) ⟨bP.blind, va_recv hG.1 hP (ci := 7) (q0 := k) rfl (wl_at (by omega) htx), fun U hU hW => ⟨rfl, by rw [hU]; exact hP, kG.warm hW hG⟩⟩ rfl rfl hl.1 rfl (lv_room (Nat.le_of_ble_eq_true rfl)) dX1_tell_18 ⟨Nat.le_of_ble_eq_true rfl, Nat.le_of_ble_eq_true rfl⟩) (fun r hr9 => ?_)
          subst hr9
          refine my_bei (v := (-126)) (by rw [if_pos (inN_n hi9 (by omega)), nI_clamp (by omega)]; exact hs9) ?_
          refine lv_istore (lv' := [(6, .int (-126)), (0, .ref (g 1)), (1, .ref (g k)), (2, .int (nI pn)), (3, .int q), (4, .int (nI tp)), (5, .int (nI i))]) hx hb dX1_tell_21 hl (by decide) rfl (fun ls hl => ?_)
          refine lv_iload hx hb dX1_tell_23 (lv_at hl 0 rfl) ?_
          refine lv_if_ge (tgt := 37) hx hb dX1_tell_25 (by decide) (fun c_25 => absurd c_25 (by decide)) (fun c_25 => ?_)
          refine lv_iload hx hb dX1_tell_28 (lv_at hl 0 rfl) ?_
          refine lv_ineg hx hb dX1_tell_30 ?_
          refine my_bei (v := 126) (by decide) ?_
          refine rd_calli (va_runS (As := [.int 126]) (rest := []) ⟨hx, hb, hml, hown, hts⟩ (g_rankE l G g hg f_1 126  ) (my_cwS hts ok_X7_rank w_440 rfl rfl ⟨Nat.le_of_ble_eq_true rfl, Nat.le_of_ble_eq_true rfl⟩) ⟨bP.blind, fun U hU hW => ⟨rfl, by rw [hU]; exact hP, kG.warm hW hG⟩⟩ rfl rfl hl.1 rfl (lv_room (Nat.le_of_ble_eq_true rfl)) dX1_tell_31 ⟨Nat.le_of_ble_eq_true rfl, Nat.le_of_ble_eq_true rfl⟩) (fun r hr9 => ?_)
          subst hr9
          refine my_bei (v := 6) (by decide) ?_
          refine lv_goto (tgt := 38) hx hb dX1_tell_34 (by decide) ?_
          refine lv_istore (lv' := [(7, .int 6), (6, .int (-126)), (0, .ref (g 1)), (1, .ref (g k)), (2, .int (nI pn)), (3, .int q), (4, .int (nI tp)), (5, .int (nI i))]) hx hb dX1_tell_38 hl (by decide) rfl (fun ls hl => ?_)
          refine lv_iload hx hb dX1_tell_40 (lv_at hl 0 rfl) ?_
          refine lv_if_ne (tgt := 85) hx hb dX1_tell_42 (by decide) (fun c_42 => ?_) (fun c_42 => absurd c_42 (by decide))
          refine lv_iload hx hb dX1_tell_85 (lv_at hl 0 rfl) ?_
          refine lv_bipush (v := 6) hx hb dX1_tell_87 (by decide) ?_
          refine lv_icmp_ne (tgt := 125) hx hb dX1_tell_89 (by decide) (fun c_89 => absurd (by decide) c_89) (fun c_89 => ?_)
          refine lv_iload hx hb dX1_tell_92 (lv_at hl 6 rfl) ?_
          refine lv_iconst (v := 1) hx hb dX1_tell_94 (by decide) ?_
          refine lv_icmp_lt (tgt := 125) hx hb dX1_tell_95 (by decide) (fun c_95 => absurd c_95 (fun z => absurd ((nI_ltI (b := 1) (by omega) (by decide)).mp z) (by omega))) (fun c_95 => ?_)
          refine lv_aload_n hx hb dX1_tell_98 rfl (lv_at hl 2 rfl) ?_
          refine va_get (D := G.1) (ci := 1) (v := .ref (g 15)) (C := RX1) (T := TX1) (N := 5) hx hb hts inlX1 hown hG.1 hP 1 (wl_at (by decide) hctc) rfl 3 (by decide) (hts (.fieldLink RX1 29 "SwornLists$Court" "values" "[J") w_47) (fun _ h9 => h9) rfl dX1_tell_99 ?_
          refine lv_iload hx hb dX1_tell_102 (lv_at hl 6 rfl) ?_
          refine lv_iconst (v := 1) hx hb dX1_tell_104 (by decide) ?_
          refine lv_isub hx hb dX1_tell_105 ?_
          refine my_bei (v := nI (tp - 1)) (pk_sub (a := tp) (b := 1) (by omega)) ?_
          refine lv_iload hx hb dX1_tell_106 (lv_at hl 1 rfl) ?_
          refine lv_ineg hx hb dX1_tell_108 ?_
          refine my_bei (v := 126) (by decide) ?_
          refine lv_aload_n hx hb dX1_tell_109 rfl (lv_at hl 2 rfl) ?_
          refine va_get (D := G.1) (ci := 1) (v := .ref (g 15)) (C := RX1) (T := TX1) (N := 5) hx hb hts inlX1 hown hG.1 hP 1 (wl_at (by decide) hctc) rfl 3 (by decide) (hts (.fieldLink RX1 29 "SwornLists$Court" "values" "[J") w_47) (fun _ h9 => h9) rfl dX1_tell_110 ?_
          refine lv_iload hx hb dX1_tell_113 (lv_at hl 6 rfl) ?_
          refine lv_iconst (v := 1) hx hb dX1_tell_115 (by decide) ?_
          refine lv_isub hx hb dX1_tell_116 ?_
          refine my_bei (v := nI (tp - 1)) (pk_sub (a := tp) (b := 1) (by omega)) ?_
          refine va_lald hx hb hG.1 hP 15 1 (wl_at (by decide) hvl) rfl (vp_in_nI (by omega) (by decide)) dX1_tell_117 ?_
          refine my_bel (v := vv1 (tp - 1)) (congrArg vv1 (nI_clamp (n := tp - 1) (by omega))) ?_
          refine rd_calll (va_runS (As := [.int 126, .long (vv1 (tp - 1))]) (rest := [.int (nI (tp - 1)), .ref (g 15)]) ⟨hx, hb, hml, hown, hts⟩ (g_turnedE l G g hg f_1 126 (vv1 (tp - 1))  ) (my_cwS hts ok_X7_turned w_455 rfl rfl ⟨Nat.le_of_ble_eq_true rfl, Nat.le_of_ble_eq_true rfl⟩) ⟨bP.blind, fun U hU hW => ⟨rfl, by rw [hU]; exact hP, kG.warm hW hG⟩⟩ rfl rfl hl.1 rfl (lv_room (Nat.le_of_ble_eq_true rfl)) dX1_tell_118 ⟨Nat.le_of_ble_eq_true rfl, Nat.le_of_ble_eq_true rfl⟩) (fun r hr9 => ?_)
          subst hr9
          refine my_bel (v := (fun a => -a) ((vv1 (tp - 1)))) (show trn 126 _ = _ by unfold trn; rw [if_neg (by decide)]) ?_
          refine va_last hx hb hG.1 hP (wl_D hg f_1) hS 15 1 (wl_at (by decide) hvl) rfl (vp_in_nI (by omega) (by decide)) dX1_tell_121 (fun H locs hP _ hS => ?_)
          have hP := (congrArg (fun z9 => va_P G.1 vwCl ((wl g f_1).set 15 (g 15, eJ G 50 ((vp_updL vv1 z9 ((fun a => -a) ((vv1 (tp - 1)))))))) H) (show Int32.toNatClampNeg (nI (tp - 1)) = tp - 1 from nI_clamp (by omega))).mp hP
          obtain ⟨f_10, hP, e_10, o_10⟩ := b_put (by decide) hP
          have hvl : f_10 15 = eJ G 50 (vp_updL vv1 (tp - 1) ((fun a => -a) ((vv1 (tp - 1))))) := e_10
          refine lv_goto (tgt := 165) hx hb dX1_tell_122 (by decide) ?_
          refine lv_iinc (v := nI (i + 1)) (lv' := [(5, .int (nI (i + 1))), (7, .int 6), (6, .int (-126)), (0, .ref (g 1)), (1, .ref (g k)), (2, .int (nI pn)), (3, .int q), (4, .int (nI tp))]) hx hb dX1_tell_165 hl (k := 7) rfl (nI_add i 1) (by decide) rfl (fun ls hl => ?_)
          refine lv_goto (tgt := 6) hx hb dX1_tell_168 (by decide) ?_
          replace hctc := ((o_10 1 (by decide))).trans hctc
          replace hhs := ((o_10 12 (by decide))).trans hhs
          replace hbk := ((o_10 36 (by decide))).trans hbk
          replace htr := ((o_10 45 (by decide))).trans htr
          replace hct := ((o_10 46 (by decide))).trans hct
          replace hpr := ((o_10 37 (by decide))).trans hpr
          replace hpd := ((o_10 38 (by decide))).trans hpd
          replace htx : f_10 k = eO 7 [.ref (g (k + 1)), .ref (g (k + 2)), .int (nI ln), .int (nI sc)] := ((o_10 k (by omega))).trans htx
          replace hpx : f_10 (k + 2) = eI G 50 sp := ((o_10 (k + 2) (by omega))).trans hpx
          exact ih_1 (i + 1) tp (vp_updL vv1 (tp - 1) ((fun a => -a) ((vv1 (tp - 1))))) f_10 _ _ _ (hi9) (by rw [hdx]; show _ = stE (ltk (fun i c => dp (4 * i + c)) (satN (fun t c => ct (70 * t + c)) sw q pn nt) (sinV (fun t c => ct (70 * t + c)) sw q pn nt) pn q) x9 (ev (ltk (fun i c => dp (4 * i + c)) (satN (fun t c => ct (70 * t + c)) sw q pn nt) (sinV (fun t c => ct (70 * t + c)) sw q pn nt) pn q) (zl.drop (sc - i))); rw [← hst]; unfold stE; rw [ex9, if_neg (by decide), if_neg (by decide), if_pos rfl]; exact stj_u (h := fun a => -a) (by omega)) (fun z hz => okZ_fr (hS1 z hz) (o_10 (2 * z + 16) (by omega)) (o_10 (2 * z + 16 + 1) (by omega))) (by omega) (hctc) (hhs) (hbk) (htr) (hct) (hpr) (hpd) (htx) (hpx) (hvl) (fun j hj => ((o_10 j (by omega))).trans (o_1 j (by omega))) hP hS (lv_sub hl [3, 4, 5, 6, 7, 0] rfl)
        · have hs9 : sp i = (-42) := hsx9.trans (by unfold cdp; rw [ex9, if_neg (by decide), if_neg (by decide)]; decide)
          have hd9 := dpl_b hd1 hd2 (by rw [ex9]; decide) (by rw [ex9]; decide) (by rw [ex9]; decide) (by rw [ex9]; decide)
          have hd8 := hd9.1
          refine lv_aload_n hx hb dX1_tell_15 rfl (lv_at hl 1 rfl) ?_
          refine lv_iload hx hb dX1_tell_16 (lv_at hl 5 rfl) ?_
          refine rd_calli (va_runV (As := [.int (nI i)]) (rest := []) ⟨hx, hb, hml, hown, hts⟩ (t_stepAt l G g hg f_1 k ln sc sp (nI i) htx hpx (by first | assumption | omega | decide) (by first | assumption | omega | decide) (by first | assumption | omega | decide)) (my_cwV hts ok_X8_stepAt w_436 rfl rfl ⟨Nat.le_of_ble_eq_true rfl, Nat.le_of_ble_eq_true rfl⟩) ⟨bP.blind, va_recv hG.1 hP (ci := 7) (q0 := k) rfl (wl_at (by omega) htx), fun U hU hW => ⟨rfl, by rw [hU]; exact hP, kG.warm hW hG⟩⟩ rfl rfl hl.1 rfl (lv_room (Nat.le_of_ble_eq_true rfl)) dX1_tell_18 ⟨Nat.le_of_ble_eq_true rfl, Nat.le_of_ble_eq_true rfl⟩) (fun r hr9 => ?_)
          subst hr9
          refine my_bei (v := (-42)) (by rw [if_pos (inN_n hi9 (by omega)), nI_clamp (by omega)]; exact hs9) ?_
          refine lv_istore (lv' := [(6, .int (-42)), (0, .ref (g 1)), (1, .ref (g k)), (2, .int (nI pn)), (3, .int q), (4, .int (nI tp)), (5, .int (nI i))]) hx hb dX1_tell_21 hl (by decide) rfl (fun ls hl => ?_)
          refine lv_iload hx hb dX1_tell_23 (lv_at hl 0 rfl) ?_
          refine lv_if_ge (tgt := 37) hx hb dX1_tell_25 (by decide) (fun c_25 => absurd c_25 (by decide)) (fun c_25 => ?_)
          refine lv_iload hx hb dX1_tell_28 (lv_at hl 0 rfl) ?_
          refine lv_ineg hx hb dX1_tell_30 ?_
          refine my_bei (v := 42) (by decide) ?_
          refine rd_calli (va_runS (As := [.int 42]) (rest := []) ⟨hx, hb, hml, hown, hts⟩ (g_rankE l G g hg f_1 42  ) (my_cwS hts ok_X7_rank w_440 rfl rfl ⟨Nat.le_of_ble_eq_true rfl, Nat.le_of_ble_eq_true rfl⟩) ⟨bP.blind, fun U hU hW => ⟨rfl, by rw [hU]; exact hP, kG.warm hW hG⟩⟩ rfl rfl hl.1 rfl (lv_room (Nat.le_of_ble_eq_true rfl)) dX1_tell_31 ⟨Nat.le_of_ble_eq_true rfl, Nat.le_of_ble_eq_true rfl⟩) (fun r hr9 => ?_)
          subst hr9
          refine my_bei (v := 5) (by decide) ?_
          refine lv_goto (tgt := 38) hx hb dX1_tell_34 (by decide) ?_
          refine lv_istore (lv' := [(7, .int 5), (6, .int (-42)), (0, .ref (g 1)), (1, .ref (g k)), (2, .int (nI pn)), (3, .int q), (4, .int (nI tp)), (5, .int (nI i))]) hx hb dX1_tell_38 hl (by decide) rfl (fun ls hl => ?_)
          refine lv_iload hx hb dX1_tell_40 (lv_at hl 0 rfl) ?_
          refine lv_if_ne (tgt := 85) hx hb dX1_tell_42 (by decide) (fun c_42 => ?_) (fun c_42 => absurd c_42 (by decide))
          refine lv_iload hx hb dX1_tell_85 (lv_at hl 0 rfl) ?_
          refine lv_bipush (v := 6) hx hb dX1_tell_87 (by decide) ?_
          refine lv_icmp_ne (tgt := 125) hx hb dX1_tell_89 (by decide) (fun c_89 => ?_) (fun c_89 => absurd c_89 (by decide))
          refine lv_iload hx hb dX1_tell_125 (lv_at hl 6 rfl) ?_
          refine lv_iconst (v := 2) hx hb dX1_tell_127 (by decide) ?_
          refine lv_icmp_lt (tgt := 165) hx hb dX1_tell_128 (by decide) (fun c_128 => absurd c_128 (fun z => absurd ((nI_ltI (b := 2) (by omega) (by decide)).mp z) (by omega))) (fun c_128 => ?_)
          refine lv_iinc (v := nI (tp - 1)) (lv' := [(4, .int (nI (tp - 1))), (7, .int 5), (6, .int (-42)), (0, .ref (g 1)), (1, .ref (g k)), (2, .int (nI pn)), (3, .int q), (5, .int (nI i))]) hx hb dX1_tell_131 hl (k := 6) rfl (sb_m1 (by omega)) (by decide) rfl (fun ls hl => ?_)
          refine lv_aload_n hx hb dX1_tell_134 rfl (lv_at hl 3 rfl) ?_
          refine va_get (D := G.1) (ci := 1) (v := .ref (g 15)) (C := RX1) (T := TX1) (N := 5) hx hb hts inlX1 hown hG.1 hP 1 (wl_at (by decide) hctc) rfl 3 (by decide) (hts (.fieldLink RX1 29 "SwornLists$Court" "values" "[J") w_47) (fun _ h9 => h9) rfl dX1_tell_135 ?_
          refine lv_iload hx hb dX1_tell_138 (lv_at hl 0 rfl) ?_
          refine lv_iconst (v := 1) hx hb dX1_tell_140 (by decide) ?_
          refine lv_isub hx hb dX1_tell_141 ?_
          refine my_bei (v := nI ((tp - 1) - 1)) (pk_sub (a := tp - 1) (b := 1) (by omega)) ?_
          refine lv_iload hx hb dX1_tell_142 (lv_at hl 2 rfl) ?_
          refine lv_ineg hx hb dX1_tell_144 ?_
          refine my_bei (v := 42) (by decide) ?_
          refine lv_aload_n hx hb dX1_tell_145 rfl (lv_at hl 3 rfl) ?_
          refine va_get (D := G.1) (ci := 1) (v := .ref (g 15)) (C := RX1) (T := TX1) (N := 5) hx hb hts inlX1 hown hG.1 hP 1 (wl_at (by decide) hctc) rfl 3 (by decide) (hts (.fieldLink RX1 29 "SwornLists$Court" "values" "[J") w_47) (fun _ h9 => h9) rfl dX1_tell_146 ?_
          refine lv_iload hx hb dX1_tell_149 (lv_at hl 0 rfl) ?_
          refine lv_iconst (v := 1) hx hb dX1_tell_151 (by decide) ?_
          refine lv_isub hx hb dX1_tell_152 ?_
          refine my_bei (v := nI ((tp - 1) - 1)) (pk_sub (a := tp - 1) (b := 1) (by omega)) ?_
          refine va_lald hx hb hG.1 hP 15 1 (wl_at (by decide) hvl) rfl (vp_in_nI (by omega) (by decide)) dX1_tell_153 ?_
          refine my_bel (v := vv1 ((tp - 1) - 1)) (congrArg vv1 (nI_clamp (n := (tp - 1) - 1) (by omega))) ?_
          refine lv_aload_n hx hb dX1_tell_154 rfl (lv_at hl 3 rfl) ?_
          refine va_get (D := G.1) (ci := 1) (v := .ref (g 15)) (C := RX1) (T := TX1) (N := 5) hx hb hts inlX1 hown hG.1 hP 1 (wl_at (by decide) hctc) rfl 3 (by decide) (hts (.fieldLink RX1 29 "SwornLists$Court" "values" "[J") w_47) (fun _ h9 => h9) rfl dX1_tell_155 ?_
          refine lv_iload hx hb dX1_tell_158 (lv_at hl 0 rfl) ?_
          refine va_lald hx hb hG.1 hP 15 1 (wl_at (by decide) hvl) rfl (vp_in_nI (by omega) (by decide)) dX1_tell_160 ?_
          refine my_bel (v := vv1 (tp - 1)) (congrArg vv1 (nI_clamp (n := tp - 1) (by omega))) ?_
          refine rd_calll (va_runS (As := [.int 42, .long (vv1 ((tp - 1) - 1)), .long (vv1 (tp - 1))]) (rest := [.int (nI ((tp - 1) - 1)), .ref (g 15)]) ⟨hx, hb, hml, hown, hts⟩ (g_joinedE l G g hg f_1 42 (vv1 ((tp - 1) - 1)) (vv1 (tp - 1))  ) (my_cwS hts ok_X7_joined w_461 rfl rfl ⟨Nat.le_of_ble_eq_true rfl, Nat.le_of_ble_eq_true rfl⟩) ⟨bP.blind, fun U hU hW => ⟨rfl, by rw [hU]; exact hP, kG.warm hW hG⟩⟩ rfl rfl hl.1 rfl (lv_room (Nat.le_of_ble_eq_true rfl)) dX1_tell_161 ⟨Nat.le_of_ble_eq_true rfl, Nat.le_of_ble_eq_true rfl⟩) (fun r hr9 => ?_)
          subst hr9
          refine my_bel (v := two 4 (vv1 ((tp - 1) - 1)) (vv1 (tp - 1))) (jn_two.1) ?_
          refine va_last hx hb hG.1 hP (wl_D hg f_1) hS 15 1 (wl_at (by decide) hvl) rfl (vp_in_nI (by omega) (by decide)) dX1_tell_164 (fun H locs hP _ hS => ?_)
          have hP := (congrArg (fun z9 => va_P G.1 vwCl ((wl g f_1).set 15 (g 15, eJ G 50 ((vp_updL vv1 z9 (two 4 (vv1 ((tp - 1) - 1)) (vv1 (tp - 1))))))) H) (show Int32.toNatClampNeg (nI ((tp - 1) - 1)) = (tp - 1) - 1 from nI_clamp (by omega))).mp hP
          obtain ⟨f_11, hP, e_11, o_11⟩ := b_put (by decide) hP
          have hvl : f_11 15 = eJ G 50 (vp_updL vv1 ((tp - 1) - 1) (two 4 (vv1 ((tp - 1) - 1)) (vv1 (tp - 1)))) := e_11
          refine lv_iinc (v := nI (i + 1)) (lv' := [(5, .int (nI (i + 1))), (4, .int (nI (tp - 1))), (7, .int 5), (6, .int (-42)), (0, .ref (g 1)), (1, .ref (g k)), (2, .int (nI pn)), (3, .int q)]) hx hb dX1_tell_165 hl (k := 7) rfl (nI_add i 1) (by decide) rfl (fun ls hl => ?_)
          refine lv_goto (tgt := 6) hx hb dX1_tell_168 (by decide) ?_
          replace hctc := ((o_11 1 (by decide))).trans hctc
          replace hhs := ((o_11 12 (by decide))).trans hhs
          replace hbk := ((o_11 36 (by decide))).trans hbk
          replace htr := ((o_11 45 (by decide))).trans htr
          replace hct := ((o_11 46 (by decide))).trans hct
          replace hpr := ((o_11 37 (by decide))).trans hpr
          replace hpd := ((o_11 38 (by decide))).trans hpd
          replace htx : f_11 k = eO 7 [.ref (g (k + 1)), .ref (g (k + 2)), .int (nI ln), .int (nI sc)] := ((o_11 k (by omega))).trans htx
          replace hpx : f_11 (k + 2) = eI G 50 sp := ((o_11 (k + 2) (by omega))).trans hpx
          exact ih_1 (i + 1) (tp - 1) (vp_updL vv1 ((tp - 1) - 1) (two 4 (vv1 ((tp - 1) - 1)) (vv1 (tp - 1)))) f_11 _ _ _ (hi9) (by rw [hdx]; show _ = stE (ltk (fun i c => dp (4 * i + c)) (satN (fun t c => ct (70 * t + c)) sw q pn nt) (sinV (fun t c => ct (70 * t + c)) sw q pn nt) pn q) x9 (ev (ltk (fun i c => dp (4 * i + c)) (satN (fun t c => ct (70 * t + c)) sw q pn nt) (sinV (fun t c => ct (70 * t + c)) sw q pn nt) pn q) (zl.drop (sc - i))); rw [← hst]; unfold stE; rw [ex9, if_neg (by decide), if_neg (by decide), if_neg (by decide), if_neg (by decide)]; exact stj_b (h := two 4) (by omega)) (fun z hz => okZ_fr (hS1 z hz) (o_11 (2 * z + 16) (by omega)) (o_11 (2 * z + 16 + 1) (by omega))) (by omega) (hctc) (hhs) (hbk) (htr) (hct) (hpr) (hpd) (htx) (hpx) (hvl) (fun j hj => ((o_11 j (by omega))).trans (o_1 j (by omega))) hP hS (lv_sub hl [4, 5, 6, 7, 1, 0] rfl)
        · have hs9 : sp i = (-47) := hsx9.trans (by unfold cdp; rw [ex9, if_neg (by decide), if_neg (by decide)]; decide)
          have hd9 := dpl_b hd1 hd2 (by rw [ex9]; decide) (by rw [ex9]; decide) (by rw [ex9]; decide) (by rw [ex9]; decide)
          have hd8 := hd9.1
          refine lv_aload_n hx hb dX1_tell_15 rfl (lv_at hl 1 rfl) ?_
          refine lv_iload hx hb dX1_tell_16 (lv_at hl 5 rfl) ?_
          refine rd_calli (va_runV (As := [.int (nI i)]) (rest := []) ⟨hx, hb, hml, hown, hts⟩ (t_stepAt l G g hg f_1 k ln sc sp (nI i) htx hpx (by first | assumption | omega | decide) (by first | assumption | omega | decide) (by first | assumption | omega | decide)) (my_cwV hts ok_X8_stepAt w_436 rfl rfl ⟨Nat.le_of_ble_eq_true rfl, Nat.le_of_ble_eq_true rfl⟩) ⟨bP.blind, va_recv hG.1 hP (ci := 7) (q0 := k) rfl (wl_at (by omega) htx), fun U hU hW => ⟨rfl, by rw [hU]; exact hP, kG.warm hW hG⟩⟩ rfl rfl hl.1 rfl (lv_room (Nat.le_of_ble_eq_true rfl)) dX1_tell_18 ⟨Nat.le_of_ble_eq_true rfl, Nat.le_of_ble_eq_true rfl⟩) (fun r hr9 => ?_)
          subst hr9
          refine my_bei (v := (-47)) (by rw [if_pos (inN_n hi9 (by omega)), nI_clamp (by omega)]; exact hs9) ?_
          refine lv_istore (lv' := [(6, .int (-47)), (0, .ref (g 1)), (1, .ref (g k)), (2, .int (nI pn)), (3, .int q), (4, .int (nI tp)), (5, .int (nI i))]) hx hb dX1_tell_21 hl (by decide) rfl (fun ls hl => ?_)
          refine lv_iload hx hb dX1_tell_23 (lv_at hl 0 rfl) ?_
          refine lv_if_ge (tgt := 37) hx hb dX1_tell_25 (by decide) (fun c_25 => absurd c_25 (by decide)) (fun c_25 => ?_)
          refine lv_iload hx hb dX1_tell_28 (lv_at hl 0 rfl) ?_
          refine lv_ineg hx hb dX1_tell_30 ?_
          refine my_bei (v := 47) (by decide) ?_
          refine rd_calli (va_runS (As := [.int 47]) (rest := []) ⟨hx, hb, hml, hown, hts⟩ (g_rankE l G g hg f_1 47  ) (my_cwS hts ok_X7_rank w_440 rfl rfl ⟨Nat.le_of_ble_eq_true rfl, Nat.le_of_ble_eq_true rfl⟩) ⟨bP.blind, fun U hU hW => ⟨rfl, by rw [hU]; exact hP, kG.warm hW hG⟩⟩ rfl rfl hl.1 rfl (lv_room (Nat.le_of_ble_eq_true rfl)) dX1_tell_31 ⟨Nat.le_of_ble_eq_true rfl, Nat.le_of_ble_eq_true rfl⟩) (fun r hr9 => ?_)
          subst hr9
          refine my_bei (v := 5) (by decide) ?_
          refine lv_goto (tgt := 38) hx hb dX1_tell_34 (by decide) ?_
          refine lv_istore (lv' := [(7, .int 5), (6, .int (-47)), (0, .ref (g 1)), (1, .ref (g k)), (2, .int (nI pn)), (3, .int q), (4, .int (nI tp)), (5, .int (nI i))]) hx hb dX1_tell_38 hl (by decide) rfl (fun ls hl => ?_)
          refine lv_iload hx hb dX1_tell_40 (lv_at hl 0 rfl) ?_
          refine lv_if_ne (tgt := 85) hx hb dX1_tell_42 (by decide) (fun c_42 => ?_) (fun c_42 => absurd c_42 (by decide))
          refine lv_iload hx hb dX1_tell_85 (lv_at hl 0 rfl) ?_
          refine lv_bipush (v := 6) hx hb dX1_tell_87 (by decide) ?_
          refine lv_icmp_ne (tgt := 125) hx hb dX1_tell_89 (by decide) (fun c_89 => ?_) (fun c_89 => absurd c_89 (by decide))
          refine lv_iload hx hb dX1_tell_125 (lv_at hl 6 rfl) ?_
          refine lv_iconst (v := 2) hx hb dX1_tell_127 (by decide) ?_
          refine lv_icmp_lt (tgt := 165) hx hb dX1_tell_128 (by decide) (fun c_128 => absurd c_128 (fun z => absurd ((nI_ltI (b := 2) (by omega) (by decide)).mp z) (by omega))) (fun c_128 => ?_)
          refine lv_iinc (v := nI (tp - 1)) (lv' := [(4, .int (nI (tp - 1))), (7, .int 5), (6, .int (-47)), (0, .ref (g 1)), (1, .ref (g k)), (2, .int (nI pn)), (3, .int q), (5, .int (nI i))]) hx hb dX1_tell_131 hl (k := 6) rfl (sb_m1 (by omega)) (by decide) rfl (fun ls hl => ?_)
          refine lv_aload_n hx hb dX1_tell_134 rfl (lv_at hl 3 rfl) ?_
          refine va_get (D := G.1) (ci := 1) (v := .ref (g 15)) (C := RX1) (T := TX1) (N := 5) hx hb hts inlX1 hown hG.1 hP 1 (wl_at (by decide) hctc) rfl 3 (by decide) (hts (.fieldLink RX1 29 "SwornLists$Court" "values" "[J") w_47) (fun _ h9 => h9) rfl dX1_tell_135 ?_
          refine lv_iload hx hb dX1_tell_138 (lv_at hl 0 rfl) ?_
          refine lv_iconst (v := 1) hx hb dX1_tell_140 (by decide) ?_
          refine lv_isub hx hb dX1_tell_141 ?_
          refine my_bei (v := nI ((tp - 1) - 1)) (pk_sub (a := tp - 1) (b := 1) (by omega)) ?_
          refine lv_iload hx hb dX1_tell_142 (lv_at hl 2 rfl) ?_
          refine lv_ineg hx hb dX1_tell_144 ?_
          refine my_bei (v := 47) (by decide) ?_
          refine lv_aload_n hx hb dX1_tell_145 rfl (lv_at hl 3 rfl) ?_
          refine va_get (D := G.1) (ci := 1) (v := .ref (g 15)) (C := RX1) (T := TX1) (N := 5) hx hb hts inlX1 hown hG.1 hP 1 (wl_at (by decide) hctc) rfl 3 (by decide) (hts (.fieldLink RX1 29 "SwornLists$Court" "values" "[J") w_47) (fun _ h9 => h9) rfl dX1_tell_146 ?_
          refine lv_iload hx hb dX1_tell_149 (lv_at hl 0 rfl) ?_
          refine lv_iconst (v := 1) hx hb dX1_tell_151 (by decide) ?_
          refine lv_isub hx hb dX1_tell_152 ?_
          refine my_bei (v := nI ((tp - 1) - 1)) (pk_sub (a := tp - 1) (b := 1) (by omega)) ?_
          refine va_lald hx hb hG.1 hP 15 1 (wl_at (by decide) hvl) rfl (vp_in_nI (by omega) (by decide)) dX1_tell_153 ?_
          refine my_bel (v := vv1 ((tp - 1) - 1)) (congrArg vv1 (nI_clamp (n := (tp - 1) - 1) (by omega))) ?_
          refine lv_aload_n hx hb dX1_tell_154 rfl (lv_at hl 3 rfl) ?_
          refine va_get (D := G.1) (ci := 1) (v := .ref (g 15)) (C := RX1) (T := TX1) (N := 5) hx hb hts inlX1 hown hG.1 hP 1 (wl_at (by decide) hctc) rfl 3 (by decide) (hts (.fieldLink RX1 29 "SwornLists$Court" "values" "[J") w_47) (fun _ h9 => h9) rfl dX1_tell_155 ?_
          refine lv_iload hx hb dX1_tell_158 (lv_at hl 0 rfl) ?_
          refine va_lald hx hb hG.1 hP 15 1 (wl_at (by decide) hvl) rfl (vp_in_nI (by omega) (by decide)) dX1_tell_160 ?_
          refine my_bel (v := vv1 (tp - 1)) (congrArg vv1 (nI_clamp (n := tp - 1) (by omega))) ?_
          refine rd_calll (va_runS (As := [.int 47, .long (vv1 ((tp - 1) - 1)), .long (vv1 (tp - 1))]) (rest := [.int (nI ((tp - 1) - 1)), .ref (g 15)]) ⟨hx, hb, hml, hown, hts⟩ (g_joinedE l G g hg f_1 47 (vv1 ((tp - 1) - 1)) (vv1 (tp - 1))  ) (my_cwS hts ok_X7_joined w_461 rfl rfl ⟨Nat.le_of_ble_eq_true rfl, Nat.le_of_ble_eq_true rfl⟩) ⟨bP.blind, fun U hU hW => ⟨rfl, by rw [hU]; exact hP, kG.warm hW hG⟩⟩ rfl rfl hl.1 rfl (lv_room (Nat.le_of_ble_eq_true rfl)) dX1_tell_161 ⟨Nat.le_of_ble_eq_true rfl, Nat.le_of_ble_eq_true rfl⟩) (fun r hr9 => ?_)
          subst hr9
          refine my_bel (v := two 5 (vv1 ((tp - 1) - 1)) (vv1 (tp - 1))) (jn_two.2.1) ?_
          refine va_last hx hb hG.1 hP (wl_D hg f_1) hS 15 1 (wl_at (by decide) hvl) rfl (vp_in_nI (by omega) (by decide)) dX1_tell_164 (fun H locs hP _ hS => ?_)
          have hP := (congrArg (fun z9 => va_P G.1 vwCl ((wl g f_1).set 15 (g 15, eJ G 50 ((vp_updL vv1 z9 (two 5 (vv1 ((tp - 1) - 1)) (vv1 (tp - 1))))))) H) (show Int32.toNatClampNeg (nI ((tp - 1) - 1)) = (tp - 1) - 1 from nI_clamp (by omega))).mp hP
          obtain ⟨f_12, hP, e_12, o_12⟩ := b_put (by decide) hP
          have hvl : f_12 15 = eJ G 50 (vp_updL vv1 ((tp - 1) - 1) (two 5 (vv1 ((tp - 1) - 1)) (vv1 (tp - 1)))) := e_12
          refine lv_iinc (v := nI (i + 1)) (lv' := [(5, .int (nI (i + 1))), (4, .int (nI (tp - 1))), (7, .int 5), (6, .int (-47)), (0, .ref (g 1)), (1, .ref (g k)), (2, .int (nI pn)), (3, .int q)]) hx hb dX1_tell_165 hl (k := 7) rfl (nI_add i 1) (by decide) rfl (fun ls hl => ?_)
          refine lv_goto (tgt := 6) hx hb dX1_tell_168 (by decide) ?_
          replace hctc := ((o_12 1 (by decide))).trans hctc
          replace hhs := ((o_12 12 (by decide))).trans hhs
          replace hbk := ((o_12 36 (by decide))).trans hbk
          replace htr := ((o_12 45 (by decide))).trans htr
          replace hct := ((o_12 46 (by decide))).trans hct
          replace hpr := ((o_12 37 (by decide))).trans hpr
          replace hpd := ((o_12 38 (by decide))).trans hpd
          replace htx : f_12 k = eO 7 [.ref (g (k + 1)), .ref (g (k + 2)), .int (nI ln), .int (nI sc)] := ((o_12 k (by omega))).trans htx
          replace hpx : f_12 (k + 2) = eI G 50 sp := ((o_12 (k + 2) (by omega))).trans hpx
          exact ih_1 (i + 1) (tp - 1) (vp_updL vv1 ((tp - 1) - 1) (two 5 (vv1 ((tp - 1) - 1)) (vv1 (tp - 1)))) f_12 _ _ _ (hi9) (by rw [hdx]; show _ = stE (ltk (fun i c => dp (4 * i + c)) (satN (fun t c => ct (70 * t + c)) sw q pn nt) (sinV (fun t c => ct (70 * t + c)) sw q pn nt) pn q) x9 (ev (ltk (fun i c => dp (4 * i + c)) (satN (fun t c => ct (70 * t + c)) sw q pn nt) (sinV (fun t c => ct (70 * t + c)) sw q pn nt) pn q) (zl.drop (sc - i))); rw [← hst]; unfold stE; rw [ex9, if_neg (by decide), if_neg (by decide), if_neg (by decide), if_neg (by decide)]; exact stj_b (h := two 5) (by omega)) (fun z hz => okZ_fr (hS1 z hz) (o_12 (2 * z + 16) (by omega)) (o_12 (2 * z + 16 + 1) (by omega))) (by omega) (hctc) (hhs) (hbk) (htr) (hct) (hpr) (hpd) (htx) (hpx) (hvl) (fun j hj => ((o_12 j (by omega))).trans (o_1 j (by omega))) hP hS (lv_sub hl [4, 5, 6, 7, 1, 0] rfl)
        · have hs9 : sp i = (-43) := hsx9.trans (by unfold cdp; rw [ex9, if_neg (by decide), if_neg (by decide)]; decide)
          have hd9 := dpl_b hd1 hd2 (by rw [ex9]; decide) (by rw [ex9]; decide) (by rw [ex9]; decide) (by rw [ex9]; decide)
          have hd8 := hd9.1
          refine lv_aload_n hx hb dX1_tell_15 rfl (lv_at hl 1 rfl) ?_
          refine lv_iload hx hb dX1_tell_16 (lv_at hl 5 rfl) ?_
          refine rd_calli (va_runV (As := [.int (nI i)]) (rest := []) ⟨hx, hb, hml, hown, hts⟩ (t_stepAt l G g hg f_1 k ln sc sp (nI i) htx hpx (by first | assumption | omega | decide) (by first | assumption | omega | decide) (by first | assumption | omega | decide)) (my_cwV hts ok_X8_stepAt w_436 rfl rfl ⟨Nat.le_of_ble_eq_true rfl, Nat.le_of_ble_eq_true rfl⟩) ⟨bP.blind, va_recv hG.1 hP (ci := 7) (q0 := k) rfl (wl_at (by omega) htx), fun U hU hW => ⟨rfl, by rw [hU]; exact hP, kG.warm hW hG⟩⟩ rfl rfl hl.1 rfl (lv_room (Nat.le_of_ble_eq_true rfl)) dX1_tell_18 ⟨Nat.le_of_ble_eq_true rfl, Nat.le_of_ble_eq_true rfl⟩) (fun r hr9 => ?_)
          subst hr9
          refine my_bei (v := (-43)) (by rw [if_pos (inN_n hi9 (by omega)), nI_clamp (by omega)]; exact hs9) ?_
          refine lv_istore (lv' := [(6, .int (-43)), (0, .ref (g 1)), (1, .ref (g k)), (2, .int (nI pn)), (3, .int q), (4, .int (nI tp)), (5, .int (nI i))]) hx hb dX1_tell_21 hl (by decide) rfl (fun ls hl => ?_)
          refine lv_iload hx hb dX1_tell_23 (lv_at hl 0 rfl) ?_
          refine lv_if_ge (tgt := 37) hx hb dX1_tell_25 (by decide) (fun c_25 => absurd c_25 (by decide)) (fun c_25 => ?_)
          refine lv_iload hx hb dX1_tell_28 (lv_at hl 0 rfl) ?_
          refine lv_ineg hx hb dX1_tell_30 ?_
          refine my_bei (v := 43) (by decide) ?_
          refine rd_calli (va_runS (As := [.int 43]) (rest := []) ⟨hx, hb, hml, hown, hts⟩ (g_rankE l G g hg f_1 43  ) (my_cwS hts ok_X7_rank w_440 rfl rfl ⟨Nat.le_of_ble_eq_true rfl, Nat.le_of_ble_eq_true rfl⟩) ⟨bP.blind, fun U hU hW => ⟨rfl, by rw [hU]; exact hP, kG.warm hW hG⟩⟩ rfl rfl hl.1 rfl (lv_room (Nat.le_of_ble_eq_true rfl)) dX1_tell_31 ⟨Nat.le_of_ble_eq_true rfl, Nat.le_of_ble_eq_true rfl⟩) (fun r hr9 => ?_)
          subst hr9
          refine my_bei (v := 4) (by decide) ?_
          refine lv_goto (tgt := 38) hx hb dX1_tell_34 (by decide) ?_
          refine lv_istore (lv' := [(7, .int 4), (6, .int (-43)), (0, .ref (g 1)), (1, .ref (g k)), (2, .int (nI pn)), (3, .int q), (4, .int (nI tp)), (5, .int (nI i))]) hx hb dX1_tell_38 hl (by decide) rfl (fun ls hl => ?_)
          refine lv_iload hx hb dX1_tell_40 (lv_at hl 0 rfl) ?_
          refine lv_if_ne (tgt := 85) hx hb dX1_tell_42 (by decide) (fun c_42 => ?_) (fun c_42 => absurd c_42 (by decide))
          refine lv_iload hx hb dX1_tell_85 (lv_at hl 0 rfl) ?_
          refine lv_bipush (v := 6) hx hb dX1_tell_87 (by decide) ?_
          refine lv_icmp_ne (tgt := 125) hx hb dX1_tell_89 (by decide) (fun c_89 => ?_) (fun c_89 => absurd c_89 (by decide))
          refine lv_iload hx hb dX1_tell_125 (lv_at hl 6 rfl) ?_
          refine lv_iconst (v := 2) hx hb dX1_tell_127 (by decide) ?_
          refine lv_icmp_lt (tgt := 165) hx hb dX1_tell_128 (by decide) (fun c_128 => absurd c_128 (fun z => absurd ((nI_ltI (b := 2) (by omega) (by decide)).mp z) (by omega))) (fun c_128 => ?_)
          refine lv_iinc (v := nI (tp - 1)) (lv' := [(4, .int (nI (tp - 1))), (7, .int 4), (6, .int (-43)), (0, .ref (g 1)), (1, .ref (g k)), (2, .int (nI pn)), (3, .int q), (5, .int (nI i))]) hx hb dX1_tell_131 hl (k := 6) rfl (sb_m1 (by omega)) (by decide) rfl (fun ls hl => ?_)
          refine lv_aload_n hx hb dX1_tell_134 rfl (lv_at hl 3 rfl) ?_
          refine va_get (D := G.1) (ci := 1) (v := .ref (g 15)) (C := RX1) (T := TX1) (N := 5) hx hb hts inlX1 hown hG.1 hP 1 (wl_at (by decide) hctc) rfl 3 (by decide) (hts (.fieldLink RX1 29 "SwornLists$Court" "values" "[J") w_47) (fun _ h9 => h9) rfl dX1_tell_135 ?_
          refine lv_iload hx hb dX1_tell_138 (lv_at hl 0 rfl) ?_
          refine lv_iconst (v := 1) hx hb dX1_tell_140 (by decide) ?_
          refine lv_isub hx hb dX1_tell_141 ?_
          refine my_bei (v := nI ((tp - 1) - 1)) (pk_sub (a := tp - 1) (b := 1) (by omega)) ?_
          refine lv_iload hx hb dX1_tell_142 (lv_at hl 2 rfl) ?_
          refine lv_ineg hx hb dX1_tell_144 ?_
          refine my_bei (v := 43) (by decide) ?_
          refine lv_aload_n hx hb dX1_tell_145 rfl (lv_at hl 3 rfl) ?_
          refine va_get (D := G.1) (ci := 1) (v := .ref (g 15)) (C := RX1) (T := TX1) (N := 5) hx hb hts inlX1 hown hG.1 hP 1 (wl_at (by decide) hctc) rfl 3 (by decide) (hts (.fieldLink RX1 29 "SwornLists$Court" "values" "[J") w_47) (fun _ h9 => h9) rfl dX1_tell_146 ?_
          refine lv_iload hx hb dX1_tell_149 (lv_at hl 0 rfl) ?_
          refine lv_iconst (v := 1) hx hb dX1_tell_151 (by decide) ?_
          refine lv_isub hx hb dX1_tell_152 ?_
          refine my_bei (v := nI ((tp - 1) - 1)) (pk_sub (a := tp - 1) (b := 1) (by omega)) ?_
          refine va_lald hx hb hG.1 hP 15 1 (wl_at (by decide) hvl) rfl (vp_in_nI (by omega) (by decide)) dX1_tell_153 ?_
          refine my_bel (v := vv1 ((tp - 1) - 1)) (congrArg vv1 (nI_clamp (n := (tp - 1) - 1) (by omega))) ?_
          refine lv_aload_n hx hb dX1_tell_154 rfl (lv_at hl 3 rfl) ?_
          refine va_get (D := G.1) (ci := 1) (v := .ref (g 15)) (C := RX1) (T := TX1) (N := 5) hx hb hts inlX1 hown hG.1 hP 1 (wl_at (by decide) hctc) rfl 3 (by decide) (hts (.fieldLink RX1 29 "SwornLists$Court" "values" "[J") w_47) (fun _ h9 => h9) rfl dX1_tell_155 ?_
          refine lv_iload hx hb dX1_tell_158 (lv_at hl 0 rfl) ?_
          refine va_lald hx hb hG.1 hP 15 1 (wl_at (by decide) hvl) rfl (vp_in_nI (by omega) (by decide)) dX1_tell_160 ?_
          refine my_bel (v := vv1 (tp - 1)) (congrArg vv1 (nI_clamp (n := tp - 1) (by omega))) ?_
          refine rd_calll (va_runS (As := [.int 43, .long (vv1 ((tp - 1) - 1)), .long (vv1 (tp - 1))]) (rest := [.int (nI ((tp - 1) - 1)), .ref (g 15)]) ⟨hx, hb, hml, hown, hts⟩ (g_joinedE l G g hg f_1 43 (vv1 ((tp - 1) - 1)) (vv1 (tp - 1))  ) (my_cwS hts ok_X7_joined w_461 rfl rfl ⟨Nat.le_of_ble_eq_true rfl, Nat.le_of_ble_eq_true rfl⟩) ⟨bP.blind, fun U hU hW => ⟨rfl, by rw [hU]; exact hP, kG.warm hW hG⟩⟩ rfl rfl hl.1 rfl (lv_room (Nat.le_of_ble_eq_true rfl)) dX1_tell_161 ⟨Nat.le_of_ble_eq_true rfl, Nat.le_of_ble_eq_true rfl⟩) (fun r hr9 => ?_)
          subst hr9
          refine my_bel (v := two 6 (vv1 ((tp - 1) - 1)) (vv1 (tp - 1))) (jn_two.2.2.1) ?_
          refine va_last hx hb hG.1 hP (wl_D hg f_1) hS 15 1 (wl_at (by decide) hvl) rfl (vp_in_nI (by omega) (by decide)) dX1_tell_164 (fun H locs hP _ hS => ?_)
          have hP := (congrArg (fun z9 => va_P G.1 vwCl ((wl g f_1).set 15 (g 15, eJ G 50 ((vp_updL vv1 z9 (two 6 (vv1 ((tp - 1) - 1)) (vv1 (tp - 1))))))) H) (show Int32.toNatClampNeg (nI ((tp - 1) - 1)) = (tp - 1) - 1 from nI_clamp (by omega))).mp hP
          obtain ⟨f_13, hP, e_13, o_13⟩ := b_put (by decide) hP
          have hvl : f_13 15 = eJ G 50 (vp_updL vv1 ((tp - 1) - 1) (two 6 (vv1 ((tp - 1) - 1)) (vv1 (tp - 1)))) := e_13
          refine lv_iinc (v := nI (i + 1)) (lv' := [(5, .int (nI (i + 1))), (4, .int (nI (tp - 1))), (7, .int 4), (6, .int (-43)), (0, .ref (g 1)), (1, .ref (g k)), (2, .int (nI pn)), (3, .int q)]) hx hb dX1_tell_165 hl (k := 7) rfl (nI_add i 1) (by decide) rfl (fun ls hl => ?_)
          refine lv_goto (tgt := 6) hx hb dX1_tell_168 (by decide) ?_
          replace hctc := ((o_13 1 (by decide))).trans hctc
          replace hhs := ((o_13 12 (by decide))).trans hhs
          replace hbk := ((o_13 36 (by decide))).trans hbk
          replace htr := ((o_13 45 (by decide))).trans htr
          replace hct := ((o_13 46 (by decide))).trans hct
          replace hpr := ((o_13 37 (by decide))).trans hpr
          replace hpd := ((o_13 38 (by decide))).trans hpd
          replace htx : f_13 k = eO 7 [.ref (g (k + 1)), .ref (g (k + 2)), .int (nI ln), .int (nI sc)] := ((o_13 k (by omega))).trans htx
          replace hpx : f_13 (k + 2) = eI G 50 sp := ((o_13 (k + 2) (by omega))).trans hpx
          exact ih_1 (i + 1) (tp - 1) (vp_updL vv1 ((tp - 1) - 1) (two 6 (vv1 ((tp - 1) - 1)) (vv1 (tp - 1)))) f_13 _ _ _ (hi9) (by rw [hdx]; show _ = stE (ltk (fun i c => dp (4 * i + c)) (satN (fun t c => ct (70 * t + c)) sw q pn nt) (sinV (fun t c => ct (70 * t + c)) sw q pn nt) pn q) x9 (ev (ltk (fun i c => dp (4 * i + c)) (satN (fun t c => ct (70 * t + c)) sw q pn nt) (sinV (fun t c => ct (70 * t + c)) sw q pn nt) pn q) (zl.drop (sc - i))); rw [← hst]; unfold stE; rw [ex9, if_neg (by decide), if_neg (by decide), if_neg (by decide), if_neg (by decide)]; exact stj_b (h := two 6) (by omega)) (fun z hz => okZ_fr (hS1 z hz) (o_13 (2 * z + 16) (by omega)) (o_13 (2 * z + 16 + 1) (by omega))) (by omega) (hctc) (hhs) (hbk) (htr) (hct) (hpr) (hpd) (htx) (hpx) (hvl) (fun j hj => ((o_13 j (by omega))).trans (o_1 j (by omega))) hP hS (lv_sub hl [4, 5, 6, 7, 1, 0] rfl)
        · have hs9 : sp i = (-45) := hsx9.trans (by unfold cdp; rw [ex9, if_neg (by decide), if_neg (by decide)]; decide)
          have hd9 := dpl_b hd1 hd2 (by rw [ex9]; decide) (by rw [ex9]; decide) (by rw [ex9]; decide) (by rw [ex9]; decide)
          have hd8 := hd9.1
          refine lv_aload_n hx hb dX1_tell_15 rfl (lv_at hl 1 rfl) ?_
          refine lv_iload hx hb dX1_tell_16 (lv_at hl 5 rfl) ?_
          refine rd_calli (va_runV (As := [.int (nI i)]) (rest := []) ⟨hx, hb, hml, hown, hts⟩ (t_stepAt l G g hg f_1 k ln sc sp (nI i) htx hpx (by first | assumption | omega | decide) (by first | assumption | omega | decide) (by first | assumption | omega | decide)) (my_cwV hts ok_X8_stepAt w_436 rfl rfl ⟨Nat.le_of_ble_eq_true rfl, Nat.le_of_ble_eq_true rfl⟩) ⟨bP.blind, va_recv hG.1 hP (ci := 7) (q0 := k) rfl (wl_at (by omega) htx), fun U hU hW => ⟨rfl, by rw [hU]; exact hP, kG.warm hW hG⟩⟩ rfl rfl hl.1 rfl (lv_room (Nat.le_of_ble_eq_true rfl)) dX1_tell_18 ⟨Nat.le_of_ble_eq_true rfl, Nat.le_of_ble_eq_true rfl⟩) (fun r hr9 => ?_)
          subst hr9
          refine my_bei (v := (-45)) (by rw [if_pos (inN_n hi9 (by omega)), nI_clamp (by omega)]; exact hs9) ?_
          refine lv_istore (lv' := [(6, .int (-45)), (0, .ref (g 1)), (1, .ref (g k)), (2, .int (nI pn)), (3, .int q), (4, .int (nI tp)), (5, .int (nI i))]) hx hb dX1_tell_21 hl (by decide) rfl (fun ls hl => ?_)
          refine lv_iload hx hb dX1_tell_23 (lv_at hl 0 rfl) ?_
          refine lv_if_ge (tgt := 37) hx hb dX1_tell_25 (by decide) (fun c_25 => absurd c_25 (by decide)) (fun c_25 => ?_)
          refine lv_iload hx hb dX1_tell_28 (lv_at hl 0 rfl) ?_
          refine lv_ineg hx hb dX1_tell_30 ?_
          refine my_bei (v := 45) (by decide) ?_
          refine rd_calli (va_runS (As := [.int 45]) (rest := []) ⟨hx, hb, hml, hown, hts⟩ (g_rankE l G g hg f_1 45  ) (my_cwS hts ok_X7_rank w_440 rfl rfl ⟨Nat.le_of_ble_eq_true rfl, Nat.le_of_ble_eq_true rfl⟩) ⟨bP.blind, fun U hU hW => ⟨rfl, by rw [hU]; exact hP, kG.warm hW hG⟩⟩ rfl rfl hl.1 rfl (lv_room (Nat.le_of_ble_eq_true rfl)) dX1_tell_31 ⟨Nat.le_of_ble_eq_true rfl, Nat.le_of_ble_eq_true rfl⟩) (fun r hr9 => ?_)
          subst hr9
          refine my_bei (v := 4) (by decide) ?_
          refine lv_goto (tgt := 38) hx hb dX1_tell_34 (by decide) ?_
          refine lv_istore (lv' := [(7, .int 4), (6, .int (-45)), (0, .ref (g 1)), (1, .ref (g k)), (2, .int (nI pn)), (3, .int q), (4, .int (nI tp)), (5, .int (nI i))]) hx hb dX1_tell_38 hl (by decide) rfl (fun ls hl => ?_)
          refine lv_iload hx hb dX1_tell_40 (lv_at hl 0 rfl) ?_
          refine lv_if_ne (tgt := 85) hx hb dX1_tell_42 (by decide) (fun c_42 => ?_) (fun c_42 => absurd c_42 (by decide))
          refine lv_iload hx hb dX1_tell_85 (lv_at hl 0 rfl) ?_
          refine lv_bipush (v := 6) hx hb dX1_tell_87 (by decide) ?_
          refine lv_icmp_ne (tgt := 125) hx hb dX1_tell_89 (by decide) (fun c_89 => ?_) (fun c_89 => absurd c_89 (by decide))
          refine lv_iload hx hb dX1_tell_125 (lv_at hl 6 rfl) ?_
          refine lv_iconst (v := 2) hx hb dX1_tell_127 (by decide) ?_
          refine lv_icmp_lt (tgt := 165) hx hb dX1_tell_128 (by decide) (fun c_128 => absurd c_128 (fun z => absurd ((nI_ltI (b := 2) (by omega) (by decide)).mp z) (by omega))) (fun c_128 => ?_)
          refine lv_iinc (v := nI (tp - 1)) (lv' := [(4, .int (nI (tp - 1))), (7, .int 4), (6, .int (-45)), (0, .ref (g 1)), (1, .ref (g k)), (2, .int (nI pn)), (3, .int q), (5, .int (nI i))]) hx hb dX1_tell_131 hl (k := 6) rfl (sb_m1 (by omega)) (by decide) rfl (fun ls hl => ?_)
          refine lv_aload_n hx hb dX1_tell_134 rfl (lv_at hl 3 rfl) ?_
          refine va_get (D := G.1) (ci := 1) (v := .ref (g 15)) (C := RX1) (T := TX1) (N := 5) hx hb hts inlX1 hown hG.1 hP 1 (wl_at (by decide) hctc) rfl 3 (by decide) (hts (.fieldLink RX1 29 "SwornLists$Court" "values" "[J") w_47) (fun _ h9 => h9) rfl dX1_tell_135 ?_
          refine lv_iload hx hb dX1_tell_138 (lv_at hl 0 rfl) ?_
          refine lv_iconst (v := 1) hx hb dX1_tell_140 (by decide) ?_
          refine lv_isub hx hb dX1_tell_141 ?_
          refine my_bei (v := nI ((tp - 1) - 1)) (pk_sub (a := tp - 1) (b := 1) (by omega)) ?_
          refine lv_iload hx hb dX1_tell_142 (lv_at hl 2 rfl) ?_
          refine lv_ineg hx hb dX1_tell_144 ?_
          refine my_bei (v := 45) (by decide) ?_
          refine lv_aload_n hx hb dX1_tell_145 rfl (lv_at hl 3 rfl) ?_
          refine va_get (D := G.1) (ci := 1) (v := .ref (g 15)) (C := RX1) (T := TX1) (N := 5) hx hb hts inlX1 hown hG.1 hP 1 (wl_at (by decide) hctc) rfl 3 (by decide) (hts (.fieldLink RX1 29 "SwornLists$Court" "values" "[J") w_47) (fun _ h9 => h9) rfl dX1_tell_146 ?_
          refine lv_iload hx hb dX1_tell_149 (lv_at hl 0 rfl) ?_
          refine lv_iconst (v := 1) hx hb dX1_tell_151 (by decide) ?_
          refine lv_isub hx hb dX1_tell_152 ?_
          refine my_bei (v := nI ((tp - 1) - 1)) (pk_sub (a := tp - 1) (b := 1) (by omega)) ?_
          refine va_lald hx hb hG.1 hP 15 1 (wl_at (by decide) hvl) rfl (vp_in_nI (by omega) (by decide)) dX1_tell_153 ?_
          refine my_bel (v := vv1 ((tp - 1) - 1)) (congrArg vv1 (nI_clamp (n := (tp - 1) - 1) (by omega))) ?_
          refine lv_aload_n hx hb dX1_tell_154 rfl (lv_at hl 3 rfl) ?_
          refine va_get (D := G.1) (ci := 1) (v := .ref (g 15)) (C := RX1) (T := TX1) (N := 5) hx hb hts inlX1 hown hG.1 hP 1 (wl_at (by decide) hctc) rfl 3 (by decide) (hts (.fieldLink RX1 29 "SwornLists$Court" "values" "[J") w_47) (fun _ h9 => h9) rfl dX1_tell_155 ?_
          refine lv_iload hx hb dX1_tell_158 (lv_at hl 0 rfl) ?_
          refine va_lald hx hb hG.1 hP 15 1 (wl_at (by decide) hvl) rfl (vp_in_nI (by omega) (by decide)) dX1_tell_160 ?_
          refine my_bel (v := vv1 (tp - 1)) (congrArg vv1 (nI_clamp (n := tp - 1) (by omega))) ?_
          refine rd_calll (va_runS (As := [.int 45, .long (vv1 ((tp - 1) - 1)), .long (vv1 (tp - 1))]) (rest := [.int (nI ((tp - 1) - 1)), .ref (g 15)]) ⟨hx, hb, hml, hown, hts⟩ (g_joinedE l G g hg f_1 45 (vv1 ((tp - 1) - 1)) (vv1 (tp - 1))  ) (my_cwS hts ok_X7_joined w_461 rfl rfl ⟨Nat.le_of_ble_eq_true rfl, Nat.le_of_ble_eq_true rfl⟩) ⟨bP.blind, fun U hU hW => ⟨rfl, by rw [hU]; exact hP, kG.warm hW hG⟩⟩ rfl rfl hl.1 rfl (lv_room (Nat.le_of_ble_eq_true rfl)) dX1_tell_161 ⟨Nat.le_of_ble_eq_true rfl, Nat.le_of_ble_eq_true rfl⟩) (fun r hr9 => ?_)
          subst hr9
          refine my_bel (v := two 7 (vv1 ((tp - 1) - 1)) (vv1 (tp - 1))) (jn_two.2.2.2.1) ?_
          refine va_last hx hb hG.1 hP (wl_D hg f_1) hS 15 1 (wl_at (by decide) hvl) rfl (vp_in_nI (by omega) (by decide)) dX1_tell_164 (fun H locs hP _ hS => ?_)
          have hP := (congrArg (fun z9 => va_P G.1 vwCl ((wl g f_1).set 15 (g 15, eJ G 50 ((vp_updL vv1 z9 (two 7 (vv1 ((tp - 1) - 1)) (vv1 (tp - 1))))))) H) (show Int32.toNatClampNeg (nI ((tp - 1) - 1)) = (tp - 1) - 1 from nI_clamp (by omega))).mp hP
          obtain ⟨f_14, hP, e_14, o_14⟩ := b_put (by decide) hP
          have hvl : f_14 15 = eJ G 50 (vp_updL vv1 ((tp - 1) - 1) (two 7 (vv1 ((tp - 1) - 1)) (vv1 (tp - 1)))) := e_14
          refine lv_iinc (v := nI (i + 1)) (lv' := [(5, .int (nI (i + 1))), (4, .int (nI (tp - 1))), (7, .int 4), (6, .int (-45)), (0, .ref (g 1)), (1, .ref (g k)), (2, .int (nI pn)), (3, .int q)]) hx hb dX1_tell_165 hl (k := 7) rfl (nI_add i 1) (by decide) rfl (fun ls hl => ?_)
          refine lv_goto (tgt := 6) hx hb dX1_tell_168 (by decide) ?_
          replace hctc := ((o_14 1 (by decide))).trans hctc
          replace hhs := ((o_14 12 (by decide))).trans hhs
          replace hbk := ((o_14 36 (by decide))).trans hbk
          replace htr := ((o_14 45 (by decide))).trans htr
          replace hct := ((o_14 46 (by decide))).trans hct
          replace hpr := ((o_14 37 (by decide))).trans hpr
          replace hpd := ((o_14 38 (by decide))).trans hpd
          replace htx : f_14 k = eO 7 [.ref (g (k + 1)), .ref (g (k + 2)), .int (nI ln), .int (nI sc)] := ((o_14 k (by omega))).trans htx
          replace hpx : f_14 (k + 2) = eI G 50 sp := ((o_14 (k + 2) (by omega))).trans hpx
          exact ih_1 (i + 1) (tp - 1) (vp_updL vv1 ((tp - 1) - 1) (two 7 (vv1 ((tp - 1) - 1)) (vv1 (tp - 1)))) f_14 _ _ _ (hi9) (by rw [hdx]; show _ = stE (ltk (fun i c => dp (4 * i + c)) (satN (fun t c => ct (70 * t + c)) sw q pn nt) (sinV (fun t c => ct (70 * t + c)) sw q pn nt) pn q) x9 (ev (ltk (fun i c => dp (4 * i + c)) (satN (fun t c => ct (70 * t + c)) sw q pn nt) (sinV (fun t c => ct (70 * t + c)) sw q pn nt) pn q) (zl.drop (sc - i))); rw [← hst]; unfold stE; rw [ex9, if_neg (by decide), if_neg (by decide), if_neg (by decide), if_neg (by decide)]; exact stj_b (h := two 7) (by omega)) (fun z hz => okZ_fr (hS1 z hz) (o_14 (2 * z + 16) (by omega)) (o_14 (2 * z + 16 + 1) (by omega))) (by omega) (hctc) (hhs) (hbk) (htr) (hct) (hpr) (hpd) (htx) (hpx) (hvl) (fun j hj => ((o_14 j (by omega))).trans (o_1 j (by omega))) hP hS (lv_sub hl [4, 5, 6, 7, 1, 0] rfl)
        · have hs9 : sp i = (-60) := hsx9.trans (by unfold cdp; rw [ex9, if_neg (by decide), if_neg (by decide)]; decide)
          have hd9 := dpl_b hd1 hd2 (by rw [ex9]; decide) (by rw [ex9]; decide) (by rw [ex9]; decide) (by rw [ex9]; decide)
          have hd8 := hd9.1
          refine lv_aload_n hx hb dX1_tell_15 rfl (lv_at hl 1 rfl) ?_
          refine lv_iload hx hb dX1_tell_16 (lv_at hl 5 rfl) ?_
          refine rd_calli (va_runV (As := [.int (nI i)]) (rest := []) ⟨hx, hb, hml, hown, hts⟩ (t_stepAt l G g hg f_1 k ln sc sp (nI i) htx hpx (by first | assumption | omega | decide) (by first | assumption | omega | decide) (by first | assumption | omega | decide)) (my_cwV hts ok_X8_stepAt w_436 rfl rfl ⟨Nat.le_of_ble_eq_true rfl, Nat.le_of_ble_eq_true rfl⟩) ⟨bP.blind, va_recv hG.1 hP (ci := 7) (q0 := k) rfl (wl_at (by omega) htx), fun U hU hW => ⟨rfl, by rw [hU]; exact hP, kG.warm hW hG⟩⟩ rfl rfl hl.1 rfl (lv_room (Nat.le_of_ble_eq_true rfl)) dX1_tell_18 ⟨Nat.le_of_ble_eq_true rfl, Nat.le_of_ble_eq_true rfl⟩) (fun r hr9 => ?_)
          subst hr9
          refine my_bei (v := (-60)) (by rw [if_pos (inN_n hi9 (by omega)), nI_clamp (by omega)]; exact hs9) ?_
          refine lv_istore (lv' := [(6, .int (-60)), (0, .ref (g 1)), (1, .ref (g k)), (2, .int (nI pn)), (3, .int q), (4, .int (nI tp)), (5, .int (nI i))]) hx hb dX1_tell_21 hl (by decide) rfl (fun ls hl => ?_)
          refine lv_iload hx hb dX1_tell_23 (lv_at hl 0 rfl) ?_
          refine lv_if_ge (tgt := 37) hx hb dX1_tell_25 (by decide) (fun c_25 => absurd c_25 (by decide)) (fun c_25 => ?_)
          refine lv_iload hx hb dX1_tell_28 (lv_at hl 0 rfl) ?_
          refine lv_ineg hx hb dX1_tell_30 ?_
          refine my_bei (v := 60) (by decide) ?_
          refine rd_calli (va_runS (As := [.int 60]) (rest := []) ⟨hx, hb, hml, hown, hts⟩ (g_rankE l G g hg f_1 60  ) (my_cwS hts ok_X7_rank w_440 rfl rfl ⟨Nat.le_of_ble_eq_true rfl, Nat.le_of_ble_eq_true rfl⟩) ⟨bP.blind, fun U hU hW => ⟨rfl, by rw [hU]; exact hP, kG.warm hW hG⟩⟩ rfl rfl hl.1 rfl (lv_room (Nat.le_of_ble_eq_true rfl)) dX1_tell_31 ⟨Nat.le_of_ble_eq_true rfl, Nat.le_of_ble_eq_true rfl⟩) (fun r hr9 => ?_)
          subst hr9
          refine my_bei (v := 3) (by decide) ?_
          refine lv_goto (tgt := 38) hx hb dX1_tell_34 (by decide) ?_
          refine lv_istore (lv' := [(7, .int 3), (6, .int (-60)), (0, .ref (g 1)), (1, .ref (g k)), (2, .int (nI pn)), (3, .int q), (4, .int (nI tp)), (5, .int (nI i))]) hx hb dX1_tell_38 hl (by decide) rfl (fun ls hl => ?_)
          refine lv_iload hx hb dX1_tell_40 (lv_at hl 0 rfl) ?_
          refine lv_if_ne (tgt := 85) hx hb dX1_tell_42 (by decide) (fun c_42 => ?_) (fun c_42 => absurd c_42 (by decide))
          refine lv_iload hx hb dX1_tell_85 (lv_at hl 0 rfl) ?_
          refine lv_bipush (v := 6) hx hb dX1_tell_87 (by decide) ?_
          refine lv_icmp_ne (tgt := 125) hx hb dX1_tell_89 (by decide) (fun c_89 => ?_) (fun c_89 => absurd c_89 (by decide))
          refine lv_iload hx hb dX1_tell_125 (lv_at hl 6 rfl) ?_
          refine lv_iconst (v := 2) hx hb dX1_tell_127 (by decide) ?_
          refine lv_icmp_lt (tgt := 165) hx hb dX1_tell_128 (by decide) (fun c_128 => absurd c_128 (fun z => absurd ((nI_ltI (b := 2) (by omega) (by decide)).mp z) (by omega))) (fun c_128 => ?_)
          refine lv_iinc (v := nI (tp - 1)) (lv' := [(4, .int (nI (tp - 1))), (7, .int 3), (6, .int (-60)), (0, .ref (g 1)), (1, .ref (g k)), (2, .int (nI pn)), (3, .int q), (5, .int (nI i))]) hx hb dX1_tell_131 hl (k := 6) rfl (sb_m1 (by omega)) (by decide) rfl (fun ls hl => ?_)
          refine lv_aload_n hx hb dX1_tell_134 rfl (lv_at hl 3 rfl) ?_
          refine va_get (D := G.1) (ci := 1) (v := .ref (g 15)) (C := RX1) (T := TX1) (N := 5) hx hb hts inlX1 hown hG.1 hP 1 (wl_at (by decide) hctc) rfl 3 (by decide) (hts (.fieldLink RX1 29 "SwornLists$Court" "values" "[J") w_47) (fun _ h9 => h9) rfl dX1_tell_135 ?_
          refine lv_iload hx hb dX1_tell_138 (lv_at hl 0 rfl) ?_
          refine lv_iconst (v := 1) hx hb dX1_tell_140 (by decide) ?_
          refine lv_isub hx hb dX1_tell_141 ?_
          refine my_bei (v := nI ((tp - 1) - 1)) (pk_sub (a := tp - 1) (b := 1) (by omega)) ?_
          refine lv_iload hx hb dX1_tell_142 (lv_at hl 2 rfl) ?_
          refine lv_ineg hx hb dX1_tell_144 ?_
          refine my_bei (v := 60) (by decide) ?_
          refine lv_aload_n hx hb dX1_tell_145 rfl (lv_at hl 3 rfl) ?_
          refine va_get (D := G.1) (ci := 1) (v := .ref (g 15)) (C := RX1) (T := TX1) (N := 5) hx hb hts inlX1 hown hG.1 hP 1 (wl_at (by decide) hctc) rfl 3 (by decide) (hts (.fieldLink RX1 29 "SwornLists$Court" "values" "[J") w_47) (fun _ h9 => h9) rfl dX1_tell_146 ?_
          refine lv_iload hx hb dX1_tell_149 (lv_at hl 0 rfl) ?_
          refine lv_iconst (v := 1) hx hb dX1_tell_151 (by decide) ?_
          refine lv_isub hx hb dX1_tell_152 ?_
          refine my_bei (v := nI ((tp - 1) - 1)) (pk_sub (a := tp - 1) (b := 1) (by omega)) ?_
          refine va_lald hx hb hG.1 hP 15 1 (wl_at (by decide) hvl) rfl (vp_in_nI (by omega) (by decide)) dX1_tell_153 ?_
          refine my_bel (v := vv1 ((tp - 1) - 1)) (congrArg vv1 (nI_clamp (n := (tp - 1) - 1) (by omega))) ?_
          refine lv_aload_n hx hb dX1_tell_154 rfl (lv_at hl 3 rfl) ?_
          refine va_get (D := G.1) (ci := 1) (v := .ref (g 15)) (C := RX1) (T := TX1) (N := 5) hx hb hts inlX1 hown hG.1 hP 1 (wl_at (by decide) hctc) rfl 3 (by decide) (hts (.fieldLink RX1 29 "SwornLists$Court" "values" "[J") w_47) (fun _ h9 => h9) rfl dX1_tell_155 ?_
          refine lv_iload hx hb dX1_tell_158 (lv_at hl 0 rfl) ?_
          refine va_lald hx hb hG.1 hP 15 1 (wl_at (by decide) hvl) rfl (vp_in_nI (by omega) (by decide)) dX1_tell_160 ?_
          refine my_bel (v := vv1 (tp - 1)) (congrArg vv1 (nI_clamp (n := tp - 1) (by omega))) ?_
          refine rd_calll (va_runS (As := [.int 60, .long (vv1 ((tp - 1) - 1)), .long (vv1 (tp - 1))]) (rest := [.int (nI ((tp - 1) - 1)), .ref (g 15)]) ⟨hx, hb, hml, hown, hts⟩ (g_joinedE l G g hg f_1 60 (vv1 ((tp - 1) - 1)) (vv1 (tp - 1))  ) (my_cwS hts ok_X7_joined w_461 rfl rfl ⟨Nat.le_of_ble_eq_true rfl, Nat.le_of_ble_eq_true rfl⟩) ⟨bP.blind, fun U hU hW => ⟨rfl, by rw [hU]; exact hP, kG.warm hW hG⟩⟩ rfl rfl hl.1 rfl (lv_room (Nat.le_of_ble_eq_true rfl)) dX1_tell_161 ⟨Nat.le_of_ble_eq_true rfl, Nat.le_of_ble_eq_true rfl⟩) (fun r hr9 => ?_)
          subst hr9
          refine my_bel (v := two 8 (vv1 ((tp - 1) - 1)) (vv1 (tp - 1))) (jn_two.2.2.2.2.1) ?_
          refine va_last hx hb hG.1 hP (wl_D hg f_1) hS 15 1 (wl_at (by decide) hvl) rfl (vp_in_nI (by omega) (by decide)) dX1_tell_164 (fun H locs hP _ hS => ?_)
          have hP := (congrArg (fun z9 => va_P G.1 vwCl ((wl g f_1).set 15 (g 15, eJ G 50 ((vp_updL vv1 z9 (two 8 (vv1 ((tp - 1) - 1)) (vv1 (tp - 1))))))) H) (show Int32.toNatClampNeg (nI ((tp - 1) - 1)) = (tp - 1) - 1 from nI_clamp (by omega))).mp hP
          obtain ⟨f_15, hP, e_15, o_15⟩ := b_put (by decide) hP
          have hvl : f_15 15 = eJ G 50 (vp_updL vv1 ((tp - 1) - 1) (two 8 (vv1 ((tp - 1) - 1)) (vv1 (tp - 1)))) := e_15
          refine lv_iinc (v := nI (i + 1)) (lv' := [(5, .int (nI (i + 1))), (4, .int (nI (tp - 1))), (7, .int 3), (6, .int (-60)), (0, .ref (g 1)), (1, .ref (g k)), (2, .int (nI pn)), (3, .int q)]) hx hb dX1_tell_165 hl (k := 7) rfl (nI_add i 1) (by decide) rfl (fun ls hl => ?_)
          refine lv_goto (tgt := 6) hx hb dX1_tell_168 (by decide) ?_
          replace hctc := ((o_15 1 (by decide))).trans hctc
          replace hhs := ((o_15 12 (by decide))).trans hhs
          replace hbk := ((o_15 36 (by decide))).trans hbk
          replace htr := ((o_15 45 (by decide))).trans htr
          replace hct := ((o_15 46 (by decide))).trans hct
          replace hpr := ((o_15 37 (by decide))).trans hpr
          replace hpd := ((o_15 38 (by decide))).trans hpd
          replace htx : f_15 k = eO 7 [.ref (g (k + 1)), .ref (g (k + 2)), .int (nI ln), .int (nI sc)] := ((o_15 k (by omega))).trans htx
          replace hpx : f_15 (k + 2) = eI G 50 sp := ((o_15 (k + 2) (by omega))).trans hpx
          exact ih_1 (i + 1) (tp - 1) (vp_updL vv1 ((tp - 1) - 1) (two 8 (vv1 ((tp - 1) - 1)) (vv1 (tp - 1)))) f_15 _ _ _ (hi9) (by rw [hdx]; show _ = stE (ltk (fun i c => dp (4 * i + c)) (satN (fun t c => ct (70 * t + c)) sw q pn nt) (sinV (fun t c => ct (70 * t + c)) sw q pn nt) pn q) x9 (ev (ltk (fun i c => dp (4 * i + c)) (satN (fun t c => ct (70 * t + c)) sw q pn nt) (sinV (fun t c => ct (70 * t + c)) sw q pn nt) pn q) (zl.drop (sc - i))); rw [← hst]; unfold stE; rw [ex9, if_neg (by decide), if_neg (by decide), if_neg (by decide), if_neg (by decide)]; exact stj_b (h := two 8) (by omega)) (fun z hz => okZ_fr (hS1 z hz) (o_15 (2 * z + 16) (by omega)) (o_15 (2 * z + 16 + 1) (by omega))) (by omega) (hctc) (hhs) (hbk) (htr) (hct) (hpr) (hpd) (htx) (hpx) (hvl) (fun j hj => ((o_15 j (by omega))).trans (o_1 j (by omega))) hP hS (lv_sub hl [4, 5, 6, 7, 1, 0] rfl)
        · have hs9 : sp i = (-62) := hsx9.trans (by unfold cdp; rw [ex9, if_neg (by decide), if_neg (by decide)]; decide)
          have hd9 := dpl_b hd1 hd2 (by rw [ex9]; decide) (by rw [ex9]; decide) (by rw [ex9]; decide) (by rw [ex9]; decide)
          have hd8 := hd9.1
          refine lv_aload_n hx hb dX1_tell_15 rfl (lv_at hl 1 rfl) ?_
          refine lv_iload hx hb dX1_tell_16 (lv_at hl 5 rfl) ?_
          refine rd_calli (va_runV (As := [.int (nI i)]) (rest := []) ⟨hx, hb, hml, hown, hts⟩ (t_stepAt l G g hg f_1 k ln sc sp (nI i) htx hpx (by first | assumption | omega | decide) (by first | assumption | omega | decide) (by first | assumption | omega | decide)) (my_cwV hts ok_X8_stepAt w_436 rfl rfl ⟨Nat.le_of_ble_eq_true rfl, Nat.le_of_ble_eq_true rfl⟩) ⟨bP.blind, va_recv hG.1 hP (ci := 7) (q0 := k) rfl (wl_at (by omega) htx), fun U hU hW => ⟨rfl, by rw [hU]; exact hP, kG.warm hW hG⟩⟩ rfl rfl hl.1 rfl (lv_room (Nat.le_of_ble_eq_true rfl)) dX1_tell_18 ⟨Nat.le_of_ble_eq_true rfl, Nat.le_of_ble_eq_true rfl⟩) (fun r hr9 => ?_)
          subst hr9
          refine my_bei (v := (-62)) (by rw [if_pos (inN_n hi9 (by omega)), nI_clamp (by omega)]; exact hs9) ?_
          refine lv_istore (lv' := [(6, .int (-62)), (0, .ref (g 1)), (1, .ref (g k)), (2, .int (nI pn)), (3, .int q), (4, .int (nI tp)), (5, .int (nI i))]) hx hb dX1_tell_21 hl (by decide) rfl (fun ls hl => ?_)
          refine lv_iload hx hb dX1_tell_23 (lv_at hl 0 rfl) ?_
          refine lv_if_ge (tgt := 37) hx hb dX1_tell_25 (by decide) (fun c_25 => absurd c_25 (by decide)) (fun c_25 => ?_)
          refine lv_iload hx hb dX1_tell_28 (lv_at hl 0 rfl) ?_
          refine lv_ineg hx hb dX1_tell_30 ?_
          refine my_bei (v := 62) (by decide) ?_
          refine rd_calli (va_runS (As := [.int 62]) (rest := []) ⟨hx, hb, hml, hown, hts⟩ (g_rankE l G g hg f_1 62  ) (my_cwS hts ok_X7_rank w_440 rfl rfl ⟨Nat.le_of_ble_eq_true rfl, Nat.le_of_ble_eq_true rfl⟩) ⟨bP.blind, fun U hU hW => ⟨rfl, by rw [hU]; exact hP, kG.warm hW hG⟩⟩ rfl rfl hl.1 rfl (lv_room (Nat.le_of_ble_eq_true rfl)) dX1_tell_31 ⟨Nat.le_of_ble_eq_true rfl, Nat.le_of_ble_eq_true rfl⟩) (fun r hr9 => ?_)
          subst hr9
          refine my_bei (v := 3) (by decide) ?_
          refine lv_goto (tgt := 38) hx hb dX1_tell_34 (by decide) ?_
          refine lv_istore (lv' := [(7, .int 3), (6, .int (-62)), (0, .ref (g 1)), (1, .ref (g k)), (2, .int (nI pn)), (3, .int q), (4, .int (nI tp)), (5, .int (nI i))]) hx hb dX1_tell_38 hl (by decide) rfl (fun ls hl => ?_)
          refine lv_iload hx hb dX1_tell_40 (lv_at hl 0 rfl) ?_
          refine lv_if_ne (tgt := 85) hx hb dX1_tell_42 (by decide) (fun c_42 => ?_) (fun c_42 => absurd c_42 (by decide))
          refine lv_iload hx hb dX1_tell_85 (lv_at hl 0 rfl) ?_
          refine lv_bipush (v := 6) hx hb dX1_tell_87 (by decide) ?_
          refine lv_icmp_ne (tgt := 125) hx hb dX1_tell_89 (by decide) (fun c_89 => ?_) (fun c_89 => absurd c_89 (by decide))
          refine lv_iload hx hb dX1_tell_125 (lv_at hl 6 rfl) ?_
          refine lv_iconst (v := 2) hx hb dX1_tell_127 (by decide) ?_
          refine lv_icmp_lt (tgt := 165) hx hb dX1_tell_128 (by decide) (fun c_128 => absurd c_128 (fun z => absurd ((nI_ltI (b := 2) (by omega) (by decide)).mp z) (by omega))) (fun c_128 => ?_)
          refine lv_iinc (v := nI (tp - 1)) (lv' := [(4, .int (nI (tp - 1))), (7, .int 3), (6, .int (-62)), (0, .ref (g 1)), (1, .ref (g k)), (2, .int (nI pn)), (3, .int q), (5, .int (nI i))]) hx hb dX1_tell_131 hl (k := 6) rfl (sb_m1 (by omega)) (by decide) rfl (fun ls hl => ?_)
          refine lv_aload_n hx hb dX1_tell_134 rfl (lv_at hl 3 rfl) ?_
          refine va_get (D := G.1) (ci := 1) (v := .ref (g 15)) (C := RX1) (T := TX1) (N := 5) hx hb hts inlX1 hown hG.1 hP 1 (wl_at (by decide) hctc) rfl 3 (by decide) (hts (.fieldLink RX1 29 "SwornLists$Court" "values" "[J") w_47) (fun _ h9 => h9) rfl dX1_tell_135 ?_
          refine lv_iload hx hb dX1_tell_138 (lv_at hl 0 rfl) ?_
          refine lv_iconst (v := 1) hx hb dX1_tell_140 (by decide) ?_
          refine lv_isub hx hb dX1_tell_141 ?_
          refine my_bei (v := nI ((tp - 1) - 1)) (pk_sub (a := tp - 1) (b := 1) (by omega)) ?_
          refine lv_iload hx hb dX1_tell_142 (lv_at hl 2 rfl) ?_
          refine lv_ineg hx hb dX1_tell_144 ?_
          refine my_bei (v := 62) (by decide) ?_
          refine lv_aload_n hx hb dX1_tell_145 rfl (lv_at hl 3 rfl) ?_
          refine va_get (D := G.1) (ci := 1) (v := .ref (g 15)) (C := RX1) (T := TX1) (N := 5) hx hb hts inlX1 hown hG.1 hP 1 (wl_at (by decide) hctc) rfl 3 (by decide) (hts (.fieldLink RX1 29 "SwornLists$Court" "values" "[J") w_47) (fun _ h9 => h9) rfl dX1_tell_146 ?_
          refine lv_iload hx hb dX1_tell_149 (lv_at hl 0 rfl) ?_
          refine lv_iconst (v := 1) hx hb dX1_tell_151 (by decide) ?_
          refine lv_isub hx hb dX1_tell_152 ?_
          refine my_bei (v := nI ((tp - 1) - 1)) (pk_sub (a := tp - 1) (b := 1) (by omega)) ?_
          refine va_lald hx hb hG.1 hP 15 1 (wl_at (by decide) hvl) rfl (vp_in_nI (by omega) (by decide)) dX1_tell_153 ?_
          refine my_bel (v := vv1 ((tp - 1) - 1)) (congrArg vv1 (nI_clamp (n := (tp - 1) - 1) (by omega))) ?_
          refine lv_aload_n hx hb dX1_tell_154 rfl (lv_at hl 3 rfl) ?_
          refine va_get (D := G.1) (ci := 1) (v := .ref (g 15)) (C := RX1) (T := TX1) (N := 5) hx hb hts inlX1 hown hG.1 hP 1 (wl_at (by decide) hctc) rfl 3 (by decide) (hts (.fieldLink RX1 29 "SwornLists$Court" "values" "[J") w_47) (fun _ h9 => h9) rfl dX1_tell_155 ?_
          refine lv_iload hx hb dX1_tell_158 (lv_at hl 0 rfl) ?_
          refine va_lald hx hb hG.1 hP 15 1 (wl_at (by decide) hvl) rfl (vp_in_nI (by omega) (by decide)) dX1_tell_160 ?_
          refine my_bel (v := vv1 (tp - 1)) (congrArg vv1 (nI_clamp (n := tp - 1) (by omega))) ?_
          refine rd_calll (va_runS (As := [.int 62, .long (vv1 ((tp - 1) - 1)), .long (vv1 (tp - 1))]) (rest := [.int (nI ((tp - 1) - 1)), .ref (g 15)]) ⟨hx, hb, hml, hown, hts⟩ (g_joinedE l G g hg f_1 62 (vv1 ((tp - 1) - 1)) (vv1 (tp - 1))  ) (my_cwS hts ok_X7_joined w_461 rfl rfl ⟨Nat.le_of_ble_eq_true rfl, Nat.le_of_ble_eq_true rfl⟩) ⟨bP.blind, fun U hU hW => ⟨rfl, by rw [hU]; exact hP, kG.warm hW hG⟩⟩ rfl rfl hl.1 rfl (lv_room (Nat.le_of_ble_eq_true rfl)) dX1_tell_161 ⟨Nat.le_of_ble_eq_true rfl, Nat.le_of_ble_eq_true rfl⟩) (fun r hr9 => ?_)
          subst hr9
          refine my_bel (v := two 9 (vv1 ((tp - 1) - 1)) (vv1 (tp - 1))) (jn_two.2.2.2.2.2.1) ?_
          refine va_last hx hb hG.1 hP (wl_D hg f_1) hS 15 1 (wl_at (by decide) hvl) rfl (vp_in_nI (by omega) (by decide)) dX1_tell_164 (fun H locs hP _ hS => ?_)
          have hP := (congrArg (fun z9 => va_P G.1 vwCl ((wl g f_1).set 15 (g 15, eJ G 50 ((vp_updL vv1 z9 (two 9 (vv1 ((tp - 1) - 1)) (vv1 (tp - 1))))))) H) (show Int32.toNatClampNeg (nI ((tp - 1) - 1)) = (tp - 1) - 1 from nI_clamp (by omega))).mp hP
          obtain ⟨f_16, hP, e_16, o_16⟩ := b_put (by decide) hP
          have hvl : f_16 15 = eJ G 50 (vp_updL vv1 ((tp - 1) - 1) (two 9 (vv1 ((tp - 1) - 1)) (vv1 (tp - 1)))) := e_16
          refine lv_iinc (v := nI (i + 1)) (lv' := [(5, .int (nI (i + 1))), (4, .int (nI (tp - 1))), (7, .int 3), (6, .int (-62)), (0, .ref (g 1)), (1, .ref (g k)), (2, .int (nI pn)), (3, .int q)]) hx hb dX1_tell_165 hl (k := 7) rfl (nI_add i 1) (by decide) rfl (fun ls hl => ?_)
          refine lv_goto (tgt := 6) hx hb dX1_tell_168 (by decide) ?_
          replace hctc := ((o_16 1 (by decide))).trans hctc
          replace hhs := ((o_16 12 (by decide))).trans hhs
          replace hbk := ((o_16 36 (by decide))).trans hbk
          replace htr := ((o_16 45 (by decide))).trans htr
          replace hct := ((o_16 46 (by decide))).trans hct
          replace hpr := ((o_16 37 (by decide))).trans hpr
          replace hpd := ((o_16 38 (by decide))).trans hpd
          replace htx : f_16 k = eO 7 [.ref (g (k + 1)), .ref (g (k + 2)), .int (nI ln), .int (nI sc)] := ((o_16 k (by omega))).trans htx
          replace hpx : f_16 (k + 2) = eI G 50 sp := ((o_16 (k + 2) (by omega))).trans hpx
          exact ih_1 (i + 1) (tp - 1) (vp_updL vv1 ((tp - 1) - 1) (two 9 (vv1 ((tp - 1) - 1)) (vv1 (tp - 1)))) f_16 _ _ _ (hi9) (by rw [hdx]; show _ = stE (ltk (fun i c => dp (4 * i + c)) (satN (fun t c => ct (70 * t + c)) sw q pn nt) (sinV (fun t c => ct (70 * t + c)) sw q pn nt) pn q) x9 (ev (ltk (fun i c => dp (4 * i + c)) (satN (fun t c => ct (70 * t + c)) sw q pn nt) (sinV (fun t c => ct (70 * t + c)) sw q pn nt) pn q) (zl.drop (sc - i))); rw [← hst]; unfold stE; rw [ex9, if_neg (by decide), if_neg (by decide), if_neg (by decide), if_neg (by decide)]; exact stj_b (h := two 9) (by omega)) (fun z hz => okZ_fr (hS1 z hz) (o_16 (2 * z + 16) (by omega)) (o_16 (2 * z + 16 + 1) (by omega))) (by omega) (hctc) (hhs) (hbk) (htr) (hct) (hpr) (hpd) (htx) (hpx) (hvl) (fun j hj => ((o_16 j (by omega))).trans (o_1 j (by omega))) hP hS (lv_sub hl [4, 5, 6, 7, 1, 0] rfl)
        · have hs9 : sp i = (-61) := hsx9.trans (by unfold cdp; rw [ex9, if_neg (by decide), if_neg (by decide)]; decide)
          have hd9 := dpl_b hd1 hd2 (by rw [ex9]; decide) (by rw [ex9]; decide) (by rw [ex9]; decide) (by rw [ex9]; decide)
          have hd8 := hd9.1
          refine lv_aload_n hx hb dX1_tell_15 rfl (lv_at hl 1 rfl) ?_
          refine lv_iload hx hb dX1_tell_16 (lv_at hl 5 rfl) ?_
          refine rd_calli (va_runV (As := [.int (nI i)]) (rest := []) ⟨hx, hb, hml, hown, hts⟩ (t_stepAt l G g hg f_1 k ln sc sp (nI i) htx hpx (by first | assumption | omega | decide) (by first | assumption | omega | decide) (by first | assumption | omega | decide)) (my_cwV hts ok_X8_stepAt w_436 rfl rfl ⟨Nat.le_of_ble_eq_true rfl, Nat.le_of_ble_eq_true rfl⟩) ⟨bP.blind, va_recv hG.1 hP (ci := 7) (q0 := k) rfl (wl_at (by omega) htx), fun U hU hW => ⟨rfl, by rw [hU]; exact hP, kG.warm hW hG⟩⟩ rfl rfl hl.1 rfl (lv_room (Nat.le_of_ble_eq_true rfl)) dX1_tell_18 ⟨Nat.le_of_ble_eq_true rfl, Nat.le_of_ble_eq_true rfl⟩) (fun r hr9 => ?_)
          subst hr9
          refine my_bei (v := (-61)) (by rw [if_pos (inN_n hi9 (by omega)), nI_clamp (by omega)]; exact hs9) ?_
          refine lv_istore (lv' := [(6, .int (-61)), (0, .ref (g 1)), (1, .ref (g k)), (2, .int (nI pn)), (3, .int q), (4, .int (nI tp)), (5, .int (nI i))]) hx hb dX1_tell_21 hl (by decide) rfl (fun ls hl => ?_)
          refine lv_iload hx hb dX1_tell_23 (lv_at hl 0 rfl) ?_
          refine lv_if_ge (tgt := 37) hx hb dX1_tell_25 (by decide) (fun c_25 => absurd c_25 (by decide)) (fun c_25 => ?_)
          refine lv_iload hx hb dX1_tell_28 (lv_at hl 0 rfl) ?_
          refine lv_ineg hx hb dX1_tell_30 ?_
          refine my_bei (v := 61) (by decide) ?_
          refine rd_calli (va_runS (As := [.int 61]) (rest := []) ⟨hx, hb, hml, hown, hts⟩ (g_rankE l G g hg f_1 61  ) (my_cwS hts ok_X7_rank w_440 rfl rfl ⟨Nat.le_of_ble_eq_true rfl, Nat.le_of_ble_eq_true rfl⟩) ⟨bP.blind, fun U hU hW => ⟨rfl, by rw [hU]; exact hP, kG.warm hW hG⟩⟩ rfl rfl hl.1 rfl (lv_room (Nat.le_of_ble_eq_true rfl)) dX1_tell_31 ⟨Nat.le_of_ble_eq_true rfl, Nat.le_of_ble_eq_true rfl⟩) (fun r hr9 => ?_)
          subst hr9
          refine my_bei (v := 3) (by decide) ?_
          refine lv_goto (tgt := 38) hx hb dX1_tell_34 (by decide) ?_
          refine lv_istore (lv' := [(7, .int 3), (6, .int (-61)), (0, .ref (g 1)), (1, .ref (g k)), (2, .int (nI pn)), (3, .int q), (4, .int (nI tp)), (5, .int (nI i))]) hx hb dX1_tell_38 hl (by decide) rfl (fun ls hl => ?_)
          refine lv_iload hx hb dX1_tell_40 (lv_at hl 0 rfl) ?_
          refine lv_if_ne (tgt := 85) hx hb dX1_tell_42 (by decide) (fun c_42 => ?_) (fun c_42 => absurd c_42 (by decide))
          refine lv_iload hx hb dX1_tell_85 (lv_at hl 0 rfl) ?_
          refine lv_bipush (v := 6) hx hb dX1_tell_87 (by decide) ?_
          refine lv_icmp_ne (tgt := 125) hx hb dX1_tell_89 (by decide) (fun c_89 => ?_) (fun c_89 => absurd c_89 (by decide))
          refine lv_iload hx hb dX1_tell_125 (lv_at hl 6 rfl) ?_
          refine lv_iconst (v := 2) hx hb dX1_tell_127 (by decide) ?_
          refine lv_icmp_lt (tgt := 165) hx hb dX1_tell_128 (by decide) (fun c_128 => absurd c_128 (fun z => absurd ((nI_ltI (b := 2) (by omega) (by decide)).mp z) (by omega))) (fun c_128 => ?_)
          refine lv_iinc (v := nI (tp - 1)) (lv' := [(4, .int (nI (tp - 1))), (7, .int 3), (6, .int (-61)), (0, .ref (g 1)), (1, .ref (g k)), (2, .int (nI pn)), (3, .int q), (5, .int (nI i))]) hx hb dX1_tell_131 hl (k := 6) rfl (sb_m1 (by omega)) (by decide) rfl (fun ls hl => ?_)
          refine lv_aload_n hx hb dX1_tell_134 rfl (lv_at hl 3 rfl) ?_
          refine va_get (D := G.1) (ci := 1) (v := .ref (g 15)) (C := RX1) (T := TX1) (N := 5) hx hb hts inlX1 hown hG.1 hP 1 (wl_at (by decide) hctc) rfl 3 (by decide) (hts (.fieldLink RX1 29 "SwornLists$Court" "values" "[J") w_47) (fun _ h9 => h9) rfl dX1_tell_135 ?_
          refine lv_iload hx hb dX1_tell_138 (lv_at hl 0 rfl) ?_
          refine lv_iconst (v := 1) hx hb dX1_tell_140 (by decide) ?_
          refine lv_isub hx hb dX1_tell_141 ?_
          refine my_bei (v := nI ((tp - 1) - 1)) (pk_sub (a := tp - 1) (b := 1) (by omega)) ?_
          refine lv_iload hx hb dX1_tell_142 (lv_at hl 2 rfl) ?_
          refine lv_ineg hx hb dX1_tell_144 ?_
          refine my_bei (v := 61) (by decide) ?_
          refine lv_aload_n hx hb dX1_tell_145 rfl (lv_at hl 3 rfl) ?_
          refine va_get (D := G.1) (ci := 1) (v := .ref (g 15)) (C := RX1) (T := TX1) (N := 5) hx hb hts inlX1 hown hG.1 hP 1 (wl_at (by decide) hctc) rfl 3 (by decide) (hts (.fieldLink RX1 29 "SwornLists$Court" "values" "[J") w_47) (fun _ h9 => h9) rfl dX1_tell_146 ?_
          refine lv_iload hx hb dX1_tell_149 (lv_at hl 0 rfl) ?_
          refine lv_iconst (v := 1) hx hb dX1_tell_151 (by decide) ?_
          refine lv_isub hx hb dX1_tell_152 ?_
          refine my_bei (v := nI ((tp - 1) - 1)) (pk_sub (a := tp - 1) (b := 1) (by omega)) ?_
          refine va_lald hx hb hG.1 hP 15 1 (wl_at (by decide) hvl) rfl (vp_in_nI (by omega) (by decide)) dX1_tell_153 ?_
          refine my_bel (v := vv1 ((tp - 1) - 1)) (congrArg vv1 (nI_clamp (n := (tp - 1) - 1) (by omega))) ?_
          refine lv_aload_n hx hb dX1_tell_154 rfl (lv_at hl 3 rfl) ?_
          refine va_get (D := G.1) (ci := 1) (v := .ref (g 15)) (C := RX1) (T := TX1) (N := 5) hx hb hts inlX1 hown hG.1 hP 1 (wl_at (by decide) hctc) rfl 3 (by decide) (hts (.fieldLink RX1 29 "SwornLists$Court" "values" "[J") w_47) (fun _ h9 => h9) rfl dX1_tell_155 ?_
          refine lv_iload hx hb dX1_tell_158 (lv_at hl 0 rfl) ?_
          refine va_lald hx hb hG.1 hP 15 1 (wl_at (by decide) hvl) rfl (vp_in_nI (by omega) (by decide)) dX1_tell_160 ?_
          refine my_bel (v := vv1 (tp - 1)) (congrArg vv1 (nI_clamp (n := tp - 1) (by omega))) ?_
          refine rd_calll (va_runS (As := [.int 61, .long (vv1 ((tp - 1) - 1)), .long (vv1 (tp - 1))]) (rest := [.int (nI ((tp - 1) - 1)), .ref (g 15)]) ⟨hx, hb, hml, hown, hts⟩ (g_joinedE l G g hg f_1 61 (vv1 ((tp - 1) - 1)) (vv1 (tp - 1))  ) (my_cwS hts ok_X7_joined w_461 rfl rfl ⟨Nat.le_of_ble_eq_true rfl, Nat.le_of_ble_eq_true rfl⟩) ⟨bP.blind, fun U hU hW => ⟨rfl, by rw [hU]; exact hP, kG.warm hW hG⟩⟩ rfl rfl hl.1 rfl (lv_room (Nat.le_of_ble_eq_true rfl)) dX1_tell_161 ⟨Nat.le_of_ble_eq_true rfl, Nat.le_of_ble_eq_true rfl⟩) (fun r hr9 => ?_)
          subst hr9
          refine my_bel (v := two 10 (vv1 ((tp - 1) - 1)) (vv1 (tp - 1))) (jn_two.2.2.2.2.2.2.1) ?_
          refine va_last hx hb hG.1 hP (wl_D hg f_1) hS 15 1 (wl_at (by decide) hvl) rfl (vp_in_nI (by omega) (by decide)) dX1_tell_164 (fun H locs hP _ hS => ?_)
          have hP := (congrArg (fun z9 => va_P G.1 vwCl ((wl g f_1).set 15 (g 15, eJ G 50 ((vp_updL vv1 z9 (two 10 (vv1 ((tp - 1) - 1)) (vv1 (tp - 1))))))) H) (show Int32.toNatClampNeg (nI ((tp - 1) - 1)) = (tp - 1) - 1 from nI_clamp (by omega))).mp hP
          obtain ⟨f_17, hP, e_17, o_17⟩ := b_put (by decide) hP
          have hvl : f_17 15 = eJ G 50 (vp_updL vv1 ((tp - 1) - 1) (two 10 (vv1 ((tp - 1) - 1)) (vv1 (tp - 1)))) := e_17
          refine lv_iinc (v := nI (i + 1)) (lv' := [(5, .int (nI (i + 1))), (4, .int (nI (tp - 1))), (7, .int 3), (6, .int (-61)), (0, .ref (g 1)), (1, .ref (g k)), (2, .int (nI pn)), (3, .int q)]) hx hb dX1_tell_165 hl (k := 7) rfl (nI_add i 1) (by decide) rfl (fun ls hl => ?_)
          refine lv_goto (tgt := 6) hx hb dX1_tell_168 (by decide) ?_
          replace hctc := ((o_17 1 (by decide))).trans hctc
          replace hhs := ((o_17 12 (by decide))).trans hhs
          replace hbk := ((o_17 36 (by decide))).trans hbk
          replace htr := ((o_17 45 (by decide))).trans htr
          replace hct := ((o_17 46 (by decide))).trans hct
          replace hpr := ((o_17 37 (by decide))).trans hpr
          replace hpd := ((o_17 38 (by decide))).trans hpd
          replace htx : f_17 k = eO 7 [.ref (g (k + 1)), .ref (g (k + 2)), .int (nI ln), .int (nI sc)] := ((o_17 k (by omega))).trans htx
          replace hpx : f_17 (k + 2) = eI G 50 sp := ((o_17 (k + 2) (by omega))).trans hpx
          exact ih_1 (i + 1) (tp - 1) (vp_updL vv1 ((tp - 1) - 1) (two 10 (vv1 ((tp - 1) - 1)) (vv1 (tp - 1)))) f_17 _ _ _ (hi9) (by rw [hdx]; show _ = stE (ltk (fun i c => dp (4 * i + c)) (satN (fun t c => ct (70 * t + c)) sw q pn nt) (sinV (fun t c => ct (70 * t + c)) sw q pn nt) pn q) x9 (ev (ltk (fun i c => dp (4 * i + c)) (satN (fun t c => ct (70 * t + c)) sw q pn nt) (sinV (fun t c => ct (70 * t + c)) sw q pn nt) pn q) (zl.drop (sc - i))); rw [← hst]; unfold stE; rw [ex9, if_neg (by decide), if_neg (by decide), if_neg (by decide), if_neg (by decide)]; exact stj_b (h := two 10) (by omega)) (fun z hz => okZ_fr (hS1 z hz) (o_17 (2 * z + 16) (by omega)) (o_17 (2 * z + 16 + 1) (by omega))) (by omega) (hctc) (hhs) (hbk) (htr) (hct) (hpr) (hpd) (htx) (hpx) (hvl) (fun j hj => ((o_17 j (by omega))).trans (o_1 j (by omega))) hP hS (lv_sub hl [4, 5, 6, 7, 1, 0] rfl)
        · have hs9 : sp i = (-38) := hsx9.trans (by unfold cdp; rw [ex9, if_neg (by decide), if_neg (by decide)]; decide)
          have hd9 := dpl_b hd1 hd2 (by rw [ex9]; decide) (by rw [ex9]; decide) (by rw [ex9]; decide) (by rw [ex9]; decide)
          have hd8 := hd9.1
          refine lv_aload_n hx hb dX1_tell_15 rfl (lv_at hl 1 rfl) ?_
          refine lv_iload hx hb dX1_tell_16 (lv_at hl 5 rfl) ?_
          refine rd_calli (va_runV (As := [.int (nI i)]) (rest := []) ⟨hx, hb, hml, hown, hts⟩ (t_stepAt l G g hg f_1 k ln sc sp (nI i) htx hpx (by first | assumption | omega | decide) (by first | assumption | omega | decide) (by first | assumption | omega | decide)) (my_cwV hts ok_X8_stepAt w_436 rfl rfl ⟨Nat.le_of_ble_eq_true rfl, Nat.le_of_ble_eq_true rfl⟩) ⟨bP.blind, va_recv hG.1 hP (ci := 7) (q0 := k) rfl (wl_at (by omega) htx), fun U hU hW => ⟨rfl, by rw [hU]; exact hP, kG.warm hW hG⟩⟩ rfl rfl hl.1 rfl (lv_room (Nat.le_of_ble_eq_true rfl)) dX1_tell_18 ⟨Nat.le_of_ble_eq_true rfl, Nat.le_of_ble_eq_true rfl⟩) (fun r hr9 => ?_)
          subst hr9
          refine my_bei (v := (-38)) (by rw [if_pos (inN_n hi9 (by omega)), nI_clamp (by omega)]; exact hs9) ?_
          refine lv_istore (lv' := [(6, .int (-38)), (0, .ref (g 1)), (1, .ref (g k)), (2, .int (nI pn)), (3, .int q), (4, .int (nI tp)), (5, .int (nI i))]) hx hb dX1_tell_21 hl (by decide) rfl (fun ls hl => ?_)
          refine lv_iload hx hb dX1_tell_23 (lv_at hl 0 rfl) ?_
          refine lv_if_ge (tgt := 37) hx hb dX1_tell_25 (by decide) (fun c_25 => absurd c_25 (by decide)) (fun c_25 => ?_)
          refine lv_iload hx hb dX1_tell_28 (lv_at hl 0 rfl) ?_
          refine lv_ineg hx hb dX1_tell_30 ?_
          refine my_bei (v := 38) (by decide) ?_
          refine rd_calli (va_runS (As := [.int 38]) (rest := []) ⟨hx, hb, hml, hown, hts⟩ (g_rankE l G g hg f_1 38  ) (my_cwS hts ok_X7_rank w_440 rfl rfl ⟨Nat.le_of_ble_eq_true rfl, Nat.le_of_ble_eq_true rfl⟩) ⟨bP.blind, fun U hU hW => ⟨rfl, by rw [hU]; exact hP, kG.warm hW hG⟩⟩ rfl rfl hl.1 rfl (lv_room (Nat.le_of_ble_eq_true rfl)) dX1_tell_31 ⟨Nat.le_of_ble_eq_true rfl, Nat.le_of_ble_eq_true rfl⟩) (fun r hr9 => ?_)
          subst hr9
          refine my_bei (v := 2) (by decide) ?_
          refine lv_goto (tgt := 38) hx hb dX1_tell_34 (by decide) ?_
          refine lv_istore (lv' := [(7, .int 2), (6, .int (-38)), (0, .ref (g 1)), (1, .ref (g k)), (2, .int (nI pn)), (3, .int q), (4, .int (nI tp)), (5, .int (nI i))]) hx hb dX1_tell_38 hl (by decide) rfl (fun ls hl => ?_)
          refine lv_iload hx hb dX1_tell_40 (lv_at hl 0 rfl) ?_
          refine lv_if_ne (tgt := 85) hx hb dX1_tell_42 (by decide) (fun c_42 => ?_) (fun c_42 => absurd c_42 (by decide))
          refine lv_iload hx hb dX1_tell_85 (lv_at hl 0 rfl) ?_
          refine lv_bipush (v := 6) hx hb dX1_tell_87 (by decide) ?_
          refine lv_icmp_ne (tgt := 125) hx hb dX1_tell_89 (by decide) (fun c_89 => ?_) (fun c_89 => absurd c_89 (by decide))
          refine lv_iload hx hb dX1_tell_125 (lv_at hl 6 rfl) ?_
          refine lv_iconst (v := 2) hx hb dX1_tell_127 (by decide) ?_
          refine lv_icmp_lt (tgt := 165) hx hb dX1_tell_128 (by decide) (fun c_128 => absurd c_128 (fun z => absurd ((nI_ltI (b := 2) (by omega) (by decide)).mp z) (by omega))) (fun c_128 => ?_)
          refine lv_iinc (v := nI (tp - 1)) (lv' := [(4, .int (nI (tp - 1))), (7, .int 2), (6, .int (-38)), (0, .ref (g 1)), (1, .ref (g k)), (2, .int (nI pn)), (3, .int q), (5, .int (nI i))]) hx hb dX1_tell_131 hl (k := 6) rfl (sb_m1 (by omega)) (by decide) rfl (fun ls hl => ?_)
          refine lv_aload_n hx hb dX1_tell_134 rfl (lv_at hl 3 rfl) ?_
          refine va_get (D := G.1) (ci := 1) (v := .ref (g 15)) (C := RX1) (T := TX1) (N := 5) hx hb hts inlX1 hown hG.1 hP 1 (wl_at (by decide) hctc) rfl 3 (by decide) (hts (.fieldLink RX1 29 "SwornLists$Court" "values" "[J") w_47) (fun _ h9 => h9) rfl dX1_tell_135 ?_
          refine lv_iload hx hb dX1_tell_138 (lv_at hl 0 rfl) ?_
          refine lv_iconst (v := 1) hx hb dX1_tell_140 (by decide) ?_
          refine lv_isub hx hb dX1_tell_141 ?_
          refine my_bei (v := nI ((tp - 1) - 1)) (pk_sub (a := tp - 1) (b := 1) (by omega)) ?_
          refine lv_iload hx hb dX1_tell_142 (lv_at hl 2 rfl) ?_
          refine lv_ineg hx hb dX1_tell_144 ?_
          refine my_bei (v := 38) (by decide) ?_
          refine lv_aload_n hx hb dX1_tell_145 rfl (lv_at hl 3 rfl) ?_
          refine va_get (D := G.1) (ci := 1) (v := .ref (g 15)) (C := RX1) (T := TX1) (N := 5) hx hb hts inlX1 hown hG.1 hP 1 (wl_at (by decide) hctc) rfl 3 (by decide) (hts (.fieldLink RX1 29 "SwornLists$Court" "values" "[J") w_47) (fun _ h9 => h9) rfl dX1_tell_146 ?_
          refine lv_iload hx hb dX1_tell_149 (lv_at hl 0 rfl) ?_
          refine lv_iconst (v := 1) hx hb dX1_tell_151 (by decide) ?_
          refine lv_isub hx hb dX1_tell_152 ?_
          refine my_bei (v := nI ((tp - 1) - 1)) (pk_sub (a := tp - 1) (b := 1) (by omega)) ?_
          refine va_lald hx hb hG.1 hP 15 1 (wl_at (by decide) hvl) rfl (vp_in_nI (by omega) (by decide)) dX1_tell_153 ?_
          refine my_bel (v := vv1 ((tp - 1) - 1)) (congrArg vv1 (nI_clamp (n := (tp - 1) - 1) (by omega))) ?_
          refine lv_aload_n hx hb dX1_tell_154 rfl (lv_at hl 3 rfl) ?_
          refine va_get (D := G.1) (ci := 1) (v := .ref (g 15)) (C := RX1) (T := TX1) (N := 5) hx hb hts inlX1 hown hG.1 hP 1 (wl_at (by decide) hctc) rfl 3 (by decide) (hts (.fieldLink RX1 29 "SwornLists$Court" "values" "[J") w_47) (fun _ h9 => h9) rfl dX1_tell_155 ?_
          refine lv_iload hx hb dX1_tell_158 (lv_at hl 0 rfl) ?_
          refine va_lald hx hb hG.1 hP 15 1 (wl_at (by decide) hvl) rfl (vp_in_nI (by omega) (by decide)) dX1_tell_160 ?_
          refine my_bel (v := vv1 (tp - 1)) (congrArg vv1 (nI_clamp (n := tp - 1) (by omega))) ?_
          refine rd_calll (va_runS (As := [.int 38, .long (vv1 ((tp - 1) - 1)), .long (vv1 (tp - 1))]) (rest := [.int (nI ((tp - 1) - 1)), .ref (g 15)]) ⟨hx, hb, hml, hown, hts⟩ (g_joinedE l G g hg f_1 38 (vv1 ((tp - 1) - 1)) (vv1 (tp - 1))  ) (my_cwS hts ok_X7_joined w_461 rfl rfl ⟨Nat.le_of_ble_eq_true rfl, Nat.le_of_ble_eq_true rfl⟩) ⟨bP.blind, fun U hU hW => ⟨rfl, by rw [hU]; exact hP, kG.warm hW hG⟩⟩ rfl rfl hl.1 rfl (lv_room (Nat.le_of_ble_eq_true rfl)) dX1_tell_161 ⟨Nat.le_of_ble_eq_true rfl, Nat.le_of_ble_eq_true rfl⟩) (fun r hr9 => ?_)
          subst hr9
          refine my_bel (v := two 11 (vv1 ((tp - 1) - 1)) (vv1 (tp - 1))) (jn_two.2.2.2.2.2.2.2.1) ?_
          refine va_last hx hb hG.1 hP (wl_D hg f_1) hS 15 1 (wl_at (by decide) hvl) rfl (vp_in_nI (by omega) (by decide)) dX1_tell_164 (fun H locs hP _ hS => ?_)
          have hP := (congrArg (fun z9 => va_P G.1 vwCl ((wl g f_1).set 15 (g 15, eJ G 50 ((vp_updL vv1 z9 (two 11 (vv1 ((tp - 1) - 1)) (vv1 (tp - 1))))))) H) (show Int32.toNatClampNeg (nI ((tp - 1) - 1)) = (tp - 1) - 1 from nI_clamp (by omega))).mp hP
          obtain ⟨f_18, hP, e_18, o_18⟩ := b_put (by decide) hP
          have hvl : f_18 15 = eJ G 50 (vp_updL vv1 ((tp - 1) - 1) (two 11 (vv1 ((tp - 1) - 1)) (vv1 (tp - 1)))) := e_18
          refine lv_iinc (v := nI (i + 1)) (lv' := [(5, .int (nI (i + 1))), (4, .int (nI (tp - 1))), (7, .int 2), (6, .int (-38)), (0, .ref (g 1)), (1, .ref (g k)), (2, .int (nI pn)), (3, .int q)]) hx hb dX1_tell_165 hl (k := 7) rfl (nI_add i 1) (by decide) rfl (fun ls hl => ?_)
          refine lv_goto (tgt := 6) hx hb dX1_tell_168 (by decide) ?_
          replace hctc := ((o_18 1 (by decide))).trans hctc
          replace hhs := ((o_18 12 (by decide))).trans hhs
          replace hbk := ((o_18 36 (by decide))).trans hbk
          replace htr := ((o_18 45 (by decide))).trans htr
          replace hct := ((o_18 46 (by decide))).trans hct
          replace hpr := ((o_18 37 (by decide))).trans hpr
          replace hpd := ((o_18 38 (by decide))).trans hpd
          replace htx : f_18 k = eO 7 [.ref (g (k + 1)), .ref (g (k + 2)), .int (nI ln), .int (nI sc)] := ((o_18 k (by omega))).trans htx
          replace hpx : f_18 (k + 2) = eI G 50 sp := ((o_18 (k + 2) (by omega))).trans hpx
          exact ih_1 (i + 1) (tp - 1) (vp_updL vv1 ((tp - 1) - 1) (two 11 (vv1 ((tp - 1) - 1)) (vv1 (tp - 1)))) f_18 _ _ _ (hi9) (by rw [hdx]; show _ = stE (ltk (fun i c => dp (4 * i + c)) (satN (fun t c => ct (70 * t + c)) sw q pn nt) (sinV (fun t c => ct (70 * t + c)) sw q pn nt) pn q) x9 (ev (ltk (fun i c => dp (4 * i + c)) (satN (fun t c => ct (70 * t + c)) sw q pn nt) (sinV (fun t c => ct (70 * t + c)) sw q pn nt) pn q) (zl.drop (sc - i))); rw [← hst]; unfold stE; rw [ex9, if_neg (by decide), if_neg (by decide), if_neg (by decide), if_neg (by decide)]; exact stj_b (h := two 11) (by omega)) (fun z hz => okZ_fr (hS1 z hz) (o_18 (2 * z + 16) (by omega)) (o_18 (2 * z + 16 + 1) (by omega))) (by omega) (hctc) (hhs) (hbk) (htr) (hct) (hpr) (hpd) (htx) (hpx) (hvl) (fun j hj => ((o_18 j (by omega))).trans (o_1 j (by omega))) hP hS (lv_sub hl [4, 5, 6, 7, 1, 0] rfl)
        · have hs9 : sp i = (-124) := hsx9.trans (by unfold cdp; rw [ex9, if_neg (by decide), if_neg (by decide)]; decide)
          have hd9 := dpl_b hd1 hd2 (by rw [ex9]; decide) (by rw [ex9]; decide) (by rw [ex9]; decide) (by rw [ex9]; decide)
          have hd8 := hd9.1
          refine lv_aload_n hx hb dX1_tell_15 rfl (lv_at hl 1 rfl) ?_
          refine lv_iload hx hb dX1_tell_16 (lv_at hl 5 rfl) ?_
          refine rd_calli (va_runV (As := [.int (nI i)]) (rest := []) ⟨hx, hb, hml, hown, hts⟩ (t_stepAt l G g hg f_1 k ln sc sp (nI i) htx hpx (by first | assumption | omega | decide) (by first | assumption | omega | decide) (by first | assumption | omega | decide)) (my_cwV hts ok_X8_stepAt w_436 rfl rfl ⟨Nat.le_of_ble_eq_true rfl, Nat.le_of_ble_eq_true rfl⟩) ⟨bP.blind, va_recv hG.1 hP (ci := 7) (q0 := k) rfl (wl_at (by omega) htx), fun U hU hW => ⟨rfl, by rw [hU]; exact hP, kG.warm hW hG⟩⟩ rfl rfl hl.1 rfl (lv_room (Nat.le_of_ble_eq_true rfl)) dX1_tell_18 ⟨Nat.le_of_ble_eq_true rfl, Nat.le_of_ble_eq_true rfl⟩) (fun r hr9 => ?_)
          subst hr9
          refine my_bei (v := (-124)) (by rw [if_pos (inN_n hi9 (by omega)), nI_clamp (by omega)]; exact hs9) ?_
          refine lv_istore (lv' := [(6, .int (-124)), (0, .ref (g 1)), (1, .ref (g k)), (2, .int (nI pn)), (3, .int q), (4, .int (nI tp)), (5, .int (nI i))]) hx hb dX1_tell_21 hl (by decide) rfl (fun ls hl => ?_)
          refine lv_iload hx hb dX1_tell_23 (lv_at hl 0 rfl) ?_
          refine lv_if_ge (tgt := 37) hx hb dX1_tell_25 (by decide) (fun c_25 => absurd c_25 (by decide)) (fun c_25 => ?_)
          refine lv_iload hx hb dX1_tell_28 (lv_at hl 0 rfl) ?_
          refine lv_ineg hx hb dX1_tell_30 ?_
          refine my_bei (v := 124) (by decide) ?_
          refine rd_calli (va_runS (As := [.int 124]) (rest := []) ⟨hx, hb, hml, hown, hts⟩ (g_rankE l G g hg f_1 124  ) (my_cwS hts ok_X7_rank w_440 rfl rfl ⟨Nat.le_of_ble_eq_true rfl, Nat.le_of_ble_eq_true rfl⟩) ⟨bP.blind, fun U hU hW => ⟨rfl, by rw [hU]; exact hP, kG.warm hW hG⟩⟩ rfl rfl hl.1 rfl (lv_room (Nat.le_of_ble_eq_true rfl)) dX1_tell_31 ⟨Nat.le_of_ble_eq_true rfl, Nat.le_of_ble_eq_true rfl⟩) (fun r hr9 => ?_)
          subst hr9
          refine my_bei (v := 1) (by decide) ?_
          refine lv_goto (tgt := 38) hx hb dX1_tell_34 (by decide) ?_
          refine lv_istore (lv' := [(7, .int 1), (6, .int (-124)), (0, .ref (g 1)), (1, .ref (g k)), (2, .int (nI pn)), (3, .int q), (4, .int (nI tp)), (5, .int (nI i))]) hx hb dX1_tell_38 hl (by decide) rfl (fun ls hl => ?_)
          refine lv_iload hx hb dX1_tell_40 (lv_at hl 0 rfl) ?_
          refine lv_if_ne (tgt := 85) hx hb dX1_tell_42 (by decide) (fun c_42 => ?_) (fun c_42 => absurd c_42 (by decide))
          refine lv_iload hx hb dX1_tell_85 (lv_at hl 0 rfl) ?_
          refine lv_bipush (v := 6) hx hb dX1_tell_87 (by decide) ?_
          refine lv_icmp_ne (tgt := 125) hx hb dX1_tell_89 (by decide) (fun c_89 => ?_) (fun c_89 => absurd c_89 (by decide))
          refine lv_iload hx hb dX1_tell_125 (lv_at hl 6 rfl) ?_
          refine lv_iconst (v := 2) hx hb dX1_tell_127 (by decide) ?_
          refine lv_icmp_lt (tgt := 165) hx hb dX1_tell_128 (by decide) (fun c_128 => absurd c_128 (fun z => absurd ((nI_ltI (b := 2) (by omega) (by decide)).mp z) (by omega))) (fun c_128 => ?_)
          refine lv_iinc (v := nI (tp - 1)) (lv' := [(4, .int (nI (tp - 1))), (7, .int 1), (6, .int (-124)), (0, .ref (g 1)), (1, .ref (g k)), (2, .int (nI pn)), (3, .int q), (5, .int (nI i))]) hx hb dX1_tell_131 hl (k := 6) rfl (sb_m1 (by omega)) (by decide) rfl (fun ls hl => ?_)
          refine lv_aload_n hx hb dX1_tell_134 rfl (lv_at hl 3 rfl) ?_
          refine va_get (D := G.1) (ci := 1) (v := .ref (g 15)) (C := RX1) (T := TX1) (N := 5) hx hb hts inlX1 hown hG.1 hP 1 (wl_at (by decide) hctc) rfl 3 (by decide) (hts (.fieldLink RX1 29 "SwornLists$Court" "values" "[J") w_47) (fun _ h9 => h9) rfl dX1_tell_135 ?_
          refine lv_iload hx hb dX1_tell_138 (lv_at hl 0 rfl) ?_
          refine lv_iconst (v := 1) hx hb dX1_tell_140 (by decide) ?_
          refine lv_isub hx hb dX1_tell_141 ?_
          refine my_bei (v := nI ((tp - 1) - 1)) (pk_sub (a := tp - 1) (b := 1) (by omega)) ?_
          refine lv_iload hx hb dX1_tell_142 (lv_at hl 2 rfl) ?_
          refine lv_ineg hx hb dX1_tell_144 ?_
          refine my_bei (v := 124) (by decide) ?_
          refine lv_aload_n hx hb dX1_tell_145 rfl (lv_at hl 3 rfl) ?_
          refine va_get (D := G.1) (ci := 1) (v := .ref (g 15)) (C := RX1) (T := TX1) (N := 5) hx hb hts inlX1 hown hG.1 hP 1 (wl_at (by decide) hctc) rfl 3 (by decide) (hts (.fieldLink RX1 29 "SwornLists$Court" "values" "[J") w_47) (fun _ h9 => h9) rfl dX1_tell_146 ?_
          refine lv_iload hx hb dX1_tell_149 (lv_at hl 0 rfl) ?_
          refine lv_iconst (v := 1) hx hb dX1_tell_151 (by decide) ?_
          refine lv_isub hx hb dX1_tell_152 ?_
          refine my_bei (v := nI ((tp - 1) - 1)) (pk_sub (a := tp - 1) (b := 1) (by omega)) ?_
          refine va_lald hx hb hG.1 hP 15 1 (wl_at (by decide) hvl) rfl (vp_in_nI (by omega) (by decide)) dX1_tell_153 ?_
          refine my_bel (v := vv1 ((tp - 1) - 1)) (congrArg vv1 (nI_clamp (n := (tp - 1) - 1) (by omega))) ?_
          refine lv_aload_n hx hb dX1_tell_154 rfl (lv_at hl 3 rfl) ?_
          refine va_get (D := G.1) (ci := 1) (v := .ref (g 15)) (C := RX1) (T := TX1) (N := 5) hx hb hts inlX1 hown hG.1 hP 1 (wl_at (by decide) hctc) rfl 3 (by decide) (hts (.fieldLink RX1 29 "SwornLists$Court" "values" "[J") w_47) (fun _ h9 => h9) rfl dX1_tell_155 ?_
          refine lv_iload hx hb dX1_tell_158 (lv_at hl 0 rfl) ?_
          refine va_lald hx hb hG.1 hP 15 1 (wl_at (by decide) hvl) rfl (vp_in_nI (by omega) (by decide)) dX1_tell_160 ?_
          refine my_bel (v := vv1 (tp - 1)) (congrArg vv1 (nI_clamp (n := tp - 1) (by omega))) ?_
          refine rd_calll (va_runS (As := [.int 124, .long (vv1 ((tp - 1) - 1)), .long (vv1 (tp - 1))]) (rest := [.int (nI ((tp - 1) - 1)), .ref (g 15)]) ⟨hx, hb, hml, hown, hts⟩ (g_joinedE l G g hg f_1 124 (vv1 ((tp - 1) - 1)) (vv1 (tp - 1))  ) (my_cwS hts ok_X7_joined w_461 rfl rfl ⟨Nat.le_of_ble_eq_true rfl, Nat.le_of_ble_eq_true rfl⟩) ⟨bP.blind, fun U hU hW => ⟨rfl, by rw [hU]; exact hP, kG.warm hW hG⟩⟩ rfl rfl hl.1 rfl (lv_room (Nat.le_of_ble_eq_true rfl)) dX1_tell_161 ⟨Nat.le_of_ble_eq_true rfl, Nat.le_of_ble_eq_true rfl⟩) (fun r hr9 => ?_)
          subst hr9
          refine my_bel (v := two 12 (vv1 ((tp - 1) - 1)) (vv1 (tp - 1))) (jn_two.2.2.2.2.2.2.2.2) ?_
          refine va_last hx hb hG.1 hP (wl_D hg f_1) hS 15 1 (wl_at (by decide) hvl) rfl (vp_in_nI (by omega) (by decide)) dX1_tell_164 (fun H locs hP _ hS => ?_)
          have hP := (congrArg (fun z9 => va_P G.1 vwCl ((wl g f_1).set 15 (g 15, eJ G 50 ((vp_updL vv1 z9 (two 12 (vv1 ((tp - 1) - 1)) (vv1 (tp - 1))))))) H) (show Int32.toNatClampNeg (nI ((tp - 1) - 1)) = (tp - 1) - 1 from nI_clamp (by omega))).mp hP
          obtain ⟨f_19, hP, e_19, o_19⟩ := b_put (by decide) hP
          have hvl : f_19 15 = eJ G 50 (vp_updL vv1 ((tp - 1) - 1) (two 12 (vv1 ((tp - 1) - 1)) (vv1 (tp - 1)))) := e_19
          refine lv_iinc (v := nI (i + 1)) (lv' := [(5, .int (nI (i + 1))), (4, .int (nI (tp - 1))), (7, .int 1), (6, .int (-124)), (0, .ref (g 1)), (1, .ref (g k)), (2, .int (nI pn)), (3, .int q)]) hx hb dX1_tell_165 hl (k := 7) rfl (nI_add i 1) (by decide) rfl (fun ls hl => ?_)
          refine lv_goto (tgt := 6) hx hb dX1_tell_168 (by decide) ?_
          replace hctc := ((o_19 1 (by decide))).trans hctc
          replace hhs := ((o_19 12 (by decide))).trans hhs
          replace hbk := ((o_19 36 (by decide))).trans hbk
          replace htr := ((o_19 45 (by decide))).trans htr
          replace hct := ((o_19 46 (by decide))).trans hct
          replace hpr := ((o_19 37 (by decide))).trans hpr
          replace hpd := ((o_19 38 (by decide))).trans hpd
          replace htx : f_19 k = eO 7 [.ref (g (k + 1)), .ref (g (k + 2)), .int (nI ln), .int (nI sc)] := ((o_19 k (by omega))).trans htx
          replace hpx : f_19 (k + 2) = eI G 50 sp := ((o_19 (k + 2) (by omega))).trans hpx
          exact ih_1 (i + 1) (tp - 1) (vp_updL vv1 ((tp - 1) - 1) (two 12 (vv1 ((tp - 1) - 1)) (vv1 (tp - 1)))) f_19 _ _ _ (hi9) (by rw [hdx]; show _ = stE (ltk (fun i c => dp (4 * i + c)) (satN (fun t c => ct (70 * t + c)) sw q pn nt) (sinV (fun t c => ct (70 * t + c)) sw q pn nt) pn q) x9 (ev (ltk (fun i c => dp (4 * i + c)) (satN (fun t c => ct (70 * t + c)) sw q pn nt) (sinV (fun t c => ct (70 * t + c)) sw q pn nt) pn q) (zl.drop (sc - i))); rw [← hst]; unfold stE; rw [ex9, if_neg (by decide), if_neg (by decide), if_neg (by decide), if_neg (by decide)]; exact stj_b (h := two 12) (by omega)) (fun z hz => okZ_fr (hS1 z hz) (o_19 (2 * z + 16) (by omega)) (o_19 (2 * z + 16 + 1) (by omega))) (by omega) (hctc) (hhs) (hbk) (htr) (hct) (hpr) (hpd) (htx) (hpx) (hvl) (fun j hj => ((o_19 j (by omega))).trans (o_1 j (by omega))) hP hS (lv_sub hl [4, 5, 6, 7, 1, 0] rfl)
  exact key1 (sc + 1) 0 0 vv f _ _ _ (Nat.zero_le _) (by rw [Nat.sub_zero, ← hlen, List.drop_length]; rfl) (hZ) (by omega) (hctc) (hhs) (hbk) (htr) (hct) (hpr) (hpd) (htx) (hpx) (hvl) (fun j _ => rfl) hP hS (lv_sub hl [2, 3, 4, 5, 1, 0] rfl)


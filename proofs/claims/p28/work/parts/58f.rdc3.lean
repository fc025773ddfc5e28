set_option maxHeartbeats 4000000 in
set_option maxRecDepth 100000 in
theorem e_readE (l : Launch) (G : gW) (g : Nat → Nat) (hg : gOK g) (f : Nat → va_E) (k : Nat) (ln : Nat) (sc : Nat) (sg : Nat → Int32) (sp : Nat → Int32) (mc : Nat) (op : Int32) (cm : Int32) (wu : Int32) (mk : Nat → Int32) (hrd : f 4 = eO 4 [.ref (g 5), .int (nI mc), .int op, .int cm, .int wu]) (hmk : f 5 = eI G 50 mk) (htx : f k = eO 7 [.ref (g (k + 1)), .ref (g (k + 2)), .int (nI ln), .int (nI sc)]) (hsx : f (k + 1) = eI G 50 sg) (hpx : f (k + 2) = eI G 50 sp) (hk3 : k + 2 < 333) (hln : ln ≤ 50) (hsc : sc ≤ 50) (hmc : mc ≤ 50) (hkt : 36 ≤ k) : Met l yX4_read (wsT yX4_read cX4_read 5 (some .int)) ({ frames := 4, cells := 0, slots := 0, locals := 88 }) (bP G g f [.ref (g 4), .ref (g k)]) (bQi G g (fun (z9 : Int32) (f' : Nat → va_E) => ∃ mc9 : Nat, ∃ op9 : Int32, ∃ cm9 : Int32, ∃ wu9 : Int32, ∃ mk9 : Nat → Int32, ∃ sc9 : Nat, ∃ sp9 : Nat → Int32, z9 = rdA ln sg ∧ f' 4 = eO 4 [.ref (g 5), .int (nI mc9), .int op9, .int cm9, .int wu9] ∧ f' 5 = eI G 50 mk9 ∧ f' k = eO 7 [.ref (g (k + 1)), .ref (g (k + 2)), .int (nI ln), .int (nI sc9)] ∧ f' (k + 2) = eI G 50 sp9 ∧ (mc9 ≤ 50) ∧ (sc9 ≤ 50) ∧ (rdA ln sg = -1 → stk sp9 sc9 = (rdO ln sg).map cdp) ∧ ∀ j, (j ≠ 4 ∧ j ≠ 5 ∧ j ≠ k ∧ j ≠ k + 2) → f' j = f j)) 0 0 (gA g) := by
  refine Met.ofW (cc := cX4_read) (maxL := 5) (ret := (some .int)) (by decide) rfl ?_
  intro p e s m args below meth c s₁ B hml hv
  obtain ⟨rfl, hP, hG⟩ := hv
  have hx := B.exec
  have hb := B.bytes
  have hr := B.returns
  have hts := my_hts (atoms_spec (ws := wsT yX4_read cX4_read 5 (some .int)) B.pre)
  have hown : s.vm.findClass RX4 = some m.cls := findClass_of_methodNamed B.named
  have hlocks := B.notSynchronized
  have hS : va_S (gA g) s.heap s.heap [] := va_S.rf
  have hl := lv_entry ([.ref (g 4), .ref (g k)]) (n := 5) (Nat.le_of_ble_eq_true rfl)
  rw [lg_entry_eq]
  generalize (lg_sl ([.ref (g 4), .ref (g k)]) ++ List.replicate (5 - (lg_sl ([.ref (g 4), .ref (g k)])).length) Slot.unset).toArray = ls at hl ⊢
  have hl : lv_has ls 5 [(0, .ref (g 4)), (1, .ref (g k))] := hl
  refine W_q8 (fun Q9 hQ9 => ?_)
  refine lv_aload_n hx hb dX4_read_0 rfl (lv_at hl 1 rfl) ?_
  refine b_callv (va_runV (As := []) (rest := []) ⟨hx, hb, hml, hown, hts⟩ (t_forget l G g hg f k ln sc htx (by first | assumption | omega | decide) (by first | assumption | omega | decide) (by first | assumption | omega | decide)) (my_cwV hts ok_X8_forgetSteps w_289 rfl rfl ⟨Nat.le_of_ble_eq_true rfl, Nat.le_of_ble_eq_true rfl⟩) ⟨bP.blind, va_recv hG.1 hP (ci := 7) (q0 := k) rfl (wl_at (by omega) htx), fun U hU hW => ⟨rfl, by rw [hU]; exact hP, kG.warm hW hG⟩⟩ rfl rfl hl.1 rfl (lv_room (Nat.le_of_ble_eq_true rfl)) dX4_read_1 ⟨Nat.le_of_ble_eq_true rfl, Nat.le_of_ble_eq_true rfl⟩) hS (fun f_1 H locs hq9 hP hS => ?_)
  obtain ⟨hq_1_0, o_1⟩ := hq9
  have htx : f_1 k = eO 7 [.ref (g (k + 1)), .ref (g (k + 2)), .int (nI ln), .int (nI 0)] := hq_1_0
  refine lv_aload_n hx hb dX4_read_4 rfl (lv_at hl 0 rfl) ?_
  refine lv_iconst (v := 0) hx hb dX4_read_5 (by decide) ?_
  replace hrd := ((o_1 4 (by first | decide | omega))).trans hrd
  refine va_put (D := G.1) (ci := 4) (v := .int 0) (ty := .int) (C := RX4) (T := TX4) (N := 5) hx hb hts inlX4 tyX4 tyX4_ok nmX4 hown hG.1 hP (wl_D hg f_1) hS 4 (wl_at (by decide) hrd) rfl 1 (by decide) (hts (.fieldLink RX4 20 "SwornLists$Reader" "markCount" "I") w_282) (fun _ h9 => h9) rfl (by decide +kernel) rfl rfl (Nat.le_of_ble_eq_true rfl) dX4_read_6 (fun H locs hP _ hS => ?_)
  obtain ⟨f_2, hP, e_2, o_2⟩ := b_put (by decide) hP
  have hrd : f_2 4 = eO 4 [.ref (g 5), .int 0, .int op, .int cm, .int wu] := e_2
  refine lv_aload_n hx hb dX4_read_9 rfl (lv_at hl 0 rfl) ?_
  refine lv_iconst (v := 0) hx hb dX4_read_10 (by decide) ?_
  refine va_put (D := G.1) (ci := 4) (v := .int 0) (ty := .int) (C := RX4) (T := TX4) (N := 5) hx hb hts inlX4 tyX4 tyX4_ok nmX4 hown hG.1 hP (wl_D hg f_2) hS 4 (wl_at (by decide) hrd) rfl 2 (by decide) (hts (.fieldLink RX4 24 "SwornLists$Reader" "open" "I") w_283) (fun _ h9 => h9) rfl (by decide +kernel) rfl rfl (Nat.le_of_ble_eq_true rfl) dX4_read_11 (fun H locs hP _ hS => ?_)
  obtain ⟨f_3, hP, e_3, o_3⟩ := b_put (by decide) hP
  have hrd : f_3 4 = eO 4 [.ref (g 5), .int 0, .int 0, .int cm, .int wu] := e_3
  refine lv_aload_n hx hb dX4_read_14 rfl (lv_at hl 0 rfl) ?_
  refine lv_iconst (v := 0) hx hb dX4_read_15 (by decide) ?_
  refine va_put (D := G.1) (ci := 4) (v := .int 0) (ty := .int) (C := RX4) (T := TX4) (N := 5) hx hb hts inlX4 tyX4 tyX4_ok nmX4 hown hG.1 hP (wl_D hg f_3) hS 4 (wl_at (by decide) hrd) rfl 3 (by decide) (hts (.fieldLink RX4 27 "SwornLists$Reader" "compared" "I") w_284) (fun _ h9 => h9) rfl (by decide +kernel) rfl rfl (Nat.le_of_ble_eq_true rfl) dX4_read_16 (fun H locs hP _ hS => ?_)
  obtain ⟨f_4, hP, e_4, o_4⟩ := b_put (by decide) hP
  have hrd : f_4 4 = eO 4 [.ref (g 5), .int 0, .int 0, .int 0, .int wu] := e_4
  refine lv_aload_n hx hb dX4_read_19 rfl (lv_at hl 0 rfl) ?_
  refine lv_iconst (v := 1) hx hb dX4_read_20 (by decide) ?_
  refine va_put (D := G.1) (ci := 4) (v := .int 1) (ty := .boolean) (C := RX4) (T := TX4) (N := 5) hx hb hts inlX4 tyX4 tyX4_ok nmX4 hown hG.1 hP (wl_D hg f_4) hS 4 (wl_at (by decide) hrd) rfl 4 (by decide) (hts (.fieldLink RX4 30 "SwornLists$Reader" "wantsUnit" "Z") w_285) (fun _ h9 => h9) rfl (by decide +kernel) rfl rfl (Nat.le_of_ble_eq_true rfl) dX4_read_21 (fun H locs hP _ hS => ?_)
  obtain ⟨f_5, hP, e_5, o_5⟩ := b_put (by decide) hP
  have hrd : f_5 4 = eO 4 [.ref (g 5), .int 0, .int 0, .int 0, .int 1] := e_5
  refine lv_iconst (v := 0) hx hb dX4_read_24 (by decide) ?_
  refine lv_istore_n (lv' := [(2, .int 0), (0, .ref (g 4)), (1, .ref (g k))]) hx hb dX4_read_25 rfl hl (by decide) rfl (fun ls hl => ?_)
  replace hmk := ((o_5 5 (by decide)).trans ((o_4 5 (by decide)).trans ((o_3 5 (by decide)).trans ((o_2 5 (by decide)).trans ((o_1 5 (by first | decide | omega))))))).trans hmk
  replace htx : f_5 k = eO 7 [.ref (g (k + 1)), .ref (g (k + 2)), .int (nI ln), .int (nI 0)] := ((o_5 k (by omega)).trans ((o_4 k (by omega)).trans ((o_3 k (by omega)).trans ((o_2 k (by omega)))))).trans htx
  replace hsx : f_5 (k + 1) = eI G 50 sg := ((o_5 (k + 1) (by omega)).trans ((o_4 (k + 1) (by omega)).trans ((o_3 (k + 1) (by omega)).trans ((o_2 (k + 1) (by omega)).trans ((o_1 (k + 1) (by omega))))))).trans hsx
  replace hpx : f_5 (k + 2) = eI G 50 sp := ((o_5 (k + 2) (by omega)).trans ((o_4 (k + 2) (by omega)).trans ((o_3 (k + 2) (by omega)).trans ((o_2 (k + 2) (by omega)).trans ((o_1 (k + 2) (by omega))))))).trans hpx
  have key1 : ∀ (n9_1 : Nat) (p1 : Nat) (mc1 : Nat) (op1 : Nat) (cm1 : Int32) (wu1 : Bool) (mk1 : Nat → Int32) (sc1 : Nat) (sp1 : Nat → Int32) (f_6 : Nat → va_E) (H : Heap) (locs : List Loc) (ls : Array Slot), (p1 ≤ ln) → (rdR ln sg p1 mc1 mk1 sc1 sp1 op1 cm1 wu1) → ln - p1 < n9_1 → f_6 4 = eO 4 [.ref (g 5), .int (nI mc1), .int (nI op1), .int cm1, .int (b2 (wu1 = true))] → f_6 5 = eI G 50 mk1 → f_6 k = eO 7 [.ref (g (k + 1)), .ref (g (k + 2)), .int (nI ln), .int (nI sc1)] → f_6 (k + 1) = eI G 50 sg → f_6 (k + 2) = eI G 50 sp1 → (∀ j, (j ≠ 4 ∧ j ≠ 5 ∧ j ≠ k ∧ j ≠ k + 2) → f_6 j = f_5 j) → va_P G.1 vwCl (wl g f_6) H → va_S (gA g) s.heap H locs → lv_has ls 5 [(0, .ref (g 4)), (1, .ref (g k)), (2, .int (nI p1))] → W p l e (headSpec (wsT yX4_read cX4_read 5 (some .int)) ({ frames := 4, cells := 0, slots := 0, locals := 88 })).room s m ([.ref (g 4), .ref (g k)] : List Value).toArray below meth c H locs 0 0 Q9 (F0 m 26 ls []) := by
    intro n9_1
    induction n9_1 with
    | zero => intro p1 mc1 op1 cm1 wu1 mk1 sc1 sp1 f_6 H locs ls hp1 hR hn9_1; exact absurd hn9_1 (Nat.not_lt_zero _)
    | succ n9_1 ih_1 =>
      intro p1 mc1 op1 cm1 wu1 mk1 sc1 sp1 f_6 H locs ls hp1 hR hn9_1 hrd hmk htx hsx hpx o_6 hP hS hl
      refine lv_iload_n hx hb dX4_read_26 rfl (lv_at hl 2 rfl) ?_
      have hms := rR_ms hR
      have hop8 := rR_op8 hR
      refine lv_aload_n hx hb dX4_read_27 rfl (lv_at hl 1 rfl) ?_
      refine rd_calli (va_runV (As := []) (rest := [.int (nI p1)]) ⟨hx, hb, hml, hown, hts⟩ (t_length l G g hg f_6 k ln sc1 htx (by first | assumption | omega | decide) (by first | assumption | omega | decide) (by first | assumption | omega | decide)) (my_cwV hts ok_X8_length w_294 rfl rfl ⟨Nat.le_of_ble_eq_true rfl, Nat.le_of_ble_eq_true rfl⟩) ⟨bP.blind, va_recv hG.1 hP (ci := 7) (q0 := k) rfl (wl_at (by omega) htx), fun U hU hW => ⟨rfl, by rw [hU]; exact hP, kG.warm hW hG⟩⟩ rfl rfl hl.1 rfl (lv_room (Nat.le_of_ble_eq_true rfl)) dX4_read_28 ⟨Nat.le_of_ble_eq_true rfl, Nat.le_of_ble_eq_true rfl⟩) (fun r hr9 => ?_)
      subst hr9
      refine lv_icmp_ge (tgt := 181) hx hb dX4_read_31 (by decide) (fun c_31 => ?_) (fun c_31 => ?_)
      · have k_31 : ln ≤ p1 := (nI_leI (a := ln) (b := p1) (by omega) (by omega)).mp c_31
        refine lv_aload_n hx hb dX4_read_181 rfl (lv_at hl 0 rfl) ?_
        refine va_get (D := G.1) (ci := 4) (v := .int (b2 (wu1 = true))) (C := RX4) (T := TX4) (N := 5) hx hb hts inlX4 hown hG.1 hP 4 (wl_at (by decide) hrd) rfl 4 (by decide) (hts (.fieldLink RX4 30 "SwornLists$Reader" "wantsUnit" "Z") w_285) (fun _ h9 => h9) rfl dX4_read_182 ?_
        refine my_ifne (tgt := 195) hx hb dX4_read_185 (by decide) (fun c_185 => ?_) (fun c_185 => ?_)
        · refine lv_bipush (v := 10) hx hb dX4_read_195 (by decide) ?_
          refine lv_aload_n hx hb dX4_read_197 rfl (lv_at hl 1 rfl) ?_
          refine rd_calli (va_runV (As := []) (rest := [.int 10]) ⟨hx, hb, hml, hown, hts⟩ (t_length l G g hg f_6 k ln sc1 htx (by first | assumption | omega | decide) (by first | assumption | omega | decide) (by first | assumption | omega | decide)) (my_cwV hts ok_X8_length w_294 rfl rfl ⟨Nat.le_of_ble_eq_true rfl, Nat.le_of_ble_eq_true rfl⟩) ⟨bP.blind, va_recv hG.1 hP (ci := 7) (q0 := k) rfl (wl_at (by omega) htx), fun U hU hW => ⟨rfl, by rw [hU]; exact hP, kG.warm hW hG⟩⟩ rfl rfl hl.1 rfl (lv_room (Nat.le_of_ble_eq_true rfl)) dX4_read_198 ⟨Nat.le_of_ble_eq_true rfl, Nat.le_of_ble_eq_true rfl⟩) (fun r hr9 => ?_)
          subst hr9
          refine lv_imul hx hb dX4_read_201 ?_
          refine my_bei (v := nI (10 * ln)) (pk_mul 10 ln) ?_
          refine lv_iconst (v := 1) hx hb dX4_read_202 (by decide) ?_
          refine lv_iadd hx hb dX4_read_203 ?_
          refine my_bei (v := nI (10 * ln + 1)) ((nI_add (10 * ln) 1).trans (congrArg nI (show (10 * ln) + 1 = 10 * ln + 1 by omega))) ?_
          have heq : nI (10 * ln + 1) = rdA ln sg := rR_e0 hR (by omega) (Or.inl c_185)
          refine W_q9 hQ9 ?_
          exact W.iret (v := nI (10 * ln + 1)) hx hb hr (fun _ hT9 _ => ⟨⟨_, f_6, rfl, (⟨mc1, (nI op1), cm1, (b2 (wu1 = true)), mk1, sc1, sp1, heq, hrd, hmk, htx, hpx, by omega, by omega, fun z => absurd (heq.trans z) (nI_m1 (by omega)), fun j hj => ((((((o_6 j (by omega))).trans (o_5 j (by omega))).trans (o_4 j (by omega))).trans (o_3 j (by omega))).trans (o_2 j (by omega))).trans (o_1 j (by omega))⟩), by rw [hT9]; exact hP⟩, hS.F hT9⟩) hS.2.2 dX4_read_204
        · refine lv_aload_n hx hb dX4_read_188 rfl (lv_at hl 0 rfl) ?_
          refine va_get (D := G.1) (ci := 4) (v := .int (nI op1)) (C := RX4) (T := TX4) (N := 5) hx hb hts inlX4 hown hG.1 hP 4 (wl_at (by decide) hrd) rfl 2 (by decide) (hts (.fieldLink RX4 24 "SwornLists$Reader" "open" "I") w_283) (fun _ h9 => h9) rfl dX4_read_189 ?_
          refine lv_if_le (tgt := 205) hx hb dX4_read_192 (by decide) (fun c_192 => ?_) (fun c_192 => ?_)
          · have k_192 : op1 ≤ 0 := (nI_leI (a := op1) (b := 0) (by omega) (by omega)).mp c_192
            refine lv_aload_n hx hb dX4_read_205 rfl (lv_at hl 0 rfl) ?_
            refine lv_aload_n hx hb dX4_read_206 rfl (lv_at hl 1 rfl) ?_
            refine lv_iconst (v := 1) hx hb dX4_read_207 (by decide) ?_
            refine b_callv (va_runV (As := [.ref (g k), .int 1]) (rest := []) ⟨hx, hb, hml, hown, hts⟩ (e_releaseE l G g hg f_6 k ln sc1 sp1 mc1 op1 cm1 wu1 mk1 1 hrd hmk htx hpx (by first | assumption | omega | decide) (by first | assumption | omega | decide) (by first | assumption | omega | decide) (by first | assumption | omega | decide) (by first | assumption | omega | decide)) (my_cwV hts ok_X4_release w_331 rfl rfl ⟨Nat.le_of_ble_eq_true rfl, Nat.le_of_ble_eq_true rfl⟩) ⟨bP.blind, va_recv hG.1 hP (ci := 4) (q0 := 4) rfl (wl_at (by decide) hrd), fun U hU hW => ⟨rfl, by rw [hU]; exact hP, kG.warm hW hG⟩⟩ rfl rfl hl.1 rfl (lv_room (Nat.le_of_ble_eq_true rfl)) dX4_read_208 ⟨Nat.le_of_ble_eq_true rfl, Nat.le_of_ble_eq_true rfl⟩) hS (fun f_7 H locs hq9 hP hS => ?_)
            obtain ⟨mc92, sc93, sp94, hq_7_0, hq_7_1, hq_7_2, hx_7_0, hx_7_1, hx_7_2, o_7⟩ := hq9
            have hrd : f_7 4 = eO 4 [.ref (g 5), .int (nI mc92), .int (nI op1), .int cm1, .int (b2 (wu1 = true))] := hq_7_0
            have htx : f_7 k = eO 7 [.ref (g (k + 1)), .ref (g (k + 2)), .int (nI ln), .int (nI sc93)] := hq_7_1
            have hpx : f_7 (k + 2) = eI G 50 sp94 := hq_7_2
            refine lv_iconst (v := (-1)) hx hb dX4_read_211 (by decide) ?_
            obtain ⟨heq, hst9⟩ := rR_e1 (by have h9 := hR; rw [eq_false_of_ne_true c_185] at h9; exact h9) (by omega) (by omega) hx_7_1 hx_7_2
            replace hmk := ((o_7 5 (by first | decide | omega))).trans hmk
            refine W_q9 hQ9 ?_
            exact W.iret (v := (-1)) hx hb hr (fun _ hT9 _ => ⟨⟨_, f_7, rfl, (⟨mc92, (nI op1), cm1, (b2 (wu1 = true)), mk1, sc93, sp94, heq, hrd, hmk, htx, hpx, by omega, by omega, fun _ => hst9, fun j hj => (((((((o_7 j (by omega))).trans (o_6 j (by omega))).trans (o_5 j (by omega))).trans (o_4 j (by omega))).trans (o_3 j (by omega))).trans (o_2 j (by omega))).trans (o_1 j (by omega))⟩), by rw [hT9]; exact hP⟩, hS.F hT9⟩) hS.2.2 dX4_read_212
          · have k_192 : ¬ op1 ≤ 0 := fun z9 => c_192 ((nI_leI (a := op1) (b := 0) (by omega) (by omega)).mpr z9)
            refine lv_bipush (v := 10) hx hb dX4_read_195 (by decide) ?_
            refine lv_aload_n hx hb dX4_read_197 rfl (lv_at hl 1 rfl) ?_
            refine rd_calli (va_runV (As := []) (rest := [.int 10]) ⟨hx, hb, hml, hown, hts⟩ (t_length l G g hg f_6 k ln sc1 htx (by first | assumption | omega | decide) (by first | assumption | omega | decide) (by first | assumption | omega | decide)) (my_cwV hts ok_X8_length w_294 rfl rfl ⟨Nat.le_of_ble_eq_true rfl, Nat.le_of_ble_eq_true rfl⟩) ⟨bP.blind, va_recv hG.1 hP (ci := 7) (q0 := k) rfl (wl_at (by omega) htx), fun U hU hW => ⟨rfl, by rw [hU]; exact hP, kG.warm hW hG⟩⟩ rfl rfl hl.1 rfl (lv_room (Nat.le_of_ble_eq_true rfl)) dX4_read_198 ⟨Nat.le_of_ble_eq_true rfl, Nat.le_of_ble_eq_true rfl⟩) (fun r hr9 => ?_)
            subst hr9
            refine lv_imul hx hb dX4_read_201 ?_
            refine my_bei (v := nI (10 * ln)) (pk_mul 10 ln) ?_
            refine lv_iconst (v := 1) hx hb dX4_read_202 (by decide) ?_
            refine lv_iadd hx hb dX4_read_203 ?_
            refine my_bei (v := nI (10 * ln + 1)) ((nI_add (10 * ln) 1).trans (congrArg nI (show (10 * ln) + 1 = 10 * ln + 1 by omega))) ?_
            have heq : nI (10 * ln + 1) = rdA ln sg := rR_e0 hR (by omega) (Or.inr (by omega))
            refine W_q9 hQ9 ?_
            exact W.iret (v := nI (10 * ln + 1)) hx hb hr (fun _ hT9 _ => ⟨⟨_, f_6, rfl, (⟨mc1, (nI op1), cm1, (b2 (wu1 = true)), mk1, sc1, sp1, heq, hrd, hmk, htx, hpx, by omega, by omega, fun z => absurd (heq.trans z) (nI_m1 (by omega)), fun j hj => ((((((o_6 j (by omega))).trans (o_5 j (by omega))).trans (o_4 j (by omega))).trans (o_3 j (by omega))).trans (o_2 j (by omega))).trans (o_1 j (by omega))⟩), by rw [hT9]; exact hP⟩, hS.F hT9⟩) hS.2.2 dX4_read_204
      · have k_31 : ¬ ln ≤ p1 := fun z9 => c_31 ((nI_leI (a := ln) (b := p1) (by omega) (by omega)).mpr z9)
        have hlt : p1 < ln := Nat.not_le.mp (fun z => c_31 (nI_le z (by omega)))
        refine lv_aload_n hx hb dX4_read_34 rfl (lv_at hl 1 rfl) ?_
        refine lv_iload_n hx hb dX4_read_35 rfl (lv_at hl 2 rfl) ?_
        refine rd_calli (va_runV (As := [.int (nI p1)]) (rest := []) ⟨hx, hb, hml, hown, hts⟩ (t_signAt l G g hg f_6 k ln sc1 sg (nI p1) htx hsx (by first | assumption | omega | decide) (by first | assumption | omega | decide) (by first | assumption | omega | decide)) (my_cwV hts ok_X8_signAt w_298 rfl rfl ⟨Nat.le_of_ble_eq_true rfl, Nat.le_of_ble_eq_true rfl⟩) ⟨bP.blind, va_recv hG.1 hP (ci := 7) (q0 := k) rfl (wl_at (by omega) htx), fun U hU hW => ⟨rfl, by rw [hU]; exact hP, kG.warm hW hG⟩⟩ rfl rfl hl.1 rfl (lv_room (Nat.le_of_ble_eq_true rfl)) dX4_read_36 ⟨Nat.le_of_ble_eq_true rfl, Nat.le_of_ble_eq_true rfl⟩) (fun r hr9 => ?_)
        subst hr9
        refine my_bei (v := sg p1) (by rw [if_pos (inN_n hlt (by omega)), nI_clamp (by omega)]) ?_
        refine lv_istore_n (lv' := [(3, .int (sg p1)), (0, .ref (g 4)), (1, .ref (g k)), (2, .int (nI p1))]) hx hb dX4_read_39 rfl hl (by decide) rfl (fun ls hl => ?_)
        refine lv_aload_n hx hb dX4_read_40 rfl (lv_at hl 1 rfl) ?_
        refine va_get (D := G.1) (ci := 4) (v := .int (b2 (wu1 = true))) (C := RX4) (T := TX4) (N := 5) hx hb hts inlX4 hown hG.1 hP 4 (wl_at (by decide) hrd) rfl 4 (by decide) (hts (.fieldLink RX4 30 "SwornLists$Reader" "wantsUnit" "Z") w_285) (fun _ h9 => h9) rfl dX4_read_41 ?_
        refine my_ifeq (tgt := 105) hx hb dX4_read_44 (by decide) (fun c_44 => ?_) (fun c_44 => ?_)
        · refine lv_aload_n hx hb dX4_read_105 rfl (lv_at hl 1 rfl) ?_
          refine va_get (D := G.1) (ci := 4) (v := .int (b2 (wu1 = true))) (C := RX4) (T := TX4) (N := 5) hx hb hts inlX4 hown hG.1 hP 4 (wl_at (by decide) hrd) rfl 4 (by decide) (hts (.fieldLink RX4 30 "SwornLists$Reader" "wantsUnit" "Z") w_285) (fun _ h9 => h9) rfl dX4_read_106 ?_
          refine my_ifeq (tgt := 134) hx hb dX4_read_109 (by decide) (fun c_109 => ?_) (fun c_109 => absurd c_109 (c_44))
          refine lv_iload_n hx hb dX4_read_134 rfl (lv_at hl 0 rfl) ?_
          refine lv_bipush (v := 32) hx hb dX4_read_135 (by decide) ?_
          refine lv_icmp_eq (tgt := 175) hx hb dX4_read_137 (by decide) (fun c_137 => ?_) (fun c_137 => ?_)
          · refine lv_iinc (v := nI (p1 + 1)) (lv' := [(2, .int (nI (p1 + 1))), (3, .int (sg p1)), (0, .ref (g 4)), (1, .ref (g k))]) hx hb dX4_read_175 hl (k := 3) rfl (nI_add p1 1) (by decide) rfl (fun ls hl => ?_)
            refine lv_goto (tgt := 26) hx hb dX4_read_178 (by decide) ?_
            exact ih_1 (p1 + 1) mc1 op1 cm1 wu1 mk1 sc1 sp1 f_6 _ _ _ (by omega) (rR_sp hR hlt c_137) (by omega) (hrd) (hmk) (htx) (hsx) (hpx) (fun j hj => (o_6 j (by omega))) hP hS (lv_sub hl [2, 3, 0] rfl)
          · refine lv_aload_n hx hb dX4_read_140 rfl (lv_at hl 1 rfl) ?_
            refine va_get (D := G.1) (ci := 4) (v := .int (b2 (wu1 = true))) (C := RX4) (T := TX4) (N := 5) hx hb hts inlX4 hown hG.1 hP 4 (wl_at (by decide) hrd) rfl 4 (by decide) (hts (.fieldLink RX4 30 "SwornLists$Reader" "wantsUnit" "Z") w_285) (fun _ h9 => h9) rfl dX4_read_141 ?_
            refine my_ifeq (tgt := 159) hx hb dX4_read_144 (by decide) (fun c_144 => ?_) (fun c_144 => absurd c_144 (c_44))
            refine lv_aload_n hx hb dX4_read_159 rfl (lv_at hl 1 rfl) ?_
            refine lv_aload_n hx hb dX4_read_160 rfl (lv_at hl 2 rfl) ?_
            refine lv_iload_n hx hb dX4_read_161 rfl (lv_at hl 0 rfl) ?_
            refine b_calli (va_runV (As := [.ref (g k), .int (sg p1)]) (rest := []) ⟨hx, hb, hml, hown, hts⟩ (e_goesOnE l G g hg f_6 k ln sc1 sp1 mc1 op1 cm1 wu1 mk1 (sg p1) hrd hmk htx hpx (by first | assumption | omega | decide) (by first | assumption | omega | decide) (by first | assumption | omega | decide) (by first | assumption | omega | decide) (by first | assumption | omega | decide) (by first | assumption | omega | decide)) (my_cwV hts ok_X4_goesOn w_323 rfl rfl ⟨Nat.le_of_ble_eq_true rfl, Nat.le_of_ble_eq_true rfl⟩) ⟨bP.blind, va_recv hG.1 hP (ci := 4) (q0 := 4) rfl (wl_at (by decide) hrd), fun U hU hW => ⟨rfl, by rw [hU]; exact hP, kG.warm hW hG⟩⟩ rfl rfl hl.1 rfl (lv_room (Nat.le_of_ble_eq_true rfl)) dX4_read_162 ⟨Nat.le_of_ble_eq_true rfl, Nat.le_of_ble_eq_true rfl⟩) hS (fun v5 f_8 H locs hq9 hP hS => ?_)
            obtain ⟨bz6, mc97, op98, cm99, wu910, mk911, sc912, sp913, rfl, hq_8_0, hq_8_1, hq_8_2, hq_8_3, hx_8_0, o_8⟩ := hq9
            have hrd : f_8 4 = eO 4 [.ref (g 5), .int (nI mc97), .int (nI op98), .int cm99, .int (b2 (wu910 = true))] := hq_8_0
            have hmk : f_8 5 = eI G 50 mk911 := hq_8_1
            have htx : f_8 k = eO 7 [.ref (g (k + 1)), .ref (g (k + 2)), .int (nI ln), .int (nI sc912)] := hq_8_2
            have hpx : f_8 (k + 2) = eI G 50 sp913 := hq_8_3
            refine my_ifne (tgt := 175) hx hb dX4_read_165 (by decide) (fun c_165 => ?_) (fun c_165 => ?_)
            · refine lv_iinc (v := nI (p1 + 1)) (lv' := [(2, .int (nI (p1 + 1))), (3, .int (sg p1)), (0, .ref (g 4)), (1, .ref (g k))]) hx hb dX4_read_175 hl (k := 3) rfl (nI_add p1 1) (by decide) rfl (fun ls hl => ?_)
              refine lv_goto (tgt := 26) hx hb dX4_read_178 (by decide) ?_
              replace hsx : f_8 (k + 1) = eI G 50 sg := ((o_8 (k + 1) (by omega))).trans hsx
              exact ih_1 (p1 + 1) mc97 op98 cm99 wu910 mk911 sc912 sp913 f_8 _ _ _ (by omega) (rR_go hR c_44 hlt c_137 hx_8_0 c_165) (by omega) (hrd) (hmk) (htx) (hsx) (hpx) (fun j hj => ((o_8 j (by omega))).trans (o_6 j (by omega))) hP hS (lv_sub hl [2, 3, 0] rfl)
            · refine lv_bipush (v := 10) hx hb dX4_read_168 (by decide) ?_
              refine lv_iload_n hx hb dX4_read_170 rfl (lv_at hl 3 rfl) ?_
              refine lv_imul hx hb dX4_read_171 ?_
              refine my_bei (v := nI (10 * p1)) (pk_mul 10 p1) ?_
              refine lv_iconst (v := 1) hx hb dX4_read_172 (by decide) ?_
              refine lv_iadd hx hb dX4_read_173 ?_
              refine my_bei (v := nI (10 * p1 + 1)) ((nI_add (10 * p1) 1).trans (congrArg nI (show (10 * p1) + 1 = 10 * p1 + 1 by omega))) ?_
              have heq : nI (10 * p1 + 1) = rdA ln sg := rR_goF hR c_44 hlt c_137 hx_8_0 c_165
              refine W_q9 hQ9 ?_
              exact W.iret (v := nI (10 * p1 + 1)) hx hb hr (fun _ hT9 _ => ⟨⟨_, f_8, rfl, (⟨mc97, (nI op98), cm99, (b2 (wu910 = true)), mk911, sc912, sp913, heq, hrd, hmk, htx, hpx, by omega, by omega, fun z => absurd (heq.trans z) (nI_m1 (by omega)), fun j hj => (((((((o_8 j (by omega))).trans (o_6 j (by omega))).trans (o_5 j (by omega))).trans (o_4 j (by omega))).trans (o_3 j (by omega))).trans (o_2 j (by omega))).trans (o_1 j (by omega))⟩), by rw [hT9]; exact hP⟩, hS.F hT9⟩) hS.2.2 dX4_read_174
        · refine lv_iload_n hx hb dX4_read_47 rfl (lv_at hl 0 rfl) ?_
          refine rd_calli (va_runS (As := [.int (sg p1)]) (rest := []) ⟨hx, hb, hml, hown, hts⟩ (g_isDigit l G g hg f_6 (sg p1)  ) (my_cwS hts ok_X4_isDigit w_302 rfl rfl ⟨Nat.le_of_ble_eq_true rfl, Nat.le_of_ble_eq_true rfl⟩) ⟨bP.blind, fun U hU hW => ⟨rfl, by rw [hU]; exact hP, kG.warm hW hG⟩⟩ rfl rfl hl.1 rfl (lv_room (Nat.le_of_ble_eq_true rfl)) dX4_read_48 ⟨Nat.le_of_ble_eq_true rfl, Nat.le_of_ble_eq_true rfl⟩) (fun r hr9 => ?_)
          subst hr9
          refine my_ifeq (tgt := 105) hx hb dX4_read_51 (by decide) (fun c_51 => ?_) (fun c_51 => ?_)
          · refine lv_aload_n hx hb dX4_read_105 rfl (lv_at hl 1 rfl) ?_
            refine va_get (D := G.1) (ci := 4) (v := .int (b2 (wu1 = true))) (C := RX4) (T := TX4) (N := 5) hx hb hts inlX4 hown hG.1 hP 4 (wl_at (by decide) hrd) rfl 4 (by decide) (hts (.fieldLink RX4 30 "SwornLists$Reader" "wantsUnit" "Z") w_285) (fun _ h9 => h9) rfl dX4_read_106 ?_
            refine my_ifeq (tgt := 134) hx hb dX4_read_109 (by decide) (fun c_109 => absurd (c_44) c_109) (fun c_109 => ?_)
            refine lv_iload_n hx hb dX4_read_112 rfl (lv_at hl 0 rfl) ?_
            refine lv_bipush (v := 40) hx hb dX4_read_113 (by decide) ?_
            refine lv_icmp_ne (tgt := 134) hx hb dX4_read_115 (by decide) (fun c_115 => ?_) (fun c_115 => ?_)
            · refine lv_iload_n hx hb dX4_read_134 rfl (lv_at hl 0 rfl) ?_
              refine lv_bipush (v := 32) hx hb dX4_read_135 (by decide) ?_
              refine lv_icmp_eq (tgt := 175) hx hb dX4_read_137 (by decide) (fun c_137 => ?_) (fun c_137 => ?_)
              · refine lv_iinc (v := nI (p1 + 1)) (lv' := [(2, .int (nI (p1 + 1))), (3, .int (sg p1)), (0, .ref (g 4)), (1, .ref (g k))]) hx hb dX4_read_175 hl (k := 3) rfl (nI_add p1 1) (by decide) rfl (fun ls hl => ?_)
                refine lv_goto (tgt := 26) hx hb dX4_read_178 (by decide) ?_
                exact ih_1 (p1 + 1) mc1 op1 cm1 wu1 mk1 sc1 sp1 f_6 _ _ _ (by omega) (rR_sp hR hlt c_137) (by omega) (hrd) (hmk) (htx) (hsx) (hpx) (fun j hj => (o_6 j (by omega))) hP hS (lv_sub hl [2, 3, 0] rfl)
              · refine lv_aload_n hx hb dX4_read_140 rfl (lv_at hl 1 rfl) ?_
                refine va_get (D := G.1) (ci := 4) (v := .int (b2 (wu1 = true))) (C := RX4) (T := TX4) (N := 5) hx hb hts inlX4 hown hG.1 hP 4 (wl_at (by decide) hrd) rfl 4 (by decide) (hts (.fieldLink RX4 30 "SwornLists$Reader" "wantsUnit" "Z") w_285) (fun _ h9 => h9) rfl dX4_read_141 ?_
                refine my_ifeq (tgt := 159) hx hb dX4_read_144 (by decide) (fun c_144 => absurd (c_44) c_144) (fun c_144 => ?_)
                refine lv_aload_n hx hb dX4_read_147 rfl (lv_at hl 1 rfl) ?_
                refine lv_aload_n hx hb dX4_read_148 rfl (lv_at hl 2 rfl) ?_
                refine lv_iload_n hx hb dX4_read_149 rfl (lv_at hl 0 rfl) ?_
                refine b_calli (va_runV (As := [.ref (g k), .int (sg p1)]) (rest := []) ⟨hx, hb, hml, hown, hts⟩ (e_startsUnitE l G g hg f_6 k ln sc1 sp1 mc1 op1 cm1 wu1 mk1 (sg p1) hrd hmk htx hpx (by first | assumption | omega | decide) (by first | assumption | omega | decide) (by first | assumption | omega | decide) (by first | assumption | omega | decide) (by first | assumption | omega | decide) (by first | assumption | omega | decide)) (my_cwV hts ok_X4_startsUnit w_315 rfl rfl ⟨Nat.le_of_ble_eq_true rfl, Nat.le_of_ble_eq_true rfl⟩) ⟨bP.blind, va_recv hG.1 hP (ci := 4) (q0 := 4) rfl (wl_at (by decide) hrd), fun U hU hW => ⟨rfl, by rw [hU]; exact hP, kG.warm hW hG⟩⟩ rfl rfl hl.1 rfl (lv_room (Nat.le_of_ble_eq_true rfl)) dX4_read_150 ⟨Nat.le_of_ble_eq_true rfl, Nat.le_of_ble_eq_true rfl⟩) hS (fun v14 f_9 H locs hq9 hP hS => ?_)
                obtain ⟨bz15, mc916, op917, cm918, wu919, mk920, sc921, sp922, rfl, hq_9_0, hq_9_1, hq_9_2, hq_9_3, hx_9_0, o_9⟩ := hq9
                have hrd : f_9 4 = eO 4 [.ref (g 5), .int (nI mc916), .int (nI op917), .int cm918, .int (b2 (wu919 = true))] := hq_9_0
                have hmk : f_9 5 = eI G 50 mk920 := hq_9_1
                have htx : f_9 k = eO 7 [.ref (g (k + 1)), .ref (g (k + 2)), .int (nI ln), .int (nI sc921)] := hq_9_2
                have hpx : f_9 (k + 2) = eI G 50 sp922 := hq_9_3
                refine my_ifeq (tgt := 168) hx hb dX4_read_153 (by decide) (fun c_153 => ?_) (fun c_153 => ?_)
                · refine lv_bipush (v := 10) hx hb dX4_read_168 (by decide) ?_
                  refine lv_iload_n hx hb dX4_read_170 rfl (lv_at hl 3 rfl) ?_
                  refine lv_imul hx hb dX4_read_171 ?_
                  refine my_bei (v := nI (10 * p1)) (pk_mul 10 p1) ?_
                  refine lv_iconst (v := 1) hx hb dX4_read_172 (by decide) ?_
                  refine lv_iadd hx hb dX4_read_173 ?_
                  refine my_bei (v := nI (10 * p1 + 1)) ((nI_add (10 * p1) 1).trans (congrArg nI (show (10 * p1) + 1 = 10 * p1 + 1 by omega))) ?_
                  have heq : nI (10 * p1 + 1) = rdA ln sg := rR_suF hR c_44 hlt c_137 c_51 hx_9_0 c_153
                  refine W_q9 hQ9 ?_
                  exact W.iret (v := nI (10 * p1 + 1)) hx hb hr (fun _ hT9 _ => ⟨⟨_, f_9, rfl, (⟨mc916, (nI op917), cm918, (b2 (wu919 = true)), mk920, sc921, sp922, heq, hrd, hmk, htx, hpx, by omega, by omega, fun z => absurd (heq.trans z) (nI_m1 (by omega)), fun j hj => (((((((o_9 j (by omega))).trans (o_6 j (by omega))).trans (o_5 j (by omega))).trans (o_4 j (by omega))).trans (o_3 j (by omega))).trans (o_2 j (by omega))).trans (o_1 j (by omega))⟩), by rw [hT9]; exact hP⟩, hS.F hT9⟩) hS.2.2 dX4_read_174
                · refine lv_goto (tgt := 175) hx hb dX4_read_156 (by decide) ?_
                  refine lv_iinc (v := nI (p1 + 1)) (lv' := [(2, .int (nI (p1 + 1))), (3, .int (sg p1)), (0, .ref (g 4)), (1, .ref (g k))]) hx hb dX4_read_175 hl (k := 3) rfl (nI_add p1 1) (by decide) rfl (fun ls hl => ?_)
                  refine lv_goto (tgt := 26) hx hb dX4_read_178 (by decide) ?_
                  replace hsx : f_9 (k + 1) = eI G 50 sg := ((o_9 (k + 1) (by omega))).trans hsx
                  exact ih_1 (p1 + 1) mc916 op917 cm918 wu919 mk920 sc921 sp922 f_9 _ _ _ (by omega) (rR_su hR c_44 hlt c_137 c_51 (fun z => absurd z c_115) hx_9_0 c_153) (by omega) (hrd) (hmk) (htx) (hsx) (hpx) (fun j hj => ((o_9 j (by omega))).trans (o_6 j (by omega))) hP hS (lv_sub hl [2, 3, 0] rfl)
            · refine lv_aload_n hx hb dX4_read_118 rfl (lv_at hl 1 rfl) ?_
              refine va_get (D := G.1) (ci := 4) (v := .int (nI op1)) (C := RX4) (T := TX4) (N := 5) hx hb hts inlX4 hown hG.1 hP 4 (wl_at (by decide) hrd) rfl 2 (by decide) (hts (.fieldLink RX4 24 "SwornLists$Reader" "open" "I") w_283) (fun _ h9 => h9) rfl dX4_read_119 ?_
              refine lv_bipush (v := 8) hx hb dX4_read_122 (by decide) ?_
              refine lv_icmp_lt (tgt := 134) hx hb dX4_read_124 (by decide) (fun c_124 => ?_) (fun c_124 => ?_)
              · have k_124 : op1 < 8 := (nI_ltI (a := op1) (b := 8) (by omega) (by omega)).mp c_124
                refine lv_iload_n hx hb dX4_read_134 rfl (lv_at hl 0 rfl) ?_
                refine lv_bipush (v := 32) hx hb dX4_read_135 (by decide) ?_
                refine lv_icmp_eq (tgt := 175) hx hb dX4_read_137 (by decide) (fun c_137 => ?_) (fun c_137 => ?_)
                · refine lv_iinc (v := nI (p1 + 1)) (lv' := [(2, .int (nI (p1 + 1))), (3, .int (sg p1)), (0, .ref (g 4)), (1, .ref (g k))]) hx hb dX4_read_175 hl (k := 3) rfl (nI_add p1 1) (by decide) rfl (fun ls hl => ?_)
                  refine lv_goto (tgt := 26) hx hb dX4_read_178 (by decide) ?_
                  exact ih_1 (p1 + 1) mc1 op1 cm1 wu1 mk1 sc1 sp1 f_6 _ _ _ (by omega) (rR_sp hR hlt c_137) (by omega) (hrd) (hmk) (htx) (hsx) (hpx) (fun j hj => (o_6 j (by omega))) hP hS (lv_sub hl [2, 3, 0] rfl)
                · refine lv_aload_n hx hb dX4_read_140 rfl (lv_at hl 1 rfl) ?_
                  refine va_get (D := G.1) (ci := 4) (v := .int (b2 (wu1 = true))) (C := RX4) (T := TX4) (N := 5) hx hb hts inlX4 hown hG.1 hP 4 (wl_at (by decide) hrd) rfl 4 (by decide) (hts (.fieldLink RX4 30 "SwornLists$Reader" "wantsUnit" "Z") w_285) (fun _ h9 => h9) rfl dX4_read_141 ?_
                  refine my_ifeq (tgt := 159) hx hb dX4_read_144 (by decide) (fun c_144 => absurd (c_44) c_144) (fun c_144 => ?_)
                  refine lv_aload_n hx hb dX4_read_147 rfl (lv_at hl 1 rfl) ?_
                  refine lv_aload_n hx hb dX4_read_148 rfl (lv_at hl 2 rfl) ?_
                  refine lv_iload_n hx hb dX4_read_149 rfl (lv_at hl 0 rfl) ?_
                  refine b_calli (va_runV (As := [.ref (g k), .int (sg p1)]) (rest := []) ⟨hx, hb, hml, hown, hts⟩ (e_startsUnitE l G g hg f_6 k ln sc1 sp1 mc1 op1 cm1 wu1 mk1 (sg p1) hrd hmk htx hpx (by first | assumption | omega | decide) (by first | assumption | omega | decide) (by first | assumption | omega | decide) (by first | assumption | omega | decide) (by first | assumption | omega | decide) (by first | assumption | omega | decide)) (my_cwV hts ok_X4_startsUnit w_315 rfl rfl ⟨Nat.le_of_ble_eq_true rfl, Nat.le_of_ble_eq_true rfl⟩) ⟨bP.blind, va_recv hG.1 hP (ci := 4) (q0 := 4) rfl (wl_at (by decide) hrd), fun U hU hW => ⟨rfl, by rw [hU]; exact hP, kG.warm hW hG⟩⟩ rfl rfl hl.1 rfl (lv_room (Nat.le_of_ble_eq_true rfl)) dX4_read_150 ⟨Nat.le_of_ble_eq_true rfl, Nat.le_of_ble_eq_true rfl⟩) hS (fun v23 f_10 H locs hq9 hP hS => ?_)
                  obtain ⟨bz24, mc925, op926, cm927, wu928, mk929, sc930, sp931, rfl, hq_10_0, hq_10_1, hq_10_2, hq_10_3, hx_10_0, o_10⟩ := hq9
                  have hrd : f_10 4 = eO 4 [.ref (g 5), .int (nI mc925), .int (nI op926), .int cm927, .int (b2 (wu928 = true))] := hq_10_0
                  have hmk : f_10 5 = eI G 50 mk929 := hq_10_1
                  have htx : f_10 k = eO 7 [.ref (g (k + 1)), .ref (g (k + 2)), .int (nI ln), .int (nI sc930)] := hq_10_2
                  have hpx : f_10 (k + 2) = eI G 50 sp931 := hq_10_3
                  refine my_ifeq (tgt := 168) hx hb dX4_read_153 (by decide) (fun c_153 => ?_) (fun c_153 => ?_)
                  · refine lv_bipush (v := 10) hx hb dX4_read_168 (by decide) ?_
                    refine lv_iload_n hx hb dX4_read_170 rfl (lv_at hl 3 rfl) ?_
                    refine lv_imul hx hb dX4_read_171 ?_
                    refine my_bei (v := nI (10 * p1)) (pk_mul 10 p1) ?_
                    refine lv_iconst (v := 1) hx hb dX4_read_172 (by decide) ?_
                    refine lv_iadd hx hb dX4_read_173 ?_
                    refine my_bei (v := nI (10 * p1 + 1)) ((nI_add (10 * p1) 1).trans (congrArg nI (show (10 * p1) + 1 = 10 * p1 + 1 by omega))) ?_
                    have heq : nI (10 * p1 + 1) = rdA ln sg := rR_suF hR c_44 hlt c_137 c_51 hx_10_0 c_153
                    refine W_q9 hQ9 ?_
                    exact W.iret (v := nI (10 * p1 + 1)) hx hb hr (fun _ hT9 _ => ⟨⟨_, f_10, rfl, (⟨mc925, (nI op926), cm927, (b2 (wu928 = true)), mk929, sc930, sp931, heq, hrd, hmk, htx, hpx, by omega, by omega, fun z => absurd (heq.trans z) (nI_m1 (by omega)), fun j hj => (((((((o_10 j (by omega))).trans (o_6 j (by omega))).trans (o_5 j (by omega))).trans (o_4 j (by omega))).trans (o_3 j (by omega))).trans (o_2 j (by omega))).trans (o_1 j (by omega))⟩), by rw [hT9]; exact hP⟩, hS.F hT9⟩) hS.2.2 dX4_read_174
                  · refine lv_goto (tgt := 175) hx hb dX4_read_156 (by decide) ?_
                    refine lv_iinc (v := nI (p1 + 1)) (lv' := [(2, .int (nI (p1 + 1))), (3, .int (sg p1)), (0, .ref (g 4)), (1, .ref (g k))]) hx hb dX4_read_175 hl (k := 3) rfl (nI_add p1 1) (by decide) rfl (fun ls hl => ?_)
                    refine lv_goto (tgt := 26) hx hb dX4_read_178 (by decide) ?_
                    replace hsx : f_10 (k + 1) = eI G 50 sg := ((o_10 (k + 1) (by omega))).trans hsx
                    exact ih_1 (p1 + 1) mc925 op926 cm927 wu928 mk929 sc930 sp931 f_10 _ _ _ (by omega) (rR_su hR c_44 hlt c_137 c_51 (fun _ => by omega) hx_10_0 c_153) (by omega) (hrd) (hmk) (htx) (hsx) (hpx) (fun j hj => ((o_10 j (by omega))).trans (o_6 j (by omega))) hP hS (lv_sub hl [2, 3, 0] rfl)
              · have k_124 : ¬ op1 < 8 := fun z9 => c_124 ((nI_ltI (a := op1) (b := 8) (by omega) (by omega)).mpr z9)
                refine lv_bipush (v := 10) hx hb dX4_read_127 (by decide) ?_
                refine lv_iload_n hx hb dX4_read_129 rfl (lv_at hl 3 rfl) ?_
                refine lv_imul hx hb dX4_read_130 ?_
                refine my_bei (v := nI (10 * p1)) (pk_mul 10 p1) ?_
                refine lv_iconst (v := 3) hx hb dX4_read_131 (by decide) ?_
                refine lv_iadd hx hb dX4_read_132 ?_
                refine my_bei (v := nI (10 * p1 + 3)) ((nI_add (10 * p1) 3).trans (congrArg nI (show (10 * p1) + 3 = 10 * p1 + 3 by omega))) ?_
                have heq : nI (10 * p1 + 3) = rdA ln sg := rR_o8 (by have h9 := hR; rw [c_44] at h9; exact h9) hlt c_115 (by omega)
                refine W_q9 hQ9 ?_
                exact W.iret (v := nI (10 * p1 + 3)) hx hb hr (fun _ hT9 _ => ⟨⟨_, f_6, rfl, (⟨mc1, (nI op1), cm1, (b2 (wu1 = true)), mk1, sc1, sp1, heq, hrd, hmk, htx, hpx, by omega, by omega, fun z => absurd (heq.trans z) (nI_m1 (by omega)), fun j hj => ((((((o_6 j (by omega))).trans (o_5 j (by omega))).trans (o_4 j (by omega))).trans (o_3 j (by omega))).trans (o_2 j (by omega))).trans (o_1 j (by omega))⟩), by rw [hT9]; exact hP⟩, hS.F hT9⟩) hS.2.2 dX4_read_133
          · refine lv_aload_n hx hb dX4_read_54 rfl (lv_at hl 2 rfl) ?_
            refine lv_iload_n hx hb dX4_read_55 rfl (lv_at hl 3 rfl) ?_
            refine rd_calli (va_runS (As := [.ref (g k), .int (nI p1)]) (rest := []) ⟨hx, hb, hml, hown, hts⟩ (e_digitsEndE l G g hg f_6 k ln sc1 sg p1 htx hsx (by first | assumption | omega | decide) (by first | assumption | omega | decide) (by first | assumption | omega | decide) (by first | assumption | omega | decide)) (my_cwS hts ok_X4_digitsEnd w_305 rfl rfl ⟨Nat.le_of_ble_eq_true rfl, Nat.le_of_ble_eq_true rfl⟩) ⟨bP.blind, fun U hU hW => ⟨rfl, by rw [hU]; exact hP, kG.warm hW hG⟩⟩ rfl rfl hl.1 rfl (lv_room (Nat.le_of_ble_eq_true rfl)) dX4_read_56 ⟨Nat.le_of_ble_eq_true rfl, Nat.le_of_ble_eq_true rfl⟩) (fun r hr9 => ?_)
            obtain ⟨e932, rfl, hx_11_0, hx_11_1, hx_11_2, hx_11_3⟩ := hr9
            refine lv_istore (lv' := [(4, .int (nI e932)), (3, .int (sg p1)), (0, .ref (g 4)), (1, .ref (g k)), (2, .int (nI p1))]) hx hb dX4_read_59 hl (by decide) rfl (fun ls hl => ?_)
            have hd1 := hx_11_0
            have hd2 := hx_11_1
            have hd3 := hx_11_2
            have hd4 := hx_11_3
            have hpe : p1 < e932 := by
              rcases Nat.lt_or_ge p1 e932 with q9 | q9
              · exact q9
              · have e8 : e932 = p1 := by omega
                rw [e8] at hd4
                exact absurd c_51 (hd4 hlt)
            refine lv_iload hx hb dX4_read_61 (lv_at hl 0 rfl) ?_
            refine lv_iload_n hx hb dX4_read_63 rfl (lv_at hl 4 rfl) ?_
            refine lv_isub hx hb dX4_read_64 ?_
            refine my_bei (v := nI (e932 - p1)) (pk_sub (a := e932) (b := p1) (by omega)) ?_
            refine lv_bipush (v := 6) hx hb dX4_read_65 (by decide) ?_
            refine lv_icmp_le (tgt := 77) hx hb dX4_read_67 (by decide) (fun c_67 => ?_) (fun c_67 => ?_)
            · have k_67 : e932 - p1 ≤ 6 := (nI_leI (a := e932 - p1) (b := 6) (by omega) (by omega)).mp c_67
              refine lv_aload_n hx hb dX4_read_77 rfl (lv_at hl 3 rfl) ?_
              refine lv_aload_n hx hb dX4_read_78 rfl (lv_at hl 3 rfl) ?_
              refine lv_iload_n hx hb dX4_read_79 rfl (lv_at hl 4 rfl) ?_
              refine lv_iload hx hb dX4_read_80 (lv_at hl 0 rfl) ?_
              refine rd_calli (va_runS (As := [.ref (g k), .int (nI p1), .int (nI e932)]) (rest := [.ref (g k)]) ⟨hx, hb, hml, hown, hts⟩ (e_numberInE l G g hg f_6 k ln sc1 sg p1 e932 htx hsx (by first | assumption | omega | decide) (by first | assumption | omega | decide) (by first | assumption | omega | decide) (by first | assumption | omega | decide) (by first | assumption | omega | decide)) (my_cwS hts ok_X4_numberIn w_308 rfl rfl ⟨Nat.le_of_ble_eq_true rfl, Nat.le_of_ble_eq_true rfl⟩) ⟨bP.blind, fun U hU hW => ⟨rfl, by rw [hU]; exact hP, kG.warm hW hG⟩⟩ rfl rfl hl.1 rfl (lv_room (Nat.le_of_ble_eq_true rfl)) dX4_read_82 ⟨Nat.le_of_ble_eq_true rfl, Nat.le_of_ble_eq_true rfl⟩) (fun r hr9 => ?_)
              subst hr9
              refine b_callv (va_runV (As := [.int (nuF sg p1 (e932 - p1))]) (rest := []) ⟨hx, hb, hml, hown, hts⟩ (t_addStepE l G g hg f_6 k ln sc1 sp1 (nuF sg p1 (e932 - p1)) htx hpx (by first | assumption | omega | decide) (by first | assumption | omega | decide) (by first | assumption | omega | decide) (by first | assumption | omega | decide)) (my_cwV hts ok_X8_addStep w_311 rfl rfl ⟨Nat.le_of_ble_eq_true rfl, Nat.le_of_ble_eq_true rfl⟩) ⟨bP.blind, va_recv hG.1 hP (ci := 7) (q0 := k) rfl (wl_at (by omega) htx), fun U hU hW => ⟨rfl, by rw [hU]; exact hP, kG.warm hW hG⟩⟩ rfl rfl hl.1 rfl (lv_room (Nat.le_of_ble_eq_true rfl)) dX4_read_85 ⟨Nat.le_of_ble_eq_true rfl, Nat.le_of_ble_eq_true rfl⟩) hS (fun f_12 H locs hq9 hP hS => ?_)
              obtain ⟨hq_12_0, hq_12_1, o_12⟩ := hq9
              have htx : f_12 k = eO 7 [.ref (g (k + 1)), .ref (g (k + 2)), .int (nI ln), .int (nI (sc1 + 1))] := hq_12_0
              have hpx : f_12 (k + 2) = eI G 50 (upd sp1 sc1 (nuF sg p1 (e932 - p1))) := hq_12_1
              refine lv_aload_n hx hb dX4_read_88 rfl (lv_at hl 2 rfl) ?_
              refine lv_iconst (v := 0) hx hb dX4_read_89 (by decide) ?_
              replace hrd := ((o_12 4 (by first | decide | omega))).trans hrd
              refine va_put (D := G.1) (ci := 4) (v := .int 0) (ty := .boolean) (C := RX4) (T := TX4) (N := 5) hx hb hts inlX4 tyX4 tyX4_ok nmX4 hown hG.1 hP (wl_D hg f_12) hS 4 (wl_at (by decide) hrd) rfl 4 (by decide) (hts (.fieldLink RX4 30 "SwornLists$Reader" "wantsUnit" "Z") w_285) (fun _ h9 => h9) rfl (by decide +kernel) rfl rfl (Nat.le_of_ble_eq_true rfl) dX4_read_90 (fun H locs hP _ hS => ?_)
              obtain ⟨f_13, hP, e_13, o_13⟩ := b_put (by decide) hP
              have hrd : f_13 4 = eO 4 [.ref (g 5), .int (nI mc1), .int (nI op1), .int cm1, .int 0] := e_13
              refine lv_iload_n hx hb dX4_read_93 rfl (lv_at hl 4 rfl) ?_
              refine lv_iload hx hb dX4_read_94 (lv_at hl 0 rfl) ?_
              refine lv_iconst (v := 1) hx hb dX4_read_96 (by decide) ?_
              refine lv_isub hx hb dX4_read_97 ?_
              refine va_mmax hx hb (by rw [hml]; exact hl.1.symm) hown (hts (.methodLink RX4 58 Lib.Math.max.name) w_286) (hts (.static Lib.Math.max.name) w_287) (hts (.initialized "java/lang/Math") w_153) (hts (.code Lib.Math.max.name Lib.Math.max.code 2 (some .int)) w_288) (Nat.le_of_ble_eq_true rfl) (Nat.le_of_ble_eq_true rfl) (Nat.le_of_ble_eq_true rfl) (Nat.le_of_ble_eq_true rfl) dX4_read_98 ?_
              refine my_bei (v := nI (e932 - 1)) ((max_q (by omega) (by omega)).trans (congrArg nI (show max p1 (e932 - 1) = e932 - 1 by omega))) ?_
              refine lv_istore_n (lv' := [(2, .int (nI (e932 - 1))), (4, .int (nI e932)), (3, .int (sg p1)), (0, .ref (g 4)), (1, .ref (g k))]) hx hb dX4_read_101 rfl hl (by decide) rfl (fun ls hl => ?_)
              refine lv_goto (tgt := 175) hx hb dX4_read_102 (by decide) ?_
              refine lv_iinc (v := nI e932) (lv' := [(2, .int (nI e932)), (4, .int (nI e932)), (3, .int (sg p1)), (0, .ref (g 4)), (1, .ref (g k))]) hx hb dX4_read_175 hl (k := 0) rfl ((nI_1 (e932 - 1)).trans (congrArg nI (show e932 - 1 + 1 = e932 by omega))) (by decide) rfl (fun ls hl => ?_)
              refine lv_goto (tgt := 26) hx hb dX4_read_178 (by decide) ?_
              replace hmk := ((o_13 5 (by decide)).trans ((o_12 5 (by first | decide | omega)))).trans hmk
              replace htx : f_13 k = eO 7 [.ref (g (k + 1)), .ref (g (k + 2)), .int (nI ln), .int (nI (sc1 + 1))] := ((o_13 k (by omega))).trans htx
              replace hsx : f_13 (k + 1) = eI G 50 sg := ((o_13 (k + 1) (by omega)).trans ((o_12 (k + 1) (by omega)))).trans hsx
              replace hpx : f_13 (k + 2) = eI G 50 (upd sp1 sc1 (nuF sg p1 (e932 - p1))) := ((o_13 (k + 2) (by omega))).trans hpx
              exact ih_1 e932 mc1 op1 cm1 false mk1 (sc1 + 1) (upd sp1 sc1 (nuF sg p1 (e932 - p1))) f_13 _ _ _ (by omega) (rR_num (by have h9 := hR; rw [c_44] at h9; exact h9) hlt c_51 hd1 hd2 hd3 hd4 (by omega)) (by omega) ((hrd.trans (by rw [show b2 (false = true) = 0 from b2_f (by decide)] <;> rfl))) (hmk) (htx) (hsx) (hpx) (fun j hj => (((o_13 j (by omega))).trans (o_12 j (by omega))).trans (o_6 j (by omega))) hP hS (lv_sub hl [3, 4, 0] rfl)
            · have k_67 : ¬ e932 - p1 ≤ 6 := fun z9 => c_67 ((nI_leI (a := e932 - p1) (b := 6) (by omega) (by omega)).mpr z9)
              refine lv_bipush (v := 10) hx hb dX4_read_70 (by decide) ?_
              refine lv_iload_n hx hb dX4_read_72 rfl (lv_at hl 4 rfl) ?_
              refine lv_imul hx hb dX4_read_73 ?_
              refine my_bei (v := nI (10 * p1)) (pk_mul 10 p1) ?_
              refine lv_iconst (v := 2) hx hb dX4_read_74 (by decide) ?_
              refine lv_iadd hx hb dX4_read_75 ?_
              refine my_bei (v := nI (10 * p1 + 2)) ((nI_add (10 * p1) 2).trans (congrArg nI (show (10 * p1) + 2 = 10 * p1 + 2 by omega))) ?_
              have heq : nI (10 * p1 + 2) = rdA ln sg := rR_n6 (by have h9 := hR; rw [c_44] at h9; exact h9) hlt c_51 hd2 hd3 (by omega)
              refine W_q9 hQ9 ?_
              exact W.iret (v := nI (10 * p1 + 2)) hx hb hr (fun _ hT9 _ => ⟨⟨_, f_6, rfl, (⟨mc1, (nI op1), cm1, (b2 (wu1 = true)), mk1, sc1, sp1, heq, hrd, hmk, htx, hpx, by omega, by omega, fun z => absurd (heq.trans z) (nI_m1 (by omega)), fun j hj => ((((((o_6 j (by omega))).trans (o_5 j (by omega))).trans (o_4 j (by omega))).trans (o_3 j (by omega))).trans (o_2 j (by omega))).trans (o_1 j (by omega))⟩), by rw [hT9]; exact hP⟩, hS.F hT9⟩) hS.2.2 dX4_read_76
  exact key1 (ln + 1) 0 0 0 0 true mk 0 sp f_5 _ _ _ (Nat.zero_le _) (rR_start) (by omega) ((hrd.trans (by rw [show b2 (true = true) = 1 from b2_t rfl] <;> rfl))) (hmk) (htx) (hsx) (hpx) (fun j _ => rfl) hP hS (lv_sub hl [1, 2, 0] rfl)


set_option maxHeartbeats 4000000 in
set_option maxRecDepth 100000 in
theorem i_sworn (l : Launch) (G : gW) (g : Nat → Nat) (f : Nat → va_E) (sz k a : Nat) (hga0 : gq (g k) a) (hown0 : f k = eO 9 [.null, .null, .null, .null, .null, .null, .null]) : Met l yX10_init (wsT yX10_init cX10_init 2 none) ({ frames := 5, cells := 314, slots := 11838, locals := 95 }) (nP G (k + 1) g f sz [.ref a]) (nQ G (k + 1) (k + 315) g sz (fun (g' : Nat → Nat) (f' : Nat → va_E) => (nX G g' f' k) ∧ ∀ j, j < k → f' j = f j)) 314 11838 (nA (k + 1) g sz) := by
  refine Met.ofW (cc := cX10_init) (maxL := 2) (ret := none) (by decide) rfl ?_
  intro p e s m args below meth c s₁ B hml hv
  obtain ⟨rfl, hsz, hP, hG, hD0⟩ := hv
  have hx := B.exec
  have hb := B.bytes
  have hr := B.returns
  have hts := my_hts (atoms_spec (ws := wsT yX10_init cX10_init 2 none) B.pre)
  have hown : s.vm.findClass RX10 = some m.cls := findClass_of_methodNamed B.named
  have hlocks := B.notSynchronized
  have hin : meth.name = "<init>" := (name_of_methodNamed B.named B.method).1
  subst hsz
  have hD := nD_self (sz := s.heap.size) hD0
  generalize hAe : nA (k + 1) g s.heap.size = A at hD ⊢
  have hA : ∀ q : Nat, s.heap.size ≤ q → A q := fun q h => by rw [← hAe]; exact Or.inr h
  have hS : va_S A s.heap s.heap [] := va_S.rf
  have hl := lv_entry ([.ref a]) (n := 2) (Nat.le_of_ble_eq_true rfl)
  rw [lg_entry_eq]
  generalize (lg_sl ([.ref a]) ++ List.replicate (2 - (lg_sl ([.ref a])).length) Slot.unset).toArray = ls at hl ⊢
  have hl : lv_has ls 2 [(0, .ref a)] := hl
  refine lv_aload_n hx hb dX10_init_0 rfl (lv_at hl 0 rfl) ?_
  refine W.objInit hx hb hown (hts (.methodLink RX10 3 objectInit) w_9) (hts (.instanceMethod objectInit) w_10) (hts (.code objectInit ⟨#[0xb1]⟩ 1 none) w_11) rfl (by rw [hml]; exact hl.1) rfl dX10_init_1 (Nat.le_of_ble_eq_true rfl) (Nat.le_of_ble_eq_true rfl) ?_
  refine W.eq (g2 := F0 m 4 ls []) rfl ?_
  refine lv_aload_n hx hb dX10_init_4 rfl (lv_at hl 0 rfl) ?_
  refine va_new (ci := 1) (fs := [.null, .null, .null, .null, .int 0]) (C := RX1) (T := TX1) (N := 5) hx hb hts inlX1 tyX1 tyX1_ok hown (hts (.classLink RX10 9 RX1) w_12) (hts (.instantiable RX1 5) w_13) (hts (.initialized RX1) w_14) hG.1 hP hD hS hA rfl (fun j hj => by rcases (show j = 0 ∨ j = 1 ∨ j = 2 ∨ j = 3 ∨ j = 4 by omega) with rfl | rfl | rfl | rfl | rfl <;> rfl) (Nat.le_of_ble_eq_true rfl) (Nat.le_of_ble_eq_true rfl) dX10_init_5 (fun q1 H hP hD hS => ?_)
  obtain ⟨g_1, f_1, hP, hD, hg_1, hf_1, og_1, of_1⟩ := n_ext hP hD
  have hf_1 : f_1 (k + 1) = eO 1 [.null, .null, .null, .null, .int 0] := hf_1
  have hg_1 : gq (g_1 (k + 1)) q1 := hg_1
  have hP : va_P G.1 vwCl (wn (k + 2) g_1 f_1) H := hP
  have hD : va_D A (wn (k + 2) g_1 f_1) := hD
  refine W.widen (k := 1) (n := 5) (by omega) (by omega) ?_
  refine lv_dup hx hb dX10_init_8 rfl ?_
  refine n_call (va_runI (As := []) (rest := [.ref q1, .ref a]) ⟨hx, hb, hml, hown, hts⟩ (i_court l G g_1 f_1 H.size (k + 1) q1 hg_1 hf_1) (my_cwI hts ok_X1_init w_35 rfl rfl rfl ⟨Nat.le_of_ble_eq_true rfl, Nat.le_of_ble_eq_true rfl⟩) ⟨nP.blind, fun U hU hW => ⟨rfl, by rw [hU], by rw [hU]; exact hP, kG.warm hW hG, hD.weaken (fun _ _ _ _ => trivial)⟩⟩ rfl rfl hl.1 rfl (lv_room (Nat.le_of_ble_eq_true rfl)) dX10_init_9 ⟨Nat.le_of_ble_eq_true rfl, Nat.le_of_ble_eq_true rfl⟩) hD hS hA (fun g_2 f_2 H locs og_2 hq9 hP hD hS => ?_)
  obtain ⟨hq_2_0, hx_2_0, of_2⟩ := hq9
  have hfq_2_0 : f_2 (k + 1) = eO 1 [.ref (g_2 (k + 2)), .ref (g_2 (k + 95)), .ref (g_2 (k + 96)), .ref (g_2 (k + 98)), .int 0] := hq_2_0
  have pk_2_0 : nC G g_2 f_2 (k + 1) := hx_2_0
  have hP : va_P G.1 vwCl (wn (k + 119) g_2 f_2) H := hP
  have hD : va_D A (wn (k + 119) g_2 f_2) := hD
  refine W.widen (k := 118) (n := 4201) (by omega) (by omega) ?_
  have hgbk : gq (g_2 (k + 2)) (g_2 (k + 2)) := rfl
  replace hown0 := ((of_2 k (by first | exact lqA rfl | omega)).trans ((of_1 k (by first | exact lqA rfl | omega)))).trans hown0
  replace hga0 := gq.tr ((og_2 k (by first | exact lqA rfl | omega)).trans ((og_1 k (by first | exact lqA rfl | omega)))) hga0
  refine va_putF (D := G.1) (ci := 9) (v := .ref q1) (ty := .object "SwornLists$Court") (C := RX10) (T := TX10) (N := 7) hx hb hts inlX10 tyX10 tyX10_ok nmX10 hown hG.1 hP hD hS k (wn_at (by first | exact lqA rfl | exact lqB rfl | omega) hga0 hown0) rfl 0 (by decide) (hts (.fieldLink RX10 12 "SwornLists" "court" "LSwornLists$Court;") w_15) (fun _ h9 => h9) rfl hin rfl (by decide +kernel) rfl rfl (Nat.le_of_ble_eq_true rfl) dX10_init_12 (fun H locs hP hD hS => ?_)
  obtain ⟨f_3, hP, hD, e_3, o_3⟩ := n_put (by first | exact lqA rfl | exact lqB rfl | omega) hga0 hP hD
  have hown0 : f_3 k = eO 9 [.ref q1, .null, .null, .null, .null, .null, .null] := e_3
  refine lv_aload_n hx hb dX10_init_15 rfl (lv_at hl 0 rfl) ?_
  refine lv_aload_n hx hb dX10_init_16 rfl (lv_at hl 0 rfl) ?_
  refine va_get (D := G.1) (ci := 9) (v := .ref q1) (C := RX10) (T := TX10) (N := 7) hx hb hts inlX10 hown hG.1 hP k (wn_at (by first | exact lqA rfl | exact lqB rfl | omega) hga0 hown0) rfl 0 (by decide) (hts (.fieldLink RX10 12 "SwornLists" "court" "LSwornLists$Court;") w_15) (fun _ h9 => h9) rfl dX10_init_17 ?_
  replace hfq_2_0 := ((o_3 (k + 1) (by first | exact lqC rfl | exact lqE rfl | omega))).trans hfq_2_0
  replace hg_1 := gq.tr ((og_2 (k + 1) (by first | exact lqB rfl | omega))) hg_1
  refine va_getN (D := G.1) (ci := 1) (v := .ref (g_2 (k + 2))) (C := RX1) (T := TX1) (N := 5) (host := RX10) hx hb hts inlX1 hown hG.1 hP (k + 1) (wn_at (by first | exact lqA rfl | exact lqB rfl | omega) hg_1 hfq_2_0) rfl 0 (by decide) (va_Nw.use rfl (hG.2.1 (.fieldLinkNest RX10 16 RX1 "book" "LSwornLists$Book;" RX10) (List.mem_of_getElem? (i := 17) rfl))) (fun _ h9 => h9) rfl dX10_init_20 ?_
  refine va_putF (D := G.1) (ci := 9) (v := .ref (g_2 (k + 2))) (ty := .object "SwornLists$Book") (C := RX10) (T := TX10) (N := 7) hx hb hts inlX10 tyX10 tyX10_ok nmX10 hown hG.1 hP hD hS k (wn_at (by first | exact lqA rfl | exact lqB rfl | omega) hga0 hown0) rfl 1 (by decide) (hts (.fieldLink RX10 20 "SwornLists" "book" "LSwornLists$Book;") w_16) (fun _ h9 => h9) rfl hin rfl (by decide +kernel) rfl rfl (Nat.le_of_ble_eq_true rfl) dX10_init_23 (fun H locs hP hD hS => ?_)
  obtain ⟨f_4, hP, hD, e_4, o_4⟩ := n_put (by first | exact lqA rfl | exact lqB rfl | omega) hga0 hP hD
  have hown0 : f_4 k = eO 9 [.ref q1, .ref (g_2 (k + 2)), .null, .null, .null, .null, .null] := e_4
  refine lv_aload_n hx hb dX10_init_26 rfl (lv_at hl 0 rfl) ?_
  refine lv_iconst (v := 2) hx hb dX10_init_27 (by decide) ?_
  refine my_newq hx hb 3 hown (hts (.classLink RX10 21 RX0) w_17) hG.2.2.1 hG.1 rfl hP hD hS hA (N' := 2) (by decide) (by decide) (Nat.le_of_ble_eq_true rfl) (Nat.le_of_ble_eq_true rfl) (Nat.le_of_ble_eq_true rfl) dX10_init_28 (fun q2 H hP hD hS => ?_)
  obtain ⟨g_5, f_5, hP, hD, hg_5, hf_5, og_5, of_5⟩ := n_ext hP hD
  have hf_5 : f_5 (k + 119) = eA G 3 2 (aL []) := hf_5
  have hg_5 : gq (g_5 (k + 119)) q2 := hg_5
  have hP : va_P G.1 vwCl (wn (k + 120) g_5 f_5) H := hP
  have hD : va_D A (wn (k + 120) g_5 f_5) := hD
  refine W.widen (k := 119) (n := 4203) (by omega) (by omega) ?_
  replace hown0 := ((of_5 k (by first | exact lqA rfl | omega))).trans hown0
  replace hga0 := gq.tr ((og_5 k (by first | exact lqA rfl | omega))) hga0
  refine va_putF (D := G.1) (ci := 9) (v := .ref q2) (ty := .array (.object "SwornLists$Book")) (C := RX10) (T := TX10) (N := 7) hx hb hts inlX10 tyX10 tyX10_ok nmX10 hown hG.1 hP hD hS k (wn_at (by first | exact lqA rfl | exact lqB rfl | omega) hga0 hown0) rfl 2 (by decide) (hts (.fieldLink RX10 23 "SwornLists" "images" "[LSwornLists$Book;") w_18) (fun _ h9 => h9) rfl hin rfl (by decide +kernel) rfl rfl (Nat.le_of_ble_eq_true rfl) dX10_init_31 (fun H locs hP hD hS => ?_)
  obtain ⟨f_6, hP, hD, e_6, o_6⟩ := n_put (by first | exact lqA rfl | exact lqB rfl | omega) hga0 hP hD
  have hown0 : f_6 k = eO 9 [.ref q1, .ref (g_2 (k + 2)), .ref q2, .null, .null, .null, .null] := e_6
  refine lv_aload_n hx hb dX10_init_34 rfl (lv_at hl 0 rfl) ?_
  refine lv_iconst (v := 2) hx hb dX10_init_35 (by decide) ?_
  refine my_newaZ hx hb (hts (.arrayClass .boolean) w_19) hG.1 hP hD hS hA (N' := 2) (by decide) (by decide) (Nat.le_of_ble_eq_true rfl) (Nat.le_of_ble_eq_true rfl) (Nat.le_of_ble_eq_true rfl) dX10_init_36 (fun q3 H hP hD hS => ?_)
  obtain ⟨g_7, f_7, hP, hD, hg_7, hf_7, og_7, of_7⟩ := n_ext hP hD
  have hf_7 : f_7 (k + 120) = eZ G 2 (fun _ => 0) := hf_7
  have hg_7 : gq (g_7 (k + 120)) q3 := hg_7
  have hP : va_P G.1 vwCl (wn (k + 121) g_7 f_7) H := hP
  have hD : va_D A (wn (k + 121) g_7 f_7) := hD
  refine W.widen (k := 120) (n := 4205) (by omega) (by omega) ?_
  replace hown0 := ((of_7 k (by first | exact lqA rfl | omega))).trans hown0
  replace hga0 := gq.tr ((og_7 k (by first | exact lqA rfl | omega))) hga0
  refine va_putF (D := G.1) (ci := 9) (v := .ref q3) (ty := .array .boolean) (C := RX10) (T := TX10) (N := 7) hx hb hts inlX10 tyX10 tyX10_ok nmX10 hown hG.1 hP hD hS k (wn_at (by first | exact lqA rfl | exact lqB rfl | omega) hga0 hown0) rfl 3 (by decide) (hts (.fieldLink RX10 27 "SwornLists" "kept" "[Z") w_20) (fun _ h9 => h9) rfl hin rfl (by decide +kernel) rfl rfl (Nat.le_of_ble_eq_true rfl) dX10_init_38 (fun H locs hP hD hS => ?_)
  obtain ⟨f_8, hP, hD, e_8, o_8⟩ := n_put (by first | exact lqA rfl | exact lqB rfl | omega) hga0 hP hD
  have hown0 : f_8 k = eO 9 [.ref q1, .ref (g_2 (k + 2)), .ref q2, .ref q3, .null, .null, .null] := e_8
  refine lv_aload_n hx hb dX10_init_41 rfl (lv_at hl 0 rfl) ?_
  refine va_new (ci := 4) (fs := [.null, .int 0, .int 0, .int 0, .int 0]) (C := RX4) (T := TX4) (N := 5) hx hb hts inlX4 tyX4 tyX4_ok hown (hts (.classLink RX10 31 RX4) w_21) (hts (.instantiable RX4 5) w_22) (hts (.initialized RX4) w_23) hG.1 hP hD hS hA rfl (fun j hj => by rcases (show j = 0 ∨ j = 1 ∨ j = 2 ∨ j = 3 ∨ j = 4 by omega) with rfl | rfl | rfl | rfl | rfl <;> rfl) (Nat.le_of_ble_eq_true rfl) (Nat.le_of_ble_eq_true rfl) dX10_init_42 (fun q4 H hP hD hS => ?_)
  obtain ⟨g_9, f_9, hP, hD, hg_9, hf_9, og_9, of_9⟩ := n_ext hP hD
  have hf_9 : f_9 (k + 121) = eO 4 [.null, .int 0, .int 0, .int 0, .int 0] := hf_9
  have hg_9 : gq (g_9 (k + 121)) q4 := hg_9
  have hP : va_P G.1 vwCl (wn (k + 122) g_9 f_9) H := hP
  have hD : va_D A (wn (k + 122) g_9 f_9) := hD
  refine W.widen (k := 121) (n := 4210) (by omega) (by omega) ?_
  refine lv_dup hx hb dX10_init_45 rfl ?_
  refine n_call (va_runIN (As := []) (rest := [.ref q4, .ref a]) ⟨hx, hb, hml, hown, hts⟩ (i_reader l G g_9 f_9 H.size (k + 121) q4 hg_9 hf_9) (⟨my_cn hts ok_X4_init.1 (hG.2.1 (.methodLinkNest RX10 33 yX4_init RX10) (List.mem_of_getElem? (i := 25) rfl)) rfl rfl ⟨Nat.le_of_ble_eq_true rfl, Nat.le_of_ble_eq_true rfl⟩, rfl, hts _ ok_X4_init.2.2.1⟩) ⟨nP.blind, fun U hU hW => ⟨rfl, by rw [hU], by rw [hU]; exact hP, kG.warm hW hG, hD.weaken (fun _ _ _ _ => trivial)⟩⟩ rfl rfl hl.1 rfl (lv_room (Nat.le_of_ble_eq_true rfl)) dX10_init_46 ⟨Nat.le_of_ble_eq_true rfl, Nat.le_of_ble_eq_true rfl⟩) hD hS hA (fun g_10 f_10 H locs og_10 hq9 hP hD hS => ?_)
  obtain ⟨hq_10_0, hq_10_1, of_10⟩ := hq9
  have hfq_10_0 : f_10 (k + 121) = eO 4 [.ref (g_10 (k + 122)), .int 0, .int 0, .int 0, .int 0] := hq_10_0
  have hgq_10_1 : gq (g_10 (k + 122)) (g_10 (k + 122)) := rfl
  have hfq_10_1 : f_10 (k + 122) = eI G 50 (fun _ => 0) := hq_10_1
  have hP : va_P G.1 vwCl (wn (k + 123) g_10 f_10) H := hP
  have hD : va_D A (wn (k + 123) g_10 f_10) := hD
  refine W.widen (k := 122) (n := 4260) (by omega) (by omega) ?_
  replace hown0 := ((of_10 k (by first | exact lqA rfl | omega)).trans ((of_9 k (by first | exact lqA rfl | omega)))).trans hown0
  replace hga0 := gq.tr ((og_10 k (by first | exact lqA rfl | omega)).trans ((og_9 k (by first | exact lqA rfl | omega)))) hga0
  refine va_putF (D := G.1) (ci := 9) (v := .ref q4) (ty := .object "SwornLists$Reader") (C := RX10) (T := TX10) (N := 7) hx hb hts inlX10 tyX10 tyX10_ok nmX10 hown hG.1 hP hD hS k (wn_at (by first | exact lqA rfl | exact lqB rfl | omega) hga0 hown0) rfl 4 (by decide) (hts (.fieldLink RX10 34 "SwornLists" "reader" "LSwornLists$Reader;") w_24) (fun _ h9 => h9) rfl hin rfl (by decide +kernel) rfl rfl (Nat.le_of_ble_eq_true rfl) dX10_init_49 (fun H locs hP hD hS => ?_)
  obtain ⟨f_11, hP, hD, e_11, o_11⟩ := n_put (by first | exact lqA rfl | exact lqB rfl | omega) hga0 hP hD
  have hown0 : f_11 k = eO 9 [.ref q1, .ref (g_2 (k + 2)), .ref q2, .ref q3, .ref q4, .null, .null] := e_11
  refine lv_aload_n hx hb dX10_init_52 rfl (lv_at hl 0 rfl) ?_
  refine va_new (ci := 2) (fs := [.long 0, .long 0]) (C := RX2) (T := TX2) (N := 2) hx hb hts inlX2 tyX2 tyX2_ok hown (hts (.classLink RX10 38 RX2) w_25) (hts (.instantiable RX2 2) w_26) (hts (.initialized RX2) w_27) hG.1 hP hD hS hA rfl (fun j hj => by rcases (show j = 0 ∨ j = 1 by omega) with rfl | rfl <;> rfl) (Nat.le_of_ble_eq_true rfl) (Nat.le_of_ble_eq_true rfl) dX10_init_53 (fun q5 H hP hD hS => ?_)
  obtain ⟨g_12, f_12, hP, hD, hg_12, hf_12, og_12, of_12⟩ := n_ext hP hD
  have hf_12 : f_12 (k + 123) = eO 2 [.long 0, .long 0] := hf_12
  have hg_12 : gq (g_12 (k + 123)) q5 := hg_12
  have hP : va_P G.1 vwCl (wn (k + 124) g_12 f_12) H := hP
  have hD : va_D A (wn (k + 124) g_12 f_12) := hD
  refine W.widen (k := 123) (n := 4262) (by omega) (by omega) ?_
  refine lv_dup hx hb dX10_init_56 rfl ?_
  refine n_call (va_runIN (As := []) (rest := [.ref q5, .ref a]) ⟨hx, hb, hml, hown, hts⟩ (i_fraction l G g_12 f_12 H.size (k + 123) q5 hg_12 hf_12) (⟨my_cn hts ok_X2_init.1 (hG.2.1 (.methodLinkNest RX10 40 yX2_init RX10) (List.mem_of_getElem? (i := 26) rfl)) rfl rfl ⟨Nat.le_of_ble_eq_true rfl, Nat.le_of_ble_eq_true rfl⟩, rfl, hts _ ok_X2_init.2.2.1⟩) ⟨nP.blind, fun U hU hW => ⟨rfl, by rw [hU], by rw [hU]; exact hP, kG.warm hW hG, hD.weaken (fun _ _ _ _ => trivial)⟩⟩ rfl rfl hl.1 rfl (lv_room (Nat.le_of_ble_eq_true rfl)) dX10_init_57 ⟨Nat.le_of_ble_eq_true rfl, Nat.le_of_ble_eq_true rfl⟩) hD hS hA (fun g_13 f_13 H locs og_13 hq9 hP hD hS => ?_)
  obtain ⟨hq_13_0, of_13⟩ := hq9
  have hfq_13_0 : f_13 (k + 123) = eO 2 [.long 0, .long 1] := hq_13_0
  have hP : va_P G.1 vwCl (wn (k + 124) g_13 f_13) H := hP
  have hD : va_D A (wn (k + 124) g_13 f_13) := hD
  refine W.widen (k := 123) (n := 4262) (by omega) (by omega) ?_
  replace hown0 := ((of_13 k (by first | exact lqA rfl | omega)).trans ((of_12 k (by first | exact lqA rfl | omega)))).trans hown0
  replace hga0 := gq.tr ((og_13 k (by first | exact lqA rfl | omega)).trans ((og_12 k (by first | exact lqA rfl | omega)))) hga0
  refine va_putF (D := G.1) (ci := 9) (v := .ref q5) (ty := .object "SwornLists$Fraction") (C := RX10) (T := TX10) (N := 7) hx hb hts inlX10 tyX10 tyX10_ok nmX10 hown hG.1 hP hD hS k (wn_at (by first | exact lqA rfl | exact lqB rfl | omega) hga0 hown0) rfl 5 (by decide) (hts (.fieldLink RX10 41 "SwornLists" "fraction" "LSwornLists$Fraction;") w_28) (fun _ h9 => h9) rfl hin rfl (by decide +kernel) rfl rfl (Nat.le_of_ble_eq_true rfl) dX10_init_60 (fun H locs hP hD hS => ?_)
  obtain ⟨f_14, hP, hD, e_14, o_14⟩ := n_put (by first | exact lqA rfl | exact lqB rfl | omega) hga0 hP hD
  have hown0 : f_14 k = eO 9 [.ref q1, .ref (g_2 (k + 2)), .ref q2, .ref q3, .ref q4, .ref q5, .null] := e_14
  refine lv_aload_n hx hb dX10_init_63 rfl (lv_at hl 0 rfl) ?_
  refine va_new (ci := 8) (fs := [.null, .null, .null, .null, .int 0, .int 0]) (C := RX9) (T := TX9) (N := 6) hx hb hts inlX9 tyX9 tyX9_ok hown (hts (.classLink RX10 45 RX9) w_29) (hts (.instantiable RX9 6) w_30) (hts (.initialized RX9) w_31) hG.1 hP hD hS hA rfl (fun j hj => by rcases (show j = 0 ∨ j = 1 ∨ j = 2 ∨ j = 3 ∨ j = 4 ∨ j = 5 by omega) with rfl | rfl | rfl | rfl | rfl | rfl <;> rfl) (Nat.le_of_ble_eq_true rfl) (Nat.le_of_ble_eq_true rfl) dX10_init_64 (fun q6 H hP hD hS => ?_)
  obtain ⟨g_15, f_15, hP, hD, hg_15, hf_15, og_15, of_15⟩ := n_ext hP hD
  have hf_15 : f_15 (k + 124) = eO 8 [.null, .null, .null, .null, .int 0, .int 0] := hf_15
  have hg_15 : gq (g_15 (k + 124)) q6 := hg_15
  have hP : va_P G.1 vwCl (wn (k + 125) g_15 f_15) H := hP
  have hD : va_D A (wn (k + 125) g_15 f_15) := hD
  refine W.widen (k := 124) (n := 4268) (by omega) (by omega) ?_
  refine lv_dup hx hb dX10_init_67 rfl ?_
  refine n_call (va_runIN (As := []) (rest := [.ref q6, .ref a]) ⟨hx, hb, hml, hown, hts⟩ (i_waits l G g_15 f_15 H.size (k + 124) q6 hg_15 hf_15) (⟨my_cn hts ok_X9_init.1 (hG.2.1 (.methodLinkNest RX10 47 yX9_init RX10) (List.mem_of_getElem? (i := 27) rfl)) rfl rfl ⟨Nat.le_of_ble_eq_true rfl, Nat.le_of_ble_eq_true rfl⟩, rfl, hts _ ok_X9_init.2.2.1⟩) ⟨nP.blind, fun U hU hW => ⟨rfl, by rw [hU], by rw [hU]; exact hP, kG.warm hW hG, hD.weaken (fun _ _ _ _ => trivial)⟩⟩ rfl rfl hl.1 rfl (lv_room (Nat.le_of_ble_eq_true rfl)) dX10_init_68 ⟨Nat.le_of_ble_eq_true rfl, Nat.le_of_ble_eq_true rfl⟩) hD hS hA (fun g_16 f_16 H locs og_16 hq9 hP hD hS => ?_)
  obtain ⟨hq_16_0, hq_16_1, hq_16_2, hq_16_3, hq_16_4, of_16⟩ := hq9
  have hfq_16_0 : f_16 (k + 124) = eO 8 [.ref (g_16 (k + 125)), .ref (g_16 (k + 126)), .ref (g_16 (k + 127)), .ref (g_16 (k + 128)), .int 0, .int 0] := hq_16_0
  have hgq_16_1 : gq (g_16 (k + 125)) (g_16 (k + 125)) := rfl
  have hfq_16_1 : f_16 (k + 125) = eI G 6 (fun _ => 0) := hq_16_1
  have hgq_16_2 : gq (g_16 (k + 126)) (g_16 (k + 126)) := rfl
  have hfq_16_2 : f_16 (k + 126) = eI G 6 (fun _ => 0) := hq_16_2
  have hgq_16_3 : gq (g_16 (k + 127)) (g_16 (k + 127)) := rfl
  have hfq_16_3 : f_16 (k + 127) = eI G 6 (fun _ => 0) := hq_16_3
  have hgq_16_4 : gq (g_16 (k + 128)) (g_16 (k + 128)) := rfl
  have hfq_16_4 : f_16 (k + 128) = eI G 6 (fun _ => 0) := hq_16_4
  have hP : va_P G.1 vwCl (wn (k + 129) g_16 f_16) H := hP
  have hD : va_D A (wn (k + 129) g_16 f_16) := hD
  refine W.widen (k := 128) (n := 4292) (by omega) (by omega) ?_
  replace hown0 := ((of_16 k (by first | exact lqA rfl | omega)).trans ((of_15 k (by first | exact lqA rfl | omega)))).trans hown0
  replace hga0 := gq.tr ((og_16 k (by first | exact lqA rfl | omega)).trans ((og_15 k (by first | exact lqA rfl | omega)))) hga0
  refine va_putF (D := G.1) (ci := 9) (v := .ref q6) (ty := .object "SwornLists$Waits") (C := RX10) (T := TX10) (N := 7) hx hb hts inlX10 tyX10 tyX10_ok nmX10 hown hG.1 hP hD hS k (wn_at (by first | exact lqA rfl | exact lqB rfl | omega) hga0 hown0) rfl 6 (by decide) (hts (.fieldLink RX10 48 "SwornLists" "waits" "LSwornLists$Waits;") w_32) (fun _ h9 => h9) rfl hin rfl (by decide +kernel) rfl rfl (Nat.le_of_ble_eq_true rfl) dX10_init_71 (fun H locs hP hD hS => ?_)
  obtain ⟨f_17, hP, hD, e_17, o_17⟩ := n_put (by first | exact lqA rfl | exact lqB rfl | omega) hga0 hP hD
  have hown0 : f_17 k = eO 9 [.ref q1, .ref (g_2 (k + 2)), .ref q2, .ref q3, .ref q4, .ref q5, .ref q6] := e_17
  refine lv_iconst (v := 0) hx hb dX10_init_74 (by decide) ?_
  refine lv_istore_n (lv' := [(1, .int 0), (0, .ref a)]) hx hb dX10_init_75 rfl hl (by decide) rfl (fun ls hl => ?_)
  refine lv_iload_n hx hb dX10_init_76 rfl (lv_at hl 0 rfl) ?_
  refine lv_iconst (v := 2) hx hb dX10_init_77 (by decide) ?_
  refine lv_icmp_ge (tgt := 100) hx hb dX10_init_78 (by decide) (fun c_78 => absurd c_78 (by decide)) (fun c_78 => ?_)
  refine lv_aload_n hx hb dX10_init_81 rfl (lv_at hl 1 rfl) ?_
  refine va_get (D := G.1) (ci := 9) (v := .ref q2) (C := RX10) (T := TX10) (N := 7) hx hb hts inlX10 hown hG.1 hP k (wn_at (by first | exact lqA rfl | exact lqB rfl | omega) hga0 hown0) rfl 2 (by decide) (hts (.fieldLink RX10 23 "SwornLists" "images" "[LSwornLists$Book;") w_18) (fun _ h9 => h9) rfl dX10_init_82 ?_
  refine lv_iload_n hx hb dX10_init_85 rfl (lv_at hl 0 rfl) ?_
  refine va_new (ci := 0) (fs := [.null, .null, .null, .null, .null, .null, .null, .int 0, .int 0]) (C := RX0) (T := TX0) (N := 9) hx hb hts inlX0 tyX0 tyX0_ok hown (hts (.classLink RX10 21 RX0) w_17) (hts (.instantiable RX0 9) w_33) (hts (.initialized RX0) w_34) hG.1 hP hD hS hA rfl (fun j hj => by rcases (show j = 0 ∨ j = 1 ∨ j = 2 ∨ j = 3 ∨ j = 4 ∨ j = 5 ∨ j = 6 ∨ j = 7 ∨ j = 8 by omega) with rfl | rfl | rfl | rfl | rfl | rfl | rfl | rfl | rfl <;> rfl) (Nat.le_of_ble_eq_true rfl) (Nat.le_of_ble_eq_true rfl) dX10_init_86 (fun q7 H hP hD hS => ?_)
  obtain ⟨g_18, f_18, hP, hD, hg_18, hf_18, og_18, of_18⟩ := n_ext hP hD
  have hf_18 : f_18 (k + 129) = eO 0 [.null, .null, .null, .null, .null, .null, .null, .int 0, .int 0] := hf_18
  have hg_18 : gq (g_18 (k + 129)) q7 := hg_18
  have hP : va_P G.1 vwCl (wn (k + 130) g_18 f_18) H := hP
  have hD : va_D A (wn (k + 130) g_18 f_18) := hD
  refine W.widen (k := 129) (n := 4301) (by omega) (by omega) ?_
  refine lv_dup hx hb dX10_init_89 rfl ?_
  refine n_call (va_runIN (As := []) (rest := [.ref q7, .int 0, .ref q2]) ⟨hx, hb, hml, hown, hts⟩ (i_book l G g_18 f_18 H.size (k + 129) q7 hg_18 hf_18) (⟨my_cn hts ok_X0_init.1 (hG.2.1 (.methodLinkNest RX10 52 yX0_init RX10) (List.mem_of_getElem? (i := 28) rfl)) rfl rfl ⟨Nat.le_of_ble_eq_true rfl, Nat.le_of_ble_eq_true rfl⟩, rfl, hts _ ok_X0_init.2.2.1⟩) ⟨nP.blind, fun U hU hW => ⟨rfl, by rw [hU], by rw [hU]; exact hP, kG.warm hW hG, hD.weaken (fun _ _ _ _ => trivial)⟩⟩ rfl rfl hl.1 rfl (lv_room (Nat.le_of_ble_eq_true rfl)) dX10_init_90 ⟨Nat.le_of_ble_eq_true rfl, Nat.le_of_ble_eq_true rfl⟩) hD hS hA (fun g_19 f_19 H locs og_19 hq9 hP hD hS => ?_)
  obtain ⟨hq_19_0, hx_19_0, of_19⟩ := hq9
  have hfq_19_0 : f_19 (k + 129) = eO 0 [.ref (g_19 (k + 130)), .ref (g_19 (k + 132)), .ref (g_19 (k + 134)), .ref (g_19 (k + 136)), .ref (g_19 (k + 138)), .ref (g_19 (k + 140)), .ref (g_19 (k + 205)), .int 5, .int 20] := hq_19_0
  have pk_19_0 : nB G g_19 f_19 (k + 129) := hx_19_0
  have hP : va_P G.1 vwCl (wn (k + 222) g_19 f_19) H := hP
  have hD : va_D A (wn (k + 222) g_19 f_19) := hD
  refine W.widen (k := 221) (n := 8065) (by omega) (by omega) ?_
  replace hf_5 := ((of_19 (k + 119) (by first | exact lqB rfl | omega)).trans ((of_18 (k + 119) (by first | exact lqB rfl | omega)).trans ((o_17 (k + 119) (by first | exact lqC rfl | exact lqE rfl | omega)).trans ((of_16 (k + 119) (by first | exact lqB rfl | omega)).trans ((of_15 (k + 119) (by first | exact lqB rfl | omega)).trans ((o_14 (k + 119) (by first | exact lqC rfl | exact lqE rfl | omega)).trans ((of_13 (k + 119) (by first | exact lqB rfl | omega)).trans ((of_12 (k + 119) (by first | exact lqB rfl | omega)).trans ((o_11 (k + 119) (by first | exact lqC rfl | exact lqE rfl | omega)).trans ((of_10 (k + 119) (by first | exact lqB rfl | omega)).trans ((of_9 (k + 119) (by first | exact lqB rfl | omega)).trans ((o_8 (k + 119) (by first | exact lqC rfl | exact lqE rfl | omega)).trans ((of_7 (k + 119) (by first | exact lqB rfl | omega)).trans ((o_6 (k + 119) (by first | exact lqC rfl | exact lqE rfl | omega)))))))))))))))).trans hf_5
  replace hg_5 := gq.tr ((og_19 (k + 119) (by first | exact lqB rfl | omega)).trans ((og_18 (k + 119) (by first | exact lqB rfl | omega)).trans ((og_16 (k + 119) (by first | exact lqB rfl | omega)).trans ((og_15 (k + 119) (by first | exact lqB rfl | omega)).trans ((og_13 (k + 119) (by first | exact lqB rfl | omega)).trans ((og_12 (k + 119) (by first | exact lqB rfl | omega)).trans ((og_10 (k + 119) (by first | exact lqB rfl | omega)).trans ((og_9 (k + 119) (by first | exact lqB rfl | omega)).trans ((og_7 (k + 119) (by first | exact lqB rfl | omega))))))))))) hg_5
  replace hg_18 := gq.tr ((og_19 (k + 129) (by first | exact lqB rfl | omega))) hg_18
  refine va_astq (r := (RX0, TX0, 9)) hx hb hG.1 hP hD hS (k + 119) 3 (k + 129) 0 (wn_at (by first | exact lqA rfl | exact lqB rfl | omega) hg_5 hf_5) rfl (wn_at (by first | exact lqA rfl | exact lqB rfl | omega) hg_18 hfq_19_0) rfl (by unfold vp_in; decide) dX10_init_93 (fun H locs hP hD hS => ?_)
  have ef : va_up (aL []) (Int32.toNatClampNeg 0) (some q7) = aL [q7] := aL_push [] q7
  have hP := (congrArg (fun z9 => va_P G.1 vwCl ((wn (k + 222) g_19 f_19).set (k + 119) (q2, eA G 3 2 z9)) H) ef).mp hP
  have hD := (congrArg (fun z9 => va_D A ((wn (k + 222) g_19 f_19).set (k + 119) (q2, eA G 3 2 z9))) ef).mp hD
  obtain ⟨f_20, hP, hD, e_20, o_20⟩ := n_put (by first | exact lqA rfl | exact lqB rfl | omega) hg_5 hP hD
  have hf_5 : f_20 (k + 119) = eA G 3 2 (aL [q7]) := e_20
  have pk_19_0 : nB G g_19 f_20 (k + 129) := nB_gf pk_19_0 (fun j _ => rfl) (fun j h1 h2 => o_20 j (by omega))
  have txA : ∀ z, z < 0 → nB G g_19 f_20 (k + 93 * z + 129) := fun z hz => absurd hz (Nat.not_lt_zero _)
  have taA : ∀ z, z < 0 → (aL []) z = some (g_19 (k + 93 * z + 129)) := fun z hz => absurd hz (Nat.not_lt_zero _)
  have txA : ∀ z, z < 1 → nB G g_19 f_20 (k + 93 * z + 129) := tx_ext (P := fun z => nB G g_19 f_20 (k + 93 * z + 129)) txA pk_19_0
  have taA : ∀ z, z < 1 → (aL [q7]) z = some (g_19 (k + 93 * z + 129)) := ta_ext (L := []) (s := 93) (c := 129) rfl taA hg_18
  refine lv_iinc (v := 1) (lv' := [(1, .int 1), (0, .ref a)]) hx hb dX10_init_94 hl (k := 0) rfl (by decide) (by decide) rfl (fun ls hl => ?_)
  refine lv_goto (tgt := 76) hx hb dX10_init_97 (by decide) ?_
  refine lv_iload_n hx hb dX10_init_76 rfl (lv_at hl 0 rfl) ?_
  refine lv_iconst (v := 2) hx hb dX10_init_77 (by decide) ?_
  refine lv_icmp_ge (tgt := 100) hx hb dX10_init_78 (by decide) (fun c_78 => absurd c_78 (by decide)) (fun c_78 => ?_)
  refine lv_aload_n hx hb dX10_init_81 rfl (lv_at hl 1 rfl) ?_
  replace hown0 := ((o_20 k (by first | exact lqD rfl | omega)).trans ((of_19 k (by first | exact lqA rfl | omega)).trans ((of_18 k (by first | exact lqA rfl | omega))))).trans hown0
  replace hga0 := gq.tr ((og_19 k (by first | exact lqA rfl | omega)).trans ((og_18 k (by first | exact lqA rfl | omega)))) hga0
  refine va_get (D := G.1) (ci := 9) (v := .ref q2) (C := RX10) (T := TX10) (N := 7) hx hb hts inlX10 hown hG.1 hP k (wn_at (by first | exact lqA rfl | exact lqB rfl | omega) hga0 hown0) rfl 2 (by decide) (hts (.fieldLink RX10 23 "SwornLists" "images" "[LSwornLists$Book;") w_18) (fun _ h9 => h9) rfl dX10_init_82 ?_
  refine lv_iload_n hx hb dX10_init_85 rfl (lv_at hl 0 rfl) ?_
  refine va_new (ci := 0) (fs := [.null, .null, .null, .null, .null, .null, .null, .int 0, .int 0]) (C := RX0) (T := TX0) (N := 9) hx hb hts inlX0 tyX0 tyX0_ok hown (hts (.classLink RX10 21 RX0) w_17) (hts (.instantiable RX0 9) w_33) (hts (.initialized RX0) w_34) hG.1 hP hD hS hA rfl (fun j hj => by rcases (show j = 0 ∨ j = 1 ∨ j = 2 ∨ j = 3 ∨ j = 4 ∨ j = 5 ∨ j = 6 ∨ j = 7 ∨ j = 8 by omega) with rfl | rfl | rfl | rfl | rfl | rfl | rfl | rfl | rfl <;> rfl) (Nat.le_of_ble_eq_true rfl) (Nat.le_of_ble_eq_true rfl) dX10_init_86 (fun q8 H hP hD hS => ?_)
  obtain ⟨g_21, f_21, hP, hD, hg_21, hf_21, og_21, of_21⟩ := n_ext hP hD
  have hf_21 : f_21 (k + 222) = eO 0 [.null, .null, .null, .null, .null, .null, .null, .int 0, .int 0] := hf_21
  have hg_21 : gq (g_21 (k + 222)) q8 := hg_21
  have hP : va_P G.1 vwCl (wn (k + 223) g_21 f_21) H := hP
  have hD : va_D A (wn (k + 223) g_21 f_21) := hD
  refine W.widen (k := 222) (n := 8074) (by omega) (by omega) ?_
  refine lv_dup hx hb dX10_init_89 rfl ?_
  refine n_call (va_runIN (As := []) (rest := [.ref q8, .int 1, .ref q2]) ⟨hx, hb, hml, hown, hts⟩ (i_book l G g_21 f_21 H.size (k + 222) q8 hg_21 hf_21) (⟨my_cn hts ok_X0_init.1 (hG.2.1 (.methodLinkNest RX10 52 yX0_init RX10) (List.mem_of_getElem? (i := 28) rfl)) rfl rfl ⟨Nat.le_of_ble_eq_true rfl, Nat.le_of_ble_eq_true rfl⟩, rfl, hts _ ok_X0_init.2.2.1⟩) ⟨nP.blind, fun U hU hW => ⟨rfl, by rw [hU], by rw [hU]; exact hP, kG.warm hW hG, hD.weaken (fun _ _ _ _ => trivial)⟩⟩ rfl rfl hl.1 rfl (lv_room (Nat.le_of_ble_eq_true rfl)) dX10_init_90 ⟨Nat.le_of_ble_eq_true rfl, Nat.le_of_ble_eq_true rfl⟩) hD hS hA (fun g_22 f_22 H locs og_22 hq9 hP hD hS => ?_)
  obtain ⟨hq_22_0, hx_22_0, of_22⟩ := hq9
  have hfq_22_0 : f_22 (k + 222) = eO 0 [.ref (g_22 (k + 223)), .ref (g_22 (k + 225)), .ref (g_22 (k + 227)), .ref (g_22 (k + 229)), .ref (g_22 (k + 231)), .ref (g_22 (k + 233)), .ref (g_22 (k + 298)), .int 5, .int 20] := hq_22_0
  have pk_22_0 : nB G g_22 f_22 (k + 222) := hx_22_0
  have hP : va_P G.1 vwCl (wn (k + 315) g_22 f_22) H := hP
  have hD : va_D A (wn (k + 315) g_22 f_22) := hD
  refine W.widen (k := 314) (n := 11838) (by omega) (by omega) ?_
  replace hf_5 := ((of_22 (k + 119) (by first | exact lqB rfl | omega)).trans ((of_21 (k + 119) (by first | exact lqB rfl | omega)))).trans hf_5
  replace hg_5 := gq.tr ((og_22 (k + 119) (by first | exact lqB rfl | omega)).trans ((og_21 (k + 119) (by first | exact lqB rfl | omega)))) hg_5
  replace hg_21 := gq.tr ((og_22 (k + 222) (by first | exact lqB rfl | omega))) hg_21
  refine va_astq (r := (RX0, TX0, 9)) hx hb hG.1 hP hD hS (k + 119) 3 (k + 222) 0 (wn_at (by first | exact lqA rfl | exact lqB rfl | omega) hg_5 hf_5) rfl (wn_at (by first | exact lqA rfl | exact lqB rfl | omega) hg_21 hfq_22_0) rfl (by unfold vp_in; decide) dX10_init_93 (fun H locs hP hD hS => ?_)
  have ef : va_up (aL [q7]) (Int32.toNatClampNeg 1) (some q8) = aL [q7, q8] := aL_push [q7] q8
  have hP := (congrArg (fun z9 => va_P G.1 vwCl ((wn (k + 315) g_22 f_22).set (k + 119) (q2, eA G 3 2 z9)) H) ef).mp hP
  have hD := (congrArg (fun z9 => va_D A ((wn (k + 315) g_22 f_22).set (k + 119) (q2, eA G 3 2 z9))) ef).mp hD
  obtain ⟨f_23, hP, hD, e_23, o_23⟩ := n_put (by first | exact lqA rfl | exact lqB rfl | omega) hg_5 hP hD
  have hf_5 : f_23 (k + 119) = eA G 3 2 (aL [q7, q8]) := e_23
  have pk_22_0 : nB G g_22 f_23 (k + 222) := nB_gf pk_22_0 (fun j _ => rfl) (fun j h1 h2 => o_23 j (by omega))
  have txA : ∀ z, z < 1 → nB G g_21 f_21 (k + 93 * z + 129) := fun z hz => nB_gf (txA z hz) (fun j hj => og_21 j (by omega)) (fun j h1 h2 => of_21 j (by omega))
  have txA : ∀ z, z < 1 → nB G g_22 f_22 (k + 93 * z + 129) := fun z hz => nB_gf (txA z hz) (fun j hj => og_22 j (by omega)) (fun j h1 h2 => of_22 j (by omega))
  have txA : ∀ z, z < 1 → nB G g_22 f_23 (k + 93 * z + 129) := fun z hz => nB_gf (txA z hz) (fun j _ => rfl) (fun j h1 h2 => o_23 j (by omega))
  have taA : ∀ z, z < 1 → (aL [q7]) z = some (g_21 (k + 93 * z + 129)) := fun z hz => (taA z hz).trans (congrArg some (og_21 _ (by omega)).symm)
  have taA : ∀ z, z < 1 → (aL [q7]) z = some (g_22 (k + 93 * z + 129)) := fun z hz => (taA z hz).trans (congrArg some (og_22 _ (by omega)).symm)
  have taA : ∀ z, z < 1 → (aL [q7]) z = some (g_22 (k + 93 * z + 129)) := taA
  have txA : ∀ z, z < 2 → nB G g_22 f_23 (k + 93 * z + 129) := tx_ext (P := fun z => nB G g_22 f_23 (k + 93 * z + 129)) txA pk_22_0
  have taA : ∀ z, z < 2 → (aL [q7, q8]) z = some (g_22 (k + 93 * z + 129)) := ta_ext (L := [q7]) (s := 93) (c := 129) rfl taA hg_21
  refine lv_iinc (v := 2) (lv' := [(1, .int 2), (0, .ref a)]) hx hb dX10_init_94 hl (k := 0) rfl (by decide) (by decide) rfl (fun ls hl => ?_)
  refine lv_goto (tgt := 76) hx hb dX10_init_97 (by decide) ?_
  refine lv_iload_n hx hb dX10_init_76 rfl (lv_at hl 0 rfl) ?_
  refine lv_iconst (v := 2) hx hb dX10_init_77 (by decide) ?_
  refine lv_icmp_ge (tgt := 100) hx hb dX10_init_78 (by decide) (fun c_78 => ?_) (fun c_78 => absurd (by decide) c_78)
  have pk_2_0 : nC G g_2 f_3 (k + 1) := nC_gf pk_2_0 (fun j _ => rfl) (fun j h1 h2 => o_3 j (by omega))
  have pk_2_0 : nC G g_2 f_4 (k + 1) := nC_gf pk_2_0 (fun j _ => rfl) (fun j h1 h2 => o_4 j (by omega))
  have pk_2_0 : nC G g_5 f_5 (k + 1) := nC_gf pk_2_0 (fun j hj => og_5 j (by omega)) (fun j h1 h2 => of_5 j (by omega))
  have pk_2_0 : nC G g_5 f_6 (k + 1) := nC_gf pk_2_0 (fun j _ => rfl) (fun j h1 h2 => o_6 j (by omega))
  have pk_2_0 : nC G g_7 f_7 (k + 1) := nC_gf pk_2_0 (fun j hj => og_7 j (by omega)) (fun j h1 h2 => of_7 j (by omega))
  have pk_2_0 : nC G g_7 f_8 (k + 1) := nC_gf pk_2_0 (fun j _ => rfl) (fun j h1 h2 => o_8 j (by omega))
  have pk_2_0 : nC G g_9 f_9 (k + 1) := nC_gf pk_2_0 (fun j hj => og_9 j (by omega)) (fun j h1 h2 => of_9 j (by omega))
  have pk_2_0 : nC G g_10 f_10 (k + 1) := nC_gf pk_2_0 (fun j hj => og_10 j (by omega)) (fun j h1 h2 => of_10 j (by omega))
  have pk_2_0 : nC G g_10 f_11 (k + 1) := nC_gf pk_2_0 (fun j _ => rfl) (fun j h1 h2 => o_11 j (by omega))
  have pk_2_0 : nC G g_12 f_12 (k + 1) := nC_gf pk_2_0 (fun j hj => og_12 j (by omega)) (fun j h1 h2 => of_12 j (by omega))
  have pk_2_0 : nC G g_13 f_13 (k + 1) := nC_gf pk_2_0 (fun j hj => og_13 j (by omega)) (fun j h1 h2 => of_13 j (by omega))
  have pk_2_0 : nC G g_13 f_14 (k + 1) := nC_gf pk_2_0 (fun j _ => rfl) (fun j h1 h2 => o_14 j (by omega))
  have pk_2_0 : nC G g_15 f_15 (k + 1) := nC_gf pk_2_0 (fun j hj => og_15 j (by omega)) (fun j h1 h2 => of_15 j (by omega))
  have pk_2_0 : nC G g_16 f_16 (k + 1) := nC_gf pk_2_0 (fun j hj => og_16 j (by omega)) (fun j h1 h2 => of_16 j (by omega))
  have pk_2_0 : nC G g_16 f_17 (k + 1) := nC_gf pk_2_0 (fun j _ => rfl) (fun j h1 h2 => o_17 j (by omega))
  have pk_2_0 : nC G g_18 f_18 (k + 1) := nC_gf pk_2_0 (fun j hj => og_18 j (by omega)) (fun j h1 h2 => of_18 j (by omega))
  have pk_2_0 : nC G g_19 f_19 (k + 1) := nC_gf pk_2_0 (fun j hj => og_19 j (by omega)) (fun j h1 h2 => of_19 j (by omega))
  have pk_2_0 : nC G g_19 f_20 (k + 1) := nC_gf pk_2_0 (fun j _ => rfl) (fun j h1 h2 => o_20 j (by omega))
  have pk_2_0 : nC G g_21 f_21 (k + 1) := nC_gf pk_2_0 (fun j hj => og_21 j (by omega)) (fun j h1 h2 => of_21 j (by omega))
  have pk_2_0 : nC G g_22 f_22 (k + 1) := nC_gf pk_2_0 (fun j hj => og_22 j (by omega)) (fun j h1 h2 => of_22 j (by omega))
  have pk_2_0 : nC G g_22 f_23 (k + 1) := nC_gf pk_2_0 (fun j _ => rfl) (fun j h1 h2 => o_23 j (by omega))
  replace hown0 := ((o_23 k (by first | exact lqD rfl | omega)).trans ((of_22 k (by first | exact lqA rfl | omega)).trans ((of_21 k (by first | exact lqA rfl | omega))))).trans hown0
  replace hg_1 := gq.tr ((og_22 (k + 1) (by first | exact lqB rfl | omega)).trans ((og_21 (k + 1) (by first | exact lqB rfl | omega)).trans ((og_19 (k + 1) (by first | exact lqB rfl | omega)).trans ((og_18 (k + 1) (by first | exact lqB rfl | omega)).trans ((og_16 (k + 1) (by first | exact lqB rfl | omega)).trans ((og_15 (k + 1) (by first | exact lqB rfl | omega)).trans ((og_13 (k + 1) (by first | exact lqB rfl | omega)).trans ((og_12 (k + 1) (by first | exact lqB rfl | omega)).trans ((og_10 (k + 1) (by first | exact lqB rfl | omega)).trans ((og_9 (k + 1) (by first | exact lqB rfl | omega)).trans ((og_7 (k + 1) (by first | exact lqB rfl | omega)).trans ((og_5 (k + 1) (by first | exact lqB rfl | omega)))))))))))))) hg_1
  replace hgbk := gq.tr ((og_22 (k + 2) (by first | exact lqB rfl | omega)).trans ((og_21 (k + 2) (by first | exact lqB rfl | omega)).trans ((og_19 (k + 2) (by first | exact lqB rfl | omega)).trans ((og_18 (k + 2) (by first | exact lqB rfl | omega)).trans ((og_16 (k + 2) (by first | exact lqB rfl | omega)).trans ((og_15 (k + 2) (by first | exact lqB rfl | omega)).trans ((og_13 (k + 2) (by first | exact lqB rfl | omega)).trans ((og_12 (k + 2) (by first | exact lqB rfl | omega)).trans ((og_10 (k + 2) (by first | exact lqB rfl | omega)).trans ((og_9 (k + 2) (by first | exact lqB rfl | omega)).trans ((og_7 (k + 2) (by first | exact lqB rfl | omega)).trans ((og_5 (k + 2) (by first | exact lqB rfl | omega)))))))))))))) hgbk
  replace hg_7 := gq.tr ((og_22 (k + 120) (by first | exact lqB rfl | omega)).trans ((og_21 (k + 120) (by first | exact lqB rfl | omega)).trans ((og_19 (k + 120) (by first | exact lqB rfl | omega)).trans ((og_18 (k + 120) (by first | exact lqB rfl | omega)).trans ((og_16 (k + 120) (by first | exact lqB rfl | omega)).trans ((og_15 (k + 120) (by first | exact lqB rfl | omega)).trans ((og_13 (k + 120) (by first | exact lqB rfl | omega)).trans ((og_12 (k + 120) (by first | exact lqB rfl | omega)).trans ((og_10 (k + 120) (by first | exact lqB rfl | omega)).trans ((og_9 (k + 120) (by first | exact lqB rfl | omega)))))))))))) hg_7
  replace hg_9 := gq.tr ((og_22 (k + 121) (by first | exact lqB rfl | omega)).trans ((og_21 (k + 121) (by first | exact lqB rfl | omega)).trans ((og_19 (k + 121) (by first | exact lqB rfl | omega)).trans ((og_18 (k + 121) (by first | exact lqB rfl | omega)).trans ((og_16 (k + 121) (by first | exact lqB rfl | omega)).trans ((og_15 (k + 121) (by first | exact lqB rfl | omega)).trans ((og_13 (k + 121) (by first | exact lqB rfl | omega)).trans ((og_12 (k + 121) (by first | exact lqB rfl | omega)).trans ((og_10 (k + 121) (by first | exact lqB rfl | omega))))))))))) hg_9
  replace hg_12 := gq.tr ((og_22 (k + 123) (by first | exact lqB rfl | omega)).trans ((og_21 (k + 123) (by first | exact lqB rfl | omega)).trans ((og_19 (k + 123) (by first | exact lqB rfl | omega)).trans ((og_18 (k + 123) (by first | exact lqB rfl | omega)).trans ((og_16 (k + 123) (by first | exact lqB rfl | omega)).trans ((og_15 (k + 123) (by first | exact lqB rfl | omega)).trans ((og_13 (k + 123) (by first | exact lqB rfl | omega))))))))) hg_12
  replace hg_15 := gq.tr ((og_22 (k + 124) (by first | exact lqB rfl | omega)).trans ((og_21 (k + 124) (by first | exact lqB rfl | omega)).trans ((og_19 (k + 124) (by first | exact lqB rfl | omega)).trans ((og_18 (k + 124) (by first | exact lqB rfl | omega)).trans ((og_16 (k + 124) (by first | exact lqB rfl | omega))))))) hg_15
  replace hf_7 := ((o_23 (k + 120) (by first | exact lqC rfl | exact lqE rfl | omega)).trans ((of_22 (k + 120) (by first | exact lqB rfl | omega)).trans ((of_21 (k + 120) (by first | exact lqB rfl | omega)).trans ((o_20 (k + 120) (by first | exact lqC rfl | exact lqE rfl | omega)).trans ((of_19 (k + 120) (by first | exact lqB rfl | omega)).trans ((of_18 (k + 120) (by first | exact lqB rfl | omega)).trans ((o_17 (k + 120) (by first | exact lqC rfl | exact lqE rfl | omega)).trans ((of_16 (k + 120) (by first | exact lqB rfl | omega)).trans ((of_15 (k + 120) (by first | exact lqB rfl | omega)).trans ((o_14 (k + 120) (by first | exact lqC rfl | exact lqE rfl | omega)).trans ((of_13 (k + 120) (by first | exact lqB rfl | omega)).trans ((of_12 (k + 120) (by first | exact lqB rfl | omega)).trans ((o_11 (k + 120) (by first | exact lqC rfl | exact lqE rfl | omega)).trans ((of_10 (k + 120) (by first | exact lqB rfl | omega)).trans ((of_9 (k + 120) (by first | exact lqB rfl | omega)).trans ((o_8 (k + 120) (by first | exact lqC rfl | exact lqE rfl | omega)))))))))))))))))).trans hf_7
  replace hfq_10_0 := ((o_23 (k + 121) (by first | exact lqC rfl | exact lqE rfl | omega)).trans ((of_22 (k + 121) (by first | exact lqB rfl | omega)).trans ((of_21 (k + 121) (by first | exact lqB rfl | omega)).trans ((o_20 (k + 121) (by first | exact lqC rfl | exact lqE rfl | omega)).trans ((of_19 (k + 121) (by first | exact lqB rfl | omega)).trans ((of_18 (k + 121) (by first | exact lqB rfl | omega)).trans ((o_17 (k + 121) (by first | exact lqC rfl | exact lqE rfl | omega)).trans ((of_16 (k + 121) (by first | exact lqB rfl | omega)).trans ((of_15 (k + 121) (by first | exact lqB rfl | omega)).trans ((o_14 (k + 121) (by first | exact lqC rfl | exact lqE rfl | omega)).trans ((of_13 (k + 121) (by first | exact lqB rfl | omega)).trans ((of_12 (k + 121) (by first | exact lqB rfl | omega)).trans ((o_11 (k + 121) (by first | exact lqC rfl | exact lqE rfl | omega))))))))))))))).trans hfq_10_0
  replace hgq_10_1 := gq.tr ((og_22 (k + 122) (by first | exact lqB rfl | omega)).trans ((og_21 (k + 122) (by first | exact lqB rfl | omega)).trans ((og_19 (k + 122) (by first | exact lqB rfl | omega)).trans ((og_18 (k + 122) (by first | exact lqB rfl | omega)).trans ((og_16 (k + 122) (by first | exact lqB rfl | omega)).trans ((og_15 (k + 122) (by first | exact lqB rfl | omega)).trans ((og_13 (k + 122) (by first | exact lqB rfl | omega)).trans ((og_12 (k + 122) (by first | exact lqB rfl | omega)))))))))) hgq_10_1
  replace hfq_10_1 := ((o_23 (k + 122) (by first | exact lqC rfl | exact lqE rfl | omega)).trans ((of_22 (k + 122) (by first | exact lqB rfl | omega)).trans ((of_21 (k + 122) (by first | exact lqB rfl | omega)).trans ((o_20 (k + 122) (by first | exact lqC rfl | exact lqE rfl | omega)).trans ((of_19 (k + 122) (by first | exact lqB rfl | omega)).trans ((of_18 (k + 122) (by first | exact lqB rfl | omega)).trans ((o_17 (k + 122) (by first | exact lqC rfl | exact lqE rfl | omega)).trans ((of_16 (k + 122) (by first | exact lqB rfl | omega)).trans ((of_15 (k + 122) (by first | exact lqB rfl | omega)).trans ((o_14 (k + 122) (by first | exact lqC rfl | exact lqE rfl | omega)).trans ((of_13 (k + 122) (by first | exact lqB rfl | omega)).trans ((of_12 (k + 122) (by first | exact lqB rfl | omega)).trans ((o_11 (k + 122) (by first | exact lqC rfl | exact lqE rfl | omega))))))))))))))).trans hfq_10_1
  replace hfq_13_0 := ((o_23 (k + 123) (by first | exact lqC rfl | exact lqE rfl | omega)).trans ((of_22 (k + 123) (by first | exact lqB rfl | omega)).trans ((of_21 (k + 123) (by first | exact lqB rfl | omega)).trans ((o_20 (k + 123) (by first | exact lqC rfl | exact lqE rfl | omega)).trans ((of_19 (k + 123) (by first | exact lqB rfl | omega)).trans ((of_18 (k + 123) (by first | exact lqB rfl | omega)).trans ((o_17 (k + 123) (by first | exact lqC rfl | exact lqE rfl | omega)).trans ((of_16 (k + 123) (by first | exact lqB rfl | omega)).trans ((of_15 (k + 123) (by first | exact lqB rfl | omega)).trans ((o_14 (k + 123) (by first | exact lqC rfl | exact lqE rfl | omega)))))))))))).trans hfq_13_0
  replace hfq_16_0 := ((o_23 (k + 124) (by first | exact lqC rfl | exact lqE rfl | omega)).trans ((of_22 (k + 124) (by first | exact lqB rfl | omega)).trans ((of_21 (k + 124) (by first | exact lqB rfl | omega)).trans ((o_20 (k + 124) (by first | exact lqC rfl | exact lqE rfl | omega)).trans ((of_19 (k + 124) (by first | exact lqB rfl | omega)).trans ((of_18 (k + 124) (by first | exact lqB rfl | omega)).trans ((o_17 (k + 124) (by first | exact lqC rfl | exact lqE rfl | omega))))))))).trans hfq_16_0
  replace hgq_16_1 := gq.tr ((og_22 (k + 125) (by first | exact lqB rfl | omega)).trans ((og_21 (k + 125) (by first | exact lqB rfl | omega)).trans ((og_19 (k + 125) (by first | exact lqB rfl | omega)).trans ((og_18 (k + 125) (by first | exact lqB rfl | omega)))))) hgq_16_1
  replace hgq_16_2 := gq.tr ((og_22 (k + 126) (by first | exact lqB rfl | omega)).trans ((og_21 (k + 126) (by first | exact lqB rfl | omega)).trans ((og_19 (k + 126) (by first | exact lqB rfl | omega)).trans ((og_18 (k + 126) (by first | exact lqB rfl | omega)))))) hgq_16_2
  replace hgq_16_3 := gq.tr ((og_22 (k + 127) (by first | exact lqB rfl | omega)).trans ((og_21 (k + 127) (by first | exact lqB rfl | omega)).trans ((og_19 (k + 127) (by first | exact lqB rfl | omega)).trans ((og_18 (k + 127) (by first | exact lqB rfl | omega)))))) hgq_16_3
  replace hgq_16_4 := gq.tr ((og_22 (k + 128) (by first | exact lqB rfl | omega)).trans ((og_21 (k + 128) (by first | exact lqB rfl | omega)).trans ((og_19 (k + 128) (by first | exact lqB rfl | omega)).trans ((og_18 (k + 128) (by first | exact lqB rfl | omega)))))) hgq_16_4
  replace hfq_16_1 := ((o_23 (k + 125) (by first | exact lqC rfl | exact lqE rfl | omega)).trans ((of_22 (k + 125) (by first | exact lqB rfl | omega)).trans ((of_21 (k + 125) (by first | exact lqB rfl | omega)).trans ((o_20 (k + 125) (by first | exact lqC rfl | exact lqE rfl | omega)).trans ((of_19 (k + 125) (by first | exact lqB rfl | omega)).trans ((of_18 (k + 125) (by first | exact lqB rfl | omega)).trans ((o_17 (k + 125) (by first | exact lqC rfl | exact lqE rfl | omega))))))))).trans hfq_16_1
  replace hfq_16_2 := ((o_23 (k + 126) (by first | exact lqC rfl | exact lqE rfl | omega)).trans ((of_22 (k + 126) (by first | exact lqB rfl | omega)).trans ((of_21 (k + 126) (by first | exact lqB rfl | omega)).trans ((o_20 (k + 126) (by first | exact lqC rfl | exact lqE rfl | omega)).trans ((of_19 (k + 126) (by first | exact lqB rfl | omega)).trans ((of_18 (k + 126) (by first | exact lqB rfl | omega)).trans ((o_17 (k + 126) (by first | exact lqC rfl | exact lqE rfl | omega))))))))).trans hfq_16_2
  replace hfq_16_3 := ((o_23 (k + 127) (by first | exact lqC rfl | exact lqE rfl | omega)).trans ((of_22 (k + 127) (by first | exact lqB rfl | omega)).trans ((of_21 (k + 127) (by first | exact lqB rfl | omega)).trans ((o_20 (k + 127) (by first | exact lqC rfl | exact lqE rfl | omega)).trans ((of_19 (k + 127) (by first | exact lqB rfl | omega)).trans ((of_18 (k + 127) (by first | exact lqB rfl | omega)).trans ((o_17 (k + 127) (by first | exact lqC rfl | exact lqE rfl | omega))))))))).trans hfq_16_3
  replace hfq_16_4 := ((o_23 (k + 128) (by first | exact lqC rfl | exact lqE rfl | omega)).trans ((of_22 (k + 128) (by first | exact lqB rfl | omega)).trans ((of_21 (k + 128) (by first | exact lqB rfl | omega)).trans ((o_20 (k + 128) (by first | exact lqC rfl | exact lqE rfl | omega)).trans ((of_19 (k + 128) (by first | exact lqB rfl | omega)).trans ((of_18 (k + 128) (by first | exact lqB rfl | omega)).trans ((o_17 (k + 128) (by first | exact lqC rfl | exact lqE rfl | omega))))))))).trans hfq_16_4
  exact W.vret hx hb hr (fun t ht hW => ⟨⟨g_22, f_23, rfl, fun j hj => (og_22 j (by omega)).trans ((og_21 j (by omega)).trans ((og_19 j (by omega)).trans ((og_18 j (by omega)).trans ((og_16 j (by omega)).trans ((og_15 j (by omega)).trans ((og_13 j (by omega)).trans ((og_12 j (by omega)).trans ((og_10 j (by omega)).trans ((og_9 j (by omega)).trans ((og_7 j (by omega)).trans ((og_5 j (by omega)).trans ((og_2 j (by omega)).trans ((og_1 j (by omega))))))))))))))), ⟨⟨(by rw [show g_22 (k + 1) = q1 from hg_1, show g_22 (k + 2) = g_2 (k + 2) from hgbk, show g_22 (k + 119) = q2 from hg_5, show g_22 (k + 120) = q3 from hg_7, show g_22 (k + 121) = q4 from hg_9, show g_22 (k + 123) = q5 from hg_12, show g_22 (k + 124) = q6 from hg_15]; exact hown0), pk_2_0, ⟨_, hf_5, taA⟩, hf_7, (by rw [show g_22 (k + 122) = g_10 (k + 122) from hgq_10_1]; exact hfq_10_0), hfq_10_1, hfq_13_0, (by rw [show g_22 (k + 125) = g_16 (k + 125) from hgq_16_1, show g_22 (k + 126) = g_16 (k + 126) from hgq_16_2, show g_22 (k + 127) = g_16 (k + 127) from hgq_16_3, show g_22 (k + 128) = g_16 (k + 128) from hgq_16_4]; exact hfq_16_0), hfq_16_1, hfq_16_2, hfq_16_3, hfq_16_4, txA⟩, fun j hj => (o_23 j (by omega)).trans ((of_22 j (by omega)).trans ((of_21 j (by omega)).trans ((o_20 j (by omega)).trans ((of_19 j (by omega)).trans ((of_18 j (by omega)).trans ((o_17 j (by omega)).trans ((of_16 j (by omega)).trans ((of_15 j (by omega)).trans ((o_14 j (by omega)).trans ((of_13 j (by omega)).trans ((of_12 j (by omega)).trans ((o_11 j (by omega)).trans ((of_10 j (by omega)).trans ((of_9 j (by omega)).trans ((o_8 j (by omega)).trans ((of_7 j (by omega)).trans ((o_6 j (by omega)).trans ((of_5 j (by omega)).trans ((o_4 j (by omega)).trans ((o_3 j (by omega)).trans ((of_2 j (by omega)).trans ((of_1 j (by omega))))))))))))))))))))))))⟩, by rw [ht]; exact hP, by rw [hAe]; exact hD⟩, by rw [hAe]; exact hS.F ht⟩) hS.2.2 dX10_init_100
set_option maxHeartbeats 4000000 in
set_option maxRecDepth 100000 in
theorem i_model (l : Launch) (G : gW) (g : Nat → Nat) (f : Nat → va_E) (sz k a : Nat) (hga0 : gq (g k) a) (hown0 : f k = eO 10 [.null, .null, .null, .long 0, .long 0, .int 0, .null, .null, .int 0, .null, .null, .int 0, .int 0, .int 0, .int 0, .null, .null, .null, .null, .null, .null, .null, .null, .null, .null]) : Met l yX11_init (wsT yX11_init cX11_init 1 none) ({ frames := 1, cells := 17, slots := 7739, locals := 12 }) (nP G (k + 1) g f sz [.ref a]) (nQ G (k + 1) (k + 18) g sz (fun (g' : Nat → Nat) (f' : Nat → va_E) => f' k = eO 10 [.ref (g' (k + 1)), .ref (g' (k + 2)), .ref (g' (k + 3)), .long 0, .long 1, .int 0, .ref (g' (k + 4)), .ref (g' (k + 5)), .int 0, .ref (g' (k + 6)), .ref (g' (k + 7)), .int 0, .int 0, .int 0, .int 0, .ref (g' (k + 8)), .ref (g' (k + 9)), .ref (g' (k + 10)), .ref (g' (k + 11)), .ref (g' (k + 12)), .ref (g' (k + 13)), .ref (g' (k + 14)), .ref (g' (k + 15)), .ref (g' (k + 16)), .ref (g' (k + 17))] ∧ f' (k + 1) = eI G 2246 (upd (upd (fun _ => 0) (Int32.toNatClampNeg 5) 5) (Int32.toNatClampNeg 6) 20) ∧ f' (k + 2) = eI G 4492 (fun _ => 0) ∧ f' (k + 3) = eZ G 2 (fun _ => 0) ∧ f' (k + 4) = eI G 70 (fun _ => 0) ∧ f' (k + 5) = eI G 70 (fun _ => 0) ∧ f' (k + 6) = eI G 70 (fun _ => 0) ∧ f' (k + 7) = eJ G 70 (fun _ => 0) ∧ f' (k + 8) = eI G 11 (fun _ => 0) ∧ f' (k + 9) = eI G 11 (fun _ => 0) ∧ f' (k + 10) = eI G 264 (fun _ => 0) ∧ f' (k + 11) = eI G 11 (fun _ => 0) ∧ f' (k + 12) = eI G 330 (fun _ => 0) ∧ f' (k + 13) = eI G 44 (fun _ => 0) ∧ f' (k + 14) = eI G 30 (fun _ => 0) ∧ f' (k + 15) = eI G 6 (fun _ => 0) ∧ f' (k + 16) = eI G 6 (fun _ => 0) ∧ f' (k + 17) = eI G 6 (fun _ => 0) ∧ ∀ j, j < k → f' j = f j)) 17 7739 (nA (k + 1) g sz) := by
  refine Met.ofW (cc := cX11_init) (maxL := 1) (ret := none) (by decide) rfl ?_
  intro p e s m args below meth c s₁ B hml hv
  obtain ⟨rfl, hsz, hP, hG, hD0⟩ := hv
  have hx := B.exec
  have hb := B.bytes
  have hr := B.returns
  have hts := my_hts (atoms_spec (ws := wsT yX11_init cX11_init 1 none) B.pre)
  have hown : s.vm.findClass RX11 = some m.cls := findClass_of_methodNamed B.named
  have hlocks := B.notSynchronized
  have hin : meth.name = "<init>" := (name_of_methodNamed B.named B.method).1
  subst hsz
  have hD := nD_self (sz := s.heap.size) hD0
  generalize hAe : nA (k + 1) g s.heap.size = A at hD ⊢
  have hA : ∀ q : Nat, s.heap.size ≤ q → A q := fun q h => by rw [← hAe]; exact Or.inr h
  have hS : va_S A s.heap s.heap [] := va_S.rf
  have hl := lv_entry ([.ref a]) (n := 1) (Nat.le_of_ble_eq_true rfl)
  rw [lg_entry_eq]
  generalize (lg_sl ([.ref a]) ++ List.replicate (1 - (lg_sl ([.ref a])).length) Slot.unset).toArray = ls at hl ⊢
  have hl : lv_has ls 1 [(0, .ref a)] := hl
  refine lv_aload_n hx hb dX11_init_0 rfl (lv_at hl 0 rfl) ?_
  refine W.objInit hx hb hown (hts (.methodLink RX11 1 objectInit) w_111) (hts (.instanceMethod objectInit) w_10) (hts (.code objectInit ⟨#[0xb1]⟩ 1 none) w_11) rfl (by rw [hml]; exact hl.1) rfl dX11_init_1 (Nat.le_of_ble_eq_true rfl) (Nat.le_of_ble_eq_true rfl) ?_
  refine W.eq (g2 := F0 m 4 ls []) rfl ?_
  refine lv_aload_n hx hb dX11_init_4 rfl (lv_at hl 0 rfl) ?_
  refine lv_sipush (v := 2246) hx hb dX11_init_5 (by decide) ?_
  refine my_newaI hx hb (hts (.arrayClass .int) w_72) hG.1 hP hD hS hA (N' := 2246) (by decide) (by decide) (Nat.le_of_ble_eq_true rfl) (Nat.le_of_ble_eq_true rfl) (Nat.le_of_ble_eq_true rfl) dX11_init_8 (fun q1 H hP hD hS => ?_)
  obtain ⟨g_1, f_1, hP, hD, hg_1, hf_1, og_1, of_1⟩ := n_ext hP hD
  have hf_1 : f_1 (k + 1) = eI G 2246 (fun _ => 0) := hf_1
  have hg_1 : gq (g_1 (k + 1)) q1 := hg_1
  have hP : va_P G.1 vwCl (wn (k + 2) g_1 f_1) H := hP
  have hD : va_D A (wn (k + 2) g_1 f_1) := hD
  refine W.widen (k := 1) (n := 2246) (by omega) (by omega) ?_
  replace hown0 := ((of_1 k (by first | exact lqA rfl | omega))).trans hown0
  replace hga0 := gq.tr ((og_1 k (by first | exact lqA rfl | omega))) hga0
  refine va_putF (D := G.1) (ci := 10) (v := .ref q1) (ty := .array .int) (C := RX11) (T := TX11) (N := 25) hx hb hts inlX11 tyX11 tyX11_ok nmX11 hown hG.1 hP hD hS k (wn_at (by first | exact lqA rfl | exact lqB rfl | omega) hga0 hown0) rfl 0 (by decide) (hts (.fieldLink RX11 7 "SwornListsModel" "st" "[I") w_112) (fun _ h9 => h9) rfl hin rfl (by decide +kernel) rfl rfl (Nat.le_of_ble_eq_true rfl) dX11_init_10 (fun H locs hP hD hS => ?_)
  obtain ⟨f_2, hP, hD, e_2, o_2⟩ := n_put (by first | exact lqA rfl | exact lqB rfl | omega) hga0 hP hD
  have hown0 : f_2 k = eO 10 [.ref q1, .null, .null, .long 0, .long 0, .int 0, .null, .null, .int 0, .null, .null, .int 0, .int 0, .int 0, .int 0, .null, .null, .null, .null, .null, .null, .null, .null, .null, .null] := e_2
  refine lv_aload_n hx hb dX11_init_13 rfl (lv_at hl 0 rfl) ?_
  refine lv_sipush (v := 4492) hx hb dX11_init_14 (by decide) ?_
  refine my_newaI hx hb (hts (.arrayClass .int) w_72) hG.1 hP hD hS hA (N' := 4492) (by decide) (by decide) (Nat.le_of_ble_eq_true rfl) (Nat.le_of_ble_eq_true rfl) (Nat.le_of_ble_eq_true rfl) dX11_init_17 (fun q2 H hP hD hS => ?_)
  obtain ⟨g_3, f_3, hP, hD, hg_3, hf_3, og_3, of_3⟩ := n_ext hP hD
  have hf_3 : f_3 (k + 2) = eI G 4492 (fun _ => 0) := hf_3
  have hg_3 : gq (g_3 (k + 2)) q2 := hg_3
  have hP : va_P G.1 vwCl (wn (k + 3) g_3 f_3) H := hP
  have hD : va_D A (wn (k + 3) g_3 f_3) := hD
  refine W.widen (k := 2) (n := 6738) (by omega) (by omega) ?_
  replace hown0 := ((of_3 k (by first | exact lqA rfl | omega))).trans hown0
  replace hga0 := gq.tr ((og_3 k (by first | exact lqA rfl | omega))) hga0
  refine va_putF (D := G.1) (ci := 10) (v := .ref q2) (ty := .array .int) (C := RX11) (T := TX11) (N := 25) hx hb hts inlX11 tyX11 tyX11_ok nmX11 hown hG.1 hP hD hS k (wn_at (by first | exact lqA rfl | exact lqB rfl | omega) hga0 hown0) rfl 1 (by decide) (hts (.fieldLink RX11 13 "SwornListsModel" "images" "[I") w_113) (fun _ h9 => h9) rfl hin rfl (by decide +kernel) rfl rfl (Nat.le_of_ble_eq_true rfl) dX11_init_19 (fun H locs hP hD hS => ?_)
  obtain ⟨f_4, hP, hD, e_4, o_4⟩ := n_put (by first | exact lqA rfl | exact lqB rfl | omega) hga0 hP hD
  have hown0 : f_4 k = eO 10 [.ref q1, .ref q2, .null, .long 0, .long 0, .int 0, .null, .null, .int 0, .null, .null, .int 0, .int 0, .int 0, .int 0, .null, .null, .null, .null, .null, .null, .null, .null, .null, .null] := e_4
  refine lv_aload_n hx hb dX11_init_22 rfl (lv_at hl 0 rfl) ?_
  refine lv_iconst (v := 2) hx hb dX11_init_23 (by decide) ?_
  refine my_newaZ hx hb (hts (.arrayClass .boolean) w_19) hG.1 hP hD hS hA (N' := 2) (by decide) (by decide) (Nat.le_of_ble_eq_true rfl) (Nat.le_of_ble_eq_true rfl) (Nat.le_of_ble_eq_true rfl) dX11_init_24 (fun q3 H hP hD hS => ?_)
  obtain ⟨g_5, f_5, hP, hD, hg_5, hf_5, og_5, of_5⟩ := n_ext hP hD
  have hf_5 : f_5 (k + 3) = eZ G 2 (fun _ => 0) := hf_5
  have hg_5 : gq (g_5 (k + 3)) q3 := hg_5
  have hP : va_P G.1 vwCl (wn (k + 4) g_5 f_5) H := hP
  have hD : va_D A (wn (k + 4) g_5 f_5) := hD
  refine W.widen (k := 3) (n := 6740) (by omega) (by omega) ?_
  replace hown0 := ((of_5 k (by first | exact lqA rfl | omega))).trans hown0
  replace hga0 := gq.tr ((og_5 k (by first | exact lqA rfl | omega))) hga0
  refine va_putF (D := G.1) (ci := 10) (v := .ref q3) (ty := .array .boolean) (C := RX11) (T := TX11) (N := 25) hx hb hts inlX11 tyX11 tyX11_ok nmX11 hown hG.1 hP hD hS k (wn_at (by first | exact lqA rfl | exact lqB rfl | omega) hga0 hown0) rfl 2 (by decide) (hts (.fieldLink RX11 16 "SwornListsModel" "isKept" "[Z") w_114) (fun _ h9 => h9) rfl hin rfl (by decide +kernel) rfl rfl (Nat.le_of_ble_eq_true rfl) dX11_init_26 (fun H locs hP hD hS => ?_)
  obtain ⟨f_6, hP, hD, e_6, o_6⟩ := n_put (by first | exact lqA rfl | exact lqB rfl | omega) hga0 hP hD
  have hown0 : f_6 k = eO 10 [.ref q1, .ref q2, .ref q3, .long 0, .long 0, .int 0, .null, .null, .int 0, .null, .null, .int 0, .int 0, .int 0, .int 0, .null, .null, .null, .null, .null, .null, .null, .null, .null, .null] := e_6
  refine lv_aload_n hx hb dX11_init_29 rfl (lv_at hl 0 rfl) ?_
  refine lv_bipush (v := 70) hx hb dX11_init_30 (by decide) ?_
  refine my_newaI hx hb (hts (.arrayClass .int) w_72) hG.1 hP hD hS hA (N' := 70) (by decide) (by decide) (Nat.le_of_ble_eq_true rfl) (Nat.le_of_ble_eq_true rfl) (Nat.le_of_ble_eq_true rfl) dX11_init_32 (fun q4 H hP hD hS => ?_)
  obtain ⟨g_7, f_7, hP, hD, hg_7, hf_7, og_7, of_7⟩ := n_ext hP hD
  have hf_7 : f_7 (k + 4) = eI G 70 (fun _ => 0) := hf_7
  have hg_7 : gq (g_7 (k + 4)) q4 := hg_7
  have hP : va_P G.1 vwCl (wn (k + 5) g_7 f_7) H := hP
  have hD : va_D A (wn (k + 5) g_7 f_7) := hD
  refine W.widen (k := 4) (n := 6810) (by omega) (by omega) ?_
  replace hown0 := ((of_7 k (by first | exact lqA rfl | omega))).trans hown0
  replace hga0 := gq.tr ((og_7 k (by first | exact lqA rfl | omega))) hga0
  refine va_putF (D := G.1) (ci := 10) (v := .ref q4) (ty := .array .int) (C := RX11) (T := TX11) (N := 25) hx hb hts inlX11 tyX11 tyX11_ok nmX11 hown hG.1 hP hD hS k (wn_at (by first | exact lqA rfl | exact lqB rfl | omega) hga0 hown0) rfl 6 (by decide) (hts (.fieldLink RX11 20 "SwornListsModel" "step" "[I") w_115) (fun _ h9 => h9) rfl hin rfl (by decide +kernel) rfl rfl (Nat.le_of_ble_eq_true rfl) dX11_init_34 (fun H locs hP hD hS => ?_)
  obtain ⟨f_8, hP, hD, e_8, o_8⟩ := n_put (by first | exact lqA rfl | exact lqB rfl | omega) hga0 hP hD
  have hown0 : f_8 k = eO 10 [.ref q1, .ref q2, .ref q3, .long 0, .long 0, .int 0, .ref q4, .null, .int 0, .null, .null, .int 0, .int 0, .int 0, .int 0, .null, .null, .null, .null, .null, .null, .null, .null, .null, .null] := e_8
  refine lv_aload_n hx hb dX11_init_37 rfl (lv_at hl 0 rfl) ?_
  refine lv_bipush (v := 70) hx hb dX11_init_38 (by decide) ?_
  refine my_newaI hx hb (hts (.arrayClass .int) w_72) hG.1 hP hD hS hA (N' := 70) (by decide) (by decide) (Nat.le_of_ble_eq_true rfl) (Nat.le_of_ble_eq_true rfl) (Nat.le_of_ble_eq_true rfl) dX11_init_40 (fun q5 H hP hD hS => ?_)
  obtain ⟨g_9, f_9, hP, hD, hg_9, hf_9, og_9, of_9⟩ := n_ext hP hD
  have hf_9 : f_9 (k + 5) = eI G 70 (fun _ => 0) := hf_9
  have hg_9 : gq (g_9 (k + 5)) q5 := hg_9
  have hP : va_P G.1 vwCl (wn (k + 6) g_9 f_9) H := hP
  have hD : va_D A (wn (k + 6) g_9 f_9) := hD
  refine W.widen (k := 5) (n := 6880) (by omega) (by omega) ?_
  replace hown0 := ((of_9 k (by first | exact lqA rfl | omega))).trans hown0
  replace hga0 := gq.tr ((og_9 k (by first | exact lqA rfl | omega))) hga0
  refine va_putF (D := G.1) (ci := 10) (v := .ref q5) (ty := .array .int) (C := RX11) (T := TX11) (N := 25) hx hb hts inlX11 tyX11 tyX11_ok nmX11 hown hG.1 hP hD hS k (wn_at (by first | exact lqA rfl | exact lqB rfl | omega) hga0 hown0) rfl 7 (by decide) (hts (.fieldLink RX11 23 "SwornListsModel" "with" "[I") w_116) (fun _ h9 => h9) rfl hin rfl (by decide +kernel) rfl rfl (Nat.le_of_ble_eq_true rfl) dX11_init_42 (fun H locs hP hD hS => ?_)
  obtain ⟨f_10, hP, hD, e_10, o_10⟩ := n_put (by first | exact lqA rfl | exact lqB rfl | omega) hga0 hP hD
  have hown0 : f_10 k = eO 10 [.ref q1, .ref q2, .ref q3, .long 0, .long 0, .int 0, .ref q4, .ref q5, .int 0, .null, .null, .int 0, .int 0, .int 0, .int 0, .null, .null, .null, .null, .null, .null, .null, .null, .null, .null] := e_10
  refine lv_aload_n hx hb dX11_init_45 rfl (lv_at hl 0 rfl) ?_
  refine lv_bipush (v := 70) hx hb dX11_init_46 (by decide) ?_
  refine my_newaI hx hb (hts (.arrayClass .int) w_72) hG.1 hP hD hS hA (N' := 70) (by decide) (by decide) (Nat.le_of_ble_eq_true rfl) (Nat.le_of_ble_eq_true rfl) (Nat.le_of_ble_eq_true rfl) dX11_init_48 (fun q6 H hP hD hS => ?_)
  obtain ⟨g_11, f_11, hP, hD, hg_11, hf_11, og_11, of_11⟩ := n_ext hP hD
  have hf_11 : f_11 (k + 6) = eI G 70 (fun _ => 0) := hf_11
  have hg_11 : gq (g_11 (k + 6)) q6 := hg_11
  have hP : va_P G.1 vwCl (wn (k + 7) g_11 f_11) H := hP
  have hD : va_D A (wn (k + 7) g_11 f_11) := hD
  refine W.widen (k := 6) (n := 6950) (by omega) (by omega) ?_
  replace hown0 := ((of_11 k (by first | exact lqA rfl | omega))).trans hown0
  replace hga0 := gq.tr ((og_11 k (by first | exact lqA rfl | omega))) hga0
  refine va_putF (D := G.1) (ci := 10) (v := .ref q6) (ty := .array .int) (C := RX11) (T := TX11) (N := 25) hx hb hts inlX11 tyX11 tyX11_ok nmX11 hown hG.1 hP hD hS k (wn_at (by first | exact lqA rfl | exact lqB rfl | omega) hga0 hown0) rfl 9 (by decide) (hts (.fieldLink RX11 26 "SwornListsModel" "waits" "[I") w_117) (fun _ h9 => h9) rfl hin rfl (by decide +kernel) rfl rfl (Nat.le_of_ble_eq_true rfl) dX11_init_50 (fun H locs hP hD hS => ?_)
  obtain ⟨f_12, hP, hD, e_12, o_12⟩ := n_put (by first | exact lqA rfl | exact lqB rfl | omega) hga0 hP hD
  have hown0 : f_12 k = eO 10 [.ref q1, .ref q2, .ref q3, .long 0, .long 0, .int 0, .ref q4, .ref q5, .int 0, .ref q6, .null, .int 0, .int 0, .int 0, .int 0, .null, .null, .null, .null, .null, .null, .null, .null, .null, .null] := e_12
  refine lv_aload_n hx hb dX11_init_53 rfl (lv_at hl 0 rfl) ?_
  refine lv_bipush (v := 70) hx hb dX11_init_54 (by decide) ?_
  refine my_newaJ hx hb (hts (.arrayClass .long) w_46) hG.1 hP hD hS hA (N' := 70) (by decide) (by decide) (Nat.le_of_ble_eq_true rfl) (Nat.le_of_ble_eq_true rfl) (Nat.le_of_ble_eq_true rfl) dX11_init_56 (fun q7 H hP hD hS => ?_)
  obtain ⟨g_13, f_13, hP, hD, hg_13, hf_13, og_13, of_13⟩ := n_ext hP hD
  have hf_13 : f_13 (k + 7) = eJ G 70 (fun _ => 0) := hf_13
  have hg_13 : gq (g_13 (k + 7)) q7 := hg_13
  have hP : va_P G.1 vwCl (wn (k + 8) g_13 f_13) H := hP
  have hD : va_D A (wn (k + 8) g_13 f_13) := hD
  refine W.widen (k := 7) (n := 7020) (by omega) (by omega) ?_
  replace hown0 := ((of_13 k (by first | exact lqA rfl | omega))).trans hown0
  replace hga0 := gq.tr ((og_13 k (by first | exact lqA rfl | omega))) hga0
  refine va_putF (D := G.1) (ci := 10) (v := .ref q7) (ty := .array .long) (C := RX11) (T := TX11) (N := 25) hx hb hts inlX11 tyX11 tyX11_ok nmX11 hown hG.1 hP hD hS k (wn_at (by first | exact lqA rfl | exact lqB rfl | omega) hga0 hown0) rfl 10 (by decide) (hts (.fieldLink RX11 29 "SwornListsModel" "value" "[J") w_118) (fun _ h9 => h9) rfl hin rfl (by decide +kernel) rfl rfl (Nat.le_of_ble_eq_true rfl) dX11_init_58 (fun H locs hP hD hS => ?_)
  obtain ⟨f_14, hP, hD, e_14, o_14⟩ := n_put (by first | exact lqA rfl | exact lqB rfl | omega) hga0 hP hD
  have hown0 : f_14 k = eO 10 [.ref q1, .ref q2, .ref q3, .long 0, .long 0, .int 0, .ref q4, .ref q5, .int 0, .ref q6, .ref q7, .int 0, .int 0, .int 0, .int 0, .null, .null, .null, .null, .null, .null, .null, .null, .null, .null] := e_14
  refine lv_aload_n hx hb dX11_init_61 rfl (lv_at hl 0 rfl) ?_
  refine lv_bipush (v := 11) hx hb dX11_init_62 (by decide) ?_
  refine my_newaI hx hb (hts (.arrayClass .int) w_72) hG.1 hP hD hS hA (N' := 11) (by decide) (by decide) (Nat.le_of_ble_eq_true rfl) (Nat.le_of_ble_eq_true rfl) (Nat.le_of_ble_eq_true rfl) dX11_init_64 (fun q8 H hP hD hS => ?_)
  obtain ⟨g_15, f_15, hP, hD, hg_15, hf_15, og_15, of_15⟩ := n_ext hP hD
  have hf_15 : f_15 (k + 8) = eI G 11 (fun _ => 0) := hf_15
  have hg_15 : gq (g_15 (k + 8)) q8 := hg_15
  have hP : va_P G.1 vwCl (wn (k + 9) g_15 f_15) H := hP
  have hD : va_D A (wn (k + 9) g_15 f_15) := hD
  refine W.widen (k := 8) (n := 7031) (by omega) (by omega) ?_
  replace hown0 := ((of_15 k (by first | exact lqA rfl | omega))).trans hown0
  replace hga0 := gq.tr ((og_15 k (by first | exact lqA rfl | omega))) hga0
  refine va_putF (D := G.1) (ci := 10) (v := .ref q8) (ty := .array .int) (C := RX11) (T := TX11) (N := 25) hx hb hts inlX11 tyX11 tyX11_ok nmX11 hown hG.1 hP hD hS k (wn_at (by first | exact lqA rfl | exact lqB rfl | omega) hga0 hown0) rfl 15 (by decide) (hts (.fieldLink RX11 33 "SwornListsModel" "boxes" "[I") w_119) (fun _ h9 => h9) rfl hin rfl (by decide +kernel) rfl rfl (Nat.le_of_ble_eq_true rfl) dX11_init_66 (fun H locs hP hD hS => ?_)
  obtain ⟨f_16, hP, hD, e_16, o_16⟩ := n_put (by first | exact lqA rfl | exact lqB rfl | omega) hga0 hP hD
  have hown0 : f_16 k = eO 10 [.ref q1, .ref q2, .ref q3, .long 0, .long 0, .int 0, .ref q4, .ref q5, .int 0, .ref q6, .ref q7, .int 0, .int 0, .int 0, .int 0, .ref q8, .null, .null, .null, .null, .null, .null, .null, .null, .null] := e_16
  refine lv_aload_n hx hb dX11_init_69 rfl (lv_at hl 0 rfl) ?_
  refine lv_bipush (v := 11) hx hb dX11_init_70 (by decide) ?_
  refine my_newaI hx hb (hts (.arrayClass .int) w_72) hG.1 hP hD hS hA (N' := 11) (by decide) (by decide) (Nat.le_of_ble_eq_true rfl) (Nat.le_of_ble_eq_true rfl) (Nat.le_of_ble_eq_true rfl) dX11_init_72 (fun q9 H hP hD hS => ?_)
  obtain ⟨g_17, f_17, hP, hD, hg_17, hf_17, og_17, of_17⟩ := n_ext hP hD
  have hf_17 : f_17 (k + 9) = eI G 11 (fun _ => 0) := hf_17
  have hg_17 : gq (g_17 (k + 9)) q9 := hg_17
  have hP : va_P G.1 vwCl (wn (k + 10) g_17 f_17) H := hP
  have hD : va_D A (wn (k + 10) g_17 f_17) := hD
  refine W.widen (k := 9) (n := 7042) (by omega) (by omega) ?_
  replace hown0 := ((of_17 k (by first | exact lqA rfl | omega))).trans hown0
  replace hga0 := gq.tr ((og_17 k (by first | exact lqA rfl | omega))) hga0
  refine va_putF (D := G.1) (ci := 10) (v := .ref q9) (ty := .array .int) (C := RX11) (T := TX11) (N := 25) hx hb hts inlX11 tyX11 tyX11_ok nmX11 hown hG.1 hP hD hS k (wn_at (by first | exact lqA rfl | exact lqB rfl | omega) hga0 hown0) rfl 16 (by decide) (hts (.fieldLink RX11 36 "SwornListsModel" "juries" "[I") w_120) (fun _ h9 => h9) rfl hin rfl (by decide +kernel) rfl rfl (Nat.le_of_ble_eq_true rfl) dX11_init_74 (fun H locs hP hD hS => ?_)
  obtain ⟨f_18, hP, hD, e_18, o_18⟩ := n_put (by first | exact lqA rfl | exact lqB rfl | omega) hga0 hP hD
  have hown0 : f_18 k = eO 10 [.ref q1, .ref q2, .ref q3, .long 0, .long 0, .int 0, .ref q4, .ref q5, .int 0, .ref q6, .ref q7, .int 0, .int 0, .int 0, .int 0, .ref q8, .ref q9, .null, .null, .null, .null, .null, .null, .null, .null] := e_18
  refine lv_aload_n hx hb dX11_init_77 rfl (lv_at hl 0 rfl) ?_
  refine lv_sipush (v := 264) hx hb dX11_init_78 (by decide) ?_
  refine my_newaI hx hb (hts (.arrayClass .int) w_72) hG.1 hP hD hS hA (N' := 264) (by decide) (by decide) (Nat.le_of_ble_eq_true rfl) (Nat.le_of_ble_eq_true rfl) (Nat.le_of_ble_eq_true rfl) dX11_init_81 (fun q10 H hP hD hS => ?_)
  obtain ⟨g_19, f_19, hP, hD, hg_19, hf_19, og_19, of_19⟩ := n_ext hP hD
  have hf_19 : f_19 (k + 10) = eI G 264 (fun _ => 0) := hf_19
  have hg_19 : gq (g_19 (k + 10)) q10 := hg_19
  have hP : va_P G.1 vwCl (wn (k + 11) g_19 f_19) H := hP
  have hD : va_D A (wn (k + 11) g_19 f_19) := hD
  refine W.widen (k := 10) (n := 7306) (by omega) (by omega) ?_
  replace hown0 := ((of_19 k (by first | exact lqA rfl | omega))).trans hown0
  replace hga0 := gq.tr ((og_19 k (by first | exact lqA rfl | omega))) hga0
  refine va_putF (D := G.1) (ci := 10) (v := .ref q10) (ty := .array .int) (C := RX11) (T := TX11) (N := 25) hx hb hts inlX11 tyX11 tyX11_ok nmX11 hown hG.1 hP hD hS k (wn_at (by first | exact lqA rfl | exact lqB rfl | omega) hga0 hown0) rfl 17 (by decide) (hts (.fieldLink RX11 39 "SwornListsModel" "drew" "[I") w_121) (fun _ h9 => h9) rfl hin rfl (by decide +kernel) rfl rfl (Nat.le_of_ble_eq_true rfl) dX11_init_83 (fun H locs hP hD hS => ?_)
  obtain ⟨f_20, hP, hD, e_20, o_20⟩ := n_put (by first | exact lqA rfl | exact lqB rfl | omega) hga0 hP hD
  have hown0 : f_20 k = eO 10 [.ref q1, .ref q2, .ref q3, .long 0, .long 0, .int 0, .ref q4, .ref q5, .int 0, .ref q6, .ref q7, .int 0, .int 0, .int 0, .int 0, .ref q8, .ref q9, .ref q10, .null, .null, .null, .null, .null, .null, .null] := e_20
  refine lv_aload_n hx hb dX11_init_86 rfl (lv_at hl 0 rfl) ?_
  refine lv_bipush (v := 11) hx hb dX11_init_87 (by decide) ?_
  refine my_newaI hx hb (hts (.arrayClass .int) w_72) hG.1 hP hD hS hA (N' := 11) (by decide) (by decide) (Nat.le_of_ble_eq_true rfl) (Nat.le_of_ble_eq_true rfl) (Nat.le_of_ble_eq_true rfl) dX11_init_89 (fun q11 H hP hD hS => ?_)
  obtain ⟨g_21, f_21, hP, hD, hg_21, hf_21, og_21, of_21⟩ := n_ext hP hD
  have hf_21 : f_21 (k + 11) = eI G 11 (fun _ => 0) := hf_21
  have hg_21 : gq (g_21 (k + 11)) q11 := hg_21
  have hP : va_P G.1 vwCl (wn (k + 12) g_21 f_21) H := hP
  have hD : va_D A (wn (k + 12) g_21 f_21) := hD
  refine W.widen (k := 11) (n := 7317) (by omega) (by omega) ?_
  replace hown0 := ((of_21 k (by first | exact lqA rfl | omega))).trans hown0
  replace hga0 := gq.tr ((og_21 k (by first | exact lqA rfl | omega))) hga0
  refine va_putF (D := G.1) (ci := 10) (v := .ref q11) (ty := .array .int) (C := RX11) (T := TX11) (N := 25) hx hb hts inlX11 tyX11 tyX11_ok nmX11 hown hG.1 hP hD hS k (wn_at (by first | exact lqA rfl | exact lqB rfl | omega) hga0 hown0) rfl 18 (by decide) (hts (.fieldLink RX11 42 "SwornListsModel" "drews" "[I") w_122) (fun _ h9 => h9) rfl hin rfl (by decide +kernel) rfl rfl (Nat.le_of_ble_eq_true rfl) dX11_init_91 (fun H locs hP hD hS => ?_)
  obtain ⟨f_22, hP, hD, e_22, o_22⟩ := n_put (by first | exact lqA rfl | exact lqB rfl | omega) hga0 hP hD
  have hown0 : f_22 k = eO 10 [.ref q1, .ref q2, .ref q3, .long 0, .long 0, .int 0, .ref q4, .ref q5, .int 0, .ref q6, .ref q7, .int 0, .int 0, .int 0, .int 0, .ref q8, .ref q9, .ref q10, .ref q11, .null, .null, .null, .null, .null, .null] := e_22
  refine lv_aload_n hx hb dX11_init_94 rfl (lv_at hl 0 rfl) ?_
  refine lv_sipush (v := 330) hx hb dX11_init_95 (by decide) ?_
  refine my_newaI hx hb (hts (.arrayClass .int) w_72) hG.1 hP hD hS hA (N' := 330) (by decide) (by decide) (Nat.le_of_ble_eq_true rfl) (Nat.le_of_ble_eq_true rfl) (Nat.le_of_ble_eq_true rfl) dX11_init_98 (fun q12 H hP hD hS => ?_)
  obtain ⟨g_23, f_23, hP, hD, hg_23, hf_23, og_23, of_23⟩ := n_ext hP hD
  have hf_23 : f_23 (k + 12) = eI G 330 (fun _ => 0) := hf_23
  have hg_23 : gq (g_23 (k + 12)) q12 := hg_23
  have hP : va_P G.1 vwCl (wn (k + 13) g_23 f_23) H := hP
  have hD : va_D A (wn (k + 13) g_23 f_23) := hD
  refine W.widen (k := 12) (n := 7647) (by omega) (by omega) ?_
  replace hown0 := ((of_23 k (by first | exact lqA rfl | omega))).trans hown0
  replace hga0 := gq.tr ((og_23 k (by first | exact lqA rfl | omega))) hga0
  refine va_putF (D := G.1) (ci := 10) (v := .ref q12) (ty := .array .int) (C := RX11) (T := TX11) (N := 25) hx hb hts inlX11 tyX11 tyX11_ok nmX11 hown hG.1 hP hD hS k (wn_at (by first | exact lqA rfl | exact lqB rfl | omega) hga0 hown0) rfl 19 (by decide) (hts (.fieldLink RX11 45 "SwornListsModel" "slips" "[I") w_123) (fun _ h9 => h9) rfl hin rfl (by decide +kernel) rfl rfl (Nat.le_of_ble_eq_true rfl) dX11_init_100 (fun H locs hP hD hS => ?_)
  obtain ⟨f_24, hP, hD, e_24, o_24⟩ := n_put (by first | exact lqA rfl | exact lqB rfl | omega) hga0 hP hD
  have hown0 : f_24 k = eO 10 [.ref q1, .ref q2, .ref q3, .long 0, .long 0, .int 0, .ref q4, .ref q5, .int 0, .ref q6, .ref q7, .int 0, .int 0, .int 0, .int 0, .ref q8, .ref q9, .ref q10, .ref q11, .ref q12, .null, .null, .null, .null, .null] := e_24
  refine lv_aload_n hx hb dX11_init_103 rfl (lv_at hl 0 rfl) ?_
  refine lv_bipush (v := 44) hx hb dX11_init_104 (by decide) ?_
  refine my_newaI hx hb (hts (.arrayClass .int) w_72) hG.1 hP hD hS hA (N' := 44) (by decide) (by decide) (Nat.le_of_ble_eq_true rfl) (Nat.le_of_ble_eq_true rfl) (Nat.le_of_ble_eq_true rfl) dX11_init_106 (fun q13 H hP hD hS => ?_)
  obtain ⟨g_25, f_25, hP, hD, hg_25, hf_25, og_25, of_25⟩ := n_ext hP hD
  have hf_25 : f_25 (k + 13) = eI G 44 (fun _ => 0) := hf_25
  have hg_25 : gq (g_25 (k + 13)) q13 := hg_25
  have hP : va_P G.1 vwCl (wn (k + 14) g_25 f_25) H := hP
  have hD : va_D A (wn (k + 14) g_25 f_25) := hD
  refine W.widen (k := 13) (n := 7691) (by omega) (by omega) ?_
  replace hown0 := ((of_25 k (by first | exact lqA rfl | omega))).trans hown0
  replace hga0 := gq.tr ((og_25 k (by first | exact lqA rfl | omega))) hga0
  refine va_putF (D := G.1) (ci := 10) (v := .ref q13) (ty := .array .int) (C := RX11) (T := TX11) (N := 25) hx hb hts inlX11 tyX11 tyX11_ok nmX11 hown hG.1 hP hD hS k (wn_at (by first | exact lqA rfl | exact lqB rfl | omega) hga0 hown0) rfl 20 (by decide) (hts (.fieldLink RX11 48 "SwornListsModel" "abouts" "[I") w_124) (fun _ h9 => h9) rfl hin rfl (by decide +kernel) rfl rfl (Nat.le_of_ble_eq_true rfl) dX11_init_108 (fun H locs hP hD hS => ?_)
  obtain ⟨f_26, hP, hD, e_26, o_26⟩ := n_put (by first | exact lqA rfl | exact lqB rfl | omega) hga0 hP hD
  have hown0 : f_26 k = eO 10 [.ref q1, .ref q2, .ref q3, .long 0, .long 0, .int 0, .ref q4, .ref q5, .int 0, .ref q6, .ref q7, .int 0, .int 0, .int 0, .int 0, .ref q8, .ref q9, .ref q10, .ref q11, .ref q12, .ref q13, .null, .null, .null, .null] := e_26
  refine lv_aload_n hx hb dX11_init_111 rfl (lv_at hl 0 rfl) ?_
  refine lv_bipush (v := 30) hx hb dX11_init_112 (by decide) ?_
  refine my_newaI hx hb (hts (.arrayClass .int) w_72) hG.1 hP hD hS hA (N' := 30) (by decide) (by decide) (Nat.le_of_ble_eq_true rfl) (Nat.le_of_ble_eq_true rfl) (Nat.le_of_ble_eq_true rfl) dX11_init_114 (fun q14 H hP hD hS => ?_)
  obtain ⟨g_27, f_27, hP, hD, hg_27, hf_27, og_27, of_27⟩ := n_ext hP hD
  have hf_27 : f_27 (k + 14) = eI G 30 (fun _ => 0) := hf_27
  have hg_27 : gq (g_27 (k + 14)) q14 := hg_27
  have hP : va_P G.1 vwCl (wn (k + 15) g_27 f_27) H := hP
  have hD : va_D A (wn (k + 15) g_27 f_27) := hD
  refine W.widen (k := 14) (n := 7721) (by omega) (by omega) ?_
  replace hown0 := ((of_27 k (by first | exact lqA rfl | omega))).trans hown0
  replace hga0 := gq.tr ((og_27 k (by first | exact lqA rfl | omega))) hga0
  refine va_putF (D := G.1) (ci := 10) (v := .ref q14) (ty := .array .int) (C := RX11) (T := TX11) (N := 25) hx hb hts inlX11 tyX11 tyX11_ok nmX11 hown hG.1 hP hD hS k (wn_at (by first | exact lqA rfl | exact lqB rfl | omega) hga0 hown0) rfl 21 (by decide) (hts (.fieldLink RX11 51 "SwornListsModel" "left" "[I") w_125) (fun _ h9 => h9) rfl hin rfl (by decide +kernel) rfl rfl (Nat.le_of_ble_eq_true rfl) dX11_init_116 (fun H locs hP hD hS => ?_)
  obtain ⟨f_28, hP, hD, e_28, o_28⟩ := n_put (by first | exact lqA rfl | exact lqB rfl | omega) hga0 hP hD
  have hown0 : f_28 k = eO 10 [.ref q1, .ref q2, .ref q3, .long 0, .long 0, .int 0, .ref q4, .ref q5, .int 0, .ref q6, .ref q7, .int 0, .int 0, .int 0, .int 0, .ref q8, .ref q9, .ref q10, .ref q11, .ref q12, .ref q13, .ref q14, .null, .null, .null] := e_28
  refine lv_aload_n hx hb dX11_init_119 rfl (lv_at hl 0 rfl) ?_
  refine lv_bipush (v := 6) hx hb dX11_init_120 (by decide) ?_
  refine my_newaI hx hb (hts (.arrayClass .int) w_72) hG.1 hP hD hS hA (N' := 6) (by decide) (by decide) (Nat.le_of_ble_eq_true rfl) (Nat.le_of_ble_eq_true rfl) (Nat.le_of_ble_eq_true rfl) dX11_init_122 (fun q15 H hP hD hS => ?_)
  obtain ⟨g_29, f_29, hP, hD, hg_29, hf_29, og_29, of_29⟩ := n_ext hP hD
  have hf_29 : f_29 (k + 15) = eI G 6 (fun _ => 0) := hf_29
  have hg_29 : gq (g_29 (k + 15)) q15 := hg_29
  have hP : va_P G.1 vwCl (wn (k + 16) g_29 f_29) H := hP
  have hD : va_D A (wn (k + 16) g_29 f_29) := hD
  refine W.widen (k := 15) (n := 7727) (by omega) (by omega) ?_
  replace hown0 := ((of_29 k (by first | exact lqA rfl | omega))).trans hown0
  replace hga0 := gq.tr ((og_29 k (by first | exact lqA rfl | omega))) hga0
  refine va_putF (D := G.1) (ci := 10) (v := .ref q15) (ty := .array .int) (C := RX11) (T := TX11) (N := 25) hx hb hts inlX11 tyX11 tyX11_ok nmX11 hown hG.1 hP hD hS k (wn_at (by first | exact lqA rfl | exact lqB rfl | omega) hga0 hown0) rfl 22 (by decide) (hts (.fieldLink RX11 54 "SwornListsModel" "which" "[I") w_126) (fun _ h9 => h9) rfl hin rfl (by decide +kernel) rfl rfl (Nat.le_of_ble_eq_true rfl) dX11_init_124 (fun H locs hP hD hS => ?_)
  obtain ⟨f_30, hP, hD, e_30, o_30⟩ := n_put (by first | exact lqA rfl | exact lqB rfl | omega) hga0 hP hD
  have hown0 : f_30 k = eO 10 [.ref q1, .ref q2, .ref q3, .long 0, .long 0, .int 0, .ref q4, .ref q5, .int 0, .ref q6, .ref q7, .int 0, .int 0, .int 0, .int 0, .ref q8, .ref q9, .ref q10, .ref q11, .ref q12, .ref q13, .ref q14, .ref q15, .null, .null] := e_30
  refine lv_aload_n hx hb dX11_init_127 rfl (lv_at hl 0 rfl) ?_
  refine lv_bipush (v := 6) hx hb dX11_init_128 (by decide) ?_
  refine my_newaI hx hb (hts (.arrayClass .int) w_72) hG.1 hP hD hS hA (N' := 6) (by decide) (by decide) (Nat.le_of_ble_eq_true rfl) (Nat.le_of_ble_eq_true rfl) (Nat.le_of_ble_eq_true rfl) dX11_init_130 (fun q16 H hP hD hS => ?_)
  obtain ⟨g_31, f_31, hP, hD, hg_31, hf_31, og_31, of_31⟩ := n_ext hP hD
  have hf_31 : f_31 (k + 16) = eI G 6 (fun _ => 0) := hf_31
  have hg_31 : gq (g_31 (k + 16)) q16 := hg_31
  have hP : va_P G.1 vwCl (wn (k + 17) g_31 f_31) H := hP
  have hD : va_D A (wn (k + 17) g_31 f_31) := hD
  refine W.widen (k := 16) (n := 7733) (by omega) (by omega) ?_
  replace hown0 := ((of_31 k (by first | exact lqA rfl | omega))).trans hown0
  replace hga0 := gq.tr ((og_31 k (by first | exact lqA rfl | omega))) hga0
  refine va_putF (D := G.1) (ci := 10) (v := .ref q16) (ty := .array .int) (C := RX11) (T := TX11) (N := 25) hx hb hts inlX11 tyX11 tyX11_ok nmX11 hown hG.1 hP hD hS k (wn_at (by first | exact lqA rfl | exact lqB rfl | omega) hga0 hown0) rfl 23 (by decide) (hts (.fieldLink RX11 57 "SwornListsModel" "waits6" "[I") w_127) (fun _ h9 => h9) rfl hin rfl (by decide +kernel) rfl rfl (Nat.le_of_ble_eq_true rfl) dX11_init_132 (fun H locs hP hD hS => ?_)
  obtain ⟨f_32, hP, hD, e_32, o_32⟩ := n_put (by first | exact lqA rfl | exact lqB rfl | omega) hga0 hP hD
  have hown0 : f_32 k = eO 10 [.ref q1, .ref q2, .ref q3, .long 0, .long 0, .int 0, .ref q4, .ref q5, .int 0, .ref q6, .ref q7, .int 0, .int 0, .int 0, .int 0, .ref q8, .ref q9, .ref q10, .ref q11, .ref q12, .ref q13, .ref q14, .ref q15, .ref q16, .null] := e_32
  refine lv_aload_n hx hb dX11_init_135 rfl (lv_at hl 0 rfl) ?_
  refine lv_bipush (v := 6) hx hb dX11_init_136 (by decide) ?_
  refine my_newaI hx hb (hts (.arrayClass .int) w_72) hG.1 hP hD hS hA (N' := 6) (by decide) (by decide) (Nat.le_of_ble_eq_true rfl) (Nat.le_of_ble_eq_true rfl) (Nat.le_of_ble_eq_true rfl) dX11_init_138 (fun q17 H hP hD hS => ?_)
  obtain ⟨g_33, f_33, hP, hD, hg_33, hf_33, og_33, of_33⟩ := n_ext hP hD
  have hf_33 : f_33 (k + 17) = eI G 6 (fun _ => 0) := hf_33
  have hg_33 : gq (g_33 (k + 17)) q17 := hg_33
  have hP : va_P G.1 vwCl (wn (k + 18) g_33 f_33) H := hP
  have hD : va_D A (wn (k + 18) g_33 f_33) := hD
  refine W.widen (k := 17) (n := 7739) (by omega) (by omega) ?_
  replace hown0 := ((of_33 k (by first | exact lqA rfl | omega))).trans hown0
  replace hga0 := gq.tr ((og_33 k (by first | exact lqA rfl | omega))) hga0
  refine va_putF (D := G.1) (ci := 10) (v := .ref q17) (ty := .array .int) (C := RX11) (T := TX11) (N := 25) hx hb hts inlX11 tyX11 tyX11_ok nmX11 hown hG.1 hP hD hS k (wn_at (by first | exact lqA rfl | exact lqB rfl | omega) hga0 hown0) rfl 24 (by decide) (hts (.fieldLink RX11 60 "SwornListsModel" "best" "[I") w_128) (fun _ h9 => h9) rfl hin rfl (by decide +kernel) rfl rfl (Nat.le_of_ble_eq_true rfl) dX11_init_140 (fun H locs hP hD hS => ?_)
  obtain ⟨f_34, hP, hD, e_34, o_34⟩ := n_put (by first | exact lqA rfl | exact lqB rfl | omega) hga0 hP hD
  have hown0 : f_34 k = eO 10 [.ref q1, .ref q2, .ref q3, .long 0, .long 0, .int 0, .ref q4, .ref q5, .int 0, .ref q6, .ref q7, .int 0, .int 0, .int 0, .int 0, .ref q8, .ref q9, .ref q10, .ref q11, .ref q12, .ref q13, .ref q14, .ref q15, .ref q16, .ref q17] := e_34
  refine lv_aload_n hx hb dX11_init_143 rfl (lv_at hl 0 rfl) ?_
  refine va_get (D := G.1) (ci := 10) (v := .ref q1) (C := RX11) (T := TX11) (N := 25) hx hb hts inlX11 hown hG.1 hP k (wn_at (by first | exact lqA rfl | exact lqB rfl | omega) hga0 hown0) rfl 0 (by decide) (hts (.fieldLink RX11 7 "SwornListsModel" "st" "[I") w_112) (fun _ h9 => h9) rfl dX11_init_144 ?_
  refine lv_iconst (v := 5) hx hb dX11_init_147 (by decide) ?_
  refine lv_iconst (v := 5) hx hb dX11_init_148 (by decide) ?_
  replace hf_1 := ((o_34 (k + 1) (by first | exact lqC rfl | exact lqE rfl | omega)).trans ((of_33 (k + 1) (by first | exact lqB rfl | omega)).trans ((o_32 (k + 1) (by first | exact lqC rfl | exact lqE rfl | omega)).trans ((of_31 (k + 1) (by first | exact lqB rfl | omega)).trans ((o_30 (k + 1) (by first | exact lqC rfl | exact lqE rfl | omega)).trans ((of_29 (k + 1) (by first | exact lqB rfl | omega)).trans ((o_28 (k + 1) (by first | exact lqC rfl | exact lqE rfl | omega)).trans ((of_27 (k + 1) (by first | exact lqB rfl | omega)).trans ((o_26 (k + 1) (by first | exact lqC rfl | exact lqE rfl | omega)).trans ((of_25 (k + 1) (by first | exact lqB rfl | omega)).trans ((o_24 (k + 1) (by first | exact lqC rfl | exact lqE rfl | omega)).trans ((of_23 (k + 1) (by first | exact lqB rfl | omega)).trans ((o_22 (k + 1) (by first | exact lqC rfl | exact lqE rfl | omega)).trans ((of_21 (k + 1) (by first | exact lqB rfl | omega)).trans ((o_20 (k + 1) (by first | exact lqC rfl | exact lqE rfl | omega)).trans ((of_19 (k + 1) (by first | exact lqB rfl | omega)).trans ((o_18 (k + 1) (by first | exact lqC rfl | exact lqE rfl | omega)).trans ((of_17 (k + 1) (by first | exact lqB rfl | omega)).trans ((o_16 (k + 1) (by first | exact lqC rfl | exact lqE rfl | omega)).trans ((of_15 (k + 1) (by first | exact lqB rfl | omega)).trans ((o_14 (k + 1) (by first | exact lqC rfl | exact lqE rfl | omega)).trans ((of_13 (k + 1) (by first | exact lqB rfl | omega)).trans ((o_12 (k + 1) (by first | exact lqC rfl | exact lqE rfl | omega)).trans ((of_11 (k + 1) (by first | exact lqB rfl | omega)).trans ((o_10 (k + 1) (by first | exact lqC rfl | exact lqE rfl | omega)).trans ((of_9 (k + 1) (by first | exact lqB rfl | omega)).trans ((o_8 (k + 1) (by first | exact lqC rfl | exact lqE rfl | omega)).trans ((of_7 (k + 1) (by first | exact lqB rfl | omega)).trans ((o_6 (k + 1) (by first | exact lqC rfl | exact lqE rfl | omega)).trans ((of_5 (k + 1) (by first | exact lqB rfl | omega)).trans ((o_4 (k + 1) (by first | exact lqC rfl | exact lqE rfl | omega)).trans ((of_3 (k + 1) (by first | exact lqB rfl | omega)).trans ((o_2 (k + 1) (by first | exact lqC rfl | exact lqE rfl | omega))))))))))))))))))))))))))))))))))).trans hf_1
  replace hg_1 := gq.tr ((og_33 (k + 1) (by first | exact lqB rfl | omega)).trans ((og_31 (k + 1) (by first | exact lqB rfl | omega)).trans ((og_29 (k + 1) (by first | exact lqB rfl | omega)).trans ((og_27 (k + 1) (by first | exact lqB rfl | omega)).trans ((og_25 (k + 1) (by first | exact lqB rfl | omega)).trans ((og_23 (k + 1) (by first | exact lqB rfl | omega)).trans ((og_21 (k + 1) (by first | exact lqB rfl | omega)).trans ((og_19 (k + 1) (by first | exact lqB rfl | omega)).trans ((og_17 (k + 1) (by first | exact lqB rfl | omega)).trans ((og_15 (k + 1) (by first | exact lqB rfl | omega)).trans ((og_13 (k + 1) (by first | exact lqB rfl | omega)).trans ((og_11 (k + 1) (by first | exact lqB rfl | omega)).trans ((og_9 (k + 1) (by first | exact lqB rfl | omega)).trans ((og_7 (k + 1) (by first | exact lqB rfl | omega)).trans ((og_5 (k + 1) (by first | exact lqB rfl | omega)).trans ((og_3 (k + 1) (by first | exact lqB rfl | omega)))))))))))))))))) hg_1
  refine va_iast hx hb hG.1 hP hD hS (k + 1) 0 (wn_at (by first | exact lqA rfl | exact lqB rfl | omega) hg_1 hf_1) rfl (by unfold vp_in; decide) dX11_init_149 (fun H locs hP hD hS => ?_)
  obtain ⟨f_35, hP, hD, e_35, o_35⟩ := n_put (by first | exact lqA rfl | exact lqB rfl | omega) hg_1 hP hD
  have hf_1 : f_35 (k + 1) = eI G 2246 (upd (fun _ => 0) (Int32.toNatClampNeg 5) 5) := e_35
  refine lv_aload_n hx hb dX11_init_150 rfl (lv_at hl 0 rfl) ?_
  replace hown0 := ((o_35 k (by first | exact lqD rfl | omega))).trans hown0
  refine va_get (D := G.1) (ci := 10) (v := .ref q1) (C := RX11) (T := TX11) (N := 25) hx hb hts inlX11 hown hG.1 hP k (wn_at (by first | exact lqA rfl | exact lqB rfl | omega) hga0 hown0) rfl 0 (by decide) (hts (.fieldLink RX11 7 "SwornListsModel" "st" "[I") w_112) (fun _ h9 => h9) rfl dX11_init_151 ?_
  refine lv_bipush (v := 6) hx hb dX11_init_154 (by decide) ?_
  refine lv_bipush (v := 20) hx hb dX11_init_156 (by decide) ?_
  refine va_iast hx hb hG.1 hP hD hS (k + 1) 0 (wn_at (by first | exact lqA rfl | exact lqB rfl | omega) hg_1 hf_1) rfl (by unfold vp_in; decide) dX11_init_158 (fun H locs hP hD hS => ?_)
  obtain ⟨f_36, hP, hD, e_36, o_36⟩ := n_put (by first | exact lqA rfl | exact lqB rfl | omega) hg_1 hP hD
  have hf_1 : f_36 (k + 1) = eI G 2246 (upd (upd (fun _ => 0) (Int32.toNatClampNeg 5) 5) (Int32.toNatClampNeg 6) 20) := e_36
  refine lv_aload_n hx hb dX11_init_159 rfl (lv_at hl 0 rfl) ?_
  refine lv_lconst (v := 1) hx hb dX11_init_160 (by decide) ?_
  replace hown0 := ((o_36 k (by first | exact lqD rfl | omega))).trans hown0
  refine va_put (D := G.1) (ci := 10) (v := .long 1) (ty := .long) (C := RX11) (T := TX11) (N := 25) hx hb hts inlX11 tyX11 tyX11_ok nmX11 hown hG.1 hP hD hS k (wn_at (by first | exact lqA rfl | exact lqB rfl | omega) hga0 hown0) rfl 4 (by decide) (hts (.fieldLink RX11 63 "SwornListsModel" "below" "J") w_129) (fun _ h9 => h9) rfl (by decide +kernel) rfl rfl (Nat.le_of_ble_eq_true rfl) dX11_init_161 (fun H locs hP hD hS => ?_)
  obtain ⟨f_37, hP, hD, e_37, o_37⟩ := n_put (by first | exact lqA rfl | exact lqB rfl | omega) hga0 hP hD
  have hown0 : f_37 k = eO 10 [.ref q1, .ref q2, .ref q3, .long 0, .long 1, .int 0, .ref q4, .ref q5, .int 0, .ref q6, .ref q7, .int 0, .int 0, .int 0, .int 0, .ref q8, .ref q9, .ref q10, .ref q11, .ref q12, .ref q13, .ref q14, .ref q15, .ref q16, .ref q17] := e_37
  replace hg_3 := gq.tr ((og_33 (k + 2) (by first | exact lqB rfl | omega)).trans ((og_31 (k + 2) (by first | exact lqB rfl | omega)).trans ((og_29 (k + 2) (by first | exact lqB rfl | omega)).trans ((og_27 (k + 2) (by first | exact lqB rfl | omega)).trans ((og_25 (k + 2) (by first | exact lqB rfl | omega)).trans ((og_23 (k + 2) (by first | exact lqB rfl | omega)).trans ((og_21 (k + 2) (by first | exact lqB rfl | omega)).trans ((og_19 (k + 2) (by first | exact lqB rfl | omega)).trans ((og_17 (k + 2) (by first | exact lqB rfl | omega)).trans ((og_15 (k + 2) (by first | exact lqB rfl | omega)).trans ((og_13 (k + 2) (by first | exact lqB rfl | omega)).trans ((og_11 (k + 2) (by first | exact lqB rfl | omega)).trans ((og_9 (k + 2) (by first | exact lqB rfl | omega)).trans ((og_7 (k + 2) (by first | exact lqB rfl | omega)).trans ((og_5 (k + 2) (by first | exact lqB rfl | omega))))))))))))))))) hg_3
  replace hg_5 := gq.tr ((og_33 (k + 3) (by first | exact lqB rfl | omega)).trans ((og_31 (k + 3) (by first | exact lqB rfl | omega)).trans ((og_29 (k + 3) (by first | exact lqB rfl | omega)).trans ((og_27 (k + 3) (by first | exact lqB rfl | omega)).trans ((og_25 (k + 3) (by first | exact lqB rfl | omega)).trans ((og_23 (k + 3) (by first | exact lqB rfl | omega)).trans ((og_21 (k + 3) (by first | exact lqB rfl | omega)).trans ((og_19 (k + 3) (by first | exact lqB rfl | omega)).trans ((og_17 (k + 3) (by first | exact lqB rfl | omega)).trans ((og_15 (k + 3) (by first | exact lqB rfl | omega)).trans ((og_13 (k + 3) (by first | exact lqB rfl | omega)).trans ((og_11 (k + 3) (by first | exact lqB rfl | omega)).trans ((og_9 (k + 3) (by first | exact lqB rfl | omega)).trans ((og_7 (k + 3) (by first | exact lqB rfl | omega)))))))))))))))) hg_5
  replace hg_7 := gq.tr ((og_33 (k + 4) (by first | exact lqB rfl | omega)).trans ((og_31 (k + 4) (by first | exact lqB rfl | omega)).trans ((og_29 (k + 4) (by first | exact lqB rfl | omega)).trans ((og_27 (k + 4) (by first | exact lqB rfl | omega)).trans ((og_25 (k + 4) (by first | exact lqB rfl | omega)).trans ((og_23 (k + 4) (by first | exact lqB rfl | omega)).trans ((og_21 (k + 4) (by first | exact lqB rfl | omega)).trans ((og_19 (k + 4) (by first | exact lqB rfl | omega)).trans ((og_17 (k + 4) (by first | exact lqB rfl | omega)).trans ((og_15 (k + 4) (by first | exact lqB rfl | omega)).trans ((og_13 (k + 4) (by first | exact lqB rfl | omega)).trans ((og_11 (k + 4) (by first | exact lqB rfl | omega)).trans ((og_9 (k + 4) (by first | exact lqB rfl | omega))))))))))))))) hg_7
  replace hg_9 := gq.tr ((og_33 (k + 5) (by first | exact lqB rfl | omega)).trans ((og_31 (k + 5) (by first | exact lqB rfl | omega)).trans ((og_29 (k + 5) (by first | exact lqB rfl | omega)).trans ((og_27 (k + 5) (by first | exact lqB rfl | omega)).trans ((og_25 (k + 5) (by first | exact lqB rfl | omega)).trans ((og_23 (k + 5) (by first | exact lqB rfl | omega)).trans ((og_21 (k + 5) (by first | exact lqB rfl | omega)).trans ((og_19 (k + 5) (by first | exact lqB rfl | omega)).trans ((og_17 (k + 5) (by first | exact lqB rfl | omega)).trans ((og_15 (k + 5) (by first | exact lqB rfl | omega)).trans ((og_13 (k + 5) (by first | exact lqB rfl | omega)).trans ((og_11 (k + 5) (by first | exact lqB rfl | omega)))))))))))))) hg_9
  replace hg_11 := gq.tr ((og_33 (k + 6) (by first | exact lqB rfl | omega)).trans ((og_31 (k + 6) (by first | exact lqB rfl | omega)).trans ((og_29 (k + 6) (by first | exact lqB rfl | omega)).trans ((og_27 (k + 6) (by first | exact lqB rfl | omega)).trans ((og_25 (k + 6) (by first | exact lqB rfl | omega)).trans ((og_23 (k + 6) (by first | exact lqB rfl | omega)).trans ((og_21 (k + 6) (by first | exact lqB rfl | omega)).trans ((og_19 (k + 6) (by first | exact lqB rfl | omega)).trans ((og_17 (k + 6) (by first | exact lqB rfl | omega)).trans ((og_15 (k + 6) (by first | exact lqB rfl | omega)).trans ((og_13 (k + 6) (by first | exact lqB rfl | omega))))))))))))) hg_11
  replace hg_13 := gq.tr ((og_33 (k + 7) (by first | exact lqB rfl | omega)).trans ((og_31 (k + 7) (by first | exact lqB rfl | omega)).trans ((og_29 (k + 7) (by first | exact lqB rfl | omega)).trans ((og_27 (k + 7) (by first | exact lqB rfl | omega)).trans ((og_25 (k + 7) (by first | exact lqB rfl | omega)).trans ((og_23 (k + 7) (by first | exact lqB rfl | omega)).trans ((og_21 (k + 7) (by first | exact lqB rfl | omega)).trans ((og_19 (k + 7) (by first | exact lqB rfl | omega)).trans ((og_17 (k + 7) (by first | exact lqB rfl | omega)).trans ((og_15 (k + 7) (by first | exact lqB rfl | omega)))))))))))) hg_13
  replace hg_15 := gq.tr ((og_33 (k + 8) (by first | exact lqB rfl | omega)).trans ((og_31 (k + 8) (by first | exact lqB rfl | omega)).trans ((og_29 (k + 8) (by first | exact lqB rfl | omega)).trans ((og_27 (k + 8) (by first | exact lqB rfl | omega)).trans ((og_25 (k + 8) (by first | exact lqB rfl | omega)).trans ((og_23 (k + 8) (by first | exact lqB rfl | omega)).trans ((og_21 (k + 8) (by first | exact lqB rfl | omega)).trans ((og_19 (k + 8) (by first | exact lqB rfl | omega)).trans ((og_17 (k + 8) (by first | exact lqB rfl | omega))))))))))) hg_15
  replace hg_17 := gq.tr ((og_33 (k + 9) (by first | exact lqB rfl | omega)).trans ((og_31 (k + 9) (by first | exact lqB rfl | omega)).trans ((og_29 (k + 9) (by first | exact lqB rfl | omega)).trans ((og_27 (k + 9) (by first | exact lqB rfl | omega)).trans ((og_25 (k + 9) (by first | exact lqB rfl | omega)).trans ((og_23 (k + 9) (by first | exact lqB rfl | omega)).trans ((og_21 (k + 9) (by first | exact lqB rfl | omega)).trans ((og_19 (k + 9) (by first | exact lqB rfl | omega)))))))))) hg_17
  replace hg_19 := gq.tr ((og_33 (k + 10) (by first | exact lqB rfl | omega)).trans ((og_31 (k + 10) (by first | exact lqB rfl | omega)).trans ((og_29 (k + 10) (by first | exact lqB rfl | omega)).trans ((og_27 (k + 10) (by first | exact lqB rfl | omega)).trans ((og_25 (k + 10) (by first | exact lqB rfl | omega)).trans ((og_23 (k + 10) (by first | exact lqB rfl | omega)).trans ((og_21 (k + 10) (by first | exact lqB rfl | omega))))))))) hg_19
  replace hg_21 := gq.tr ((og_33 (k + 11) (by first | exact lqB rfl | omega)).trans ((og_31 (k + 11) (by first | exact lqB rfl | omega)).trans ((og_29 (k + 11) (by first | exact lqB rfl | omega)).trans ((og_27 (k + 11) (by first | exact lqB rfl | omega)).trans ((og_25 (k + 11) (by first | exact lqB rfl | omega)).trans ((og_23 (k + 11) (by first | exact lqB rfl | omega)))))))) hg_21
  replace hg_23 := gq.tr ((og_33 (k + 12) (by first | exact lqB rfl | omega)).trans ((og_31 (k + 12) (by first | exact lqB rfl | omega)).trans ((og_29 (k + 12) (by first | exact lqB rfl | omega)).trans ((og_27 (k + 12) (by first | exact lqB rfl | omega)).trans ((og_25 (k + 12) (by first | exact lqB rfl | omega))))))) hg_23
  replace hg_25 := gq.tr ((og_33 (k + 13) (by first | exact lqB rfl | omega)).trans ((og_31 (k + 13) (by first | exact lqB rfl | omega)).trans ((og_29 (k + 13) (by first | exact lqB rfl | omega)).trans ((og_27 (k + 13) (by first | exact lqB rfl | omega)))))) hg_25
  replace hg_27 := gq.tr ((og_33 (k + 14) (by first | exact lqB rfl | omega)).trans ((og_31 (k + 14) (by first | exact lqB rfl | omega)).trans ((og_29 (k + 14) (by first | exact lqB rfl | omega))))) hg_27
  replace hg_29 := gq.tr ((og_33 (k + 15) (by first | exact lqB rfl | omega)).trans ((og_31 (k + 15) (by first | exact lqB rfl | omega)))) hg_29
  replace hg_31 := gq.tr ((og_33 (k + 16) (by first | exact lqB rfl | omega))) hg_31
  replace hf_1 := ((o_37 (k + 1) (by first | exact lqC rfl | exact lqE rfl | omega))).trans hf_1
  replace hf_3 := ((o_37 (k + 2) (by first | exact lqC rfl | exact lqE rfl | omega)).trans ((o_36 (k + 2) (by first | exact lqC rfl | exact lqE rfl | omega)).trans ((o_35 (k + 2) (by first | exact lqC rfl | exact lqE rfl | omega)).trans ((o_34 (k + 2) (by first | exact lqC rfl | exact lqE rfl | omega)).trans ((of_33 (k + 2) (by first | exact lqB rfl | omega)).trans ((o_32 (k + 2) (by first | exact lqC rfl | exact lqE rfl | omega)).trans ((of_31 (k + 2) (by first | exact lqB rfl | omega)).trans ((o_30 (k + 2) (by first | exact lqC rfl | exact lqE rfl | omega)).trans ((of_29 (k + 2) (by first | exact lqB rfl | omega)).trans ((o_28 (k + 2) (by first | exact lqC rfl | exact lqE rfl | omega)).trans ((of_27 (k + 2) (by first | exact lqB rfl | omega)).trans ((o_26 (k + 2) (by first | exact lqC rfl | exact lqE rfl | omega)).trans ((of_25 (k + 2) (by first | exact lqB rfl | omega)).trans ((o_24 (k + 2) (by first | exact lqC rfl | exact lqE rfl | omega)).trans ((of_23 (k + 2) (by first | exact lqB rfl | omega)).trans ((o_22 (k + 2) (by first | exact lqC rfl | exact lqE rfl | omega)).trans ((of_21 (k + 2) (by first | exact lqB rfl | omega)).trans ((o_20 (k + 2) (by first | exact lqC rfl | exact lqE rfl | omega)).trans ((of_19 (k + 2) (by first | exact lqB rfl | omega)).trans ((o_18 (k + 2) (by first | exact lqC rfl | exact lqE rfl | omega)).trans ((of_17 (k + 2) (by first | exact lqB rfl | omega)).trans ((o_16 (k + 2) (by first | exact lqC rfl | exact lqE rfl | omega)).trans ((of_15 (k + 2) (by first | exact lqB rfl | omega)).trans ((o_14 (k + 2) (by first | exact lqC rfl | exact lqE rfl | omega)).trans ((of_13 (k + 2) (by first | exact lqB rfl | omega)).trans ((o_12 (k + 2) (by first | exact lqC rfl | exact lqE rfl | omega)).trans ((of_11 (k + 2) (by first | exact lqB rfl | omega)).trans ((o_10 (k + 2) (by first | exact lqC rfl | exact lqE rfl | omega)).trans ((of_9 (k + 2) (by first | exact lqB rfl | omega)).trans ((o_8 (k + 2) (by first | exact lqC rfl | exact lqE rfl | omega)).trans ((of_7 (k + 2) (by first | exact lqB rfl | omega)).trans ((o_6 (k + 2) (by first | exact lqC rfl | exact lqE rfl | omega)).trans ((of_5 (k + 2) (by first | exact lqB rfl | omega)).trans ((o_4 (k + 2) (by first | exact lqC rfl | exact lqE rfl | omega)))))))))))))))))))))))))))))))))))).trans hf_3
  replace hf_5 := ((o_37 (k + 3) (by first | exact lqC rfl | exact lqE rfl | omega)).trans ((o_36 (k + 3) (by first | exact lqC rfl | exact lqE rfl | omega)).trans ((o_35 (k + 3) (by first | exact lqC rfl | exact lqE rfl | omega)).trans ((o_34 (k + 3) (by first | exact lqC rfl | exact lqE rfl | omega)).trans ((of_33 (k + 3) (by first | exact lqB rfl | omega)).trans ((o_32 (k + 3) (by first | exact lqC rfl | exact lqE rfl | omega)).trans ((of_31 (k + 3) (by first | exact lqB rfl | omega)).trans ((o_30 (k + 3) (by first | exact lqC rfl | exact lqE rfl | omega)).trans ((of_29 (k + 3) (by first | exact lqB rfl | omega)).trans ((o_28 (k + 3) (by first | exact lqC rfl | exact lqE rfl | omega)).trans ((of_27 (k + 3) (by first | exact lqB rfl | omega)).trans ((o_26 (k + 3) (by first | exact lqC rfl | exact lqE rfl | omega)).trans ((of_25 (k + 3) (by first | exact lqB rfl | omega)).trans ((o_24 (k + 3) (by first | exact lqC rfl | exact lqE rfl | omega)).trans ((of_23 (k + 3) (by first | exact lqB rfl | omega)).trans ((o_22 (k + 3) (by first | exact lqC rfl | exact lqE rfl | omega)).trans ((of_21 (k + 3) (by first | exact lqB rfl | omega)).trans ((o_20 (k + 3) (by first | exact lqC rfl | exact lqE rfl | omega)).trans ((of_19 (k + 3) (by first | exact lqB rfl | omega)).trans ((o_18 (k + 3) (by first | exact lqC rfl | exact lqE rfl | omega)).trans ((of_17 (k + 3) (by first | exact lqB rfl | omega)).trans ((o_16 (k + 3) (by first | exact lqC rfl | exact lqE rfl | omega)).trans ((of_15 (k + 3) (by first | exact lqB rfl | omega)).trans ((o_14 (k + 3) (by first | exact lqC rfl | exact lqE rfl | omega)).trans ((of_13 (k + 3) (by first | exact lqB rfl | omega)).trans ((o_12 (k + 3) (by first | exact lqC rfl | exact lqE rfl | omega)).trans ((of_11 (k + 3) (by first | exact lqB rfl | omega)).trans ((o_10 (k + 3) (by first | exact lqC rfl | exact lqE rfl | omega)).trans ((of_9 (k + 3) (by first | exact lqB rfl | omega)).trans ((o_8 (k + 3) (by first | exact lqC rfl | exact lqE rfl | omega)).trans ((of_7 (k + 3) (by first | exact lqB rfl | omega)).trans ((o_6 (k + 3) (by first | exact lqC rfl | exact lqE rfl | omega)))))))))))))))))))))))))))))))))).trans hf_5
  replace hf_7 := ((o_37 (k + 4) (by first | exact lqC rfl | exact lqE rfl | omega)).trans ((o_36 (k + 4) (by first | exact lqC rfl | exact lqE rfl | omega)).trans ((o_35 (k + 4) (by first | exact lqC rfl | exact lqE rfl | omega)).trans ((o_34 (k + 4) (by first | exact lqC rfl | exact lqE rfl | omega)).trans ((of_33 (k + 4) (by first | exact lqB rfl | omega)).trans ((o_32 (k + 4) (by first | exact lqC rfl | exact lqE rfl | omega)).trans ((of_31 (k + 4) (by first | exact lqB rfl | omega)).trans ((o_30 (k + 4) (by first | exact lqC rfl | exact lqE rfl | omega)).trans ((of_29 (k + 4) (by first | exact lqB rfl | omega)).trans ((o_28 (k + 4) (by first | exact lqC rfl | exact lqE rfl | omega)).trans ((of_27 (k + 4) (by first | exact lqB rfl | omega)).trans ((o_26 (k + 4) (by first | exact lqC rfl | exact lqE rfl | omega)).trans ((of_25 (k + 4) (by first | exact lqB rfl | omega)).trans ((o_24 (k + 4) (by first | exact lqC rfl | exact lqE rfl | omega)).trans ((of_23 (k + 4) (by first | exact lqB rfl | omega)).trans ((o_22 (k + 4) (by first | exact lqC rfl | exact lqE rfl | omega)).trans ((of_21 (k + 4) (by first | exact lqB rfl | omega)).trans ((o_20 (k + 4) (by first | exact lqC rfl | exact lqE rfl | omega)).trans ((of_19 (k + 4) (by first | exact lqB rfl | omega)).trans ((o_18 (k + 4) (by first | exact lqC rfl | exact lqE rfl | omega)).trans ((of_17 (k + 4) (by first | exact lqB rfl | omega)).trans ((o_16 (k + 4) (by first | exact lqC rfl | exact lqE rfl | omega)).trans ((of_15 (k + 4) (by first | exact lqB rfl | omega)).trans ((o_14 (k + 4) (by first | exact lqC rfl | exact lqE rfl | omega)).trans ((of_13 (k + 4) (by first | exact lqB rfl | omega)).trans ((o_12 (k + 4) (by first | exact lqC rfl | exact lqE rfl | omega)).trans ((of_11 (k + 4) (by first | exact lqB rfl | omega)).trans ((o_10 (k + 4) (by first | exact lqC rfl | exact lqE rfl | omega)).trans ((of_9 (k + 4) (by first | exact lqB rfl | omega)).trans ((o_8 (k + 4) (by first | exact lqC rfl | exact lqE rfl | omega)))))))))))))))))))))))))))))))).trans hf_7
  replace hf_9 := ((o_37 (k + 5) (by first | exact lqC rfl | exact lqE rfl | omega)).trans ((o_36 (k + 5) (by first | exact lqC rfl | exact lqE rfl | omega)).trans ((o_35 (k + 5) (by first | exact lqC rfl | exact lqE rfl | omega)).trans ((o_34 (k + 5) (by first | exact lqC rfl | exact lqE rfl | omega)).trans ((of_33 (k + 5) (by first | exact lqB rfl | omega)).trans ((o_32 (k + 5) (by first | exact lqC rfl | exact lqE rfl | omega)).trans ((of_31 (k + 5) (by first | exact lqB rfl | omega)).trans ((o_30 (k + 5) (by first | exact lqC rfl | exact lqE rfl | omega)).trans ((of_29 (k + 5) (by first | exact lqB rfl | omega)).trans ((o_28 (k + 5) (by first | exact lqC rfl | exact lqE rfl | omega)).trans ((of_27 (k + 5) (by first | exact lqB rfl | omega)).trans ((o_26 (k + 5) (by first | exact lqC rfl | exact lqE rfl | omega)).trans ((of_25 (k + 5) (by first | exact lqB rfl | omega)).trans ((o_24 (k + 5) (by first | exact lqC rfl | exact lqE rfl | omega)).trans ((of_23 (k + 5) (by first | exact lqB rfl | omega)).trans ((o_22 (k + 5) (by first | exact lqC rfl | exact lqE rfl | omega)).trans ((of_21 (k + 5) (by first | exact lqB rfl | omega)).trans ((o_20 (k + 5) (by first | exact lqC rfl | exact lqE rfl | omega)).trans ((of_19 (k + 5) (by first | exact lqB rfl | omega)).trans ((o_18 (k + 5) (by first | exact lqC rfl | exact lqE rfl | omega)).trans ((of_17 (k + 5) (by first | exact lqB rfl | omega)).trans ((o_16 (k + 5) (by first | exact lqC rfl | exact lqE rfl | omega)).trans ((of_15 (k + 5) (by first | exact lqB rfl | omega)).trans ((o_14 (k + 5) (by first | exact lqC rfl | exact lqE rfl | omega)).trans ((of_13 (k + 5) (by first | exact lqB rfl | omega)).trans ((o_12 (k + 5) (by first | exact lqC rfl | exact lqE rfl | omega)).trans ((of_11 (k + 5) (by first | exact lqB rfl | omega)).trans ((o_10 (k + 5) (by first | exact lqC rfl | exact lqE rfl | omega)))))))))))))))))))))))))))))).trans hf_9
  replace hf_11 := ((o_37 (k + 6) (by first | exact lqC rfl | exact lqE rfl | omega)).trans ((o_36 (k + 6) (by first | exact lqC rfl | exact lqE rfl | omega)).trans ((o_35 (k + 6) (by first | exact lqC rfl | exact lqE rfl | omega)).trans ((o_34 (k + 6) (by first | exact lqC rfl | exact lqE rfl | omega)).trans ((of_33 (k + 6) (by first | exact lqB rfl | omega)).trans ((o_32 (k + 6) (by first | exact lqC rfl | exact lqE rfl | omega)).trans ((of_31 (k + 6) (by first | exact lqB rfl | omega)).trans ((o_30 (k + 6) (by first | exact lqC rfl | exact lqE rfl | omega)).trans ((of_29 (k + 6) (by first | exact lqB rfl | omega)).trans ((o_28 (k + 6) (by first | exact lqC rfl | exact lqE rfl | omega)).trans ((of_27 (k + 6) (by first | exact lqB rfl | omega)).trans ((o_26 (k + 6) (by first | exact lqC rfl | exact lqE rfl | omega)).trans ((of_25 (k + 6) (by first | exact lqB rfl | omega)).trans ((o_24 (k + 6) (by first | exact lqC rfl | exact lqE rfl | omega)).trans ((of_23 (k + 6) (by first | exact lqB rfl | omega)).trans ((o_22 (k + 6) (by first | exact lqC rfl | exact lqE rfl | omega)).trans ((of_21 (k + 6) (by first | exact lqB rfl | omega)).trans ((o_20 (k + 6) (by first | exact lqC rfl | exact lqE rfl | omega)).trans ((of_19 (k + 6) (by first | exact lqB rfl | omega)).trans ((o_18 (k + 6) (by first | exact lqC rfl | exact lqE rfl | omega)).trans ((of_17 (k + 6) (by first | exact lqB rfl | omega)).trans ((o_16 (k + 6) (by first | exact lqC rfl | exact lqE rfl | omega)).trans ((of_15 (k + 6) (by first | exact lqB rfl | omega)).trans ((o_14 (k + 6) (by first | exact lqC rfl | exact lqE rfl | omega)).trans ((of_13 (k + 6) (by first | exact lqB rfl | omega)).trans ((o_12 (k + 6) (by first | exact lqC rfl | exact lqE rfl | omega)))))))))))))))))))))))))))).trans hf_11
  replace hf_13 := ((o_37 (k + 7) (by first | exact lqC rfl | exact lqE rfl | omega)).trans ((o_36 (k + 7) (by first | exact lqC rfl | exact lqE rfl | omega)).trans ((o_35 (k + 7) (by first | exact lqC rfl | exact lqE rfl | omega)).trans ((o_34 (k + 7) (by first | exact lqC rfl | exact lqE rfl | omega)).trans ((of_33 (k + 7) (by first | exact lqB rfl | omega)).trans ((o_32 (k + 7) (by first | exact lqC rfl | exact lqE rfl | omega)).trans ((of_31 (k + 7) (by first | exact lqB rfl | omega)).trans ((o_30 (k + 7) (by first | exact lqC rfl | exact lqE rfl | omega)).trans ((of_29 (k + 7) (by first | exact lqB rfl | omega)).trans ((o_28 (k + 7) (by first | exact lqC rfl | exact lqE rfl | omega)).trans ((of_27 (k + 7) (by first | exact lqB rfl | omega)).trans ((o_26 (k + 7) (by first | exact lqC rfl | exact lqE rfl | omega)).trans ((of_25 (k + 7) (by first | exact lqB rfl | omega)).trans ((o_24 (k + 7) (by first | exact lqC rfl | exact lqE rfl | omega)).trans ((of_23 (k + 7) (by first | exact lqB rfl | omega)).trans ((o_22 (k + 7) (by first | exact lqC rfl | exact lqE rfl | omega)).trans ((of_21 (k + 7) (by first | exact lqB rfl | omega)).trans ((o_20 (k + 7) (by first | exact lqC rfl | exact lqE rfl | omega)).trans ((of_19 (k + 7) (by first | exact lqB rfl | omega)).trans ((o_18 (k + 7) (by first | exact lqC rfl | exact lqE rfl | omega)).trans ((of_17 (k + 7) (by first | exact lqB rfl | omega)).trans ((o_16 (k + 7) (by first | exact lqC rfl | exact lqE rfl | omega)).trans ((of_15 (k + 7) (by first | exact lqB rfl | omega)).trans ((o_14 (k + 7) (by first | exact lqC rfl | exact lqE rfl | omega)))))))))))))))))))))))))).trans hf_13
  replace hf_15 := ((o_37 (k + 8) (by first | exact lqC rfl | exact lqE rfl | omega)).trans ((o_36 (k + 8) (by first | exact lqC rfl | exact lqE rfl | omega)).trans ((o_35 (k + 8) (by first | exact lqC rfl | exact lqE rfl | omega)).trans ((o_34 (k + 8) (by first | exact lqC rfl | exact lqE rfl | omega)).trans ((of_33 (k + 8) (by first | exact lqB rfl | omega)).trans ((o_32 (k + 8) (by first | exact lqC rfl | exact lqE rfl | omega)).trans ((of_31 (k + 8) (by first | exact lqB rfl | omega)).trans ((o_30 (k + 8) (by first | exact lqC rfl | exact lqE rfl | omega)).trans ((of_29 (k + 8) (by first | exact lqB rfl | omega)).trans ((o_28 (k + 8) (by first | exact lqC rfl | exact lqE rfl | omega)).trans ((of_27 (k + 8) (by first | exact lqB rfl | omega)).trans ((o_26 (k + 8) (by first | exact lqC rfl | exact lqE rfl | omega)).trans ((of_25 (k + 8) (by first | exact lqB rfl | omega)).trans ((o_24 (k + 8) (by first | exact lqC rfl | exact lqE rfl | omega)).trans ((of_23 (k + 8) (by first | exact lqB rfl | omega)).trans ((o_22 (k + 8) (by first | exact lqC rfl | exact lqE rfl | omega)).trans ((of_21 (k + 8) (by first | exact lqB rfl | omega)).trans ((o_20 (k + 8) (by first | exact lqC rfl | exact lqE rfl | omega)).trans ((of_19 (k + 8) (by first | exact lqB rfl | omega)).trans ((o_18 (k + 8) (by first | exact lqC rfl | exact lqE rfl | omega)).trans ((of_17 (k + 8) (by first | exact lqB rfl | omega)).trans ((o_16 (k + 8) (by first | exact lqC rfl | exact lqE rfl | omega)))))))))))))))))))))))).trans hf_15
  replace hf_17 := ((o_37 (k + 9) (by first | exact lqC rfl | exact lqE rfl | omega)).trans ((o_36 (k + 9) (by first | exact lqC rfl | exact lqE rfl | omega)).trans ((o_35 (k + 9) (by first | exact lqC rfl | exact lqE rfl | omega)).trans ((o_34 (k + 9) (by first | exact lqC rfl | exact lqE rfl | omega)).trans ((of_33 (k + 9) (by first | exact lqB rfl | omega)).trans ((o_32 (k + 9) (by first | exact lqC rfl | exact lqE rfl | omega)).trans ((of_31 (k + 9) (by first | exact lqB rfl | omega)).trans ((o_30 (k + 9) (by first | exact lqC rfl | exact lqE rfl | omega)).trans ((of_29 (k + 9) (by first | exact lqB rfl | omega)).trans ((o_28 (k + 9) (by first | exact lqC rfl | exact lqE rfl | omega)).trans ((of_27 (k + 9) (by first | exact lqB rfl | omega)).trans ((o_26 (k + 9) (by first | exact lqC rfl | exact lqE rfl | omega)).trans ((of_25 (k + 9) (by first | exact lqB rfl | omega)).trans ((o_24 (k + 9) (by first | exact lqC rfl | exact lqE rfl | omega)).trans ((of_23 (k + 9) (by first | exact lqB rfl | omega)).trans ((o_22 (k + 9) (by first | exact lqC rfl | exact lqE rfl | omega)).trans ((of_21 (k + 9) (by first | exact lqB rfl | omega)).trans ((o_20 (k + 9) (by first | exact lqC rfl | exact lqE rfl | omega)).trans ((of_19 (k + 9) (by first | exact lqB rfl | omega)).trans ((o_18 (k + 9) (by first | exact lqC rfl | exact lqE rfl | omega)))))))))))))))))))))).trans hf_17
  replace hf_19 := ((o_37 (k + 10) (by first | exact lqC rfl | exact lqE rfl | omega)).trans ((o_36 (k + 10) (by first | exact lqC rfl | exact lqE rfl | omega)).trans ((o_35 (k + 10) (by first | exact lqC rfl | exact lqE rfl | omega)).trans ((o_34 (k + 10) (by first | exact lqC rfl | exact lqE rfl | omega)).trans ((of_33 (k + 10) (by first | exact lqB rfl | omega)).trans ((o_32 (k + 10) (by first | exact lqC rfl | exact lqE rfl | omega)).trans ((of_31 (k + 10) (by first | exact lqB rfl | omega)).trans ((o_30 (k + 10) (by first | exact lqC rfl | exact lqE rfl | omega)).trans ((of_29 (k + 10) (by first | exact lqB rfl | omega)).trans ((o_28 (k + 10) (by first | exact lqC rfl | exact lqE rfl | omega)).trans ((of_27 (k + 10) (by first | exact lqB rfl | omega)).trans ((o_26 (k + 10) (by first | exact lqC rfl | exact lqE rfl | omega)).trans ((of_25 (k + 10) (by first | exact lqB rfl | omega)).trans ((o_24 (k + 10) (by first | exact lqC rfl | exact lqE rfl | omega)).trans ((of_23 (k + 10) (by first | exact lqB rfl | omega)).trans ((o_22 (k + 10) (by first | exact lqC rfl | exact lqE rfl | omega)).trans ((of_21 (k + 10) (by first | exact lqB rfl | omega)).trans ((o_20 (k + 10) (by first | exact lqC rfl | exact lqE rfl | omega)))))))))))))))))))).trans hf_19
  replace hf_21 := ((o_37 (k + 11) (by first | exact lqC rfl | exact lqE rfl | omega)).trans ((o_36 (k + 11) (by first | exact lqC rfl | exact lqE rfl | omega)).trans ((o_35 (k + 11) (by first | exact lqC rfl | exact lqE rfl | omega)).trans ((o_34 (k + 11) (by first | exact lqC rfl | exact lqE rfl | omega)).trans ((of_33 (k + 11) (by first | exact lqB rfl | omega)).trans ((o_32 (k + 11) (by first | exact lqC rfl | exact lqE rfl | omega)).trans ((of_31 (k + 11) (by first | exact lqB rfl | omega)).trans ((o_30 (k + 11) (by first | exact lqC rfl | exact lqE rfl | omega)).trans ((of_29 (k + 11) (by first | exact lqB rfl | omega)).trans ((o_28 (k + 11) (by first | exact lqC rfl | exact lqE rfl | omega)).trans ((of_27 (k + 11) (by first | exact lqB rfl | omega)).trans ((o_26 (k + 11) (by first | exact lqC rfl | exact lqE rfl | omega)).trans ((of_25 (k + 11) (by first | exact lqB rfl | omega)).trans ((o_24 (k + 11) (by first | exact lqC rfl | exact lqE rfl | omega)).trans ((of_23 (k + 11) (by first | exact lqB rfl | omega)).trans ((o_22 (k + 11) (by first | exact lqC rfl | exact lqE rfl | omega)))))))))))))))))).trans hf_21
  replace hf_23 := ((o_37 (k + 12) (by first | exact lqC rfl | exact lqE rfl | omega)).trans ((o_36 (k + 12) (by first | exact lqC rfl | exact lqE rfl | omega)).trans ((o_35 (k + 12) (by first | exact lqC rfl | exact lqE rfl | omega)).trans ((o_34 (k + 12) (by first | exact lqC rfl | exact lqE rfl | omega)).trans ((of_33 (k + 12) (by first | exact lqB rfl | omega)).trans ((o_32 (k + 12) (by first | exact lqC rfl | exact lqE rfl | omega)).trans ((of_31 (k + 12) (by first | exact lqB rfl | omega)).trans ((o_30 (k + 12) (by first | exact lqC rfl | exact lqE rfl | omega)).trans ((of_29 (k + 12) (by first | exact lqB rfl | omega)).trans ((o_28 (k + 12) (by first | exact lqC rfl | exact lqE rfl | omega)).trans ((of_27 (k + 12) (by first | exact lqB rfl | omega)).trans ((o_26 (k + 12) (by first | exact lqC rfl | exact lqE rfl | omega)).trans ((of_25 (k + 12) (by first | exact lqB rfl | omega)).trans ((o_24 (k + 12) (by first | exact lqC rfl | exact lqE rfl | omega)))))))))))))))).trans hf_23
  replace hf_25 := ((o_37 (k + 13) (by first | exact lqC rfl | exact lqE rfl | omega)).trans ((o_36 (k + 13) (by first | exact lqC rfl | exact lqE rfl | omega)).trans ((o_35 (k + 13) (by first | exact lqC rfl | exact lqE rfl | omega)).trans ((o_34 (k + 13) (by first | exact lqC rfl | exact lqE rfl | omega)).trans ((of_33 (k + 13) (by first | exact lqB rfl | omega)).trans ((o_32 (k + 13) (by first | exact lqC rfl | exact lqE rfl | omega)).trans ((of_31 (k + 13) (by first | exact lqB rfl | omega)).trans ((o_30 (k + 13) (by first | exact lqC rfl | exact lqE rfl | omega)).trans ((of_29 (k + 13) (by first | exact lqB rfl | omega)).trans ((o_28 (k + 13) (by first | exact lqC rfl | exact lqE rfl | omega)).trans ((of_27 (k + 13) (by first | exact lqB rfl | omega)).trans ((o_26 (k + 13) (by first | exact lqC rfl | exact lqE rfl | omega)))))))))))))).trans hf_25
  replace hf_27 := ((o_37 (k + 14) (by first | exact lqC rfl | exact lqE rfl | omega)).trans ((o_36 (k + 14) (by first | exact lqC rfl | exact lqE rfl | omega)).trans ((o_35 (k + 14) (by first | exact lqC rfl | exact lqE rfl | omega)).trans ((o_34 (k + 14) (by first | exact lqC rfl | exact lqE rfl | omega)).trans ((of_33 (k + 14) (by first | exact lqB rfl | omega)).trans ((o_32 (k + 14) (by first | exact lqC rfl | exact lqE rfl | omega)).trans ((of_31 (k + 14) (by first | exact lqB rfl | omega)).trans ((o_30 (k + 14) (by first | exact lqC rfl | exact lqE rfl | omega)).trans ((of_29 (k + 14) (by first | exact lqB rfl | omega)).trans ((o_28 (k + 14) (by first | exact lqC rfl | exact lqE rfl | omega)))))))))))).trans hf_27
  replace hf_29 := ((o_37 (k + 15) (by first | exact lqC rfl | exact lqE rfl | omega)).trans ((o_36 (k + 15) (by first | exact lqC rfl | exact lqE rfl | omega)).trans ((o_35 (k + 15) (by first | exact lqC rfl | exact lqE rfl | omega)).trans ((o_34 (k + 15) (by first | exact lqC rfl | exact lqE rfl | omega)).trans ((of_33 (k + 15) (by first | exact lqB rfl | omega)).trans ((o_32 (k + 15) (by first | exact lqC rfl | exact lqE rfl | omega)).trans ((of_31 (k + 15) (by first | exact lqB rfl | omega)).trans ((o_30 (k + 15) (by first | exact lqC rfl | exact lqE rfl | omega)))))))))).trans hf_29
  replace hf_31 := ((o_37 (k + 16) (by first | exact lqC rfl | exact lqE rfl | omega)).trans ((o_36 (k + 16) (by first | exact lqC rfl | exact lqE rfl | omega)).trans ((o_35 (k + 16) (by first | exact lqC rfl | exact lqE rfl | omega)).trans ((o_34 (k + 16) (by first | exact lqC rfl | exact lqE rfl | omega)).trans ((of_33 (k + 16) (by first | exact lqB rfl | omega)).trans ((o_32 (k + 16) (by first | exact lqC rfl | exact lqE rfl | omega)))))))).trans hf_31
  replace hf_33 := ((o_37 (k + 17) (by first | exact lqC rfl | exact lqE rfl | omega)).trans ((o_36 (k + 17) (by first | exact lqC rfl | exact lqE rfl | omega)).trans ((o_35 (k + 17) (by first | exact lqC rfl | exact lqE rfl | omega)).trans ((o_34 (k + 17) (by first | exact lqC rfl | exact lqE rfl | omega)))))).trans hf_33
  exact W.vret hx hb hr (fun t ht hW => ⟨⟨g_33, f_37, rfl, fun j hj => (og_33 j (by omega)).trans ((og_31 j (by omega)).trans ((og_29 j (by omega)).trans ((og_27 j (by omega)).trans ((og_25 j (by omega)).trans ((og_23 j (by omega)).trans ((og_21 j (by omega)).trans ((og_19 j (by omega)).trans ((og_17 j (by omega)).trans ((og_15 j (by omega)).trans ((og_13 j (by omega)).trans ((og_11 j (by omega)).trans ((og_9 j (by omega)).trans ((og_7 j (by omega)).trans ((og_5 j (by omega)).trans ((og_3 j (by omega)).trans ((og_1 j (by omega)))))))))))))))))), ⟨(by rw [show g_33 (k + 1) = q1 from hg_1, show g_33 (k + 2) = q2 from hg_3, show g_33 (k + 3) = q3 from hg_5, show g_33 (k + 4) = q4 from hg_7, show g_33 (k + 5) = q5 from hg_9, show g_33 (k + 6) = q6 from hg_11, show g_33 (k + 7) = q7 from hg_13, show g_33 (k + 8) = q8 from hg_15, show g_33 (k + 9) = q9 from hg_17, show g_33 (k + 10) = q10 from hg_19, show g_33 (k + 11) = q11 from hg_21, show g_33 (k + 12) = q12 from hg_23, show g_33 (k + 13) = q13 from hg_25, show g_33 (k + 14) = q14 from hg_27, show g_33 (k + 15) = q15 from hg_29, show g_33 (k + 16) = q16 from hg_31, show g_33 (k + 17) = q17 from hg_33]; exact hown0), hf_1, hf_3, hf_5, hf_7, hf_9, hf_11, hf_13, hf_15, hf_17, hf_19, hf_21, hf_23, hf_25, hf_27, hf_29, hf_31, hf_33, fun j hj => (o_37 j (by omega)).trans ((o_36 j (by omega)).trans ((o_35 j (by omega)).trans ((o_34 j (by omega)).trans ((of_33 j (by omega)).trans ((o_32 j (by omega)).trans ((of_31 j (by omega)).trans ((o_30 j (by omega)).trans ((of_29 j (by omega)).trans ((o_28 j (by omega)).trans ((of_27 j (by omega)).trans ((o_26 j (by omega)).trans ((of_25 j (by omega)).trans ((o_24 j (by omega)).trans ((of_23 j (by omega)).trans ((o_22 j (by omega)).trans ((of_21 j (by omega)).trans ((o_20 j (by omega)).trans ((of_19 j (by omega)).trans ((o_18 j (by omega)).trans ((of_17 j (by omega)).trans ((o_16 j (by omega)).trans ((of_15 j (by omega)).trans ((o_14 j (by omega)).trans ((of_13 j (by omega)).trans ((o_12 j (by omega)).trans ((of_11 j (by omega)).trans ((o_10 j (by omega)).trans ((of_9 j (by omega)).trans ((o_8 j (by omega)).trans ((of_7 j (by omega)).trans ((o_6 j (by omega)).trans ((of_5 j (by omega)).trans ((o_4 j (by omega)).trans ((of_3 j (by omega)).trans ((o_2 j (by omega)).trans ((of_1 j (by omega))))))))))))))))))))))))))))))))))))))⟩, by rw [ht]; exact hP, by rw [hAe]; exact hD⟩, by rw [hAe]; exact hS.F ht⟩) hS.2.2 dX11_init_164


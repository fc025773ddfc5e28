def nB (G : gW) (g : Nat → Nat) (f : Nat → va_E) (b : Nat) : Prop := f b = eO 0 [.ref (g (b + 1)), .ref (g (b + 3)), .ref (g (b + 5)), .ref (g (b + 7)), .ref (g (b + 9)), .ref (g (b + 11)), .ref (g (b + 76)), .int 5, .int 20] ∧ f (b + 1) = eO 5 [.int 30, .int 4, .ref (g (b + 2)), .int 0] ∧ f (b + 2) = eI G 120 (fun _ => 0) ∧ f (b + 3) = eO 5 [.int 40, .int 3, .ref (g (b + 4)), .int 0] ∧ f (b + 4) = eI G 120 (fun _ => 0) ∧ f (b + 5) = eO 5 [.int 4, .int 3, .ref (g (b + 6)), .int 0] ∧ f (b + 6) = eI G 12 (fun _ => 0) ∧ f (b + 7) = eO 5 [.int 20, .int 3, .ref (g (b + 8)), .int 0] ∧ f (b + 8) = eI G 60 (fun _ => 0) ∧ f (b + 9) = eO 5 [.int 10, .int 70, .ref (g (b + 10)), .int 0] ∧ f (b + 10) = eI G 700 (fun _ => 0) ∧ nSh G g f (b + 11) 20 ∧ nSh G g f (b + 76) 4
theorem nB_gf {G : gW} {g g' : Nat → Nat} {f f' : Nat → va_E} {b : Nat} (h : nB G g f b) (hg : ∀ j, j < b + 93 → g' j = g j) (hf : ∀ j, b ≤ j → j < b + 93 → f' j = f j) : nB G g' f' b := by
  obtain ⟨h0, r1, d1, r3, d3, r5, d5, r7, d7, r9, d9, s1, s2⟩ := h
  refine ⟨?_, ?_, (hf _ (by omega) (by omega)).trans d1, ?_, (hf _ (by omega) (by omega)).trans d3, ?_, (hf _ (by omega) (by omega)).trans d5, ?_, (hf _ (by omega) (by omega)).trans d7, ?_, (hf _ (by omega) (by omega)).trans d9, nSh_gf s1 (fun j hj => hg j (by omega)) (fun j a c => hf j (by omega) (by omega)), nSh_gf s2 (fun j hj => hg j (by omega)) (fun j a c => hf j (by omega) (by omega))⟩
  · rw [hf b (by omega) (by omega), h0, hg (b + 1) (by omega), hg (b + 3) (by omega), hg (b + 5) (by omega), hg (b + 7) (by omega), hg (b + 9) (by omega), hg (b + 11) (by omega), hg (b + 76) (by omega)]
  · rw [hf (b + 1) (by omega) (by omega), r1, hg (b + 2) (by omega)]
  · rw [hf (b + 3) (by omega) (by omega), r3, hg (b + 4) (by omega)]
  · rw [hf (b + 5) (by omega) (by omega), r5, hg (b + 6) (by omega)]
  · rw [hf (b + 7) (by omega) (by omega), r7, hg (b + 8) (by omega)]
  · rw [hf (b + 9) (by omega) (by omega), r9, hg (b + 10) (by omega)]
def nC (G : gW) (g : Nat → Nat) (f : Nat → va_E) (k : Nat) : Prop := f k = eO 1 [.ref (g (k + 1)), .ref (g (k + 94)), .ref (g (k + 95)), .ref (g (k + 97)), .int 0] ∧ nB G g f (k + 1) ∧ (∃ hf : Nat → Option Nat, f (k + 94) = eA G 4 10 hf ∧ ∀ z, z < 10 → hf z = some (g (k + 2 * z + 98))) ∧ nH G g f (k + 95) ∧ f (k + 97) = eJ G 50 (fun _ => 0) ∧ ∀ z, z < 10 → nH G g f (k + 2 * z + 98)
theorem nC_gf {G : gW} {g g' : Nat → Nat} {f f' : Nat → va_E} {k : Nat} (h : nC G g f k) (hg : ∀ j, j < k + 118 → g' j = g j) (hf : ∀ j, k ≤ j → j < k + 118 → f' j = f j) : nC G g' f' k := by
  obtain ⟨h0, h1, ⟨t, h2, h3⟩, h4, h5, h6⟩ := h
  refine ⟨?_, nB_gf h1 (fun j hj => hg j (by omega)) (fun j a c => hf j (by omega) (by omega)), ⟨t, (hf _ (by omega) (by omega)).trans h2, fun z hz => ?_⟩, nH_gf h4 (fun j hj => hg j (by omega)) (fun j a c => hf j (by omega) (by omega)), (hf _ (by omega) (by omega)).trans h5, fun z hz => nH_gf (h6 z hz) (fun j hj => hg j (by omega)) (fun j a c => hf j (by omega) (by omega))⟩
  · rw [hf k (by omega) (by omega), h0, hg (k + 1) (by omega), hg (k + 94) (by omega), hg (k + 95) (by omega), hg (k + 97) (by omega)]
  · rw [h3 z hz, hg _ (by omega)]
def nX (G : gW) (g : Nat → Nat) (f : Nat → va_E) (k : Nat) : Prop := f k = eO 9 [.ref (g (k + 1)), .ref (g (k + 2)), .ref (g (k + 119)), .ref (g (k + 120)), .ref (g (k + 121)), .ref (g (k + 123)), .ref (g (k + 124))] ∧ nC G g f (k + 1) ∧ (∃ t : Nat → Option Nat, f (k + 119) = eA G 3 2 t ∧ ∀ z, z < 2 → t z = some (g (k + 93 * z + 129))) ∧ f (k + 120) = eZ G 2 (fun _ => 0) ∧ f (k + 121) = eO 4 [.ref (g (k + 122)), .int 0, .int 0, .int 0, .int 0] ∧ f (k + 122) = eI G 50 (fun _ => 0) ∧ f (k + 123) = eO 2 [.long 0, .long 1] ∧ f (k + 124) = eO 8 [.ref (g (k + 125)), .ref (g (k + 126)), .ref (g (k + 127)), .ref (g (k + 128)), .int 0, .int 0] ∧ f (k + 125) = eI G 6 (fun _ => 0) ∧ f (k + 126) = eI G 6 (fun _ => 0) ∧ f (k + 127) = eI G 6 (fun _ => 0) ∧ f (k + 128) = eI G 6 (fun _ => 0) ∧ ∀ z, z < 2 → nB G g f (k + 93 * z + 129)
set_option maxHeartbeats 4000000 in
set_option maxRecDepth 100000 in
theorem i_book (l : Launch) (G : gW) (g : Nat → Nat) (f : Nat → va_E) (sz k a : Nat) (hga0 : gq (g k) a) (hown0 : f k = eO 0 [.null, .null, .null, .null, .null, .null, .null, .int 0, .int 0]) : Met l yX0_init (wsT yX0_init cX0_init 1 none) ({ frames := 3, cells := 92, slots := 3764, locals := 54 }) (nP G (k + 1) g f sz [.ref a]) (nQ G (k + 1) (k + 93) g sz (fun (g' : Nat → Nat) (f' : Nat → va_E) => f' k = eO 0 [.ref (g' (k + 1)), .ref (g' (k + 3)), .ref (g' (k + 5)), .ref (g' (k + 7)), .ref (g' (k + 9)), .ref (g' (k + 11)), .ref (g' (k + 76)), .int 5, .int 20] ∧ (nB G g' f' k) ∧ ∀ j, j < k → f' j = f j)) 92 3764 (nA (k + 1) g sz) := by
  refine Met.ofW (cc := cX0_init) (maxL := 1) (ret := none) (by decide) rfl ?_
  intro p e s m args below meth c s₁ B hml hv
  obtain ⟨rfl, hsz, hP, hG, hD0⟩ := hv
  have hx := B.exec
  have hb := B.bytes
  have hr := B.returns
  have hts := my_hts (atoms_spec (ws := wsT yX0_init cX0_init 1 none) B.pre)
  have hown : s.vm.findClass RX0 = some m.cls := findClass_of_methodNamed B.named
  have hlocks := B.notSynchronized
  have hin : meth.name = "<init>" := (name_of_methodNamed B.named B.method).1
  subst hsz
  have hD := nD_self (sz := s.heap.size) hD0
  generalize hAe : nA (k + 1) g s.heap.size = A at hD ⊢
  have hA : ∀ q : Nat, s.heap.size ≤ q → A q := fun q h => by rw [← hAe]; exact Or.inr h
  have hS : va_S A s.heap s.heap [] := va_S.rf
  have hl := lv_entry ([.ref a]) (n := 1) (Nat.le_of_ble_eq_true rfl)
  rw [lg_entry_eq]
  generalize (lg_sl ([.ref a]) ++ List.replicate (1 - (lg_sl ([.ref a])).length) Slot.unset).toArray = ls at hl ⊢
  have hl : lv_has ls 1 [(0, .ref a)] := hl
  refine lv_aload_n hx hb dX0_init_0 rfl (lv_at hl 0 rfl) ?_
  refine W.objInit hx hb hown (hts (.methodLink RX0 3 objectInit) w_50) (hts (.instanceMethod objectInit) w_10) (hts (.code objectInit ⟨#[0xb1]⟩ 1 none) w_11) rfl (by rw [hml]; exact hl.1) rfl dX0_init_1 (Nat.le_of_ble_eq_true rfl) (Nat.le_of_ble_eq_true rfl) ?_
  refine W.eq (g2 := F0 m 4 ls []) rfl ?_
  refine lv_aload_n hx hb dX0_init_4 rfl (lv_at hl 0 rfl) ?_
  refine va_new (ci := 5) (fs := [.int 0, .int 0, .null, .int 0]) (C := RX5) (T := TX5) (N := 4) hx hb hts inlX5 tyX5 tyX5_ok hown (hts (.classLink RX0 9 RX5) w_51) (hts (.instantiable RX5 4) w_52) (hts (.initialized RX5) w_53) hG.1 hP hD hS hA rfl (fun j hj => by rcases (show j = 0 ∨ j = 1 ∨ j = 2 ∨ j = 3 by omega) with rfl | rfl | rfl | rfl <;> rfl) (Nat.le_of_ble_eq_true rfl) (Nat.le_of_ble_eq_true rfl) dX0_init_5 (fun q1 H hP hD hS => ?_)
  obtain ⟨g_1, f_1, hP, hD, hg_1, hf_1, og_1, of_1⟩ := n_ext hP hD
  have hf_1 : f_1 (k + 1) = eO 5 [.int 0, .int 0, .null, .int 0] := hf_1
  have hg_1 : gq (g_1 (k + 1)) q1 := hg_1
  have hP : va_P G.1 vwCl (wn (k + 2) g_1 f_1) H := hP
  have hD : va_D A (wn (k + 2) g_1 f_1) := hD
  refine W.widen (k := 1) (n := 4) (by omega) (by omega) ?_
  refine lv_dup hx hb dX0_init_8 rfl ?_
  refine lv_bipush (v := 30) hx hb dX0_init_9 (by decide) ?_
  refine lv_iconst (v := 4) hx hb dX0_init_11 (by decide) ?_
  refine n_call (va_runI (As := [.int 30, .int 4]) (rest := [.ref q1, .ref a]) ⟨hx, hb, hml, hown, hts⟩ (i_rows_30_4 l G g_1 f_1 H.size (k + 1) q1 hg_1 hf_1) (my_cwI hts ok_X5_init w_66 rfl rfl rfl ⟨Nat.le_of_ble_eq_true rfl, Nat.le_of_ble_eq_true rfl⟩) ⟨nP.blind, fun U hU hW => ⟨rfl, by rw [hU], by rw [hU]; exact hP, kG.warm hW hG, hD.weaken (fun _ _ _ _ => trivial)⟩⟩ rfl rfl hl.1 rfl (lv_room (Nat.le_of_ble_eq_true rfl)) dX0_init_12 ⟨Nat.le_of_ble_eq_true rfl, Nat.le_of_ble_eq_true rfl⟩) hD hS hA (fun g_2 f_2 H locs og_2 hq9 hP hD hS => ?_)
  obtain ⟨hq_2_0, hq_2_1, of_2⟩ := hq9
  have hfq_2_0 : f_2 (k + 1) = eO 5 [.int 30, .int 4, .ref (g_2 (k + 2)), .int 0] := hq_2_0
  have hgq_2_1 : gq (g_2 (k + 2)) (g_2 (k + 2)) := rfl
  have hfq_2_1 : f_2 (k + 2) = eI G 120 (fun _ => 0) := hq_2_1
  have hP : va_P G.1 vwCl (wn (k + 3) g_2 f_2) H := hP
  have hD : va_D A (wn (k + 3) g_2 f_2) := hD
  refine W.widen (k := 2) (n := 124) (by omega) (by omega) ?_
  replace hown0 := ((of_2 k (by first | exact lqA rfl | omega)).trans ((of_1 k (by first | exact lqA rfl | omega)))).trans hown0
  replace hga0 := gq.tr ((og_2 k (by first | exact lqA rfl | omega)).trans ((og_1 k (by first | exact lqA rfl | omega)))) hga0
  refine va_putF (D := G.1) (ci := 0) (v := .ref q1) (ty := .object "SwornLists$Rows") (C := RX0) (T := TX0) (N := 9) hx hb hts inlX0 tyX0 tyX0_ok nmX0 hown hG.1 hP hD hS k (wn_at (by first | exact lqA rfl | exact lqB rfl | omega) hga0 hown0) rfl 0 (by decide) (hts (.fieldLink RX0 14 "SwornLists$Book" "people" "LSwornLists$Rows;") w_54) (fun _ h9 => h9) rfl hin rfl (by decide +kernel) rfl rfl (Nat.le_of_ble_eq_true rfl) dX0_init_15 (fun H locs hP hD hS => ?_)
  obtain ⟨f_3, hP, hD, e_3, o_3⟩ := n_put (by first | exact lqA rfl | exact lqB rfl | omega) hga0 hP hD
  have hown0 : f_3 k = eO 0 [.ref q1, .null, .null, .null, .null, .null, .null, .int 0, .int 0] := e_3
  refine lv_aload_n hx hb dX0_init_18 rfl (lv_at hl 0 rfl) ?_
  refine va_new (ci := 5) (fs := [.int 0, .int 0, .null, .int 0]) (C := RX5) (T := TX5) (N := 4) hx hb hts inlX5 tyX5 tyX5_ok hown (hts (.classLink RX0 9 RX5) w_51) (hts (.instantiable RX5 4) w_52) (hts (.initialized RX5) w_53) hG.1 hP hD hS hA rfl (fun j hj => by rcases (show j = 0 ∨ j = 1 ∨ j = 2 ∨ j = 3 by omega) with rfl | rfl | rfl | rfl <;> rfl) (Nat.le_of_ble_eq_true rfl) (Nat.le_of_ble_eq_true rfl) dX0_init_19 (fun q2 H hP hD hS => ?_)
  obtain ⟨g_4, f_4, hP, hD, hg_4, hf_4, og_4, of_4⟩ := n_ext hP hD
  have hf_4 : f_4 (k + 3) = eO 5 [.int 0, .int 0, .null, .int 0] := hf_4
  have hg_4 : gq (g_4 (k + 3)) q2 := hg_4
  have hP : va_P G.1 vwCl (wn (k + 4) g_4 f_4) H := hP
  have hD : va_D A (wn (k + 4) g_4 f_4) := hD
  refine W.widen (k := 3) (n := 128) (by omega) (by omega) ?_
  refine lv_dup hx hb dX0_init_22 rfl ?_
  refine lv_bipush (v := 40) hx hb dX0_init_23 (by decide) ?_
  refine lv_iconst (v := 3) hx hb dX0_init_25 (by decide) ?_
  refine n_call (va_runI (As := [.int 40, .int 3]) (rest := [.ref q2, .ref a]) ⟨hx, hb, hml, hown, hts⟩ (i_rows_40_3 l G g_4 f_4 H.size (k + 3) q2 hg_4 hf_4) (my_cwI hts ok_X5_init w_66 rfl rfl rfl ⟨Nat.le_of_ble_eq_true rfl, Nat.le_of_ble_eq_true rfl⟩) ⟨nP.blind, fun U hU hW => ⟨rfl, by rw [hU], by rw [hU]; exact hP, kG.warm hW hG, hD.weaken (fun _ _ _ _ => trivial)⟩⟩ rfl rfl hl.1 rfl (lv_room (Nat.le_of_ble_eq_true rfl)) dX0_init_26 ⟨Nat.le_of_ble_eq_true rfl, Nat.le_of_ble_eq_true rfl⟩) hD hS hA (fun g_5 f_5 H locs og_5 hq9 hP hD hS => ?_)
  obtain ⟨hq_5_0, hq_5_1, of_5⟩ := hq9
  have hfq_5_0 : f_5 (k + 3) = eO 5 [.int 40, .int 3, .ref (g_5 (k + 4)), .int 0] := hq_5_0
  have hgq_5_1 : gq (g_5 (k + 4)) (g_5 (k + 4)) := rfl
  have hfq_5_1 : f_5 (k + 4) = eI G 120 (fun _ => 0) := hq_5_1
  have hP : va_P G.1 vwCl (wn (k + 5) g_5 f_5) H := hP
  have hD : va_D A (wn (k + 5) g_5 f_5) := hD
  refine W.widen (k := 4) (n := 248) (by omega) (by omega) ?_
  replace hown0 := ((of_5 k (by first | exact lqA rfl | omega)).trans ((of_4 k (by first | exact lqA rfl | omega)))).trans hown0
  replace hga0 := gq.tr ((og_5 k (by first | exact lqA rfl | omega)).trans ((og_4 k (by first | exact lqA rfl | omega)))) hga0
  refine va_putF (D := G.1) (ci := 0) (v := .ref q2) (ty := .object "SwornLists$Rows") (C := RX0) (T := TX0) (N := 9) hx hb hts inlX0 tyX0 tyX0_ok nmX0 hown hG.1 hP hD hS k (wn_at (by first | exact lqA rfl | exact lqB rfl | omega) hga0 hown0) rfl 1 (by decide) (hts (.fieldLink RX0 20 "SwornLists$Book" "facts" "LSwornLists$Rows;") w_55) (fun _ h9 => h9) rfl hin rfl (by decide +kernel) rfl rfl (Nat.le_of_ble_eq_true rfl) dX0_init_29 (fun H locs hP hD hS => ?_)
  obtain ⟨f_6, hP, hD, e_6, o_6⟩ := n_put (by first | exact lqA rfl | exact lqB rfl | omega) hga0 hP hD
  have hown0 : f_6 k = eO 0 [.ref q1, .ref q2, .null, .null, .null, .null, .null, .int 0, .int 0] := e_6
  refine lv_aload_n hx hb dX0_init_32 rfl (lv_at hl 0 rfl) ?_
  refine va_new (ci := 5) (fs := [.int 0, .int 0, .null, .int 0]) (C := RX5) (T := TX5) (N := 4) hx hb hts inlX5 tyX5 tyX5_ok hown (hts (.classLink RX0 9 RX5) w_51) (hts (.instantiable RX5 4) w_52) (hts (.initialized RX5) w_53) hG.1 hP hD hS hA rfl (fun j hj => by rcases (show j = 0 ∨ j = 1 ∨ j = 2 ∨ j = 3 by omega) with rfl | rfl | rfl | rfl <;> rfl) (Nat.le_of_ble_eq_true rfl) (Nat.le_of_ble_eq_true rfl) dX0_init_33 (fun q3 H hP hD hS => ?_)
  obtain ⟨g_7, f_7, hP, hD, hg_7, hf_7, og_7, of_7⟩ := n_ext hP hD
  have hf_7 : f_7 (k + 5) = eO 5 [.int 0, .int 0, .null, .int 0] := hf_7
  have hg_7 : gq (g_7 (k + 5)) q3 := hg_7
  have hP : va_P G.1 vwCl (wn (k + 6) g_7 f_7) H := hP
  have hD : va_D A (wn (k + 6) g_7 f_7) := hD
  refine W.widen (k := 5) (n := 252) (by omega) (by omega) ?_
  refine lv_dup hx hb dX0_init_36 rfl ?_
  refine lv_iconst (v := 4) hx hb dX0_init_37 (by decide) ?_
  refine lv_iconst (v := 3) hx hb dX0_init_38 (by decide) ?_
  refine n_call (va_runI (As := [.int 4, .int 3]) (rest := [.ref q3, .ref a]) ⟨hx, hb, hml, hown, hts⟩ (i_rows_4_3 l G g_7 f_7 H.size (k + 5) q3 hg_7 hf_7) (my_cwI hts ok_X5_init w_66 rfl rfl rfl ⟨Nat.le_of_ble_eq_true rfl, Nat.le_of_ble_eq_true rfl⟩) ⟨nP.blind, fun U hU hW => ⟨rfl, by rw [hU], by rw [hU]; exact hP, kG.warm hW hG, hD.weaken (fun _ _ _ _ => trivial)⟩⟩ rfl rfl hl.1 rfl (lv_room (Nat.le_of_ble_eq_true rfl)) dX0_init_39 ⟨Nat.le_of_ble_eq_true rfl, Nat.le_of_ble_eq_true rfl⟩) hD hS hA (fun g_8 f_8 H locs og_8 hq9 hP hD hS => ?_)
  obtain ⟨hq_8_0, hq_8_1, of_8⟩ := hq9
  have hfq_8_0 : f_8 (k + 5) = eO 5 [.int 4, .int 3, .ref (g_8 (k + 6)), .int 0] := hq_8_0
  have hgq_8_1 : gq (g_8 (k + 6)) (g_8 (k + 6)) := rfl
  have hfq_8_1 : f_8 (k + 6) = eI G 12 (fun _ => 0) := hq_8_1
  have hP : va_P G.1 vwCl (wn (k + 7) g_8 f_8) H := hP
  have hD : va_D A (wn (k + 7) g_8 f_8) := hD
  refine W.widen (k := 6) (n := 264) (by omega) (by omega) ?_
  replace hown0 := ((of_8 k (by first | exact lqA rfl | omega)).trans ((of_7 k (by first | exact lqA rfl | omega)))).trans hown0
  replace hga0 := gq.tr ((og_8 k (by first | exact lqA rfl | omega)).trans ((og_7 k (by first | exact lqA rfl | omega)))) hga0
  refine va_putF (D := G.1) (ci := 0) (v := .ref q3) (ty := .object "SwornLists$Rows") (C := RX0) (T := TX0) (N := 9) hx hb hts inlX0 tyX0 tyX0_ok nmX0 hown hG.1 hP hD hS k (wn_at (by first | exact lqA rfl | exact lqB rfl | omega) hga0 hown0) rfl 2 (by decide) (hts (.fieldLink RX0 23 "SwornLists$Book" "rolls" "LSwornLists$Rows;") w_56) (fun _ h9 => h9) rfl hin rfl (by decide +kernel) rfl rfl (Nat.le_of_ble_eq_true rfl) dX0_init_42 (fun H locs hP hD hS => ?_)
  obtain ⟨f_9, hP, hD, e_9, o_9⟩ := n_put (by first | exact lqA rfl | exact lqB rfl | omega) hga0 hP hD
  have hown0 : f_9 k = eO 0 [.ref q1, .ref q2, .ref q3, .null, .null, .null, .null, .int 0, .int 0] := e_9
  refine lv_aload_n hx hb dX0_init_45 rfl (lv_at hl 0 rfl) ?_
  refine va_new (ci := 5) (fs := [.int 0, .int 0, .null, .int 0]) (C := RX5) (T := TX5) (N := 4) hx hb hts inlX5 tyX5 tyX5_ok hown (hts (.classLink RX0 9 RX5) w_51) (hts (.instantiable RX5 4) w_52) (hts (.initialized RX5) w_53) hG.1 hP hD hS hA rfl (fun j hj => by rcases (show j = 0 ∨ j = 1 ∨ j = 2 ∨ j = 3 by omega) with rfl | rfl | rfl | rfl <;> rfl) (Nat.le_of_ble_eq_true rfl) (Nat.le_of_ble_eq_true rfl) dX0_init_46 (fun q4 H hP hD hS => ?_)
  obtain ⟨g_10, f_10, hP, hD, hg_10, hf_10, og_10, of_10⟩ := n_ext hP hD
  have hf_10 : f_10 (k + 7) = eO 5 [.int 0, .int 0, .null, .int 0] := hf_10
  have hg_10 : gq (g_10 (k + 7)) q4 := hg_10
  have hP : va_P G.1 vwCl (wn (k + 8) g_10 f_10) H := hP
  have hD : va_D A (wn (k + 8) g_10 f_10) := hD
  refine W.widen (k := 7) (n := 268) (by omega) (by omega) ?_
  refine lv_dup hx hb dX0_init_49 rfl ?_
  refine lv_bipush (v := 20) hx hb dX0_init_50 (by decide) ?_
  refine lv_iconst (v := 3) hx hb dX0_init_52 (by decide) ?_
  refine n_call (va_runI (As := [.int 20, .int 3]) (rest := [.ref q4, .ref a]) ⟨hx, hb, hml, hown, hts⟩ (i_rows_20_3 l G g_10 f_10 H.size (k + 7) q4 hg_10 hf_10) (my_cwI hts ok_X5_init w_66 rfl rfl rfl ⟨Nat.le_of_ble_eq_true rfl, Nat.le_of_ble_eq_true rfl⟩) ⟨nP.blind, fun U hU hW => ⟨rfl, by rw [hU], by rw [hU]; exact hP, kG.warm hW hG, hD.weaken (fun _ _ _ _ => trivial)⟩⟩ rfl rfl hl.1 rfl (lv_room (Nat.le_of_ble_eq_true rfl)) dX0_init_53 ⟨Nat.le_of_ble_eq_true rfl, Nat.le_of_ble_eq_true rfl⟩) hD hS hA (fun g_11 f_11 H locs og_11 hq9 hP hD hS => ?_)
  obtain ⟨hq_11_0, hq_11_1, of_11⟩ := hq9
  have hfq_11_0 : f_11 (k + 7) = eO 5 [.int 20, .int 3, .ref (g_11 (k + 8)), .int 0] := hq_11_0
  have hgq_11_1 : gq (g_11 (k + 8)) (g_11 (k + 8)) := rfl
  have hfq_11_1 : f_11 (k + 8) = eI G 60 (fun _ => 0) := hq_11_1
  have hP : va_P G.1 vwCl (wn (k + 9) g_11 f_11) H := hP
  have hD : va_D A (wn (k + 9) g_11 f_11) := hD
  refine W.widen (k := 8) (n := 328) (by omega) (by omega) ?_
  replace hown0 := ((of_11 k (by first | exact lqA rfl | omega)).trans ((of_10 k (by first | exact lqA rfl | omega)))).trans hown0
  replace hga0 := gq.tr ((og_11 k (by first | exact lqA rfl | omega)).trans ((og_10 k (by first | exact lqA rfl | omega)))) hga0
  refine va_putF (D := G.1) (ci := 0) (v := .ref q4) (ty := .object "SwornLists$Rows") (C := RX0) (T := TX0) (N := 9) hx hb hts inlX0 tyX0 tyX0_ok nmX0 hown hG.1 hP hD hS k (wn_at (by first | exact lqA rfl | exact lqB rfl | omega) hga0 hown0) rfl 3 (by decide) (hts (.fieldLink RX0 26 "SwornLists$Book" "acts" "LSwornLists$Rows;") w_57) (fun _ h9 => h9) rfl hin rfl (by decide +kernel) rfl rfl (Nat.le_of_ble_eq_true rfl) dX0_init_56 (fun H locs hP hD hS => ?_)
  obtain ⟨f_12, hP, hD, e_12, o_12⟩ := n_put (by first | exact lqA rfl | exact lqB rfl | omega) hga0 hP hD
  have hown0 : f_12 k = eO 0 [.ref q1, .ref q2, .ref q3, .ref q4, .null, .null, .null, .int 0, .int 0] := e_12
  refine lv_aload_n hx hb dX0_init_59 rfl (lv_at hl 0 rfl) ?_
  refine va_new (ci := 5) (fs := [.int 0, .int 0, .null, .int 0]) (C := RX5) (T := TX5) (N := 4) hx hb hts inlX5 tyX5 tyX5_ok hown (hts (.classLink RX0 9 RX5) w_51) (hts (.instantiable RX5 4) w_52) (hts (.initialized RX5) w_53) hG.1 hP hD hS hA rfl (fun j hj => by rcases (show j = 0 ∨ j = 1 ∨ j = 2 ∨ j = 3 by omega) with rfl | rfl | rfl | rfl <;> rfl) (Nat.le_of_ble_eq_true rfl) (Nat.le_of_ble_eq_true rfl) dX0_init_60 (fun q5 H hP hD hS => ?_)
  obtain ⟨g_13, f_13, hP, hD, hg_13, hf_13, og_13, of_13⟩ := n_ext hP hD
  have hf_13 : f_13 (k + 9) = eO 5 [.int 0, .int 0, .null, .int 0] := hf_13
  have hg_13 : gq (g_13 (k + 9)) q5 := hg_13
  have hP : va_P G.1 vwCl (wn (k + 10) g_13 f_13) H := hP
  have hD : va_D A (wn (k + 10) g_13 f_13) := hD
  refine W.widen (k := 9) (n := 332) (by omega) (by omega) ?_
  refine lv_dup hx hb dX0_init_63 rfl ?_
  refine lv_bipush (v := 10) hx hb dX0_init_64 (by decide) ?_
  refine lv_bipush (v := 70) hx hb dX0_init_66 (by decide) ?_
  refine n_call (va_runI (As := [.int 10, .int 70]) (rest := [.ref q5, .ref a]) ⟨hx, hb, hml, hown, hts⟩ (i_rows_10_70 l G g_13 f_13 H.size (k + 9) q5 hg_13 hf_13) (my_cwI hts ok_X5_init w_66 rfl rfl rfl ⟨Nat.le_of_ble_eq_true rfl, Nat.le_of_ble_eq_true rfl⟩) ⟨nP.blind, fun U hU hW => ⟨rfl, by rw [hU], by rw [hU]; exact hP, kG.warm hW hG, hD.weaken (fun _ _ _ _ => trivial)⟩⟩ rfl rfl hl.1 rfl (lv_room (Nat.le_of_ble_eq_true rfl)) dX0_init_68 ⟨Nat.le_of_ble_eq_true rfl, Nat.le_of_ble_eq_true rfl⟩) hD hS hA (fun g_14 f_14 H locs og_14 hq9 hP hD hS => ?_)
  obtain ⟨hq_14_0, hq_14_1, of_14⟩ := hq9
  have hfq_14_0 : f_14 (k + 9) = eO 5 [.int 10, .int 70, .ref (g_14 (k + 10)), .int 0] := hq_14_0
  have hgq_14_1 : gq (g_14 (k + 10)) (g_14 (k + 10)) := rfl
  have hfq_14_1 : f_14 (k + 10) = eI G 700 (fun _ => 0) := hq_14_1
  have hP : va_P G.1 vwCl (wn (k + 11) g_14 f_14) H := hP
  have hD : va_D A (wn (k + 11) g_14 f_14) := hD
  refine W.widen (k := 10) (n := 1032) (by omega) (by omega) ?_
  replace hown0 := ((of_14 k (by first | exact lqA rfl | omega)).trans ((of_13 k (by first | exact lqA rfl | omega)))).trans hown0
  replace hga0 := gq.tr ((og_14 k (by first | exact lqA rfl | omega)).trans ((og_13 k (by first | exact lqA rfl | omega)))) hga0
  refine va_putF (D := G.1) (ci := 0) (v := .ref q5) (ty := .object "SwornLists$Rows") (C := RX0) (T := TX0) (N := 9) hx hb hts inlX0 tyX0 tyX0_ok nmX0 hown hG.1 hP hD hS k (wn_at (by first | exact lqA rfl | exact lqB rfl | omega) hga0 hown0) rfl 4 (by decide) (hts (.fieldLink RX0 29 "SwornLists$Book" "trials" "LSwornLists$Rows;") w_58) (fun _ h9 => h9) rfl hin rfl (by decide +kernel) rfl rfl (Nat.le_of_ble_eq_true rfl) dX0_init_71 (fun H locs hP hD hS => ?_)
  obtain ⟨f_15, hP, hD, e_15, o_15⟩ := n_put (by first | exact lqA rfl | exact lqB rfl | omega) hga0 hP hD
  have hown0 : f_15 k = eO 0 [.ref q1, .ref q2, .ref q3, .ref q4, .ref q5, .null, .null, .int 0, .int 0] := e_15
  refine lv_aload_n hx hb dX0_init_74 rfl (lv_at hl 0 rfl) ?_
  refine va_new (ci := 6) (fs := [.null, .null]) (C := RX6) (T := TX6) (N := 2) hx hb hts inlX6 tyX6 tyX6_ok hown (hts (.classLink RX0 32 RX6) w_59) (hts (.instantiable RX6 2) w_60) (hts (.initialized RX6) w_61) hG.1 hP hD hS hA rfl (fun j hj => by rcases (show j = 0 ∨ j = 1 by omega) with rfl | rfl <;> rfl) (Nat.le_of_ble_eq_true rfl) (Nat.le_of_ble_eq_true rfl) dX0_init_75 (fun q6 H hP hD hS => ?_)
  obtain ⟨g_16, f_16, hP, hD, hg_16, hf_16, og_16, of_16⟩ := n_ext hP hD
  have hf_16 : f_16 (k + 11) = eO 6 [.null, .null] := hf_16
  have hg_16 : gq (g_16 (k + 11)) q6 := hg_16
  have hP : va_P G.1 vwCl (wn (k + 12) g_16 f_16) H := hP
  have hD : va_D A (wn (k + 12) g_16 f_16) := hD
  refine W.widen (k := 11) (n := 1034) (by omega) (by omega) ?_
  refine lv_dup hx hb dX0_init_78 rfl ?_
  refine lv_bipush (v := 20) hx hb dX0_init_79 (by decide) ?_
  refine n_call (va_runI (As := [.int 20]) (rest := [.ref q6, .ref a]) ⟨hx, hb, hml, hown, hts⟩ (i_shelf_20 l G g_16 f_16 H.size (k + 11) q6 hg_16 hf_16) (my_cwI hts ok_X6_init w_74 rfl rfl rfl ⟨Nat.le_of_ble_eq_true rfl, Nat.le_of_ble_eq_true rfl⟩) ⟨nP.blind, fun U hU hW => ⟨rfl, by rw [hU], by rw [hU]; exact hP, kG.warm hW hG, hD.weaken (fun _ _ _ _ => trivial)⟩⟩ rfl rfl hl.1 rfl (lv_room (Nat.le_of_ble_eq_true rfl)) dX0_init_81 ⟨Nat.le_of_ble_eq_true rfl, Nat.le_of_ble_eq_true rfl⟩) hD hS hA (fun g_17 f_17 H locs og_17 hq9 hP hD hS => ?_)
  obtain ⟨hx_17_0, of_17⟩ := hq9
  have pk_17_0 : nSh G g_17 f_17 (k + 11) 20 := hx_17_0
  have hP : va_P G.1 vwCl (wn (k + 76) g_17 f_17) H := hP
  have hD : va_D A (wn (k + 76) g_17 f_17) := hD
  refine W.widen (k := 75) (n := 3238) (by omega) (by omega) ?_
  replace hown0 := ((of_17 k (by first | exact lqA rfl | omega)).trans ((of_16 k (by first | exact lqA rfl | omega)))).trans hown0
  replace hga0 := gq.tr ((og_17 k (by first | exact lqA rfl | omega)).trans ((og_16 k (by first | exact lqA rfl | omega)))) hga0
  refine va_putF (D := G.1) (ci := 0) (v := .ref q6) (ty := .object "SwornLists$Shelf") (C := RX0) (T := TX0) (N := 9) hx hb hts inlX0 tyX0 tyX0_ok nmX0 hown hG.1 hP hD hS k (wn_at (by first | exact lqA rfl | exact lqB rfl | omega) hga0 hown0) rfl 5 (by decide) (hts (.fieldLink RX0 37 "SwornLists$Book" "laws" "LSwornLists$Shelf;") w_62) (fun _ h9 => h9) rfl hin rfl (by decide +kernel) rfl rfl (Nat.le_of_ble_eq_true rfl) dX0_init_84 (fun H locs hP hD hS => ?_)
  obtain ⟨f_18, hP, hD, e_18, o_18⟩ := n_put (by first | exact lqA rfl | exact lqB rfl | omega) hga0 hP hD
  have hown0 : f_18 k = eO 0 [.ref q1, .ref q2, .ref q3, .ref q4, .ref q5, .ref q6, .null, .int 0, .int 0] := e_18
  refine lv_aload_n hx hb dX0_init_87 rfl (lv_at hl 0 rfl) ?_
  refine va_new (ci := 6) (fs := [.null, .null]) (C := RX6) (T := TX6) (N := 2) hx hb hts inlX6 tyX6 tyX6_ok hown (hts (.classLink RX0 32 RX6) w_59) (hts (.instantiable RX6 2) w_60) (hts (.initialized RX6) w_61) hG.1 hP hD hS hA rfl (fun j hj => by rcases (show j = 0 ∨ j = 1 by omega) with rfl | rfl <;> rfl) (Nat.le_of_ble_eq_true rfl) (Nat.le_of_ble_eq_true rfl) dX0_init_88 (fun q7 H hP hD hS => ?_)
  obtain ⟨g_19, f_19, hP, hD, hg_19, hf_19, og_19, of_19⟩ := n_ext hP hD
  have hf_19 : f_19 (k + 76) = eO 6 [.null, .null] := hf_19
  have hg_19 : gq (g_19 (k + 76)) q7 := hg_19
  have hP : va_P G.1 vwCl (wn (k + 77) g_19 f_19) H := hP
  have hD : va_D A (wn (k + 77) g_19 f_19) := hD
  refine W.widen (k := 76) (n := 3240) (by omega) (by omega) ?_
  refine lv_dup hx hb dX0_init_91 rfl ?_
  refine lv_iconst (v := 4) hx hb dX0_init_92 (by decide) ?_
  refine n_call (va_runI (As := [.int 4]) (rest := [.ref q7, .ref a]) ⟨hx, hb, hml, hown, hts⟩ (i_shelf_4 l G g_19 f_19 H.size (k + 76) q7 hg_19 hf_19) (my_cwI hts ok_X6_init w_74 rfl rfl rfl ⟨Nat.le_of_ble_eq_true rfl, Nat.le_of_ble_eq_true rfl⟩) ⟨nP.blind, fun U hU hW => ⟨rfl, by rw [hU], by rw [hU]; exact hP, kG.warm hW hG, hD.weaken (fun _ _ _ _ => trivial)⟩⟩ rfl rfl hl.1 rfl (lv_room (Nat.le_of_ble_eq_true rfl)) dX0_init_93 ⟨Nat.le_of_ble_eq_true rfl, Nat.le_of_ble_eq_true rfl⟩) hD hS hA (fun g_20 f_20 H locs og_20 hq9 hP hD hS => ?_)
  obtain ⟨hx_20_0, of_20⟩ := hq9
  have pk_20_0 : nSh G g_20 f_20 (k + 76) 4 := hx_20_0
  have hP : va_P G.1 vwCl (wn (k + 93) g_20 f_20) H := hP
  have hD : va_D A (wn (k + 93) g_20 f_20) := hD
  refine W.widen (k := 92) (n := 3764) (by omega) (by omega) ?_
  replace hown0 := ((of_20 k (by first | exact lqA rfl | omega)).trans ((of_19 k (by first | exact lqA rfl | omega)))).trans hown0
  replace hga0 := gq.tr ((og_20 k (by first | exact lqA rfl | omega)).trans ((og_19 k (by first | exact lqA rfl | omega)))) hga0
  refine va_putF (D := G.1) (ci := 0) (v := .ref q7) (ty := .object "SwornLists$Shelf") (C := RX0) (T := TX0) (N := 9) hx hb hts inlX0 tyX0 tyX0_ok nmX0 hown hG.1 hP hD hS k (wn_at (by first | exact lqA rfl | exact lqB rfl | omega) hga0 hown0) rfl 6 (by decide) (hts (.fieldLink RX0 41 "SwornLists$Book" "texts" "LSwornLists$Shelf;") w_63) (fun _ h9 => h9) rfl hin rfl (by decide +kernel) rfl rfl (Nat.le_of_ble_eq_true rfl) dX0_init_96 (fun H locs hP hD hS => ?_)
  obtain ⟨f_21, hP, hD, e_21, o_21⟩ := n_put (by first | exact lqA rfl | exact lqB rfl | omega) hga0 hP hD
  have hown0 : f_21 k = eO 0 [.ref q1, .ref q2, .ref q3, .ref q4, .ref q5, .ref q6, .ref q7, .int 0, .int 0] := e_21
  refine lv_aload_n hx hb dX0_init_99 rfl (lv_at hl 0 rfl) ?_
  refine lv_iconst (v := 5) hx hb dX0_init_100 (by decide) ?_
  refine va_put (D := G.1) (ci := 0) (v := .int 5) (ty := .int) (C := RX0) (T := TX0) (N := 9) hx hb hts inlX0 tyX0 tyX0_ok nmX0 hown hG.1 hP hD hS k (wn_at (by first | exact lqA rfl | exact lqB rfl | omega) hga0 hown0) rfl 7 (by decide) (hts (.fieldLink RX0 44 "SwornLists$Book" "pay" "I") w_64) (fun _ h9 => h9) rfl (by decide +kernel) rfl rfl (Nat.le_of_ble_eq_true rfl) dX0_init_101 (fun H locs hP hD hS => ?_)
  obtain ⟨f_22, hP, hD, e_22, o_22⟩ := n_put (by first | exact lqA rfl | exact lqB rfl | omega) hga0 hP hD
  have hown0 : f_22 k = eO 0 [.ref q1, .ref q2, .ref q3, .ref q4, .ref q5, .ref q6, .ref q7, .int 5, .int 0] := e_22
  refine lv_aload_n hx hb dX0_init_104 rfl (lv_at hl 0 rfl) ?_
  refine lv_bipush (v := 20) hx hb dX0_init_105 (by decide) ?_
  refine va_put (D := G.1) (ci := 0) (v := .int 20) (ty := .int) (C := RX0) (T := TX0) (N := 9) hx hb hts inlX0 tyX0 tyX0_ok nmX0 hown hG.1 hP hD hS k (wn_at (by first | exact lqA rfl | exact lqB rfl | omega) hga0 hown0) rfl 8 (by decide) (hts (.fieldLink RX0 48 "SwornLists$Book" "fine" "I") w_65) (fun _ h9 => h9) rfl (by decide +kernel) rfl rfl (Nat.le_of_ble_eq_true rfl) dX0_init_107 (fun H locs hP hD hS => ?_)
  obtain ⟨f_23, hP, hD, e_23, o_23⟩ := n_put (by first | exact lqA rfl | exact lqB rfl | omega) hga0 hP hD
  have hown0 : f_23 k = eO 0 [.ref q1, .ref q2, .ref q3, .ref q4, .ref q5, .ref q6, .ref q7, .int 5, .int 20] := e_23
  replace hg_1 := gq.tr ((og_20 (k + 1) (by first | exact lqB rfl | omega)).trans ((og_19 (k + 1) (by first | exact lqB rfl | omega)).trans ((og_17 (k + 1) (by first | exact lqB rfl | omega)).trans ((og_16 (k + 1) (by first | exact lqB rfl | omega)).trans ((og_14 (k + 1) (by first | exact lqB rfl | omega)).trans ((og_13 (k + 1) (by first | exact lqB rfl | omega)).trans ((og_11 (k + 1) (by first | exact lqB rfl | omega)).trans ((og_10 (k + 1) (by first | exact lqB rfl | omega)).trans ((og_8 (k + 1) (by first | exact lqB rfl | omega)).trans ((og_7 (k + 1) (by first | exact lqB rfl | omega)).trans ((og_5 (k + 1) (by first | exact lqB rfl | omega)).trans ((og_4 (k + 1) (by first | exact lqB rfl | omega)).trans ((og_2 (k + 1) (by first | exact lqB rfl | omega))))))))))))))) hg_1
  replace hg_4 := gq.tr ((og_20 (k + 3) (by first | exact lqB rfl | omega)).trans ((og_19 (k + 3) (by first | exact lqB rfl | omega)).trans ((og_17 (k + 3) (by first | exact lqB rfl | omega)).trans ((og_16 (k + 3) (by first | exact lqB rfl | omega)).trans ((og_14 (k + 3) (by first | exact lqB rfl | omega)).trans ((og_13 (k + 3) (by first | exact lqB rfl | omega)).trans ((og_11 (k + 3) (by first | exact lqB rfl | omega)).trans ((og_10 (k + 3) (by first | exact lqB rfl | omega)).trans ((og_8 (k + 3) (by first | exact lqB rfl | omega)).trans ((og_7 (k + 3) (by first | exact lqB rfl | omega)).trans ((og_5 (k + 3) (by first | exact lqB rfl | omega))))))))))))) hg_4
  replace hg_7 := gq.tr ((og_20 (k + 5) (by first | exact lqB rfl | omega)).trans ((og_19 (k + 5) (by first | exact lqB rfl | omega)).trans ((og_17 (k + 5) (by first | exact lqB rfl | omega)).trans ((og_16 (k + 5) (by first | exact lqB rfl | omega)).trans ((og_14 (k + 5) (by first | exact lqB rfl | omega)).trans ((og_13 (k + 5) (by first | exact lqB rfl | omega)).trans ((og_11 (k + 5) (by first | exact lqB rfl | omega)).trans ((og_10 (k + 5) (by first | exact lqB rfl | omega)).trans ((og_8 (k + 5) (by first | exact lqB rfl | omega))))))))))) hg_7
  replace hg_10 := gq.tr ((og_20 (k + 7) (by first | exact lqB rfl | omega)).trans ((og_19 (k + 7) (by first | exact lqB rfl | omega)).trans ((og_17 (k + 7) (by first | exact lqB rfl | omega)).trans ((og_16 (k + 7) (by first | exact lqB rfl | omega)).trans ((og_14 (k + 7) (by first | exact lqB rfl | omega)).trans ((og_13 (k + 7) (by first | exact lqB rfl | omega)).trans ((og_11 (k + 7) (by first | exact lqB rfl | omega))))))))) hg_10
  replace hg_13 := gq.tr ((og_20 (k + 9) (by first | exact lqB rfl | omega)).trans ((og_19 (k + 9) (by first | exact lqB rfl | omega)).trans ((og_17 (k + 9) (by first | exact lqB rfl | omega)).trans ((og_16 (k + 9) (by first | exact lqB rfl | omega)).trans ((og_14 (k + 9) (by first | exact lqB rfl | omega))))))) hg_13
  replace hg_16 := gq.tr ((og_20 (k + 11) (by first | exact lqB rfl | omega)).trans ((og_19 (k + 11) (by first | exact lqB rfl | omega)).trans ((og_17 (k + 11) (by first | exact lqB rfl | omega))))) hg_16
  replace hg_19 := gq.tr ((og_20 (k + 76) (by first | exact lqB rfl | omega))) hg_19
  replace hfq_2_0 := ((o_23 (k + 1) (by first | exact lqC rfl | exact lqE rfl | omega)).trans ((o_22 (k + 1) (by first | exact lqC rfl | exact lqE rfl | omega)).trans ((o_21 (k + 1) (by first | exact lqC rfl | exact lqE rfl | omega)).trans ((of_20 (k + 1) (by first | exact lqB rfl | omega)).trans ((of_19 (k + 1) (by first | exact lqB rfl | omega)).trans ((o_18 (k + 1) (by first | exact lqC rfl | exact lqE rfl | omega)).trans ((of_17 (k + 1) (by first | exact lqB rfl | omega)).trans ((of_16 (k + 1) (by first | exact lqB rfl | omega)).trans ((o_15 (k + 1) (by first | exact lqC rfl | exact lqE rfl | omega)).trans ((of_14 (k + 1) (by first | exact lqB rfl | omega)).trans ((of_13 (k + 1) (by first | exact lqB rfl | omega)).trans ((o_12 (k + 1) (by first | exact lqC rfl | exact lqE rfl | omega)).trans ((of_11 (k + 1) (by first | exact lqB rfl | omega)).trans ((of_10 (k + 1) (by first | exact lqB rfl | omega)).trans ((o_9 (k + 1) (by first | exact lqC rfl | exact lqE rfl | omega)).trans ((of_8 (k + 1) (by first | exact lqB rfl | omega)).trans ((of_7 (k + 1) (by first | exact lqB rfl | omega)).trans ((o_6 (k + 1) (by first | exact lqC rfl | exact lqE rfl | omega)).trans ((of_5 (k + 1) (by first | exact lqB rfl | omega)).trans ((of_4 (k + 1) (by first | exact lqB rfl | omega)).trans ((o_3 (k + 1) (by first | exact lqC rfl | exact lqE rfl | omega))))))))))))))))))))))).trans hfq_2_0
  replace hgq_2_1 := gq.tr ((og_20 (k + 2) (by first | exact lqB rfl | omega)).trans ((og_19 (k + 2) (by first | exact lqB rfl | omega)).trans ((og_17 (k + 2) (by first | exact lqB rfl | omega)).trans ((og_16 (k + 2) (by first | exact lqB rfl | omega)).trans ((og_14 (k + 2) (by first | exact lqB rfl | omega)).trans ((og_13 (k + 2) (by first | exact lqB rfl | omega)).trans ((og_11 (k + 2) (by first | exact lqB rfl | omega)).trans ((og_10 (k + 2) (by first | exact lqB rfl | omega)).trans ((og_8 (k + 2) (by first | exact lqB rfl | omega)).trans ((og_7 (k + 2) (by first | exact lqB rfl | omega)).trans ((og_5 (k + 2) (by first | exact lqB rfl | omega)).trans ((og_4 (k + 2) (by first | exact lqB rfl | omega)))))))))))))) hgq_2_1
  replace hfq_2_1 := ((o_23 (k + 2) (by first | exact lqC rfl | exact lqE rfl | omega)).trans ((o_22 (k + 2) (by first | exact lqC rfl | exact lqE rfl | omega)).trans ((o_21 (k + 2) (by first | exact lqC rfl | exact lqE rfl | omega)).trans ((of_20 (k + 2) (by first | exact lqB rfl | omega)).trans ((of_19 (k + 2) (by first | exact lqB rfl | omega)).trans ((o_18 (k + 2) (by first | exact lqC rfl | exact lqE rfl | omega)).trans ((of_17 (k + 2) (by first | exact lqB rfl | omega)).trans ((of_16 (k + 2) (by first | exact lqB rfl | omega)).trans ((o_15 (k + 2) (by first | exact lqC rfl | exact lqE rfl | omega)).trans ((of_14 (k + 2) (by first | exact lqB rfl | omega)).trans ((of_13 (k + 2) (by first | exact lqB rfl | omega)).trans ((o_12 (k + 2) (by first | exact lqC rfl | exact lqE rfl | omega)).trans ((of_11 (k + 2) (by first | exact lqB rfl | omega)).trans ((of_10 (k + 2) (by first | exact lqB rfl | omega)).trans ((o_9 (k + 2) (by first | exact lqC rfl | exact lqE rfl | omega)).trans ((of_8 (k + 2) (by first | exact lqB rfl | omega)).trans ((of_7 (k + 2) (by first | exact lqB rfl | omega)).trans ((o_6 (k + 2) (by first | exact lqC rfl | exact lqE rfl | omega)).trans ((of_5 (k + 2) (by first | exact lqB rfl | omega)).trans ((of_4 (k + 2) (by first | exact lqB rfl | omega)).trans ((o_3 (k + 2) (by first | exact lqC rfl | exact lqE rfl | omega))))))))))))))))))))))).trans hfq_2_1
  replace hfq_5_0 := ((o_23 (k + 3) (by first | exact lqC rfl | exact lqE rfl | omega)).trans ((o_22 (k + 3) (by first | exact lqC rfl | exact lqE rfl | omega)).trans ((o_21 (k + 3) (by first | exact lqC rfl | exact lqE rfl | omega)).trans ((of_20 (k + 3) (by first | exact lqB rfl | omega)).trans ((of_19 (k + 3) (by first | exact lqB rfl | omega)).trans ((o_18 (k + 3) (by first | exact lqC rfl | exact lqE rfl | omega)).trans ((of_17 (k + 3) (by first | exact lqB rfl | omega)).trans ((of_16 (k + 3) (by first | exact lqB rfl | omega)).trans ((o_15 (k + 3) (by first | exact lqC rfl | exact lqE rfl | omega)).trans ((of_14 (k + 3) (by first | exact lqB rfl | omega)).trans ((of_13 (k + 3) (by first | exact lqB rfl | omega)).trans ((o_12 (k + 3) (by first | exact lqC rfl | exact lqE rfl | omega)).trans ((of_11 (k + 3) (by first | exact lqB rfl | omega)).trans ((of_10 (k + 3) (by first | exact lqB rfl | omega)).trans ((o_9 (k + 3) (by first | exact lqC rfl | exact lqE rfl | omega)).trans ((of_8 (k + 3) (by first | exact lqB rfl | omega)).trans ((of_7 (k + 3) (by first | exact lqB rfl | omega)).trans ((o_6 (k + 3) (by first | exact lqC rfl | exact lqE rfl | omega)))))))))))))))))))).trans hfq_5_0
  replace hgq_5_1 := gq.tr ((og_20 (k + 4) (by first | exact lqB rfl | omega)).trans ((og_19 (k + 4) (by first | exact lqB rfl | omega)).trans ((og_17 (k + 4) (by first | exact lqB rfl | omega)).trans ((og_16 (k + 4) (by first | exact lqB rfl | omega)).trans ((og_14 (k + 4) (by first | exact lqB rfl | omega)).trans ((og_13 (k + 4) (by first | exact lqB rfl | omega)).trans ((og_11 (k + 4) (by first | exact lqB rfl | omega)).trans ((og_10 (k + 4) (by first | exact lqB rfl | omega)).trans ((og_8 (k + 4) (by first | exact lqB rfl | omega)).trans ((og_7 (k + 4) (by first | exact lqB rfl | omega)))))))))))) hgq_5_1
  replace hfq_5_1 := ((o_23 (k + 4) (by first | exact lqC rfl | exact lqE rfl | omega)).trans ((o_22 (k + 4) (by first | exact lqC rfl | exact lqE rfl | omega)).trans ((o_21 (k + 4) (by first | exact lqC rfl | exact lqE rfl | omega)).trans ((of_20 (k + 4) (by first | exact lqB rfl | omega)).trans ((of_19 (k + 4) (by first | exact lqB rfl | omega)).trans ((o_18 (k + 4) (by first | exact lqC rfl | exact lqE rfl | omega)).trans ((of_17 (k + 4) (by first | exact lqB rfl | omega)).trans ((of_16 (k + 4) (by first | exact lqB rfl | omega)).trans ((o_15 (k + 4) (by first | exact lqC rfl | exact lqE rfl | omega)).trans ((of_14 (k + 4) (by first | exact lqB rfl | omega)).trans ((of_13 (k + 4) (by first | exact lqB rfl | omega)).trans ((o_12 (k + 4) (by first | exact lqC rfl | exact lqE rfl | omega)).trans ((of_11 (k + 4) (by first | exact lqB rfl | omega)).trans ((of_10 (k + 4) (by first | exact lqB rfl | omega)).trans ((o_9 (k + 4) (by first | exact lqC rfl | exact lqE rfl | omega)).trans ((of_8 (k + 4) (by first | exact lqB rfl | omega)).trans ((of_7 (k + 4) (by first | exact lqB rfl | omega)).trans ((o_6 (k + 4) (by first | exact lqC rfl | exact lqE rfl | omega)))))))))))))))))))).trans hfq_5_1
  replace hfq_8_0 := ((o_23 (k + 5) (by first | exact lqC rfl | exact lqE rfl | omega)).trans ((o_22 (k + 5) (by first | exact lqC rfl | exact lqE rfl | omega)).trans ((o_21 (k + 5) (by first | exact lqC rfl | exact lqE rfl | omega)).trans ((of_20 (k + 5) (by first | exact lqB rfl | omega)).trans ((of_19 (k + 5) (by first | exact lqB rfl | omega)).trans ((o_18 (k + 5) (by first | exact lqC rfl | exact lqE rfl | omega)).trans ((of_17 (k + 5) (by first | exact lqB rfl | omega)).trans ((of_16 (k + 5) (by first | exact lqB rfl | omega)).trans ((o_15 (k + 5) (by first | exact lqC rfl | exact lqE rfl | omega)).trans ((of_14 (k + 5) (by first | exact lqB rfl | omega)).trans ((of_13 (k + 5) (by first | exact lqB rfl | omega)).trans ((o_12 (k + 5) (by first | exact lqC rfl | exact lqE rfl | omega)).trans ((of_11 (k + 5) (by first | exact lqB rfl | omega)).trans ((of_10 (k + 5) (by first | exact lqB rfl | omega)).trans ((o_9 (k + 5) (by first | exact lqC rfl | exact lqE rfl | omega))))))))))))))))).trans hfq_8_0
  replace hgq_8_1 := gq.tr ((og_20 (k + 6) (by first | exact lqB rfl | omega)).trans ((og_19 (k + 6) (by first | exact lqB rfl | omega)).trans ((og_17 (k + 6) (by first | exact lqB rfl | omega)).trans ((og_16 (k + 6) (by first | exact lqB rfl | omega)).trans ((og_14 (k + 6) (by first | exact lqB rfl | omega)).trans ((og_13 (k + 6) (by first | exact lqB rfl | omega)).trans ((og_11 (k + 6) (by first | exact lqB rfl | omega)).trans ((og_10 (k + 6) (by first | exact lqB rfl | omega)))))))))) hgq_8_1
  replace hfq_8_1 := ((o_23 (k + 6) (by first | exact lqC rfl | exact lqE rfl | omega)).trans ((o_22 (k + 6) (by first | exact lqC rfl | exact lqE rfl | omega)).trans ((o_21 (k + 6) (by first | exact lqC rfl | exact lqE rfl | omega)).trans ((of_20 (k + 6) (by first | exact lqB rfl | omega)).trans ((of_19 (k + 6) (by first | exact lqB rfl | omega)).trans ((o_18 (k + 6) (by first | exact lqC rfl | exact lqE rfl | omega)).trans ((of_17 (k + 6) (by first | exact lqB rfl | omega)).trans ((of_16 (k + 6) (by first | exact lqB rfl | omega)).trans ((o_15 (k + 6) (by first | exact lqC rfl | exact lqE rfl | omega)).trans ((of_14 (k + 6) (by first | exact lqB rfl | omega)).trans ((of_13 (k + 6) (by first | exact lqB rfl | omega)).trans ((o_12 (k + 6) (by first | exact lqC rfl | exact lqE rfl | omega)).trans ((of_11 (k + 6) (by first | exact lqB rfl | omega)).trans ((of_10 (k + 6) (by first | exact lqB rfl | omega)).trans ((o_9 (k + 6) (by first | exact lqC rfl | exact lqE rfl | omega))))))))))))))))).trans hfq_8_1
  replace hfq_11_0 := ((o_23 (k + 7) (by first | exact lqC rfl | exact lqE rfl | omega)).trans ((o_22 (k + 7) (by first | exact lqC rfl | exact lqE rfl | omega)).trans ((o_21 (k + 7) (by first | exact lqC rfl | exact lqE rfl | omega)).trans ((of_20 (k + 7) (by first | exact lqB rfl | omega)).trans ((of_19 (k + 7) (by first | exact lqB rfl | omega)).trans ((o_18 (k + 7) (by first | exact lqC rfl | exact lqE rfl | omega)).trans ((of_17 (k + 7) (by first | exact lqB rfl | omega)).trans ((of_16 (k + 7) (by first | exact lqB rfl | omega)).trans ((o_15 (k + 7) (by first | exact lqC rfl | exact lqE rfl | omega)).trans ((of_14 (k + 7) (by first | exact lqB rfl | omega)).trans ((of_13 (k + 7) (by first | exact lqB rfl | omega)).trans ((o_12 (k + 7) (by first | exact lqC rfl | exact lqE rfl | omega)))))))))))))).trans hfq_11_0
  replace hgq_11_1 := gq.tr ((og_20 (k + 8) (by first | exact lqB rfl | omega)).trans ((og_19 (k + 8) (by first | exact lqB rfl | omega)).trans ((og_17 (k + 8) (by first | exact lqB rfl | omega)).trans ((og_16 (k + 8) (by first | exact lqB rfl | omega)).trans ((og_14 (k + 8) (by first | exact lqB rfl | omega)).trans ((og_13 (k + 8) (by first | exact lqB rfl | omega)))))))) hgq_11_1
  replace hfq_11_1 := ((o_23 (k + 8) (by first | exact lqC rfl | exact lqE rfl | omega)).trans ((o_22 (k + 8) (by first | exact lqC rfl | exact lqE rfl | omega)).trans ((o_21 (k + 8) (by first | exact lqC rfl | exact lqE rfl | omega)).trans ((of_20 (k + 8) (by first | exact lqB rfl | omega)).trans ((of_19 (k + 8) (by first | exact lqB rfl | omega)).trans ((o_18 (k + 8) (by first | exact lqC rfl | exact lqE rfl | omega)).trans ((of_17 (k + 8) (by first | exact lqB rfl | omega)).trans ((of_16 (k + 8) (by first | exact lqB rfl | omega)).trans ((o_15 (k + 8) (by first | exact lqC rfl | exact lqE rfl | omega)).trans ((of_14 (k + 8) (by first | exact lqB rfl | omega)).trans ((of_13 (k + 8) (by first | exact lqB rfl | omega)).trans ((o_12 (k + 8) (by first | exact lqC rfl | exact lqE rfl | omega)))))))))))))).trans hfq_11_1
  replace hfq_14_0 := ((o_23 (k + 9) (by first | exact lqC rfl | exact lqE rfl | omega)).trans ((o_22 (k + 9) (by first | exact lqC rfl | exact lqE rfl | omega)).trans ((o_21 (k + 9) (by first | exact lqC rfl | exact lqE rfl | omega)).trans ((of_20 (k + 9) (by first | exact lqB rfl | omega)).trans ((of_19 (k + 9) (by first | exact lqB rfl | omega)).trans ((o_18 (k + 9) (by first | exact lqC rfl | exact lqE rfl | omega)).trans ((of_17 (k + 9) (by first | exact lqB rfl | omega)).trans ((of_16 (k + 9) (by first | exact lqB rfl | omega)).trans ((o_15 (k + 9) (by first | exact lqC rfl | exact lqE rfl | omega))))))))))).trans hfq_14_0
  replace hgq_14_1 := gq.tr ((og_20 (k + 10) (by first | exact lqB rfl | omega)).trans ((og_19 (k + 10) (by first | exact lqB rfl | omega)).trans ((og_17 (k + 10) (by first | exact lqB rfl | omega)).trans ((og_16 (k + 10) (by first | exact lqB rfl | omega)))))) hgq_14_1
  replace hfq_14_1 := ((o_23 (k + 10) (by first | exact lqC rfl | exact lqE rfl | omega)).trans ((o_22 (k + 10) (by first | exact lqC rfl | exact lqE rfl | omega)).trans ((o_21 (k + 10) (by first | exact lqC rfl | exact lqE rfl | omega)).trans ((of_20 (k + 10) (by first | exact lqB rfl | omega)).trans ((of_19 (k + 10) (by first | exact lqB rfl | omega)).trans ((o_18 (k + 10) (by first | exact lqC rfl | exact lqE rfl | omega)).trans ((of_17 (k + 10) (by first | exact lqB rfl | omega)).trans ((of_16 (k + 10) (by first | exact lqB rfl | omega)).trans ((o_15 (k + 10) (by first | exact lqC rfl | exact lqE rfl | omega))))))))))).trans hfq_14_1
  have pk_17_0 : nSh G g_17 f_18 (k + 11) 20 := nSh_gf pk_17_0 (fun j _ => rfl) (fun j h1 h2 => o_18 j (by omega))
  have pk_17_0 : nSh G g_19 f_19 (k + 11) 20 := nSh_gf pk_17_0 (fun j hj => og_19 j (by omega)) (fun j h1 h2 => of_19 j (by omega))
  have pk_17_0 : nSh G g_20 f_20 (k + 11) 20 := nSh_gf pk_17_0 (fun j hj => og_20 j (by omega)) (fun j h1 h2 => of_20 j (by omega))
  have pk_17_0 : nSh G g_20 f_21 (k + 11) 20 := nSh_gf pk_17_0 (fun j _ => rfl) (fun j h1 h2 => o_21 j (by omega))
  have pk_17_0 : nSh G g_20 f_22 (k + 11) 20 := nSh_gf pk_17_0 (fun j _ => rfl) (fun j h1 h2 => o_22 j (by omega))
  have pk_17_0 : nSh G g_20 f_23 (k + 11) 20 := nSh_gf pk_17_0 (fun j _ => rfl) (fun j h1 h2 => o_23 j (by omega))
  have pk_20_0 : nSh G g_20 f_21 (k + 76) 4 := nSh_gf pk_20_0 (fun j _ => rfl) (fun j h1 h2 => o_21 j (by omega))
  have pk_20_0 : nSh G g_20 f_22 (k + 76) 4 := nSh_gf pk_20_0 (fun j _ => rfl) (fun j h1 h2 => o_22 j (by omega))
  have pk_20_0 : nSh G g_20 f_23 (k + 76) 4 := nSh_gf pk_20_0 (fun j _ => rfl) (fun j h1 h2 => o_23 j (by omega))
  exact W.vret hx hb hr (fun t ht hW => ⟨⟨g_20, f_23, rfl, fun j hj => (og_20 j (by omega)).trans ((og_19 j (by omega)).trans ((og_17 j (by omega)).trans ((og_16 j (by omega)).trans ((og_14 j (by omega)).trans ((og_13 j (by omega)).trans ((og_11 j (by omega)).trans ((og_10 j (by omega)).trans ((og_8 j (by omega)).trans ((og_7 j (by omega)).trans ((og_5 j (by omega)).trans ((og_4 j (by omega)).trans ((og_2 j (by omega)).trans ((og_1 j (by omega))))))))))))))), ⟨(by rw [show g_20 (k + 1) = q1 from hg_1, show g_20 (k + 3) = q2 from hg_4, show g_20 (k + 5) = q3 from hg_7, show g_20 (k + 7) = q4 from hg_10, show g_20 (k + 9) = q5 from hg_13, show g_20 (k + 11) = q6 from hg_16, show g_20 (k + 76) = q7 from hg_19]; exact hown0), ⟨(by rw [show g_20 (k + 1) = q1 from hg_1, show g_20 (k + 3) = q2 from hg_4, show g_20 (k + 5) = q3 from hg_7, show g_20 (k + 7) = q4 from hg_10, show g_20 (k + 9) = q5 from hg_13, show g_20 (k + 11) = q6 from hg_16, show g_20 (k + 76) = q7 from hg_19]; exact hown0), (by rw [show g_20 (k + 2) = g_2 (k + 2) from hgq_2_1]; exact hfq_2_0), hfq_2_1, (by rw [show g_20 (k + 4) = g_5 (k + 4) from hgq_5_1]; exact hfq_5_0), hfq_5_1, (by rw [show g_20 (k + 6) = g_8 (k + 6) from hgq_8_1]; exact hfq_8_0), hfq_8_1, (by rw [show g_20 (k + 8) = g_11 (k + 8) from hgq_11_1]; exact hfq_11_0), hfq_11_1, (by rw [show g_20 (k + 10) = g_14 (k + 10) from hgq_14_1]; exact hfq_14_0), hfq_14_1, pk_17_0, pk_20_0⟩, fun j hj => (o_23 j (by omega)).trans ((o_22 j (by omega)).trans ((o_21 j (by omega)).trans ((of_20 j (by omega)).trans ((of_19 j (by omega)).trans ((o_18 j (by omega)).trans ((of_17 j (by omega)).trans ((of_16 j (by omega)).trans ((o_15 j (by omega)).trans ((of_14 j (by omega)).trans ((of_13 j (by omega)).trans ((o_12 j (by omega)).trans ((of_11 j (by omega)).trans ((of_10 j (by omega)).trans ((o_9 j (by omega)).trans ((of_8 j (by omega)).trans ((of_7 j (by omega)).trans ((o_6 j (by omega)).trans ((of_5 j (by omega)).trans ((of_4 j (by omega)).trans ((o_3 j (by omega)).trans ((of_2 j (by omega)).trans ((of_1 j (by omega))))))))))))))))))))))))⟩, by rw [ht]; exact hP, by rw [hAe]; exact hD⟩, by rw [hAe]; exact hS.F ht⟩) hS.2.2 dX0_init_110
set_option maxHeartbeats 4000000 in
set_option maxRecDepth 100000 in
theorem i_court (l : Launch) (G : gW) (g : Nat → Nat) (f : Nat → va_E) (sz k a : Nat) (hga0 : gq (g k) a) (hown0 : f k = eO 1 [.null, .null, .null, .null, .int 0]) : Met l yX1_init (wsT yX1_init cX1_init 2 none) ({ frames := 4, cells := 117, slots := 4196, locals := 74 }) (nP G (k + 1) g f sz [.ref a]) (nQ G (k + 1) (k + 118) g sz (fun (g' : Nat → Nat) (f' : Nat → va_E) => f' k = eO 1 [.ref (g' (k + 1)), .ref (g' (k + 94)), .ref (g' (k + 95)), .ref (g' (k + 97)), .int 0] ∧ (nC G g' f' k) ∧ ∀ j, j < k → f' j = f j)) 117 4196 (nA (k + 1) g sz) := by
  refine Met.ofW (cc := cX1_init) (maxL := 2) (ret := none) (by decide) rfl ?_
  intro p e s m args below meth c s₁ B hml hv
  obtain ⟨rfl, hsz, hP, hG, hD0⟩ := hv
  have hx := B.exec
  have hb := B.bytes
  have hr := B.returns
  have hts := my_hts (atoms_spec (ws := wsT yX1_init cX1_init 2 none) B.pre)
  have hown : s.vm.findClass RX1 = some m.cls := findClass_of_methodNamed B.named
  have hlocks := B.notSynchronized
  have hin : meth.name = "<init>" := (name_of_methodNamed B.named B.method).1
  subst hsz
  have hD := nD_self (sz := s.heap.size) hD0
  generalize hAe : nA (k + 1) g s.heap.size = A at hD ⊢
  have hA : ∀ q : Nat, s.heap.size ≤ q → A q := fun q h => by rw [← hAe]; exact Or.inr h
  have hS : va_S A s.heap s.heap [] := va_S.rf
  have hl := lv_entry ([.ref a]) (n := 2) (Nat.le_of_ble_eq_true rfl)
  rw [lg_entry_eq]
  generalize (lg_sl ([.ref a]) ++ List.replicate (2 - (lg_sl ([.ref a])).length) Slot.unset).toArray = ls at hl ⊢
  have hl : lv_has ls 2 [(0, .ref a)] := hl
  refine lv_aload_n hx hb dX1_init_0 rfl (lv_at hl 0 rfl) ?_
  refine W.objInit hx hb hown (hts (.methodLink RX1 3 objectInit) w_38) (hts (.instanceMethod objectInit) w_10) (hts (.code objectInit ⟨#[0xb1]⟩ 1 none) w_11) rfl (by rw [hml]; exact hl.1) rfl dX1_init_1 (Nat.le_of_ble_eq_true rfl) (Nat.le_of_ble_eq_true rfl) ?_
  refine W.eq (g2 := F0 m 4 ls []) rfl ?_
  refine lv_aload_n hx hb dX1_init_4 rfl (lv_at hl 0 rfl) ?_
  refine va_new (ci := 0) (fs := [.null, .null, .null, .null, .null, .null, .null, .int 0, .int 0]) (C := RX0) (T := TX0) (N := 9) hx hb hts inlX0 tyX0 tyX0_ok hown (hts (.classLink RX1 9 RX0) w_39) (hts (.instantiable RX0 9) w_33) (hts (.initialized RX0) w_34) hG.1 hP hD hS hA rfl (fun j hj => by rcases (show j = 0 ∨ j = 1 ∨ j = 2 ∨ j = 3 ∨ j = 4 ∨ j = 5 ∨ j = 6 ∨ j = 7 ∨ j = 8 by omega) with rfl | rfl | rfl | rfl | rfl | rfl | rfl | rfl | rfl <;> rfl) (Nat.le_of_ble_eq_true rfl) (Nat.le_of_ble_eq_true rfl) dX1_init_5 (fun q1 H hP hD hS => ?_)
  obtain ⟨g_1, f_1, hP, hD, hg_1, hf_1, og_1, of_1⟩ := n_ext hP hD
  have hf_1 : f_1 (k + 1) = eO 0 [.null, .null, .null, .null, .null, .null, .null, .int 0, .int 0] := hf_1
  have hg_1 : gq (g_1 (k + 1)) q1 := hg_1
  have hP : va_P G.1 vwCl (wn (k + 2) g_1 f_1) H := hP
  have hD : va_D A (wn (k + 2) g_1 f_1) := hD
  refine W.widen (k := 1) (n := 9) (by omega) (by omega) ?_
  refine lv_dup hx hb dX1_init_8 rfl ?_
  refine n_call (va_runIN (As := []) (rest := [.ref q1, .ref a]) ⟨hx, hb, hml, hown, hts⟩ (i_book l G g_1 f_1 H.size (k + 1) q1 hg_1 hf_1) (⟨my_cn hts ok_X0_init.1 (hG.2.1 (.methodLinkNest RX1 11 yX0_init RX10) (List.mem_of_getElem? (i := 22) rfl)) rfl rfl ⟨Nat.le_of_ble_eq_true rfl, Nat.le_of_ble_eq_true rfl⟩, rfl, hts _ ok_X0_init.2.2.1⟩) ⟨nP.blind, fun U hU hW => ⟨rfl, by rw [hU], by rw [hU]; exact hP, kG.warm hW hG, hD.weaken (fun _ _ _ _ => trivial)⟩⟩ rfl rfl hl.1 rfl (lv_room (Nat.le_of_ble_eq_true rfl)) dX1_init_9 ⟨Nat.le_of_ble_eq_true rfl, Nat.le_of_ble_eq_true rfl⟩) hD hS hA (fun g_2 f_2 H locs og_2 hq9 hP hD hS => ?_)
  obtain ⟨hq_2_0, hx_2_0, of_2⟩ := hq9
  have hfq_2_0 : f_2 (k + 1) = eO 0 [.ref (g_2 (k + 2)), .ref (g_2 (k + 4)), .ref (g_2 (k + 6)), .ref (g_2 (k + 8)), .ref (g_2 (k + 10)), .ref (g_2 (k + 12)), .ref (g_2 (k + 77)), .int 5, .int 20] := hq_2_0
  have pk_2_0 : nB G g_2 f_2 (k + 1) := hx_2_0
  have hP : va_P G.1 vwCl (wn (k + 94) g_2 f_2) H := hP
  have hD : va_D A (wn (k + 94) g_2 f_2) := hD
  refine W.widen (k := 93) (n := 3773) (by omega) (by omega) ?_
  replace hown0 := ((of_2 k (by first | exact lqA rfl | omega)).trans ((of_1 k (by first | exact lqA rfl | omega)))).trans hown0
  replace hga0 := gq.tr ((og_2 k (by first | exact lqA rfl | omega)).trans ((og_1 k (by first | exact lqA rfl | omega)))) hga0
  refine va_putF (D := G.1) (ci := 1) (v := .ref q1) (ty := .object "SwornLists$Book") (C := RX1) (T := TX1) (N := 5) hx hb hts inlX1 tyX1 tyX1_ok nmX1 hown hG.1 hP hD hS k (wn_at (by first | exact lqA rfl | exact lqB rfl | omega) hga0 hown0) rfl 0 (by decide) (hts (.fieldLink RX1 12 "SwornLists$Court" "book" "LSwornLists$Book;") w_40) (fun _ h9 => h9) rfl hin rfl (by decide +kernel) rfl rfl (Nat.le_of_ble_eq_true rfl) dX1_init_12 (fun H locs hP hD hS => ?_)
  obtain ⟨f_3, hP, hD, e_3, o_3⟩ := n_put (by first | exact lqA rfl | exact lqB rfl | omega) hga0 hP hD
  have hown0 : f_3 k = eO 1 [.ref q1, .null, .null, .null, .int 0] := e_3
  refine lv_aload_n hx hb dX1_init_15 rfl (lv_at hl 0 rfl) ?_
  refine lv_bipush (v := 10) hx hb dX1_init_16 (by decide) ?_
  refine my_newq hx hb 4 hown (hts (.classLink RX1 18 RX3) w_41) hG.2.2.2.1 hG.1 rfl hP hD hS hA (N' := 10) (by decide) (by decide) (Nat.le_of_ble_eq_true rfl) (Nat.le_of_ble_eq_true rfl) (Nat.le_of_ble_eq_true rfl) dX1_init_18 (fun q2 H hP hD hS => ?_)
  obtain ⟨g_4, f_4, hP, hD, hg_4, hf_4, og_4, of_4⟩ := n_ext hP hD
  have hf_4 : f_4 (k + 94) = eA G 4 10 (aL []) := hf_4
  have hg_4 : gq (g_4 (k + 94)) q2 := hg_4
  have hP : va_P G.1 vwCl (wn (k + 95) g_4 f_4) H := hP
  have hD : va_D A (wn (k + 95) g_4 f_4) := hD
  refine W.widen (k := 94) (n := 3783) (by omega) (by omega) ?_
  replace hown0 := ((of_4 k (by first | exact lqA rfl | omega))).trans hown0
  replace hga0 := gq.tr ((og_4 k (by first | exact lqA rfl | omega))) hga0
  refine va_putF (D := G.1) (ci := 1) (v := .ref q2) (ty := .array (.object "SwornLists$Hearing")) (C := RX1) (T := TX1) (N := 5) hx hb hts inlX1 tyX1 tyX1_ok nmX1 hown hG.1 hP hD hS k (wn_at (by first | exact lqA rfl | exact lqB rfl | omega) hga0 hown0) rfl 1 (by decide) (hts (.fieldLink RX1 20 "SwornLists$Court" "hearings" "[LSwornLists$Hearing;") w_42) (fun _ h9 => h9) rfl hin rfl (by decide +kernel) rfl rfl (Nat.le_of_ble_eq_true rfl) dX1_init_21 (fun H locs hP hD hS => ?_)
  obtain ⟨f_5, hP, hD, e_5, o_5⟩ := n_put (by first | exact lqA rfl | exact lqB rfl | omega) hga0 hP hD
  have hown0 : f_5 k = eO 1 [.ref q1, .ref q2, .null, .null, .int 0] := e_5
  refine lv_aload_n hx hb dX1_init_24 rfl (lv_at hl 0 rfl) ?_
  refine va_new (ci := 3) (fs := [.null, .int 0, .int 0, .int 0, .int 0, .int 0, .int 0, .int 0, .int 0]) (C := RX3) (T := TX3) (N := 9) hx hb hts inlX3 tyX3 tyX3_ok hown (hts (.classLink RX1 18 RX3) w_41) (hts (.instantiable RX3 9) w_43) (hts (.initialized RX3) w_44) hG.1 hP hD hS hA rfl (fun j hj => by rcases (show j = 0 ∨ j = 1 ∨ j = 2 ∨ j = 3 ∨ j = 4 ∨ j = 5 ∨ j = 6 ∨ j = 7 ∨ j = 8 by omega) with rfl | rfl | rfl | rfl | rfl | rfl | rfl | rfl | rfl <;> rfl) (Nat.le_of_ble_eq_true rfl) (Nat.le_of_ble_eq_true rfl) dX1_init_25 (fun q3 H hP hD hS => ?_)
  obtain ⟨g_6, f_6, hP, hD, hg_6, hf_6, og_6, of_6⟩ := n_ext hP hD
  have hf_6 : f_6 (k + 95) = eO 3 [.null, .int 0, .int 0, .int 0, .int 0, .int 0, .int 0, .int 0, .int 0] := hf_6
  have hg_6 : gq (g_6 (k + 95)) q3 := hg_6
  have hP : va_P G.1 vwCl (wn (k + 96) g_6 f_6) H := hP
  have hD : va_D A (wn (k + 96) g_6 f_6) := hD
  refine W.widen (k := 95) (n := 3792) (by omega) (by omega) ?_
  refine lv_dup hx hb dX1_init_28 rfl ?_
  refine n_call (va_runIN (As := []) (rest := [.ref q3, .ref a]) ⟨hx, hb, hml, hown, hts⟩ (i_hearing l G g_6 f_6 H.size (k + 95) q3 hg_6 hf_6) (⟨my_cn hts ok_X3_init.1 (hG.2.1 (.methodLinkNest RX1 24 yX3_init RX10) (List.mem_of_getElem? (i := 24) rfl)) rfl rfl ⟨Nat.le_of_ble_eq_true rfl, Nat.le_of_ble_eq_true rfl⟩, rfl, hts _ ok_X3_init.2.2.1⟩) ⟨nP.blind, fun U hU hW => ⟨rfl, by rw [hU], by rw [hU]; exact hP, kG.warm hW hG, hD.weaken (fun _ _ _ _ => trivial)⟩⟩ rfl rfl hl.1 rfl (lv_room (Nat.le_of_ble_eq_true rfl)) dX1_init_29 ⟨Nat.le_of_ble_eq_true rfl, Nat.le_of_ble_eq_true rfl⟩) hD hS hA (fun g_7 f_7 H locs og_7 hq9 hP hD hS => ?_)
  obtain ⟨hq_7_0, hx_7_0, of_7⟩ := hq9
  have hfq_7_0 : f_7 (k + 95) = eO 3 [.ref (g_7 (k + 96)), .int 0, .int 0, .int 0, .int 0, .int 0, .int 0, .int 0, .int 0] := hq_7_0
  have pk_7_0 : nH G g_7 f_7 (k + 95) := hx_7_0
  have hP : va_P G.1 vwCl (wn (k + 97) g_7 f_7) H := hP
  have hD : va_D A (wn (k + 97) g_7 f_7) := hD
  refine W.widen (k := 96) (n := 3816) (by omega) (by omega) ?_
  replace hown0 := ((of_7 k (by first | exact lqA rfl | omega)).trans ((of_6 k (by first | exact lqA rfl | omega)))).trans hown0
  replace hga0 := gq.tr ((og_7 k (by first | exact lqA rfl | omega)).trans ((og_6 k (by first | exact lqA rfl | omega)))) hga0
  refine va_putF (D := G.1) (ci := 1) (v := .ref q3) (ty := .object "SwornLists$Hearing") (C := RX1) (T := TX1) (N := 5) hx hb hts inlX1 tyX1 tyX1_ok nmX1 hown hG.1 hP hD hS k (wn_at (by first | exact lqA rfl | exact lqB rfl | omega) hga0 hown0) rfl 2 (by decide) (hts (.fieldLink RX1 25 "SwornLists$Court" "spare" "LSwornLists$Hearing;") w_45) (fun _ h9 => h9) rfl hin rfl (by decide +kernel) rfl rfl (Nat.le_of_ble_eq_true rfl) dX1_init_32 (fun H locs hP hD hS => ?_)
  obtain ⟨f_8, hP, hD, e_8, o_8⟩ := n_put (by first | exact lqA rfl | exact lqB rfl | omega) hga0 hP hD
  have hown0 : f_8 k = eO 1 [.ref q1, .ref q2, .ref q3, .null, .int 0] := e_8
  refine lv_aload_n hx hb dX1_init_35 rfl (lv_at hl 0 rfl) ?_
  refine lv_bipush (v := 50) hx hb dX1_init_36 (by decide) ?_
  refine my_newaJ hx hb (hts (.arrayClass .long) w_46) hG.1 hP hD hS hA (N' := 50) (by decide) (by decide) (Nat.le_of_ble_eq_true rfl) (Nat.le_of_ble_eq_true rfl) (Nat.le_of_ble_eq_true rfl) dX1_init_38 (fun q4 H hP hD hS => ?_)
  obtain ⟨g_9, f_9, hP, hD, hg_9, hf_9, og_9, of_9⟩ := n_ext hP hD
  have hf_9 : f_9 (k + 97) = eJ G 50 (fun _ => 0) := hf_9
  have hg_9 : gq (g_9 (k + 97)) q4 := hg_9
  have hP : va_P G.1 vwCl (wn (k + 98) g_9 f_9) H := hP
  have hD : va_D A (wn (k + 98) g_9 f_9) := hD
  refine W.widen (k := 97) (n := 3866) (by omega) (by omega) ?_
  replace hown0 := ((of_9 k (by first | exact lqA rfl | omega))).trans hown0
  replace hga0 := gq.tr ((og_9 k (by first | exact lqA rfl | omega))) hga0
  refine va_putF (D := G.1) (ci := 1) (v := .ref q4) (ty := .array .long) (C := RX1) (T := TX1) (N := 5) hx hb hts inlX1 tyX1 tyX1_ok nmX1 hown hG.1 hP hD hS k (wn_at (by first | exact lqA rfl | exact lqB rfl | omega) hga0 hown0) rfl 3 (by decide) (hts (.fieldLink RX1 29 "SwornLists$Court" "values" "[J") w_47) (fun _ h9 => h9) rfl hin rfl (by decide +kernel) rfl rfl (Nat.le_of_ble_eq_true rfl) dX1_init_40 (fun H locs hP hD hS => ?_)
  obtain ⟨f_10, hP, hD, e_10, o_10⟩ := n_put (by first | exact lqA rfl | exact lqB rfl | omega) hga0 hP hD
  have hown0 : f_10 k = eO 1 [.ref q1, .ref q2, .ref q3, .ref q4, .int 0] := e_10
  refine lv_iconst (v := 0) hx hb dX1_init_43 (by decide) ?_
  refine lv_istore_n (lv' := [(1, .int 0), (0, .ref a)]) hx hb dX1_init_44 rfl hl (by decide) rfl (fun ls hl => ?_)
  refine lv_iload_n hx hb dX1_init_45 rfl (lv_at hl 0 rfl) ?_
  refine lv_bipush (v := 10) hx hb dX1_init_46 (by decide) ?_
  refine lv_icmp_ge (tgt := 70) hx hb dX1_init_48 (by decide) (fun c_48 => absurd c_48 (by decide)) (fun c_48 => ?_)
  refine lv_aload_n hx hb dX1_init_51 rfl (lv_at hl 1 rfl) ?_
  refine va_get (D := G.1) (ci := 1) (v := .ref q2) (C := RX1) (T := TX1) (N := 5) hx hb hts inlX1 hown hG.1 hP k (wn_at (by first | exact lqA rfl | exact lqB rfl | omega) hga0 hown0) rfl 1 (by decide) (hts (.fieldLink RX1 20 "SwornLists$Court" "hearings" "[LSwornLists$Hearing;") w_42) (fun _ h9 => h9) rfl dX1_init_52 ?_
  refine lv_iload_n hx hb dX1_init_55 rfl (lv_at hl 0 rfl) ?_
  refine va_new (ci := 3) (fs := [.null, .int 0, .int 0, .int 0, .int 0, .int 0, .int 0, .int 0, .int 0]) (C := RX3) (T := TX3) (N := 9) hx hb hts inlX3 tyX3 tyX3_ok hown (hts (.classLink RX1 18 RX3) w_41) (hts (.instantiable RX3 9) w_43) (hts (.initialized RX3) w_44) hG.1 hP hD hS hA rfl (fun j hj => by rcases (show j = 0 ∨ j = 1 ∨ j = 2 ∨ j = 3 ∨ j = 4 ∨ j = 5 ∨ j = 6 ∨ j = 7 ∨ j = 8 by omega) with rfl | rfl | rfl | rfl | rfl | rfl | rfl | rfl | rfl <;> rfl) (Nat.le_of_ble_eq_true rfl) (Nat.le_of_ble_eq_true rfl) dX1_init_56 (fun q5 H hP hD hS => ?_)
  obtain ⟨g_11, f_11, hP, hD, hg_11, hf_11, og_11, of_11⟩ := n_ext hP hD
  have hf_11 : f_11 (k + 98) = eO 3 [.null, .int 0, .int 0, .int 0, .int 0, .int 0, .int 0, .int 0, .int 0] := hf_11
  have hg_11 : gq (g_11 (k + 98)) q5 := hg_11
  have hP : va_P G.1 vwCl (wn (k + 99) g_11 f_11) H := hP
  have hD : va_D A (wn (k + 99) g_11 f_11) := hD
  refine W.widen (k := 98) (n := 3875) (by omega) (by omega) ?_
  refine lv_dup hx hb dX1_init_59 rfl ?_
  refine n_call (va_runIN (As := []) (rest := [.ref q5, .int 0, .ref q2]) ⟨hx, hb, hml, hown, hts⟩ (i_hearing l G g_11 f_11 H.size (k + 98) q5 hg_11 hf_11) (⟨my_cn hts ok_X3_init.1 (hG.2.1 (.methodLinkNest RX1 24 yX3_init RX10) (List.mem_of_getElem? (i := 24) rfl)) rfl rfl ⟨Nat.le_of_ble_eq_true rfl, Nat.le_of_ble_eq_true rfl⟩, rfl, hts _ ok_X3_init.2.2.1⟩) ⟨nP.blind, fun U hU hW => ⟨rfl, by rw [hU], by rw [hU]; exact hP, kG.warm hW hG, hD.weaken (fun _ _ _ _ => trivial)⟩⟩ rfl rfl hl.1 rfl (lv_room (Nat.le_of_ble_eq_true rfl)) dX1_init_60 ⟨Nat.le_of_ble_eq_true rfl, Nat.le_of_ble_eq_true rfl⟩) hD hS hA (fun g_12 f_12 H locs og_12 hq9 hP hD hS => ?_)
  obtain ⟨hq_12_0, hx_12_0, of_12⟩ := hq9
  have hfq_12_0 : f_12 (k + 98) = eO 3 [.ref (g_12 (k + 99)), .int 0, .int 0, .int 0, .int 0, .int 0, .int 0, .int 0, .int 0] := hq_12_0
  have pk_12_0 : nH G g_12 f_12 (k + 98) := hx_12_0
  have hP : va_P G.1 vwCl (wn (k + 100) g_12 f_12) H := hP
  have hD : va_D A (wn (k + 100) g_12 f_12) := hD
  refine W.widen (k := 99) (n := 3899) (by omega) (by omega) ?_
  replace hf_4 := ((of_12 (k + 94) (by first | exact lqB rfl | omega)).trans ((of_11 (k + 94) (by first | exact lqB rfl | omega)).trans ((o_10 (k + 94) (by first | exact lqC rfl | exact lqE rfl | omega)).trans ((of_9 (k + 94) (by first | exact lqB rfl | omega)).trans ((o_8 (k + 94) (by first | exact lqC rfl | exact lqE rfl | omega)).trans ((of_7 (k + 94) (by first | exact lqB rfl | omega)).trans ((of_6 (k + 94) (by first | exact lqB rfl | omega)).trans ((o_5 (k + 94) (by first | exact lqC rfl | exact lqE rfl | omega)))))))))).trans hf_4
  replace hg_4 := gq.tr ((og_12 (k + 94) (by first | exact lqB rfl | omega)).trans ((og_11 (k + 94) (by first | exact lqB rfl | omega)).trans ((og_9 (k + 94) (by first | exact lqB rfl | omega)).trans ((og_7 (k + 94) (by first | exact lqB rfl | omega)).trans ((og_6 (k + 94) (by first | exact lqB rfl | omega))))))) hg_4
  replace hg_11 := gq.tr ((og_12 (k + 98) (by first | exact lqB rfl | omega))) hg_11
  refine va_astq (r := (RX3, TX3, 9)) hx hb hG.1 hP hD hS (k + 94) 4 (k + 98) 3 (wn_at (by first | exact lqA rfl | exact lqB rfl | omega) hg_4 hf_4) rfl (wn_at (by first | exact lqA rfl | exact lqB rfl | omega) hg_11 hfq_12_0) rfl (by unfold vp_in; decide) dX1_init_63 (fun H locs hP hD hS => ?_)
  have ef : va_up (aL []) (Int32.toNatClampNeg 0) (some q5) = aL [q5] := aL_push [] q5
  have hP := (congrArg (fun z9 => va_P G.1 vwCl ((wn (k + 100) g_12 f_12).set (k + 94) (q2, eA G 4 10 z9)) H) ef).mp hP
  have hD := (congrArg (fun z9 => va_D A ((wn (k + 100) g_12 f_12).set (k + 94) (q2, eA G 4 10 z9))) ef).mp hD
  obtain ⟨f_13, hP, hD, e_13, o_13⟩ := n_put (by first | exact lqA rfl | exact lqB rfl | omega) hg_4 hP hD
  have hf_4 : f_13 (k + 94) = eA G 4 10 (aL [q5]) := e_13
  have pk_12_0 : nH G g_12 f_13 (k + 98) := nH_gf pk_12_0 (fun j _ => rfl) (fun j h1 h2 => o_13 j (by omega))
  have txA : ∀ z, z < 0 → nH G g_12 f_13 (k + 2 * z + 98) := fun z hz => absurd hz (Nat.not_lt_zero _)
  have taA : ∀ z, z < 0 → (aL []) z = some (g_12 (k + 2 * z + 98)) := fun z hz => absurd hz (Nat.not_lt_zero _)
  have txA : ∀ z, z < 1 → nH G g_12 f_13 (k + 2 * z + 98) := tx_ext (P := fun z => nH G g_12 f_13 (k + 2 * z + 98)) txA pk_12_0
  have taA : ∀ z, z < 1 → (aL [q5]) z = some (g_12 (k + 2 * z + 98)) := ta_ext (L := []) (s := 2) (c := 98) rfl taA hg_11
  refine lv_iinc (v := 1) (lv' := [(1, .int 1), (0, .ref a)]) hx hb dX1_init_64 hl (k := 0) rfl (by decide) (by decide) rfl (fun ls hl => ?_)
  refine lv_goto (tgt := 45) hx hb dX1_init_67 (by decide) ?_
  refine lv_iload_n hx hb dX1_init_45 rfl (lv_at hl 0 rfl) ?_
  refine lv_bipush (v := 10) hx hb dX1_init_46 (by decide) ?_
  refine lv_icmp_ge (tgt := 70) hx hb dX1_init_48 (by decide) (fun c_48 => absurd c_48 (by decide)) (fun c_48 => ?_)
  refine lv_aload_n hx hb dX1_init_51 rfl (lv_at hl 1 rfl) ?_
  replace hown0 := ((o_13 k (by first | exact lqD rfl | omega)).trans ((of_12 k (by first | exact lqA rfl | omega)).trans ((of_11 k (by first | exact lqA rfl | omega))))).trans hown0
  replace hga0 := gq.tr ((og_12 k (by first | exact lqA rfl | omega)).trans ((og_11 k (by first | exact lqA rfl | omega)))) hga0
  refine va_get (D := G.1) (ci := 1) (v := .ref q2) (C := RX1) (T := TX1) (N := 5) hx hb hts inlX1 hown hG.1 hP k (wn_at (by first | exact lqA rfl | exact lqB rfl | omega) hga0 hown0) rfl 1 (by decide) (hts (.fieldLink RX1 20 "SwornLists$Court" "hearings" "[LSwornLists$Hearing;") w_42) (fun _ h9 => h9) rfl dX1_init_52 ?_
  refine lv_iload_n hx hb dX1_init_55 rfl (lv_at hl 0 rfl) ?_
  refine va_new (ci := 3) (fs := [.null, .int 0, .int 0, .int 0, .int 0, .int 0, .int 0, .int 0, .int 0]) (C := RX3) (T := TX3) (N := 9) hx hb hts inlX3 tyX3 tyX3_ok hown (hts (.classLink RX1 18 RX3) w_41) (hts (.instantiable RX3 9) w_43) (hts (.initialized RX3) w_44) hG.1 hP hD hS hA rfl (fun j hj => by rcases (show j = 0 ∨ j = 1 ∨ j = 2 ∨ j = 3 ∨ j = 4 ∨ j = 5 ∨ j = 6 ∨ j = 7 ∨ j = 8 by omega) with rfl | rfl | rfl | rfl | rfl | rfl | rfl | rfl | rfl <;> rfl) (Nat.le_of_ble_eq_true rfl) (Nat.le_of_ble_eq_true rfl) dX1_init_56 (fun q6 H hP hD hS => ?_)
  obtain ⟨g_14, f_14, hP, hD, hg_14, hf_14, og_14, of_14⟩ := n_ext hP hD
  have hf_14 : f_14 (k + 100) = eO 3 [.null, .int 0, .int 0, .int 0, .int 0, .int 0, .int 0, .int 0, .int 0] := hf_14
  have hg_14 : gq (g_14 (k + 100)) q6 := hg_14
  have hP : va_P G.1 vwCl (wn (k + 101) g_14 f_14) H := hP
  have hD : va_D A (wn (k + 101) g_14 f_14) := hD
  refine W.widen (k := 100) (n := 3908) (by omega) (by omega) ?_
  refine lv_dup hx hb dX1_init_59 rfl ?_
  refine n_call (va_runIN (As := []) (rest := [.ref q6, .int 1, .ref q2]) ⟨hx, hb, hml, hown, hts⟩ (i_hearing l G g_14 f_14 H.size (k + 100) q6 hg_14 hf_14) (⟨my_cn hts ok_X3_init.1 (hG.2.1 (.methodLinkNest RX1 24 yX3_init RX10) (List.mem_of_getElem? (i := 24) rfl)) rfl rfl ⟨Nat.le_of_ble_eq_true rfl, Nat.le_of_ble_eq_true rfl⟩, rfl, hts _ ok_X3_init.2.2.1⟩) ⟨nP.blind, fun U hU hW => ⟨rfl, by rw [hU], by rw [hU]; exact hP, kG.warm hW hG, hD.weaken (fun _ _ _ _ => trivial)⟩⟩ rfl rfl hl.1 rfl (lv_room (Nat.le_of_ble_eq_true rfl)) dX1_init_60 ⟨Nat.le_of_ble_eq_true rfl, Nat.le_of_ble_eq_true rfl⟩) hD hS hA (fun g_15 f_15 H locs og_15 hq9 hP hD hS => ?_)
  obtain ⟨hq_15_0, hx_15_0, of_15⟩ := hq9
  have hfq_15_0 : f_15 (k + 100) = eO 3 [.ref (g_15 (k + 101)), .int 0, .int 0, .int 0, .int 0, .int 0, .int 0, .int 0, .int 0] := hq_15_0
  have pk_15_0 : nH G g_15 f_15 (k + 100) := hx_15_0
  have hP : va_P G.1 vwCl (wn (k + 102) g_15 f_15) H := hP
  have hD : va_D A (wn (k + 102) g_15 f_15) := hD
  refine W.widen (k := 101) (n := 3932) (by omega) (by omega) ?_
  replace hf_4 := ((of_15 (k + 94) (by first | exact lqB rfl | omega)).trans ((of_14 (k + 94) (by first | exact lqB rfl | omega)))).trans hf_4
  replace hg_4 := gq.tr ((og_15 (k + 94) (by first | exact lqB rfl | omega)).trans ((og_14 (k + 94) (by first | exact lqB rfl | omega)))) hg_4
  replace hg_14 := gq.tr ((og_15 (k + 100) (by first | exact lqB rfl | omega))) hg_14
  refine va_astq (r := (RX3, TX3, 9)) hx hb hG.1 hP hD hS (k + 94) 4 (k + 100) 3 (wn_at (by first | exact lqA rfl | exact lqB rfl | omega) hg_4 hf_4) rfl (wn_at (by first | exact lqA rfl | exact lqB rfl | omega) hg_14 hfq_15_0) rfl (by unfold vp_in; decide) dX1_init_63 (fun H locs hP hD hS => ?_)
  have ef : va_up (aL [q5]) (Int32.toNatClampNeg 1) (some q6) = aL [q5, q6] := aL_push [q5] q6
  have hP := (congrArg (fun z9 => va_P G.1 vwCl ((wn (k + 102) g_15 f_15).set (k + 94) (q2, eA G 4 10 z9)) H) ef).mp hP
  have hD := (congrArg (fun z9 => va_D A ((wn (k + 102) g_15 f_15).set (k + 94) (q2, eA G 4 10 z9))) ef).mp hD
  obtain ⟨f_16, hP, hD, e_16, o_16⟩ := n_put (by first | exact lqA rfl | exact lqB rfl | omega) hg_4 hP hD
  have hf_4 : f_16 (k + 94) = eA G 4 10 (aL [q5, q6]) := e_16
  have pk_15_0 : nH G g_15 f_16 (k + 100) := nH_gf pk_15_0 (fun j _ => rfl) (fun j h1 h2 => o_16 j (by omega))
  have txA : ∀ z, z < 1 → nH G g_14 f_14 (k + 2 * z + 98) := fun z hz => nH_gf (txA z hz) (fun j hj => og_14 j (by omega)) (fun j h1 h2 => of_14 j (by omega))
  have txA : ∀ z, z < 1 → nH G g_15 f_15 (k + 2 * z + 98) := fun z hz => nH_gf (txA z hz) (fun j hj => og_15 j (by omega)) (fun j h1 h2 => of_15 j (by omega))
  have txA : ∀ z, z < 1 → nH G g_15 f_16 (k + 2 * z + 98) := fun z hz => nH_gf (txA z hz) (fun j _ => rfl) (fun j h1 h2 => o_16 j (by omega))
  have taA : ∀ z, z < 1 → (aL [q5]) z = some (g_14 (k + 2 * z + 98)) := fun z hz => (taA z hz).trans (congrArg some (og_14 _ (by omega)).symm)
  have taA : ∀ z, z < 1 → (aL [q5]) z = some (g_15 (k + 2 * z + 98)) := fun z hz => (taA z hz).trans (congrArg some (og_15 _ (by omega)).symm)
  have taA : ∀ z, z < 1 → (aL [q5]) z = some (g_15 (k + 2 * z + 98)) := taA
  have txA : ∀ z, z < 2 → nH G g_15 f_16 (k + 2 * z + 98) := tx_ext (P := fun z => nH G g_15 f_16 (k + 2 * z + 98)) txA pk_15_0
  have taA : ∀ z, z < 2 → (aL [q5, q6]) z = some (g_15 (k + 2 * z + 98)) := ta_ext (L := [q5]) (s := 2) (c := 98) rfl taA hg_14
  refine lv_iinc (v := 2) (lv' := [(1, .int 2), (0, .ref a)]) hx hb dX1_init_64 hl (k := 0) rfl (by decide) (by decide) rfl (fun ls hl => ?_)
  refine lv_goto (tgt := 45) hx hb dX1_init_67 (by decide) ?_
  refine lv_iload_n hx hb dX1_init_45 rfl (lv_at hl 0 rfl) ?_
  refine lv_bipush (v := 10) hx hb dX1_init_46 (by decide) ?_
  refine lv_icmp_ge (tgt := 70) hx hb dX1_init_48 (by decide) (fun c_48 => absurd c_48 (by decide)) (fun c_48 => ?_)
  refine lv_aload_n hx hb dX1_init_51 rfl (lv_at hl 1 rfl) ?_
  replace hown0 := ((o_16 k (by first | exact lqD rfl | omega)).trans ((of_15 k (by first | exact lqA rfl | omega)).trans ((of_14 k (by first | exact lqA rfl | omega))))).trans hown0
  replace hga0 := gq.tr ((og_15 k (by first | exact lqA rfl | omega)).trans ((og_14 k (by first | exact lqA rfl | omega)))) hga0
  refine va_get (D := G.1) (ci := 1) (v := .ref q2) (C := RX1) (T := TX1) (N := 5) hx hb hts inlX1 hown hG.1 hP k (wn_at (by first | exact lqA rfl | exact lqB rfl | omega) hga0 hown0) rfl 1 (by decide) (hts (.fieldLink RX1 20 "SwornLists$Court" "hearings" "[LSwornLists$Hearing;") w_42) (fun _ h9 => h9) rfl dX1_init_52 ?_
  refine lv_iload_n hx hb dX1_init_55 rfl (lv_at hl 0 rfl) ?_
  refine va_new (ci := 3) (fs := [.null, .int 0, .int 0, .int 0, .int 0, .int 0, .int 0, .int 0, .int 0]) (C := RX3) (T := TX3) (N := 9) hx hb hts inlX3 tyX3 tyX3_ok hown (hts (.classLink RX1 18 RX3) w_41) (hts (.instantiable RX3 9) w_43) (hts (.initialized RX3) w_44) hG.1 hP hD hS hA rfl (fun j hj => by rcases (show j = 0 ∨ j = 1 ∨ j = 2 ∨ j = 3 ∨ j = 4 ∨ j = 5 ∨ j = 6 ∨ j = 7 ∨ j = 8 by omega) with rfl | rfl | rfl | rfl | rfl | rfl | rfl | rfl | rfl <;> rfl) (Nat.le_of_ble_eq_true rfl) (Nat.le_of_ble_eq_true rfl) dX1_init_56 (fun q7 H hP hD hS => ?_)
  obtain ⟨g_17, f_17, hP, hD, hg_17, hf_17, og_17, of_17⟩ := n_ext hP hD
  have hf_17 : f_17 (k + 102) = eO 3 [.null, .int 0, .int 0, .int 0, .int 0, .int 0, .int 0, .int 0, .int 0] := hf_17
  have hg_17 : gq (g_17 (k + 102)) q7 := hg_17
  have hP : va_P G.1 vwCl (wn (k + 103) g_17 f_17) H := hP
  have hD : va_D A (wn (k + 103) g_17 f_17) := hD
  refine W.widen (k := 102) (n := 3941) (by omega) (by omega) ?_
  refine lv_dup hx hb dX1_init_59 rfl ?_
  refine n_call (va_runIN (As := []) (rest := [.ref q7, .int 2, .ref q2]) ⟨hx, hb, hml, hown, hts⟩ (i_hearing l G g_17 f_17 H.size (k + 102) q7 hg_17 hf_17) (⟨my_cn hts ok_X3_init.1 (hG.2.1 (.methodLinkNest RX1 24 yX3_init RX10) (List.mem_of_getElem? (i := 24) rfl)) rfl rfl ⟨Nat.le_of_ble_eq_true rfl, Nat.le_of_ble_eq_true rfl⟩, rfl, hts _ ok_X3_init.2.2.1⟩) ⟨nP.blind, fun U hU hW => ⟨rfl, by rw [hU], by rw [hU]; exact hP, kG.warm hW hG, hD.weaken (fun _ _ _ _ => trivial)⟩⟩ rfl rfl hl.1 rfl (lv_room (Nat.le_of_ble_eq_true rfl)) dX1_init_60 ⟨Nat.le_of_ble_eq_true rfl, Nat.le_of_ble_eq_true rfl⟩) hD hS hA (fun g_18 f_18 H locs og_18 hq9 hP hD hS => ?_)
  obtain ⟨hq_18_0, hx_18_0, of_18⟩ := hq9
  have hfq_18_0 : f_18 (k + 102) = eO 3 [.ref (g_18 (k + 103)), .int 0, .int 0, .int 0, .int 0, .int 0, .int 0, .int 0, .int 0] := hq_18_0
  have pk_18_0 : nH G g_18 f_18 (k + 102) := hx_18_0
  have hP : va_P G.1 vwCl (wn (k + 104) g_18 f_18) H := hP
  have hD : va_D A (wn (k + 104) g_18 f_18) := hD
  refine W.widen (k := 103) (n := 3965) (by omega) (by omega) ?_
  replace hf_4 := ((of_18 (k + 94) (by first | exact lqB rfl | omega)).trans ((of_17 (k + 94) (by first | exact lqB rfl | omega)))).trans hf_4
  replace hg_4 := gq.tr ((og_18 (k + 94) (by first | exact lqB rfl | omega)).trans ((og_17 (k + 94) (by first | exact lqB rfl | omega)))) hg_4
  replace hg_17 := gq.tr ((og_18 (k + 102) (by first | exact lqB rfl | omega))) hg_17
  refine va_astq (r := (RX3, TX3, 9)) hx hb hG.1 hP hD hS (k + 94) 4 (k + 102) 3 (wn_at (by first | exact lqA rfl | exact lqB rfl | omega) hg_4 hf_4) rfl (wn_at (by first | exact lqA rfl | exact lqB rfl | omega) hg_17 hfq_18_0) rfl (by unfold vp_in; decide) dX1_init_63 (fun H locs hP hD hS => ?_)
  have ef : va_up (aL [q5, q6]) (Int32.toNatClampNeg 2) (some q7) = aL [q5, q6, q7] := aL_push [q5, q6] q7
  have hP := (congrArg (fun z9 => va_P G.1 vwCl ((wn (k + 104) g_18 f_18).set (k + 94) (q2, eA G 4 10 z9)) H) ef).mp hP
  have hD := (congrArg (fun z9 => va_D A ((wn (k + 104) g_18 f_18).set (k + 94) (q2, eA G 4 10 z9))) ef).mp hD
  obtain ⟨f_19, hP, hD, e_19, o_19⟩ := n_put (by first | exact lqA rfl | exact lqB rfl | omega) hg_4 hP hD
  have hf_4 : f_19 (k + 94) = eA G 4 10 (aL [q5, q6, q7]) := e_19
  have pk_18_0 : nH G g_18 f_19 (k + 102) := nH_gf pk_18_0 (fun j _ => rfl) (fun j h1 h2 => o_19 j (by omega))
  have txA : ∀ z, z < 2 → nH G g_17 f_17 (k + 2 * z + 98) := fun z hz => nH_gf (txA z hz) (fun j hj => og_17 j (by omega)) (fun j h1 h2 => of_17 j (by omega))
  have txA : ∀ z, z < 2 → nH G g_18 f_18 (k + 2 * z + 98) := fun z hz => nH_gf (txA z hz) (fun j hj => og_18 j (by omega)) (fun j h1 h2 => of_18 j (by omega))
  have txA : ∀ z, z < 2 → nH G g_18 f_19 (k + 2 * z + 98) := fun z hz => nH_gf (txA z hz) (fun j _ => rfl) (fun j h1 h2 => o_19 j (by omega))
  have taA : ∀ z, z < 2 → (aL [q5, q6]) z = some (g_17 (k + 2 * z + 98)) := fun z hz => (taA z hz).trans (congrArg some (og_17 _ (by omega)).symm)
  have taA : ∀ z, z < 2 → (aL [q5, q6]) z = some (g_18 (k + 2 * z + 98)) := fun z hz => (taA z hz).trans (congrArg some (og_18 _ (by omega)).symm)
  have taA : ∀ z, z < 2 → (aL [q5, q6]) z = some (g_18 (k + 2 * z + 98)) := taA
  have txA : ∀ z, z < 3 → nH G g_18 f_19 (k + 2 * z + 98) := tx_ext (P := fun z => nH G g_18 f_19 (k + 2 * z + 98)) txA pk_18_0
  have taA : ∀ z, z < 3 → (aL [q5, q6, q7]) z = some (g_18 (k + 2 * z + 98)) := ta_ext (L := [q5, q6]) (s := 2) (c := 98) rfl taA hg_17
  refine lv_iinc (v := 3) (lv' := [(1, .int 3), (0, .ref a)]) hx hb dX1_init_64 hl (k := 0) rfl (by decide) (by decide) rfl (fun ls hl => ?_)
  refine lv_goto (tgt := 45) hx hb dX1_init_67 (by decide) ?_
  refine lv_iload_n hx hb dX1_init_45 rfl (lv_at hl 0 rfl) ?_
  refine lv_bipush (v := 10) hx hb dX1_init_46 (by decide) ?_
  refine lv_icmp_ge (tgt := 70) hx hb dX1_init_48 (by decide) (fun c_48 => absurd c_48 (by decide)) (fun c_48 => ?_)
  refine lv_aload_n hx hb dX1_init_51 rfl (lv_at hl 1 rfl) ?_
  replace hown0 := ((o_19 k (by first | exact lqD rfl | omega)).trans ((of_18 k (by first | exact lqA rfl | omega)).trans ((of_17 k (by first | exact lqA rfl | omega))))).trans hown0
  replace hga0 := gq.tr ((og_18 k (by first | exact lqA rfl | omega)).trans ((og_17 k (by first | exact lqA rfl | omega)))) hga0
  refine va_get (D := G.1) (ci := 1) (v := .ref q2) (C := RX1) (T := TX1) (N := 5) hx hb hts inlX1 hown hG.1 hP k (wn_at (by first | exact lqA rfl | exact lqB rfl | omega) hga0 hown0) rfl 1 (by decide) (hts (.fieldLink RX1 20 "SwornLists$Court" "hearings" "[LSwornLists$Hearing;") w_42) (fun _ h9 => h9) rfl dX1_init_52 ?_
  refine lv_iload_n hx hb dX1_init_55 rfl (lv_at hl 0 rfl) ?_
  refine va_new (ci := 3) (fs := [.null, .int 0, .int 0, .int 0, .int 0, .int 0, .int 0, .int 0, .int 0]) (C := RX3) (T := TX3) (N := 9) hx hb hts inlX3 tyX3 tyX3_ok hown (hts (.classLink RX1 18 RX3) w_41) (hts (.instantiable RX3 9) w_43) (hts (.initialized RX3) w_44) hG.1 hP hD hS hA rfl (fun j hj => by rcases (show j = 0 ∨ j = 1 ∨ j = 2 ∨ j = 3 ∨ j = 4 ∨ j = 5 ∨ j = 6 ∨ j = 7 ∨ j = 8 by omega) with rfl | rfl | rfl | rfl | rfl | rfl | rfl | rfl | rfl <;> rfl) (Nat.le_of_ble_eq_true rfl) (Nat.le_of_ble_eq_true rfl) dX1_init_56 (fun q8 H hP hD hS => ?_)
  obtain ⟨g_20, f_20, hP, hD, hg_20, hf_20, og_20, of_20⟩ := n_ext hP hD
  have hf_20 : f_20 (k + 104) = eO 3 [.null, .int 0, .int 0, .int 0, .int 0, .int 0, .int 0, .int 0, .int 0] := hf_20
  have hg_20 : gq (g_20 (k + 104)) q8 := hg_20
  have hP : va_P G.1 vwCl (wn (k + 105) g_20 f_20) H := hP
  have hD : va_D A (wn (k + 105) g_20 f_20) := hD
  refine W.widen (k := 104) (n := 3974) (by omega) (by omega) ?_
  refine lv_dup hx hb dX1_init_59 rfl ?_
  refine n_call (va_runIN (As := []) (rest := [.ref q8, .int 3, .ref q2]) ⟨hx, hb, hml, hown, hts⟩ (i_hearing l G g_20 f_20 H.size (k + 104) q8 hg_20 hf_20) (⟨my_cn hts ok_X3_init.1 (hG.2.1 (.methodLinkNest RX1 24 yX3_init RX10) (List.mem_of_getElem? (i := 24) rfl)) rfl rfl ⟨Nat.le_of_ble_eq_true rfl, Nat.le_of_ble_eq_true rfl⟩, rfl, hts _ ok_X3_init.2.2.1⟩) ⟨nP.blind, fun U hU hW => ⟨rfl, by rw [hU], by rw [hU]; exact hP, kG.warm hW hG, hD.weaken (fun _ _ _ _ => trivial)⟩⟩ rfl rfl hl.1 rfl (lv_room (Nat.le_of_ble_eq_true rfl)) dX1_init_60 ⟨Nat.le_of_ble_eq_true rfl, Nat.le_of_ble_eq_true rfl⟩) hD hS hA (fun g_21 f_21 H locs og_21 hq9 hP hD hS => ?_)
  obtain ⟨hq_21_0, hx_21_0, of_21⟩ := hq9
  have hfq_21_0 : f_21 (k + 104) = eO 3 [.ref (g_21 (k + 105)), .int 0, .int 0, .int 0, .int 0, .int 0, .int 0, .int 0, .int 0] := hq_21_0
  have pk_21_0 : nH G g_21 f_21 (k + 104) := hx_21_0
  have hP : va_P G.1 vwCl (wn (k + 106) g_21 f_21) H := hP
  have hD : va_D A (wn (k + 106) g_21 f_21) := hD
  refine W.widen (k := 105) (n := 3998) (by omega) (by omega) ?_
  replace hf_4 := ((of_21 (k + 94) (by first | exact lqB rfl | omega)).trans ((of_20 (k + 94) (by first | exact lqB rfl | omega)))).trans hf_4
  replace hg_4 := gq.tr ((og_21 (k + 94) (by first | exact lqB rfl | omega)).trans ((og_20 (k + 94) (by first | exact lqB rfl | omega)))) hg_4
  replace hg_20 := gq.tr ((og_21 (k + 104) (by first | exact lqB rfl | omega))) hg_20
  refine va_astq (r := (RX3, TX3, 9)) hx hb hG.1 hP hD hS (k + 94) 4 (k + 104) 3 (wn_at (by first | exact lqA rfl | exact lqB rfl | omega) hg_4 hf_4) rfl (wn_at (by first | exact lqA rfl | exact lqB rfl | omega) hg_20 hfq_21_0) rfl (by unfold vp_in; decide) dX1_init_63 (fun H locs hP hD hS => ?_)
  have ef : va_up (aL [q5, q6, q7]) (Int32.toNatClampNeg 3) (some q8) = aL [q5, q6, q7, q8] := aL_push [q5, q6, q7] q8
  have hP := (congrArg (fun z9 => va_P G.1 vwCl ((wn (k + 106) g_21 f_21).set (k + 94) (q2, eA G 4 10 z9)) H) ef).mp hP
  have hD := (congrArg (fun z9 => va_D A ((wn (k + 106) g_21 f_21).set (k + 94) (q2, eA G 4 10 z9))) ef).mp hD
  obtain ⟨f_22, hP, hD, e_22, o_22⟩ := n_put (by first | exact lqA rfl | exact lqB rfl | omega) hg_4 hP hD
  have hf_4 : f_22 (k + 94) = eA G 4 10 (aL [q5, q6, q7, q8]) := e_22
  have pk_21_0 : nH G g_21 f_22 (k + 104) := nH_gf pk_21_0 (fun j _ => rfl) (fun j h1 h2 => o_22 j (by omega))
  have txA : ∀ z, z < 3 → nH G g_20 f_20 (k + 2 * z + 98) := fun z hz => nH_gf (txA z hz) (fun j hj => og_20 j (by omega)) (fun j h1 h2 => of_20 j (by omega))
  have txA : ∀ z, z < 3 → nH G g_21 f_21 (k + 2 * z + 98) := fun z hz => nH_gf (txA z hz) (fun j hj => og_21 j (by omega)) (fun j h1 h2 => of_21 j (by omega))
  have txA : ∀ z, z < 3 → nH G g_21 f_22 (k + 2 * z + 98) := fun z hz => nH_gf (txA z hz) (fun j _ => rfl) (fun j h1 h2 => o_22 j (by omega))
  have taA : ∀ z, z < 3 → (aL [q5, q6, q7]) z = some (g_20 (k + 2 * z + 98)) := fun z hz => (taA z hz).trans (congrArg some (og_20 _ (by omega)).symm)
  have taA : ∀ z, z < 3 → (aL [q5, q6, q7]) z = some (g_21 (k + 2 * z + 98)) := fun z hz => (taA z hz).trans (congrArg some (og_21 _ (by omega)).symm)
  have taA : ∀ z, z < 3 → (aL [q5, q6, q7]) z = some (g_21 (k + 2 * z + 98)) := taA
  have txA : ∀ z, z < 4 → nH G g_21 f_22 (k + 2 * z + 98) := tx_ext (P := fun z => nH G g_21 f_22 (k + 2 * z + 98)) txA pk_21_0
  have taA : ∀ z, z < 4 → (aL [q5, q6, q7, q8]) z = some (g_21 (k + 2 * z + 98)) := ta_ext (L := [q5, q6, q7]) (s := 2) (c := 98) rfl taA hg_20
  refine lv_iinc (v := 4) (lv' := [(1, .int 4), (0, .ref a)]) hx hb dX1_init_64 hl (k := 0) rfl (by decide) (by decide) rfl (fun ls hl => ?_)
  refine lv_goto (tgt := 45) hx hb dX1_init_67 (by decide) ?_
  refine lv_iload_n hx hb dX1_init_45 rfl (lv_at hl 0 rfl) ?_
  refine lv_bipush (v := 10) hx hb dX1_init_46 (by decide) ?_
  refine lv_icmp_ge (tgt := 70) hx hb dX1_init_48 (by decide) (fun c_48 => absurd c_48 (by decide)) (fun c_48 => ?_)
  refine lv_aload_n hx hb dX1_init_51 rfl (lv_at hl 1 rfl) ?_
  replace hown0 := ((o_22 k (by first | exact lqD rfl | omega)).trans ((of_21 k (by first | exact lqA rfl | omega)).trans ((of_20 k (by first | exact lqA rfl | omega))))).trans hown0
  replace hga0 := gq.tr ((og_21 k (by first | exact lqA rfl | omega)).trans ((og_20 k (by first | exact lqA rfl | omega)))) hga0
  refine va_get (D := G.1) (ci := 1) (v := .ref q2) (C := RX1) (T := TX1) (N := 5) hx hb hts inlX1 hown hG.1 hP k (wn_at (by first | exact lqA rfl | exact lqB rfl | omega) hga0 hown0) rfl 1 (by decide) (hts (.fieldLink RX1 20 "SwornLists$Court" "hearings" "[LSwornLists$Hearing;") w_42) (fun _ h9 => h9) rfl dX1_init_52 ?_
  refine lv_iload_n hx hb dX1_init_55 rfl (lv_at hl 0 rfl) ?_
  refine va_new (ci := 3) (fs := [.null, .int 0, .int 0, .int 0, .int 0, .int 0, .int 0, .int 0, .int 0]) (C := RX3) (T := TX3) (N := 9) hx hb hts inlX3 tyX3 tyX3_ok hown (hts (.classLink RX1 18 RX3) w_41) (hts (.instantiable RX3 9) w_43) (hts (.initialized RX3) w_44) hG.1 hP hD hS hA rfl (fun j hj => by rcases (show j = 0 ∨ j = 1 ∨ j = 2 ∨ j = 3 ∨ j = 4 ∨ j = 5 ∨ j = 6 ∨ j = 7 ∨ j = 8 by omega) with rfl | rfl | rfl | rfl | rfl | rfl | rfl | rfl | rfl <;> rfl) (Nat.le_of_ble_eq_true rfl) (Nat.le_of_ble_eq_true rfl) dX1_init_56 (fun q9 H hP hD hS => ?_)
  obtain ⟨g_23, f_23, hP, hD, hg_23, hf_23, og_23, of_23⟩ := n_ext hP hD
  have hf_23 : f_23 (k + 106) = eO 3 [.null, .int 0, .int 0, .int 0, .int 0, .int 0, .int 0, .int 0, .int 0] := hf_23
  have hg_23 : gq (g_23 (k + 106)) q9 := hg_23
  have hP : va_P G.1 vwCl (wn (k + 107) g_23 f_23) H := hP
  have hD : va_D A (wn (k + 107) g_23 f_23) := hD
  refine W.widen (k := 106) (n := 4007) (by omega) (by omega) ?_
  refine lv_dup hx hb dX1_init_59 rfl ?_
  refine n_call (va_runIN (As := []) (rest := [.ref q9, .int 4, .ref q2]) ⟨hx, hb, hml, hown, hts⟩ (i_hearing l G g_23 f_23 H.size (k + 106) q9 hg_23 hf_23) (⟨my_cn hts ok_X3_init.1 (hG.2.1 (.methodLinkNest RX1 24 yX3_init RX10) (List.mem_of_getElem? (i := 24) rfl)) rfl rfl ⟨Nat.le_of_ble_eq_true rfl, Nat.le_of_ble_eq_true rfl⟩, rfl, hts _ ok_X3_init.2.2.1⟩) ⟨nP.blind, fun U hU hW => ⟨rfl, by rw [hU], by rw [hU]; exact hP, kG.warm hW hG, hD.weaken (fun _ _ _ _ => trivial)⟩⟩ rfl rfl hl.1 rfl (lv_room (Nat.le_of_ble_eq_true rfl)) dX1_init_60 ⟨Nat.le_of_ble_eq_true rfl, Nat.le_of_ble_eq_true rfl⟩) hD hS hA (fun g_24 f_24 H locs og_24 hq9 hP hD hS => ?_)
  obtain ⟨hq_24_0, hx_24_0, of_24⟩ := hq9
  have hfq_24_0 : f_24 (k + 106) = eO 3 [.ref (g_24 (k + 107)), .int 0, .int 0, .int 0, .int 0, .int 0, .int 0, .int 0, .int 0] := hq_24_0
  have pk_24_0 : nH G g_24 f_24 (k + 106) := hx_24_0
  have hP : va_P G.1 vwCl (wn (k + 108) g_24 f_24) H := hP
  have hD : va_D A (wn (k + 108) g_24 f_24) := hD
  refine W.widen (k := 107) (n := 4031) (by omega) (by omega) ?_
  replace hf_4 := ((of_24 (k + 94) (by first | exact lqB rfl | omega)).trans ((of_23 (k + 94) (by first | exact lqB rfl | omega)))).trans hf_4
  replace hg_4 := gq.tr ((og_24 (k + 94) (by first | exact lqB rfl | omega)).trans ((og_23 (k + 94) (by first | exact lqB rfl | omega)))) hg_4
  replace hg_23 := gq.tr ((og_24 (k + 106) (by first | exact lqB rfl | omega))) hg_23
  refine va_astq (r := (RX3, TX3, 9)) hx hb hG.1 hP hD hS (k + 94) 4 (k + 106) 3 (wn_at (by first | exact lqA rfl | exact lqB rfl | omega) hg_4 hf_4) rfl (wn_at (by first | exact lqA rfl | exact lqB rfl | omega) hg_23 hfq_24_0) rfl (by unfold vp_in; decide) dX1_init_63 (fun H locs hP hD hS => ?_)
  have ef : va_up (aL [q5, q6, q7, q8]) (Int32.toNatClampNeg 4) (some q9) = aL [q5, q6, q7, q8, q9] := aL_push [q5, q6, q7, q8] q9
  have hP := (congrArg (fun z9 => va_P G.1 vwCl ((wn (k + 108) g_24 f_24).set (k + 94) (q2, eA G 4 10 z9)) H) ef).mp hP
  have hD := (congrArg (fun z9 => va_D A ((wn (k + 108) g_24 f_24).set (k + 94) (q2, eA G 4 10 z9))) ef).mp hD
  obtain ⟨f_25, hP, hD, e_25, o_25⟩ := n_put (by first | exact lqA rfl | exact lqB rfl | omega) hg_4 hP hD
  have hf_4 : f_25 (k + 94) = eA G 4 10 (aL [q5, q6, q7, q8, q9]) := e_25
  have pk_24_0 : nH G g_24 f_25 (k + 106) := nH_gf pk_24_0 (fun j _ => rfl) (fun j h1 h2 => o_25 j (by omega))
  have txA : ∀ z, z < 4 → nH G g_23 f_23 (k + 2 * z + 98) := fun z hz => nH_gf (txA z hz) (fun j hj => og_23 j (by omega)) (fun j h1 h2 => of_23 j (by omega))
  have txA : ∀ z, z < 4 → nH G g_24 f_24 (k + 2 * z + 98) := fun z hz => nH_gf (txA z hz) (fun j hj => og_24 j (by omega)) (fun j h1 h2 => of_24 j (by omega))
  have txA : ∀ z, z < 4 → nH G g_24 f_25 (k + 2 * z + 98) := fun z hz => nH_gf (txA z hz) (fun j _ => rfl) (fun j h1 h2 => o_25 j (by omega))
  have taA : ∀ z, z < 4 → (aL [q5, q6, q7, q8]) z = some (g_23 (k + 2 * z + 98)) := fun z hz => (taA z hz).trans (congrArg some (og_23 _ (by omega)).symm)
  have taA : ∀ z, z < 4 → (aL [q5, q6, q7, q8]) z = some (g_24 (k + 2 * z + 98)) := fun z hz => (taA z hz).trans (congrArg some (og_24 _ (by omega)).symm)
  have taA : ∀ z, z < 4 → (aL [q5, q6, q7, q8]) z = some (g_24 (k + 2 * z + 98)) := taA
  have txA : ∀ z, z < 5 → nH G g_24 f_25 (k + 2 * z + 98) := tx_ext (P := fun z => nH G g_24 f_25 (k + 2 * z + 98)) txA pk_24_0
  have taA : ∀ z, z < 5 → (aL [q5, q6, q7, q8, q9]) z = some (g_24 (k + 2 * z + 98)) := ta_ext (L := [q5, q6, q7, q8]) (s := 2) (c := 98) rfl taA hg_23
  refine lv_iinc (v := 5) (lv' := [(1, .int 5), (0, .ref a)]) hx hb dX1_init_64 hl (k := 0) rfl (by decide) (by decide) rfl (fun ls hl => ?_)
  refine lv_goto (tgt := 45) hx hb dX1_init_67 (by decide) ?_
  refine lv_iload_n hx hb dX1_init_45 rfl (lv_at hl 0 rfl) ?_
  refine lv_bipush (v := 10) hx hb dX1_init_46 (by decide) ?_
  refine lv_icmp_ge (tgt := 70) hx hb dX1_init_48 (by decide) (fun c_48 => absurd c_48 (by decide)) (fun c_48 => ?_)
  refine lv_aload_n hx hb dX1_init_51 rfl (lv_at hl 1 rfl) ?_
  replace hown0 := ((o_25 k (by first | exact lqD rfl | omega)).trans ((of_24 k (by first | exact lqA rfl | omega)).trans ((of_23 k (by first | exact lqA rfl | omega))))).trans hown0
  replace hga0 := gq.tr ((og_24 k (by first | exact lqA rfl | omega)).trans ((og_23 k (by first | exact lqA rfl | omega)))) hga0
  refine va_get (D := G.1) (ci := 1) (v := .ref q2) (C := RX1) (T := TX1) (N := 5) hx hb hts inlX1 hown hG.1 hP k (wn_at (by first | exact lqA rfl | exact lqB rfl | omega) hga0 hown0) rfl 1 (by decide) (hts (.fieldLink RX1 20 "SwornLists$Court" "hearings" "[LSwornLists$Hearing;") w_42) (fun _ h9 => h9) rfl dX1_init_52 ?_
  refine lv_iload_n hx hb dX1_init_55 rfl (lv_at hl 0 rfl) ?_
  refine va_new (ci := 3) (fs := [.null, .int 0, .int 0, .int 0, .int 0, .int 0, .int 0, .int 0, .int 0]) (C := RX3) (T := TX3) (N := 9) hx hb hts inlX3 tyX3 tyX3_ok hown (hts (.classLink RX1 18 RX3) w_41) (hts (.instantiable RX3 9) w_43) (hts (.initialized RX3) w_44) hG.1 hP hD hS hA rfl (fun j hj => by rcases (show j = 0 ∨ j = 1 ∨ j = 2 ∨ j = 3 ∨ j = 4 ∨ j = 5 ∨ j = 6 ∨ j = 7 ∨ j = 8 by omega) with rfl | rfl | rfl | rfl | rfl | rfl | rfl | rfl | rfl <;> rfl) (Nat.le_of_ble_eq_true rfl) (Nat.le_of_ble_eq_true rfl) dX1_init_56 (fun q10 H hP hD hS => ?_)
  obtain ⟨g_26, f_26, hP, hD, hg_26, hf_26, og_26, of_26⟩ := n_ext hP hD
  have hf_26 : f_26 (k + 108) = eO 3 [.null, .int 0, .int 0, .int 0, .int 0, .int 0, .int 0, .int 0, .int 0] := hf_26
  have hg_26 : gq (g_26 (k + 108)) q10 := hg_26
  have hP : va_P G.1 vwCl (wn (k + 109) g_26 f_26) H := hP
  have hD : va_D A (wn (k + 109) g_26 f_26) := hD
  refine W.widen (k := 108) (n := 4040) (by omega) (by omega) ?_
  refine lv_dup hx hb dX1_init_59 rfl ?_
  refine n_call (va_runIN (As := []) (rest := [.ref q10, .int 5, .ref q2]) ⟨hx, hb, hml, hown, hts⟩ (i_hearing l G g_26 f_26 H.size (k + 108) q10 hg_26 hf_26) (⟨my_cn hts ok_X3_init.1 (hG.2.1 (.methodLinkNest RX1 24 yX3_init RX10) (List.mem_of_getElem? (i := 24) rfl)) rfl rfl ⟨Nat.le_of_ble_eq_true rfl, Nat.le_of_ble_eq_true rfl⟩, rfl, hts _ ok_X3_init.2.2.1⟩) ⟨nP.blind, fun U hU hW => ⟨rfl, by rw [hU], by rw [hU]; exact hP, kG.warm hW hG, hD.weaken (fun _ _ _ _ => trivial)⟩⟩ rfl rfl hl.1 rfl (lv_room (Nat.le_of_ble_eq_true rfl)) dX1_init_60 ⟨Nat.le_of_ble_eq_true rfl, Nat.le_of_ble_eq_true rfl⟩) hD hS hA (fun g_27 f_27 H locs og_27 hq9 hP hD hS => ?_)
  obtain ⟨hq_27_0, hx_27_0, of_27⟩ := hq9
  have hfq_27_0 : f_27 (k + 108) = eO 3 [.ref (g_27 (k + 109)), .int 0, .int 0, .int 0, .int 0, .int 0, .int 0, .int 0, .int 0] := hq_27_0
  have pk_27_0 : nH G g_27 f_27 (k + 108) := hx_27_0
  have hP : va_P G.1 vwCl (wn (k + 110) g_27 f_27) H := hP
  have hD : va_D A (wn (k + 110) g_27 f_27) := hD
  refine W.widen (k := 109) (n := 4064) (by omega) (by omega) ?_
  replace hf_4 := ((of_27 (k + 94) (by first | exact lqB rfl | omega)).trans ((of_26 (k + 94) (by first | exact lqB rfl | omega)))).trans hf_4
  replace hg_4 := gq.tr ((og_27 (k + 94) (by first | exact lqB rfl | omega)).trans ((og_26 (k + 94) (by first | exact lqB rfl | omega)))) hg_4
  replace hg_26 := gq.tr ((og_27 (k + 108) (by first | exact lqB rfl | omega))) hg_26
  refine va_astq (r := (RX3, TX3, 9)) hx hb hG.1 hP hD hS (k + 94) 4 (k + 108) 3 (wn_at (by first | exact lqA rfl | exact lqB rfl | omega) hg_4 hf_4) rfl (wn_at (by first | exact lqA rfl | exact lqB rfl | omega) hg_26 hfq_27_0) rfl (by unfold vp_in; decide) dX1_init_63 (fun H locs hP hD hS => ?_)
  have ef : va_up (aL [q5, q6, q7, q8, q9]) (Int32.toNatClampNeg 5) (some q10) = aL [q5, q6, q7, q8, q9, q10] := aL_push [q5, q6, q7, q8, q9] q10
  have hP := (congrArg (fun z9 => va_P G.1 vwCl ((wn (k + 110) g_27 f_27).set (k + 94) (q2, eA G 4 10 z9)) H) ef).mp hP
  have hD := (congrArg (fun z9 => va_D A ((wn (k + 110) g_27 f_27).set (k + 94) (q2, eA G 4 10 z9))) ef).mp hD
  obtain ⟨f_28, hP, hD, e_28, o_28⟩ := n_put (by first | exact lqA rfl | exact lqB rfl | omega) hg_4 hP hD
  have hf_4 : f_28 (k + 94) = eA G 4 10 (aL [q5, q6, q7, q8, q9, q10]) := e_28
  have pk_27_0 : nH G g_27 f_28 (k + 108) := nH_gf pk_27_0 (fun j _ => rfl) (fun j h1 h2 => o_28 j (by omega))
  have txA : ∀ z, z < 5 → nH G g_26 f_26 (k + 2 * z + 98) := fun z hz => nH_gf (txA z hz) (fun j hj => og_26 j (by omega)) (fun j h1 h2 => of_26 j (by omega))
  have txA : ∀ z, z < 5 → nH G g_27 f_27 (k + 2 * z + 98) := fun z hz => nH_gf (txA z hz) (fun j hj => og_27 j (by omega)) (fun j h1 h2 => of_27 j (by omega))
  have txA : ∀ z, z < 5 → nH G g_27 f_28 (k + 2 * z + 98) := fun z hz => nH_gf (txA z hz) (fun j _ => rfl) (fun j h1 h2 => o_28 j (by omega))
  have taA : ∀ z, z < 5 → (aL [q5, q6, q7, q8, q9]) z = some (g_26 (k + 2 * z + 98)) := fun z hz => (taA z hz).trans (congrArg some (og_26 _ (by omega)).symm)
  have taA : ∀ z, z < 5 → (aL [q5, q6, q7, q8, q9]) z = some (g_27 (k + 2 * z + 98)) := fun z hz => (taA z hz).trans (congrArg some (og_27 _ (by omega)).symm)
  have taA : ∀ z, z < 5 → (aL [q5, q6, q7, q8, q9]) z = some (g_27 (k + 2 * z + 98)) := taA
  have txA : ∀ z, z < 6 → nH G g_27 f_28 (k + 2 * z + 98) := tx_ext (P := fun z => nH G g_27 f_28 (k + 2 * z + 98)) txA pk_27_0
  have taA : ∀ z, z < 6 → (aL [q5, q6, q7, q8, q9, q10]) z = some (g_27 (k + 2 * z + 98)) := ta_ext (L := [q5, q6, q7, q8, q9]) (s := 2) (c := 98) rfl taA hg_26
  refine lv_iinc (v := 6) (lv' := [(1, .int 6), (0, .ref a)]) hx hb dX1_init_64 hl (k := 0) rfl (by decide) (by decide) rfl (fun ls hl => ?_)
  refine lv_goto (tgt := 45) hx hb dX1_init_67 (by decide) ?_
  refine lv_iload_n hx hb dX1_init_45 rfl (lv_at hl 0 rfl) ?_
  refine lv_bipush (v := 10) hx hb dX1_init_46 (by decide) ?_
  refine lv_icmp_ge (tgt := 70) hx hb dX1_init_48 (by decide) (fun c_48 => absurd c_48 (by decide)) (fun c_48 => ?_)
  refine lv_aload_n hx hb dX1_init_51 rfl (lv_at hl 1 rfl) ?_
  replace hown0 := ((o_28 k (by first | exact lqD rfl | omega)).trans ((of_27 k (by first | exact lqA rfl | omega)).trans ((of_26 k (by first | exact lqA rfl | omega))))).trans hown0
  replace hga0 := gq.tr ((og_27 k (by first | exact lqA rfl | omega)).trans ((og_26 k (by first | exact lqA rfl | omega)))) hga0
  refine va_get (D := G.1) (ci := 1) (v := .ref q2) (C := RX1) (T := TX1) (N := 5) hx hb hts inlX1 hown hG.1 hP k (wn_at (by first | exact lqA rfl | exact lqB rfl | omega) hga0 hown0) rfl 1 (by decide) (hts (.fieldLink RX1 20 "SwornLists$Court" "hearings" "[LSwornLists$Hearing;") w_42) (fun _ h9 => h9) rfl dX1_init_52 ?_
  refine lv_iload_n hx hb dX1_init_55 rfl (lv_at hl 0 rfl) ?_
  refine va_new (ci := 3) (fs := [.null, .int 0, .int 0, .int 0, .int 0, .int 0, .int 0, .int 0, .int 0]) (C := RX3) (T := TX3) (N := 9) hx hb hts inlX3 tyX3 tyX3_ok hown (hts (.classLink RX1 18 RX3) w_41) (hts (.instantiable RX3 9) w_43) (hts (.initialized RX3) w_44) hG.1 hP hD hS hA rfl (fun j hj => by rcases (show j = 0 ∨ j = 1 ∨ j = 2 ∨ j = 3 ∨ j = 4 ∨ j = 5 ∨ j = 6 ∨ j = 7 ∨ j = 8 by omega) with rfl | rfl | rfl | rfl | rfl | rfl | rfl | rfl | rfl <;> rfl) (Nat.le_of_ble_eq_true rfl) (Nat.le_of_ble_eq_true rfl) dX1_init_56 (fun q11 H hP hD hS => ?_)
  obtain ⟨g_29, f_29, hP, hD, hg_29, hf_29, og_29, of_29⟩ := n_ext hP hD
  have hf_29 : f_29 (k + 110) = eO 3 [.null, .int 0, .int 0, .int 0, .int 0, .int 0, .int 0, .int 0, .int 0] := hf_29
  have hg_29 : gq (g_29 (k + 110)) q11 := hg_29
  have hP : va_P G.1 vwCl (wn (k + 111) g_29 f_29) H := hP
  have hD : va_D A (wn (k + 111) g_29 f_29) := hD
  refine W.widen (k := 110) (n := 4073) (by omega) (by omega) ?_
  refine lv_dup hx hb dX1_init_59 rfl ?_
  refine n_call (va_runIN (As := []) (rest := [.ref q11, .int 6, .ref q2]) ⟨hx, hb, hml, hown, hts⟩ (i_hearing l G g_29 f_29 H.size (k + 110) q11 hg_29 hf_29) (⟨my_cn hts ok_X3_init.1 (hG.2.1 (.methodLinkNest RX1 24 yX3_init RX10) (List.mem_of_getElem? (i := 24) rfl)) rfl rfl ⟨Nat.le_of_ble_eq_true rfl, Nat.le_of_ble_eq_true rfl⟩, rfl, hts _ ok_X3_init.2.2.1⟩) ⟨nP.blind, fun U hU hW => ⟨rfl, by rw [hU], by rw [hU]; exact hP, kG.warm hW hG, hD.weaken (fun _ _ _ _ => trivial)⟩⟩ rfl rfl hl.1 rfl (lv_room (Nat.le_of_ble_eq_true rfl)) dX1_init_60 ⟨Nat.le_of_ble_eq_true rfl, Nat.le_of_ble_eq_true rfl⟩) hD hS hA (fun g_30 f_30 H locs og_30 hq9 hP hD hS => ?_)
  obtain ⟨hq_30_0, hx_30_0, of_30⟩ := hq9
  have hfq_30_0 : f_30 (k + 110) = eO 3 [.ref (g_30 (k + 111)), .int 0, .int 0, .int 0, .int 0, .int 0, .int 0, .int 0, .int 0] := hq_30_0
  have pk_30_0 : nH G g_30 f_30 (k + 110) := hx_30_0
  have hP : va_P G.1 vwCl (wn (k + 112) g_30 f_30) H := hP
  have hD : va_D A (wn (k + 112) g_30 f_30) := hD
  refine W.widen (k := 111) (n := 4097) (by omega) (by omega) ?_
  replace hf_4 := ((of_30 (k + 94) (by first | exact lqB rfl | omega)).trans ((of_29 (k + 94) (by first | exact lqB rfl | omega)))).trans hf_4
  replace hg_4 := gq.tr ((og_30 (k + 94) (by first | exact lqB rfl | omega)).trans ((og_29 (k + 94) (by first | exact lqB rfl | omega)))) hg_4
  replace hg_29 := gq.tr ((og_30 (k + 110) (by first | exact lqB rfl | omega))) hg_29
  refine va_astq (r := (RX3, TX3, 9)) hx hb hG.1 hP hD hS (k + 94) 4 (k + 110) 3 (wn_at (by first | exact lqA rfl | exact lqB rfl | omega) hg_4 hf_4) rfl (wn_at (by first | exact lqA rfl | exact lqB rfl | omega) hg_29 hfq_30_0) rfl (by unfold vp_in; decide) dX1_init_63 (fun H locs hP hD hS => ?_)
  have ef : va_up (aL [q5, q6, q7, q8, q9, q10]) (Int32.toNatClampNeg 6) (some q11) = aL [q5, q6, q7, q8, q9, q10, q11] := aL_push [q5, q6, q7, q8, q9, q10] q11
  have hP := (congrArg (fun z9 => va_P G.1 vwCl ((wn (k + 112) g_30 f_30).set (k + 94) (q2, eA G 4 10 z9)) H) ef).mp hP
  have hD := (congrArg (fun z9 => va_D A ((wn (k + 112) g_30 f_30).set (k + 94) (q2, eA G 4 10 z9))) ef).mp hD
  obtain ⟨f_31, hP, hD, e_31, o_31⟩ := n_put (by first | exact lqA rfl | exact lqB rfl | omega) hg_4 hP hD
  have hf_4 : f_31 (k + 94) = eA G 4 10 (aL [q5, q6, q7, q8, q9, q10, q11]) := e_31
  have pk_30_0 : nH G g_30 f_31 (k + 110) := nH_gf pk_30_0 (fun j _ => rfl) (fun j h1 h2 => o_31 j (by omega))
  have txA : ∀ z, z < 6 → nH G g_29 f_29 (k + 2 * z + 98) := fun z hz => nH_gf (txA z hz) (fun j hj => og_29 j (by omega)) (fun j h1 h2 => of_29 j (by omega))
  have txA : ∀ z, z < 6 → nH G g_30 f_30 (k + 2 * z + 98) := fun z hz => nH_gf (txA z hz) (fun j hj => og_30 j (by omega)) (fun j h1 h2 => of_30 j (by omega))
  have txA : ∀ z, z < 6 → nH G g_30 f_31 (k + 2 * z + 98) := fun z hz => nH_gf (txA z hz) (fun j _ => rfl) (fun j h1 h2 => o_31 j (by omega))
  have taA : ∀ z, z < 6 → (aL [q5, q6, q7, q8, q9, q10]) z = some (g_29 (k + 2 * z + 98)) := fun z hz => (taA z hz).trans (congrArg some (og_29 _ (by omega)).symm)
  have taA : ∀ z, z < 6 → (aL [q5, q6, q7, q8, q9, q10]) z = some (g_30 (k + 2 * z + 98)) := fun z hz => (taA z hz).trans (congrArg some (og_30 _ (by omega)).symm)
  have taA : ∀ z, z < 6 → (aL [q5, q6, q7, q8, q9, q10]) z = some (g_30 (k + 2 * z + 98)) := taA
  have txA : ∀ z, z < 7 → nH G g_30 f_31 (k + 2 * z + 98) := tx_ext (P := fun z => nH G g_30 f_31 (k + 2 * z + 98)) txA pk_30_0
  have taA : ∀ z, z < 7 → (aL [q5, q6, q7, q8, q9, q10, q11]) z = some (g_30 (k + 2 * z + 98)) := ta_ext (L := [q5, q6, q7, q8, q9, q10]) (s := 2) (c := 98) rfl taA hg_29
  refine lv_iinc (v := 7) (lv' := [(1, .int 7), (0, .ref a)]) hx hb dX1_init_64 hl (k := 0) rfl (by decide) (by decide) rfl (fun ls hl => ?_)
  refine lv_goto (tgt := 45) hx hb dX1_init_67 (by decide) ?_
  refine lv_iload_n hx hb dX1_init_45 rfl (lv_at hl 0 rfl) ?_
  refine lv_bipush (v := 10) hx hb dX1_init_46 (by decide) ?_
  refine lv_icmp_ge (tgt := 70) hx hb dX1_init_48 (by decide) (fun c_48 => absurd c_48 (by decide)) (fun c_48 => ?_)
  refine lv_aload_n hx hb dX1_init_51 rfl (lv_at hl 1 rfl) ?_
  replace hown0 := ((o_31 k (by first | exact lqD rfl | omega)).trans ((of_30 k (by first | exact lqA rfl | omega)).trans ((of_29 k (by first | exact lqA rfl | omega))))).trans hown0
  replace hga0 := gq.tr ((og_30 k (by first | exact lqA rfl | omega)).trans ((og_29 k (by first | exact lqA rfl | omega)))) hga0
  refine va_get (D := G.1) (ci := 1) (v := .ref q2) (C := RX1) (T := TX1) (N := 5) hx hb hts inlX1 hown hG.1 hP k (wn_at (by first | exact lqA rfl | exact lqB rfl | omega) hga0 hown0) rfl 1 (by decide) (hts (.fieldLink RX1 20 "SwornLists$Court" "hearings" "[LSwornLists$Hearing;") w_42) (fun _ h9 => h9) rfl dX1_init_52 ?_
  refine lv_iload_n hx hb dX1_init_55 rfl (lv_at hl 0 rfl) ?_
  refine va_new (ci := 3) (fs := [.null, .int 0, .int 0, .int 0, .int 0, .int 0, .int 0, .int 0, .int 0]) (C := RX3) (T := TX3) (N := 9) hx hb hts inlX3 tyX3 tyX3_ok hown (hts (.classLink RX1 18 RX3) w_41) (hts (.instantiable RX3 9) w_43) (hts (.initialized RX3) w_44) hG.1 hP hD hS hA rfl (fun j hj => by rcases (show j = 0 ∨ j = 1 ∨ j = 2 ∨ j = 3 ∨ j = 4 ∨ j = 5 ∨ j = 6 ∨ j = 7 ∨ j = 8 by omega) with rfl | rfl | rfl | rfl | rfl | rfl | rfl | rfl | rfl <;> rfl) (Nat.le_of_ble_eq_true rfl) (Nat.le_of_ble_eq_true rfl) dX1_init_56 (fun q12 H hP hD hS => ?_)
  obtain ⟨g_32, f_32, hP, hD, hg_32, hf_32, og_32, of_32⟩ := n_ext hP hD
  have hf_32 : f_32 (k + 112) = eO 3 [.null, .int 0, .int 0, .int 0, .int 0, .int 0, .int 0, .int 0, .int 0] := hf_32
  have hg_32 : gq (g_32 (k + 112)) q12 := hg_32
  have hP : va_P G.1 vwCl (wn (k + 113) g_32 f_32) H := hP
  have hD : va_D A (wn (k + 113) g_32 f_32) := hD
  refine W.widen (k := 112) (n := 4106) (by omega) (by omega) ?_
  refine lv_dup hx hb dX1_init_59 rfl ?_
  refine n_call (va_runIN (As := []) (rest := [.ref q12, .int 7, .ref q2]) ⟨hx, hb, hml, hown, hts⟩ (i_hearing l G g_32 f_32 H.size (k + 112) q12 hg_32 hf_32) (⟨my_cn hts ok_X3_init.1 (hG.2.1 (.methodLinkNest RX1 24 yX3_init RX10) (List.mem_of_getElem? (i := 24) rfl)) rfl rfl ⟨Nat.le_of_ble_eq_true rfl, Nat.le_of_ble_eq_true rfl⟩, rfl, hts _ ok_X3_init.2.2.1⟩) ⟨nP.blind, fun U hU hW => ⟨rfl, by rw [hU], by rw [hU]; exact hP, kG.warm hW hG, hD.weaken (fun _ _ _ _ => trivial)⟩⟩ rfl rfl hl.1 rfl (lv_room (Nat.le_of_ble_eq_true rfl)) dX1_init_60 ⟨Nat.le_of_ble_eq_true rfl, Nat.le_of_ble_eq_true rfl⟩) hD hS hA (fun g_33 f_33 H locs og_33 hq9 hP hD hS => ?_)
  obtain ⟨hq_33_0, hx_33_0, of_33⟩ := hq9
  have hfq_33_0 : f_33 (k + 112) = eO 3 [.ref (g_33 (k + 113)), .int 0, .int 0, .int 0, .int 0, .int 0, .int 0, .int 0, .int 0] := hq_33_0
  have pk_33_0 : nH G g_33 f_33 (k + 112) := hx_33_0
  have hP : va_P G.1 vwCl (wn (k + 114) g_33 f_33) H := hP
  have hD : va_D A (wn (k + 114) g_33 f_33) := hD
  refine W.widen (k := 113) (n := 4130) (by omega) (by omega) ?_
  replace hf_4 := ((of_33 (k + 94) (by first | exact lqB rfl | omega)).trans ((of_32 (k + 94) (by first | exact lqB rfl | omega)))).trans hf_4
  replace hg_4 := gq.tr ((og_33 (k + 94) (by first | exact lqB rfl | omega)).trans ((og_32 (k + 94) (by first | exact lqB rfl | omega)))) hg_4
  replace hg_32 := gq.tr ((og_33 (k + 112) (by first | exact lqB rfl | omega))) hg_32
  refine va_astq (r := (RX3, TX3, 9)) hx hb hG.1 hP hD hS (k + 94) 4 (k + 112) 3 (wn_at (by first | exact lqA rfl | exact lqB rfl | omega) hg_4 hf_4) rfl (wn_at (by first | exact lqA rfl | exact lqB rfl | omega) hg_32 hfq_33_0) rfl (by unfold vp_in; decide) dX1_init_63 (fun H locs hP hD hS => ?_)
  have ef : va_up (aL [q5, q6, q7, q8, q9, q10, q11]) (Int32.toNatClampNeg 7) (some q12) = aL [q5, q6, q7, q8, q9, q10, q11, q12] := aL_push [q5, q6, q7, q8, q9, q10, q11] q12
  have hP := (congrArg (fun z9 => va_P G.1 vwCl ((wn (k + 114) g_33 f_33).set (k + 94) (q2, eA G 4 10 z9)) H) ef).mp hP
  have hD := (congrArg (fun z9 => va_D A ((wn (k + 114) g_33 f_33).set (k + 94) (q2, eA G 4 10 z9))) ef).mp hD
  obtain ⟨f_34, hP, hD, e_34, o_34⟩ := n_put (by first | exact lqA rfl | exact lqB rfl | omega) hg_4 hP hD
  have hf_4 : f_34 (k + 94) = eA G 4 10 (aL [q5, q6, q7, q8, q9, q10, q11, q12]) := e_34
  have pk_33_0 : nH G g_33 f_34 (k + 112) := nH_gf pk_33_0 (fun j _ => rfl) (fun j h1 h2 => o_34 j (by omega))
  have txA : ∀ z, z < 7 → nH G g_32 f_32 (k + 2 * z + 98) := fun z hz => nH_gf (txA z hz) (fun j hj => og_32 j (by omega)) (fun j h1 h2 => of_32 j (by omega))
  have txA : ∀ z, z < 7 → nH G g_33 f_33 (k + 2 * z + 98) := fun z hz => nH_gf (txA z hz) (fun j hj => og_33 j (by omega)) (fun j h1 h2 => of_33 j (by omega))
  have txA : ∀ z, z < 7 → nH G g_33 f_34 (k + 2 * z + 98) := fun z hz => nH_gf (txA z hz) (fun j _ => rfl) (fun j h1 h2 => o_34 j (by omega))
  have taA : ∀ z, z < 7 → (aL [q5, q6, q7, q8, q9, q10, q11]) z = some (g_32 (k + 2 * z + 98)) := fun z hz => (taA z hz).trans (congrArg some (og_32 _ (by omega)).symm)
  have taA : ∀ z, z < 7 → (aL [q5, q6, q7, q8, q9, q10, q11]) z = some (g_33 (k + 2 * z + 98)) := fun z hz => (taA z hz).trans (congrArg some (og_33 _ (by omega)).symm)
  have taA : ∀ z, z < 7 → (aL [q5, q6, q7, q8, q9, q10, q11]) z = some (g_33 (k + 2 * z + 98)) := taA
  have txA : ∀ z, z < 8 → nH G g_33 f_34 (k + 2 * z + 98) := tx_ext (P := fun z => nH G g_33 f_34 (k + 2 * z + 98)) txA pk_33_0
  have taA : ∀ z, z < 8 → (aL [q5, q6, q7, q8, q9, q10, q11, q12]) z = some (g_33 (k + 2 * z + 98)) := ta_ext (L := [q5, q6, q7, q8, q9, q10, q11]) (s := 2) (c := 98) rfl taA hg_32
  refine lv_iinc (v := 8) (lv' := [(1, .int 8), (0, .ref a)]) hx hb dX1_init_64 hl (k := 0) rfl (by decide) (by decide) rfl (fun ls hl => ?_)
  refine lv_goto (tgt := 45) hx hb dX1_init_67 (by decide) ?_
  refine lv_iload_n hx hb dX1_init_45 rfl (lv_at hl 0 rfl) ?_
  refine lv_bipush (v := 10) hx hb dX1_init_46 (by decide) ?_
  refine lv_icmp_ge (tgt := 70) hx hb dX1_init_48 (by decide) (fun c_48 => absurd c_48 (by decide)) (fun c_48 => ?_)
  refine lv_aload_n hx hb dX1_init_51 rfl (lv_at hl 1 rfl) ?_
  replace hown0 := ((o_34 k (by first | exact lqD rfl | omega)).trans ((of_33 k (by first | exact lqA rfl | omega)).trans ((of_32 k (by first | exact lqA rfl | omega))))).trans hown0
  replace hga0 := gq.tr ((og_33 k (by first | exact lqA rfl | omega)).trans ((og_32 k (by first | exact lqA rfl | omega)))) hga0
  refine va_get (D := G.1) (ci := 1) (v := .ref q2) (C := RX1) (T := TX1) (N := 5) hx hb hts inlX1 hown hG.1 hP k (wn_at (by first | exact lqA rfl | exact lqB rfl | omega) hga0 hown0) rfl 1 (by decide) (hts (.fieldLink RX1 20 "SwornLists$Court" "hearings" "[LSwornLists$Hearing;") w_42) (fun _ h9 => h9) rfl dX1_init_52 ?_
  refine lv_iload_n hx hb dX1_init_55 rfl (lv_at hl 0 rfl) ?_
  refine va_new (ci := 3) (fs := [.null, .int 0, .int 0, .int 0, .int 0, .int 0, .int 0, .int 0, .int 0]) (C := RX3) (T := TX3) (N := 9) hx hb hts inlX3 tyX3 tyX3_ok hown (hts (.classLink RX1 18 RX3) w_41) (hts (.instantiable RX3 9) w_43) (hts (.initialized RX3) w_44) hG.1 hP hD hS hA rfl (fun j hj => by rcases (show j = 0 ∨ j = 1 ∨ j = 2 ∨ j = 3 ∨ j = 4 ∨ j = 5 ∨ j = 6 ∨ j = 7 ∨ j = 8 by omega) with rfl | rfl | rfl | rfl | rfl | rfl | rfl | rfl | rfl <;> rfl) (Nat.le_of_ble_eq_true rfl) (Nat.le_of_ble_eq_true rfl) dX1_init_56 (fun q13 H hP hD hS => ?_)
  obtain ⟨g_35, f_35, hP, hD, hg_35, hf_35, og_35, of_35⟩ := n_ext hP hD
  have hf_35 : f_35 (k + 114) = eO 3 [.null, .int 0, .int 0, .int 0, .int 0, .int 0, .int 0, .int 0, .int 0] := hf_35
  have hg_35 : gq (g_35 (k + 114)) q13 := hg_35
  have hP : va_P G.1 vwCl (wn (k + 115) g_35 f_35) H := hP
  have hD : va_D A (wn (k + 115) g_35 f_35) := hD
  refine W.widen (k := 114) (n := 4139) (by omega) (by omega) ?_
  refine lv_dup hx hb dX1_init_59 rfl ?_
  refine n_call (va_runIN (As := []) (rest := [.ref q13, .int 8, .ref q2]) ⟨hx, hb, hml, hown, hts⟩ (i_hearing l G g_35 f_35 H.size (k + 114) q13 hg_35 hf_35) (⟨my_cn hts ok_X3_init.1 (hG.2.1 (.methodLinkNest RX1 24 yX3_init RX10) (List.mem_of_getElem? (i := 24) rfl)) rfl rfl ⟨Nat.le_of_ble_eq_true rfl, Nat.le_of_ble_eq_true rfl⟩, rfl, hts _ ok_X3_init.2.2.1⟩) ⟨nP.blind, fun U hU hW => ⟨rfl, by rw [hU], by rw [hU]; exact hP, kG.warm hW hG, hD.weaken (fun _ _ _ _ => trivial)⟩⟩ rfl rfl hl.1 rfl (lv_room (Nat.le_of_ble_eq_true rfl)) dX1_init_60 ⟨Nat.le_of_ble_eq_true rfl, Nat.le_of_ble_eq_true rfl⟩) hD hS hA (fun g_36 f_36 H locs og_36 hq9 hP hD hS => ?_)
  obtain ⟨hq_36_0, hx_36_0, of_36⟩ := hq9
  have hfq_36_0 : f_36 (k + 114) = eO 3 [.ref (g_36 (k + 115)), .int 0, .int 0, .int 0, .int 0, .int 0, .int 0, .int 0, .int 0] := hq_36_0
  have pk_36_0 : nH G g_36 f_36 (k + 114) := hx_36_0
  have hP : va_P G.1 vwCl (wn (k + 116) g_36 f_36) H := hP
  have hD : va_D A (wn (k + 116) g_36 f_36) := hD
  refine W.widen (k := 115) (n := 4163) (by omega) (by omega) ?_
  replace hf_4 := ((of_36 (k + 94) (by first | exact lqB rfl | omega)).trans ((of_35 (k + 94) (by first | exact lqB rfl | omega)))).trans hf_4
  replace hg_4 := gq.tr ((og_36 (k + 94) (by first | exact lqB rfl | omega)).trans ((og_35 (k + 94) (by first | exact lqB rfl | omega)))) hg_4
  replace hg_35 := gq.tr ((og_36 (k + 114) (by first | exact lqB rfl | omega))) hg_35
  refine va_astq (r := (RX3, TX3, 9)) hx hb hG.1 hP hD hS (k + 94) 4 (k + 114) 3 (wn_at (by first | exact lqA rfl | exact lqB rfl | omega) hg_4 hf_4) rfl (wn_at (by first | exact lqA rfl | exact lqB rfl | omega) hg_35 hfq_36_0) rfl (by unfold vp_in; decide) dX1_init_63 (fun H locs hP hD hS => ?_)
  have ef : va_up (aL [q5, q6, q7, q8, q9, q10, q11, q12]) (Int32.toNatClampNeg 8) (some q13) = aL [q5, q6, q7, q8, q9, q10, q11, q12, q13] := aL_push [q5, q6, q7, q8, q9, q10, q11, q12] q13
  have hP := (congrArg (fun z9 => va_P G.1 vwCl ((wn (k + 116) g_36 f_36).set (k + 94) (q2, eA G 4 10 z9)) H) ef).mp hP
  have hD := (congrArg (fun z9 => va_D A ((wn (k + 116) g_36 f_36).set (k + 94) (q2, eA G 4 10 z9))) ef).mp hD
  obtain ⟨f_37, hP, hD, e_37, o_37⟩ := n_put (by first | exact lqA rfl | exact lqB rfl | omega) hg_4 hP hD
  have hf_4 : f_37 (k + 94) = eA G 4 10 (aL [q5, q6, q7, q8, q9, q10, q11, q12, q13]) := e_37
  have pk_36_0 : nH G g_36 f_37 (k + 114) := nH_gf pk_36_0 (fun j _ => rfl) (fun j h1 h2 => o_37 j (by omega))
  have txA : ∀ z, z < 8 → nH G g_35 f_35 (k + 2 * z + 98) := fun z hz => nH_gf (txA z hz) (fun j hj => og_35 j (by omega)) (fun j h1 h2 => of_35 j (by omega))
  have txA : ∀ z, z < 8 → nH G g_36 f_36 (k + 2 * z + 98) := fun z hz => nH_gf (txA z hz) (fun j hj => og_36 j (by omega)) (fun j h1 h2 => of_36 j (by omega))
  have txA : ∀ z, z < 8 → nH G g_36 f_37 (k + 2 * z + 98) := fun z hz => nH_gf (txA z hz) (fun j _ => rfl) (fun j h1 h2 => o_37 j (by omega))
  have taA : ∀ z, z < 8 → (aL [q5, q6, q7, q8, q9, q10, q11, q12]) z = some (g_35 (k + 2 * z + 98)) := fun z hz => (taA z hz).trans (congrArg some (og_35 _ (by omega)).symm)
  have taA : ∀ z, z < 8 → (aL [q5, q6, q7, q8, q9, q10, q11, q12]) z = some (g_36 (k + 2 * z + 98)) := fun z hz => (taA z hz).trans (congrArg some (og_36 _ (by omega)).symm)
  have taA : ∀ z, z < 8 → (aL [q5, q6, q7, q8, q9, q10, q11, q12]) z = some (g_36 (k + 2 * z + 98)) := taA
  have txA : ∀ z, z < 9 → nH G g_36 f_37 (k + 2 * z + 98) := tx_ext (P := fun z => nH G g_36 f_37 (k + 2 * z + 98)) txA pk_36_0
  have taA : ∀ z, z < 9 → (aL [q5, q6, q7, q8, q9, q10, q11, q12, q13]) z = some (g_36 (k + 2 * z + 98)) := ta_ext (L := [q5, q6, q7, q8, q9, q10, q11, q12]) (s := 2) (c := 98) rfl taA hg_35
  refine lv_iinc (v := 9) (lv' := [(1, .int 9), (0, .ref a)]) hx hb dX1_init_64 hl (k := 0) rfl (by decide) (by decide) rfl (fun ls hl => ?_)
  refine lv_goto (tgt := 45) hx hb dX1_init_67 (by decide) ?_
  refine lv_iload_n hx hb dX1_init_45 rfl (lv_at hl 0 rfl) ?_
  refine lv_bipush (v := 10) hx hb dX1_init_46 (by decide) ?_
  refine lv_icmp_ge (tgt := 70) hx hb dX1_init_48 (by decide) (fun c_48 => absurd c_48 (by decide)) (fun c_48 => ?_)
  refine lv_aload_n hx hb dX1_init_51 rfl (lv_at hl 1 rfl) ?_
  replace hown0 := ((o_37 k (by first | exact lqD rfl | omega)).trans ((of_36 k (by first | exact lqA rfl | omega)).trans ((of_35 k (by first | exact lqA rfl | omega))))).trans hown0
  replace hga0 := gq.tr ((og_36 k (by first | exact lqA rfl | omega)).trans ((og_35 k (by first | exact lqA rfl | omega)))) hga0
  refine va_get (D := G.1) (ci := 1) (v := .ref q2) (C := RX1) (T := TX1) (N := 5) hx hb hts inlX1 hown hG.1 hP k (wn_at (by first | exact lqA rfl | exact lqB rfl | omega) hga0 hown0) rfl 1 (by decide) (hts (.fieldLink RX1 20 "SwornLists$Court" "hearings" "[LSwornLists$Hearing;") w_42) (fun _ h9 => h9) rfl dX1_init_52 ?_
  refine lv_iload_n hx hb dX1_init_55 rfl (lv_at hl 0 rfl) ?_
  refine va_new (ci := 3) (fs := [.null, .int 0, .int 0, .int 0, .int 0, .int 0, .int 0, .int 0, .int 0]) (C := RX3) (T := TX3) (N := 9) hx hb hts inlX3 tyX3 tyX3_ok hown (hts (.classLink RX1 18 RX3) w_41) (hts (.instantiable RX3 9) w_43) (hts (.initialized RX3) w_44) hG.1 hP hD hS hA rfl (fun j hj => by rcases (show j = 0 ∨ j = 1 ∨ j = 2 ∨ j = 3 ∨ j = 4 ∨ j = 5 ∨ j = 6 ∨ j = 7 ∨ j = 8 by omega) with rfl | rfl | rfl | rfl | rfl | rfl | rfl | rfl | rfl <;> rfl) (Nat.le_of_ble_eq_true rfl) (Nat.le_of_ble_eq_true rfl) dX1_init_56 (fun q14 H hP hD hS => ?_)
  obtain ⟨g_38, f_38, hP, hD, hg_38, hf_38, og_38, of_38⟩ := n_ext hP hD
  have hf_38 : f_38 (k + 116) = eO 3 [.null, .int 0, .int 0, .int 0, .int 0, .int 0, .int 0, .int 0, .int 0] := hf_38
  have hg_38 : gq (g_38 (k + 116)) q14 := hg_38
  have hP : va_P G.1 vwCl (wn (k + 117) g_38 f_38) H := hP
  have hD : va_D A (wn (k + 117) g_38 f_38) := hD
  refine W.widen (k := 116) (n := 4172) (by omega) (by omega) ?_
  refine lv_dup hx hb dX1_init_59 rfl ?_
  refine n_call (va_runIN (As := []) (rest := [.ref q14, .int 9, .ref q2]) ⟨hx, hb, hml, hown, hts⟩ (i_hearing l G g_38 f_38 H.size (k + 116) q14 hg_38 hf_38) (⟨my_cn hts ok_X3_init.1 (hG.2.1 (.methodLinkNest RX1 24 yX3_init RX10) (List.mem_of_getElem? (i := 24) rfl)) rfl rfl ⟨Nat.le_of_ble_eq_true rfl, Nat.le_of_ble_eq_true rfl⟩, rfl, hts _ ok_X3_init.2.2.1⟩) ⟨nP.blind, fun U hU hW => ⟨rfl, by rw [hU], by rw [hU]; exact hP, kG.warm hW hG, hD.weaken (fun _ _ _ _ => trivial)⟩⟩ rfl rfl hl.1 rfl (lv_room (Nat.le_of_ble_eq_true rfl)) dX1_init_60 ⟨Nat.le_of_ble_eq_true rfl, Nat.le_of_ble_eq_true rfl⟩) hD hS hA (fun g_39 f_39 H locs og_39 hq9 hP hD hS => ?_)
  obtain ⟨hq_39_0, hx_39_0, of_39⟩ := hq9
  have hfq_39_0 : f_39 (k + 116) = eO 3 [.ref (g_39 (k + 117)), .int 0, .int 0, .int 0, .int 0, .int 0, .int 0, .int 0, .int 0] := hq_39_0
  have pk_39_0 : nH G g_39 f_39 (k + 116) := hx_39_0
  have hP : va_P G.1 vwCl (wn (k + 118) g_39 f_39) H := hP
  have hD : va_D A (wn (k + 118) g_39 f_39) := hD
  refine W.widen (k := 117) (n := 4196) (by omega) (by omega) ?_
  replace hf_4 := ((of_39 (k + 94) (by first | exact lqB rfl | omega)).trans ((of_38 (k + 94) (by first | exact lqB rfl | omega)))).trans hf_4
  replace hg_4 := gq.tr ((og_39 (k + 94) (by first | exact lqB rfl | omega)).trans ((og_38 (k + 94) (by first | exact lqB rfl | omega)))) hg_4
  replace hg_38 := gq.tr ((og_39 (k + 116) (by first | exact lqB rfl | omega))) hg_38
  refine va_astq (r := (RX3, TX3, 9)) hx hb hG.1 hP hD hS (k + 94) 4 (k + 116) 3 (wn_at (by first | exact lqA rfl | exact lqB rfl | omega) hg_4 hf_4) rfl (wn_at (by first | exact lqA rfl | exact lqB rfl | omega) hg_38 hfq_39_0) rfl (by unfold vp_in; decide) dX1_init_63 (fun H locs hP hD hS => ?_)
  have ef : va_up (aL [q5, q6, q7, q8, q9, q10, q11, q12, q13]) (Int32.toNatClampNeg 9) (some q14) = aL [q5, q6, q7, q8, q9, q10, q11, q12, q13, q14] := aL_push [q5, q6, q7, q8, q9, q10, q11, q12, q13] q14
  have hP := (congrArg (fun z9 => va_P G.1 vwCl ((wn (k + 118) g_39 f_39).set (k + 94) (q2, eA G 4 10 z9)) H) ef).mp hP
  have hD := (congrArg (fun z9 => va_D A ((wn (k + 118) g_39 f_39).set (k + 94) (q2, eA G 4 10 z9))) ef).mp hD
  obtain ⟨f_40, hP, hD, e_40, o_40⟩ := n_put (by first | exact lqA rfl | exact lqB rfl | omega) hg_4 hP hD
  have hf_4 : f_40 (k + 94) = eA G 4 10 (aL [q5, q6, q7, q8, q9, q10, q11, q12, q13, q14]) := e_40
  have pk_39_0 : nH G g_39 f_40 (k + 116) := nH_gf pk_39_0 (fun j _ => rfl) (fun j h1 h2 => o_40 j (by omega))
  have txA : ∀ z, z < 9 → nH G g_38 f_38 (k + 2 * z + 98) := fun z hz => nH_gf (txA z hz) (fun j hj => og_38 j (by omega)) (fun j h1 h2 => of_38 j (by omega))
  have txA : ∀ z, z < 9 → nH G g_39 f_39 (k + 2 * z + 98) := fun z hz => nH_gf (txA z hz) (fun j hj => og_39 j (by omega)) (fun j h1 h2 => of_39 j (by omega))
  have txA : ∀ z, z < 9 → nH G g_39 f_40 (k + 2 * z + 98) := fun z hz => nH_gf (txA z hz) (fun j _ => rfl) (fun j h1 h2 => o_40 j (by omega))
  have taA : ∀ z, z < 9 → (aL [q5, q6, q7, q8, q9, q10, q11, q12, q13]) z = some (g_38 (k + 2 * z + 98)) := fun z hz => (taA z hz).trans (congrArg some (og_38 _ (by omega)).symm)
  have taA : ∀ z, z < 9 → (aL [q5, q6, q7, q8, q9, q10, q11, q12, q13]) z = some (g_39 (k + 2 * z + 98)) := fun z hz => (taA z hz).trans (congrArg some (og_39 _ (by omega)).symm)
  have taA : ∀ z, z < 9 → (aL [q5, q6, q7, q8, q9, q10, q11, q12, q13]) z = some (g_39 (k + 2 * z + 98)) := taA
  have txA : ∀ z, z < 10 → nH G g_39 f_40 (k + 2 * z + 98) := tx_ext (P := fun z => nH G g_39 f_40 (k + 2 * z + 98)) txA pk_39_0
  have taA : ∀ z, z < 10 → (aL [q5, q6, q7, q8, q9, q10, q11, q12, q13, q14]) z = some (g_39 (k + 2 * z + 98)) := ta_ext (L := [q5, q6, q7, q8, q9, q10, q11, q12, q13]) (s := 2) (c := 98) rfl taA hg_38
  refine lv_iinc (v := 10) (lv' := [(1, .int 10), (0, .ref a)]) hx hb dX1_init_64 hl (k := 0) rfl (by decide) (by decide) rfl (fun ls hl => ?_)
  refine lv_goto (tgt := 45) hx hb dX1_init_67 (by decide) ?_
  refine lv_iload_n hx hb dX1_init_45 rfl (lv_at hl 0 rfl) ?_
  refine lv_bipush (v := 10) hx hb dX1_init_46 (by decide) ?_
  refine lv_icmp_ge (tgt := 70) hx hb dX1_init_48 (by decide) (fun c_48 => ?_) (fun c_48 => absurd (by decide) c_48)
  replace hown0 := ((o_40 k (by first | exact lqD rfl | omega)).trans ((of_39 k (by first | exact lqA rfl | omega)).trans ((of_38 k (by first | exact lqA rfl | omega))))).trans hown0
  replace hg_1 := gq.tr ((og_39 (k + 1) (by first | exact lqB rfl | omega)).trans ((og_38 (k + 1) (by first | exact lqB rfl | omega)).trans ((og_36 (k + 1) (by first | exact lqB rfl | omega)).trans ((og_35 (k + 1) (by first | exact lqB rfl | omega)).trans ((og_33 (k + 1) (by first | exact lqB rfl | omega)).trans ((og_32 (k + 1) (by first | exact lqB rfl | omega)).trans ((og_30 (k + 1) (by first | exact lqB rfl | omega)).trans ((og_29 (k + 1) (by first | exact lqB rfl | omega)).trans ((og_27 (k + 1) (by first | exact lqB rfl | omega)).trans ((og_26 (k + 1) (by first | exact lqB rfl | omega)).trans ((og_24 (k + 1) (by first | exact lqB rfl | omega)).trans ((og_23 (k + 1) (by first | exact lqB rfl | omega)).trans ((og_21 (k + 1) (by first | exact lqB rfl | omega)).trans ((og_20 (k + 1) (by first | exact lqB rfl | omega)).trans ((og_18 (k + 1) (by first | exact lqB rfl | omega)).trans ((og_17 (k + 1) (by first | exact lqB rfl | omega)).trans ((og_15 (k + 1) (by first | exact lqB rfl | omega)).trans ((og_14 (k + 1) (by first | exact lqB rfl | omega)).trans ((og_12 (k + 1) (by first | exact lqB rfl | omega)).trans ((og_11 (k + 1) (by first | exact lqB rfl | omega)).trans ((og_9 (k + 1) (by first | exact lqB rfl | omega)).trans ((og_7 (k + 1) (by first | exact lqB rfl | omega)).trans ((og_6 (k + 1) (by first | exact lqB rfl | omega)).trans ((og_4 (k + 1) (by first | exact lqB rfl | omega)).trans ((og_2 (k + 1) (by first | exact lqB rfl | omega))))))))))))))))))))))))))) hg_1
  replace hg_6 := gq.tr ((og_39 (k + 95) (by first | exact lqB rfl | omega)).trans ((og_38 (k + 95) (by first | exact lqB rfl | omega)).trans ((og_36 (k + 95) (by first | exact lqB rfl | omega)).trans ((og_35 (k + 95) (by first | exact lqB rfl | omega)).trans ((og_33 (k + 95) (by first | exact lqB rfl | omega)).trans ((og_32 (k + 95) (by first | exact lqB rfl | omega)).trans ((og_30 (k + 95) (by first | exact lqB rfl | omega)).trans ((og_29 (k + 95) (by first | exact lqB rfl | omega)).trans ((og_27 (k + 95) (by first | exact lqB rfl | omega)).trans ((og_26 (k + 95) (by first | exact lqB rfl | omega)).trans ((og_24 (k + 95) (by first | exact lqB rfl | omega)).trans ((og_23 (k + 95) (by first | exact lqB rfl | omega)).trans ((og_21 (k + 95) (by first | exact lqB rfl | omega)).trans ((og_20 (k + 95) (by first | exact lqB rfl | omega)).trans ((og_18 (k + 95) (by first | exact lqB rfl | omega)).trans ((og_17 (k + 95) (by first | exact lqB rfl | omega)).trans ((og_15 (k + 95) (by first | exact lqB rfl | omega)).trans ((og_14 (k + 95) (by first | exact lqB rfl | omega)).trans ((og_12 (k + 95) (by first | exact lqB rfl | omega)).trans ((og_11 (k + 95) (by first | exact lqB rfl | omega)).trans ((og_9 (k + 95) (by first | exact lqB rfl | omega)).trans ((og_7 (k + 95) (by first | exact lqB rfl | omega)))))))))))))))))))))))) hg_6
  replace hg_9 := gq.tr ((og_39 (k + 97) (by first | exact lqB rfl | omega)).trans ((og_38 (k + 97) (by first | exact lqB rfl | omega)).trans ((og_36 (k + 97) (by first | exact lqB rfl | omega)).trans ((og_35 (k + 97) (by first | exact lqB rfl | omega)).trans ((og_33 (k + 97) (by first | exact lqB rfl | omega)).trans ((og_32 (k + 97) (by first | exact lqB rfl | omega)).trans ((og_30 (k + 97) (by first | exact lqB rfl | omega)).trans ((og_29 (k + 97) (by first | exact lqB rfl | omega)).trans ((og_27 (k + 97) (by first | exact lqB rfl | omega)).trans ((og_26 (k + 97) (by first | exact lqB rfl | omega)).trans ((og_24 (k + 97) (by first | exact lqB rfl | omega)).trans ((og_23 (k + 97) (by first | exact lqB rfl | omega)).trans ((og_21 (k + 97) (by first | exact lqB rfl | omega)).trans ((og_20 (k + 97) (by first | exact lqB rfl | omega)).trans ((og_18 (k + 97) (by first | exact lqB rfl | omega)).trans ((og_17 (k + 97) (by first | exact lqB rfl | omega)).trans ((og_15 (k + 97) (by first | exact lqB rfl | omega)).trans ((og_14 (k + 97) (by first | exact lqB rfl | omega)).trans ((og_12 (k + 97) (by first | exact lqB rfl | omega)).trans ((og_11 (k + 97) (by first | exact lqB rfl | omega)))))))))))))))))))))) hg_9
  have pk_2_0 : nB G g_2 f_3 (k + 1) := nB_gf pk_2_0 (fun j _ => rfl) (fun j h1 h2 => o_3 j (by omega))
  have pk_2_0 : nB G g_4 f_4 (k + 1) := nB_gf pk_2_0 (fun j hj => og_4 j (by omega)) (fun j h1 h2 => of_4 j (by omega))
  have pk_2_0 : nB G g_4 f_5 (k + 1) := nB_gf pk_2_0 (fun j _ => rfl) (fun j h1 h2 => o_5 j (by omega))
  have pk_2_0 : nB G g_6 f_6 (k + 1) := nB_gf pk_2_0 (fun j hj => og_6 j (by omega)) (fun j h1 h2 => of_6 j (by omega))
  have pk_2_0 : nB G g_7 f_7 (k + 1) := nB_gf pk_2_0 (fun j hj => og_7 j (by omega)) (fun j h1 h2 => of_7 j (by omega))
  have pk_2_0 : nB G g_7 f_8 (k + 1) := nB_gf pk_2_0 (fun j _ => rfl) (fun j h1 h2 => o_8 j (by omega))
  have pk_2_0 : nB G g_9 f_9 (k + 1) := nB_gf pk_2_0 (fun j hj => og_9 j (by omega)) (fun j h1 h2 => of_9 j (by omega))
  have pk_2_0 : nB G g_9 f_10 (k + 1) := nB_gf pk_2_0 (fun j _ => rfl) (fun j h1 h2 => o_10 j (by omega))
  have pk_2_0 : nB G g_11 f_11 (k + 1) := nB_gf pk_2_0 (fun j hj => og_11 j (by omega)) (fun j h1 h2 => of_11 j (by omega))
  have pk_2_0 : nB G g_12 f_12 (k + 1) := nB_gf pk_2_0 (fun j hj => og_12 j (by omega)) (fun j h1 h2 => of_12 j (by omega))
  have pk_2_0 : nB G g_12 f_13 (k + 1) := nB_gf pk_2_0 (fun j _ => rfl) (fun j h1 h2 => o_13 j (by omega))
  have pk_2_0 : nB G g_14 f_14 (k + 1) := nB_gf pk_2_0 (fun j hj => og_14 j (by omega)) (fun j h1 h2 => of_14 j (by omega))
  have pk_2_0 : nB G g_15 f_15 (k + 1) := nB_gf pk_2_0 (fun j hj => og_15 j (by omega)) (fun j h1 h2 => of_15 j (by omega))
  have pk_2_0 : nB G g_15 f_16 (k + 1) := nB_gf pk_2_0 (fun j _ => rfl) (fun j h1 h2 => o_16 j (by omega))
  have pk_2_0 : nB G g_17 f_17 (k + 1) := nB_gf pk_2_0 (fun j hj => og_17 j (by omega)) (fun j h1 h2 => of_17 j (by omega))
  have pk_2_0 : nB G g_18 f_18 (k + 1) := nB_gf pk_2_0 (fun j hj => og_18 j (by omega)) (fun j h1 h2 => of_18 j (by omega))
  have pk_2_0 : nB G g_18 f_19 (k + 1) := nB_gf pk_2_0 (fun j _ => rfl) (fun j h1 h2 => o_19 j (by omega))
  have pk_2_0 : nB G g_20 f_20 (k + 1) := nB_gf pk_2_0 (fun j hj => og_20 j (by omega)) (fun j h1 h2 => of_20 j (by omega))
  have pk_2_0 : nB G g_21 f_21 (k + 1) := nB_gf pk_2_0 (fun j hj => og_21 j (by omega)) (fun j h1 h2 => of_21 j (by omega))
  have pk_2_0 : nB G g_21 f_22 (k + 1) := nB_gf pk_2_0 (fun j _ => rfl) (fun j h1 h2 => o_22 j (by omega))
  have pk_2_0 : nB G g_23 f_23 (k + 1) := nB_gf pk_2_0 (fun j hj => og_23 j (by omega)) (fun j h1 h2 => of_23 j (by omega))
  have pk_2_0 : nB G g_24 f_24 (k + 1) := nB_gf pk_2_0 (fun j hj => og_24 j (by omega)) (fun j h1 h2 => of_24 j (by omega))
  have pk_2_0 : nB G g_24 f_25 (k + 1) := nB_gf pk_2_0 (fun j _ => rfl) (fun j h1 h2 => o_25 j (by omega))
  have pk_2_0 : nB G g_26 f_26 (k + 1) := nB_gf pk_2_0 (fun j hj => og_26 j (by omega)) (fun j h1 h2 => of_26 j (by omega))
  have pk_2_0 : nB G g_27 f_27 (k + 1) := nB_gf pk_2_0 (fun j hj => og_27 j (by omega)) (fun j h1 h2 => of_27 j (by omega))
  have pk_2_0 : nB G g_27 f_28 (k + 1) := nB_gf pk_2_0 (fun j _ => rfl) (fun j h1 h2 => o_28 j (by omega))
  have pk_2_0 : nB G g_29 f_29 (k + 1) := nB_gf pk_2_0 (fun j hj => og_29 j (by omega)) (fun j h1 h2 => of_29 j (by omega))
  have pk_2_0 : nB G g_30 f_30 (k + 1) := nB_gf pk_2_0 (fun j hj => og_30 j (by omega)) (fun j h1 h2 => of_30 j (by omega))
  have pk_2_0 : nB G g_30 f_31 (k + 1) := nB_gf pk_2_0 (fun j _ => rfl) (fun j h1 h2 => o_31 j (by omega))
  have pk_2_0 : nB G g_32 f_32 (k + 1) := nB_gf pk_2_0 (fun j hj => og_32 j (by omega)) (fun j h1 h2 => of_32 j (by omega))
  have pk_2_0 : nB G g_33 f_33 (k + 1) := nB_gf pk_2_0 (fun j hj => og_33 j (by omega)) (fun j h1 h2 => of_33 j (by omega))
  have pk_2_0 : nB G g_33 f_34 (k + 1) := nB_gf pk_2_0 (fun j _ => rfl) (fun j h1 h2 => o_34 j (by omega))
  have pk_2_0 : nB G g_35 f_35 (k + 1) := nB_gf pk_2_0 (fun j hj => og_35 j (by omega)) (fun j h1 h2 => of_35 j (by omega))
  have pk_2_0 : nB G g_36 f_36 (k + 1) := nB_gf pk_2_0 (fun j hj => og_36 j (by omega)) (fun j h1 h2 => of_36 j (by omega))
  have pk_2_0 : nB G g_36 f_37 (k + 1) := nB_gf pk_2_0 (fun j _ => rfl) (fun j h1 h2 => o_37 j (by omega))
  have pk_2_0 : nB G g_38 f_38 (k + 1) := nB_gf pk_2_0 (fun j hj => og_38 j (by omega)) (fun j h1 h2 => of_38 j (by omega))
  have pk_2_0 : nB G g_39 f_39 (k + 1) := nB_gf pk_2_0 (fun j hj => og_39 j (by omega)) (fun j h1 h2 => of_39 j (by omega))
  have pk_2_0 : nB G g_39 f_40 (k + 1) := nB_gf pk_2_0 (fun j _ => rfl) (fun j h1 h2 => o_40 j (by omega))
  have pk_7_0 : nH G g_7 f_8 (k + 95) := nH_gf pk_7_0 (fun j _ => rfl) (fun j h1 h2 => o_8 j (by omega))
  have pk_7_0 : nH G g_9 f_9 (k + 95) := nH_gf pk_7_0 (fun j hj => og_9 j (by omega)) (fun j h1 h2 => of_9 j (by omega))
  have pk_7_0 : nH G g_9 f_10 (k + 95) := nH_gf pk_7_0 (fun j _ => rfl) (fun j h1 h2 => o_10 j (by omega))
  have pk_7_0 : nH G g_11 f_11 (k + 95) := nH_gf pk_7_0 (fun j hj => og_11 j (by omega)) (fun j h1 h2 => of_11 j (by omega))
  have pk_7_0 : nH G g_12 f_12 (k + 95) := nH_gf pk_7_0 (fun j hj => og_12 j (by omega)) (fun j h1 h2 => of_12 j (by omega))
  have pk_7_0 : nH G g_12 f_13 (k + 95) := nH_gf pk_7_0 (fun j _ => rfl) (fun j h1 h2 => o_13 j (by omega))
  have pk_7_0 : nH G g_14 f_14 (k + 95) := nH_gf pk_7_0 (fun j hj => og_14 j (by omega)) (fun j h1 h2 => of_14 j (by omega))
  have pk_7_0 : nH G g_15 f_15 (k + 95) := nH_gf pk_7_0 (fun j hj => og_15 j (by omega)) (fun j h1 h2 => of_15 j (by omega))
  have pk_7_0 : nH G g_15 f_16 (k + 95) := nH_gf pk_7_0 (fun j _ => rfl) (fun j h1 h2 => o_16 j (by omega))
  have pk_7_0 : nH G g_17 f_17 (k + 95) := nH_gf pk_7_0 (fun j hj => og_17 j (by omega)) (fun j h1 h2 => of_17 j (by omega))
  have pk_7_0 : nH G g_18 f_18 (k + 95) := nH_gf pk_7_0 (fun j hj => og_18 j (by omega)) (fun j h1 h2 => of_18 j (by omega))
  have pk_7_0 : nH G g_18 f_19 (k + 95) := nH_gf pk_7_0 (fun j _ => rfl) (fun j h1 h2 => o_19 j (by omega))
  have pk_7_0 : nH G g_20 f_20 (k + 95) := nH_gf pk_7_0 (fun j hj => og_20 j (by omega)) (fun j h1 h2 => of_20 j (by omega))
  have pk_7_0 : nH G g_21 f_21 (k + 95) := nH_gf pk_7_0 (fun j hj => og_21 j (by omega)) (fun j h1 h2 => of_21 j (by omega))
  have pk_7_0 : nH G g_21 f_22 (k + 95) := nH_gf pk_7_0 (fun j _ => rfl) (fun j h1 h2 => o_22 j (by omega))
  have pk_7_0 : nH G g_23 f_23 (k + 95) := nH_gf pk_7_0 (fun j hj => og_23 j (by omega)) (fun j h1 h2 => of_23 j (by omega))
  have pk_7_0 : nH G g_24 f_24 (k + 95) := nH_gf pk_7_0 (fun j hj => og_24 j (by omega)) (fun j h1 h2 => of_24 j (by omega))
  have pk_7_0 : nH G g_24 f_25 (k + 95) := nH_gf pk_7_0 (fun j _ => rfl) (fun j h1 h2 => o_25 j (by omega))
  have pk_7_0 : nH G g_26 f_26 (k + 95) := nH_gf pk_7_0 (fun j hj => og_26 j (by omega)) (fun j h1 h2 => of_26 j (by omega))
  have pk_7_0 : nH G g_27 f_27 (k + 95) := nH_gf pk_7_0 (fun j hj => og_27 j (by omega)) (fun j h1 h2 => of_27 j (by omega))
  have pk_7_0 : nH G g_27 f_28 (k + 95) := nH_gf pk_7_0 (fun j _ => rfl) (fun j h1 h2 => o_28 j (by omega))
  have pk_7_0 : nH G g_29 f_29 (k + 95) := nH_gf pk_7_0 (fun j hj => og_29 j (by omega)) (fun j h1 h2 => of_29 j (by omega))
  have pk_7_0 : nH G g_30 f_30 (k + 95) := nH_gf pk_7_0 (fun j hj => og_30 j (by omega)) (fun j h1 h2 => of_30 j (by omega))
  have pk_7_0 : nH G g_30 f_31 (k + 95) := nH_gf pk_7_0 (fun j _ => rfl) (fun j h1 h2 => o_31 j (by omega))
  have pk_7_0 : nH G g_32 f_32 (k + 95) := nH_gf pk_7_0 (fun j hj => og_32 j (by omega)) (fun j h1 h2 => of_32 j (by omega))
  have pk_7_0 : nH G g_33 f_33 (k + 95) := nH_gf pk_7_0 (fun j hj => og_33 j (by omega)) (fun j h1 h2 => of_33 j (by omega))
  have pk_7_0 : nH G g_33 f_34 (k + 95) := nH_gf pk_7_0 (fun j _ => rfl) (fun j h1 h2 => o_34 j (by omega))
  have pk_7_0 : nH G g_35 f_35 (k + 95) := nH_gf pk_7_0 (fun j hj => og_35 j (by omega)) (fun j h1 h2 => of_35 j (by omega))
  have pk_7_0 : nH G g_36 f_36 (k + 95) := nH_gf pk_7_0 (fun j hj => og_36 j (by omega)) (fun j h1 h2 => of_36 j (by omega))
  have pk_7_0 : nH G g_36 f_37 (k + 95) := nH_gf pk_7_0 (fun j _ => rfl) (fun j h1 h2 => o_37 j (by omega))
  have pk_7_0 : nH G g_38 f_38 (k + 95) := nH_gf pk_7_0 (fun j hj => og_38 j (by omega)) (fun j h1 h2 => of_38 j (by omega))
  have pk_7_0 : nH G g_39 f_39 (k + 95) := nH_gf pk_7_0 (fun j hj => og_39 j (by omega)) (fun j h1 h2 => of_39 j (by omega))
  have pk_7_0 : nH G g_39 f_40 (k + 95) := nH_gf pk_7_0 (fun j _ => rfl) (fun j h1 h2 => o_40 j (by omega))
  replace hf_9 := ((o_40 (k + 97) (by first | exact lqC rfl | exact lqE rfl | omega)).trans ((of_39 (k + 97) (by first | exact lqB rfl | omega)).trans ((of_38 (k + 97) (by first | exact lqB rfl | omega)).trans ((o_37 (k + 97) (by first | exact lqC rfl | exact lqE rfl | omega)).trans ((of_36 (k + 97) (by first | exact lqB rfl | omega)).trans ((of_35 (k + 97) (by first | exact lqB rfl | omega)).trans ((o_34 (k + 97) (by first | exact lqC rfl | exact lqE rfl | omega)).trans ((of_33 (k + 97) (by first | exact lqB rfl | omega)).trans ((of_32 (k + 97) (by first | exact lqB rfl | omega)).trans ((o_31 (k + 97) (by first | exact lqC rfl | exact lqE rfl | omega)).trans ((of_30 (k + 97) (by first | exact lqB rfl | omega)).trans ((of_29 (k + 97) (by first | exact lqB rfl | omega)).trans ((o_28 (k + 97) (by first | exact lqC rfl | exact lqE rfl | omega)).trans ((of_27 (k + 97) (by first | exact lqB rfl | omega)).trans ((of_26 (k + 97) (by first | exact lqB rfl | omega)).trans ((o_25 (k + 97) (by first | exact lqC rfl | exact lqE rfl | omega)).trans ((of_24 (k + 97) (by first | exact lqB rfl | omega)).trans ((of_23 (k + 97) (by first | exact lqB rfl | omega)).trans ((o_22 (k + 97) (by first | exact lqC rfl | exact lqE rfl | omega)).trans ((of_21 (k + 97) (by first | exact lqB rfl | omega)).trans ((of_20 (k + 97) (by first | exact lqB rfl | omega)).trans ((o_19 (k + 97) (by first | exact lqC rfl | exact lqE rfl | omega)).trans ((of_18 (k + 97) (by first | exact lqB rfl | omega)).trans ((of_17 (k + 97) (by first | exact lqB rfl | omega)).trans ((o_16 (k + 97) (by first | exact lqC rfl | exact lqE rfl | omega)).trans ((of_15 (k + 97) (by first | exact lqB rfl | omega)).trans ((of_14 (k + 97) (by first | exact lqB rfl | omega)).trans ((o_13 (k + 97) (by first | exact lqC rfl | exact lqE rfl | omega)).trans ((of_12 (k + 97) (by first | exact lqB rfl | omega)).trans ((of_11 (k + 97) (by first | exact lqB rfl | omega)).trans ((o_10 (k + 97) (by first | exact lqC rfl | exact lqE rfl | omega))))))))))))))))))))))))))))))))).trans hf_9
  exact W.vret hx hb hr (fun t ht hW => ⟨⟨g_39, f_40, rfl, fun j hj => (og_39 j (by omega)).trans ((og_38 j (by omega)).trans ((og_36 j (by omega)).trans ((og_35 j (by omega)).trans ((og_33 j (by omega)).trans ((og_32 j (by omega)).trans ((og_30 j (by omega)).trans ((og_29 j (by omega)).trans ((og_27 j (by omega)).trans ((og_26 j (by omega)).trans ((og_24 j (by omega)).trans ((og_23 j (by omega)).trans ((og_21 j (by omega)).trans ((og_20 j (by omega)).trans ((og_18 j (by omega)).trans ((og_17 j (by omega)).trans ((og_15 j (by omega)).trans ((og_14 j (by omega)).trans ((og_12 j (by omega)).trans ((og_11 j (by omega)).trans ((og_9 j (by omega)).trans ((og_7 j (by omega)).trans ((og_6 j (by omega)).trans ((og_4 j (by omega)).trans ((og_2 j (by omega)).trans ((og_1 j (by omega))))))))))))))))))))))))))), ⟨(by rw [show g_39 (k + 1) = q1 from hg_1, show g_39 (k + 94) = q2 from hg_4, show g_39 (k + 95) = q3 from hg_6, show g_39 (k + 97) = q4 from hg_9]; exact hown0), ⟨(by rw [show g_39 (k + 1) = q1 from hg_1, show g_39 (k + 94) = q2 from hg_4, show g_39 (k + 95) = q3 from hg_6, show g_39 (k + 97) = q4 from hg_9]; exact hown0), pk_2_0, ⟨_, hf_4, taA⟩, pk_7_0, hf_9, txA⟩, fun j hj => (o_40 j (by omega)).trans ((of_39 j (by omega)).trans ((of_38 j (by omega)).trans ((o_37 j (by omega)).trans ((of_36 j (by omega)).trans ((of_35 j (by omega)).trans ((o_34 j (by omega)).trans ((of_33 j (by omega)).trans ((of_32 j (by omega)).trans ((o_31 j (by omega)).trans ((of_30 j (by omega)).trans ((of_29 j (by omega)).trans ((o_28 j (by omega)).trans ((of_27 j (by omega)).trans ((of_26 j (by omega)).trans ((o_25 j (by omega)).trans ((of_24 j (by omega)).trans ((of_23 j (by omega)).trans ((o_22 j (by omega)).trans ((of_21 j (by omega)).trans ((of_20 j (by omega)).trans ((o_19 j (by omega)).trans ((of_18 j (by omega)).trans ((of_17 j (by omega)).trans ((o_16 j (by omega)).trans ((of_15 j (by omega)).trans ((of_14 j (by omega)).trans ((o_13 j (by omega)).trans ((of_12 j (by omega)).trans ((of_11 j (by omega)).trans ((o_10 j (by omega)).trans ((of_9 j (by omega)).trans ((o_8 j (by omega)).trans ((of_7 j (by omega)).trans ((of_6 j (by omega)).trans ((o_5 j (by omega)).trans ((of_4 j (by omega)).trans ((o_3 j (by omega)).trans ((of_2 j (by omega)).trans ((of_1 j (by omega)))))))))))))))))))))))))))))))))))))))))⟩, by rw [ht]; exact hP, by rw [hAe]; exact hD⟩, by rw [hAe]; exact hS.F ht⟩) hS.2.2 dX1_init_70


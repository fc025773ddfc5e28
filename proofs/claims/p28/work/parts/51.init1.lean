theorem lqA {k b : Nat} (h : Nat.ble 1 b = true) : k < k + b := Nat.lt_add_of_pos_right (Nat.le_of_ble_eq_true h)
theorem lqB {k a b : Nat} (h : Nat.ble (a + 1) b = true) : k + a < k + b := Nat.add_lt_add_left (Nat.le_of_ble_eq_true h) k
theorem lqC {k a : Nat} (h : Nat.ble 1 a = true) : k + a ≠ k := fun e => Nat.lt_irrefl k (Nat.lt_of_lt_of_eq (lqA h) e)
theorem lqD {k a : Nat} (h : Nat.ble 1 a = true) : k ≠ k + a := fun e => lqC h e.symm
theorem lqE {k a b : Nat} (h : Nat.beq a b = false) : k + a ≠ k + b := fun e => absurd (Nat.add_left_cancel e) (Nat.ne_of_beq_eq_false h)
def nH (G : gW) (g : Nat → Nat) (f : Nat → va_E) (k : Nat) : Prop := f k = eO 3 [.ref (g (k + 1)), .int 0, .int 0, .int 0, .int 0, .int 0, .int 0, .int 0, .int 0] ∧ f (k + 1) = eI G 24 (fun _ => 0)
theorem nH_gf {G : gW} {g g' : Nat → Nat} {f f' : Nat → va_E} {k : Nat} (h : nH G g f k) (hg : ∀ j, j < k + 2 → g' j = g j) (hf : ∀ j, k ≤ j → j < k + 2 → f' j = f j) : nH G g' f' k := by
  refine ⟨?_, (hf _ (by omega) (by omega)).trans h.2⟩
  rw [hf k (by omega) (by omega), h.1, hg (k + 1) (by omega)]
def nSh (G : gW) (g : Nat → Nat) (f : Nat → va_E) (k n : Nat) : Prop := f k = eO 6 [.ref (g (k + 4)), .ref (g (k + 1))] ∧ (∃ tf : Nat → Option Nat, f (k + 4) = eA G 5 n tf ∧ ∀ z, z < n → tf z = some (g (k + 3 * z + 5))) ∧ ∀ z, z < n → isT G g f (k + 3 * z + 5) 0 0 (fun _ => 0) (fun _ => 0)
theorem nSh_gf {G : gW} {g g' : Nat → Nat} {f f' : Nat → va_E} {k n : Nat} (h : nSh G g f k n) (hg : ∀ j, j < k + 3 * n + 5 → g' j = g j) (hf : ∀ j, k ≤ j → j < k + 3 * n + 5 → f' j = f j) : nSh G g' f' k n := by
  obtain ⟨h1, ⟨tf, h2, h3⟩, h4⟩ := h
  refine ⟨?_, ⟨tf, (hf _ (by omega) (by omega)).trans h2, fun z hz => ?_⟩, fun z hz => isT_gf (h4 z hz) (fun j hj => hg j (by omega)) (fun j a b => hf j (by omega) (by omega))⟩
  · rw [hf k (by omega) (by omega), h1, hg (k + 4) (by omega), hg (k + 1) (by omega)]
  · rw [h3 z hz, hg _ (by omega)]
theorem ok_X5_init : okI yX5_init cX5_init 3 none 2 := ⟨⟨w_68, w_53, ⟨by decide +kernel, by decide +kernel, by decide +kernel⟩⟩, trivial, w_67, trivial⟩
theorem ok_X8_init : okI yX8_init cX8_init 1 none 0 := ⟨⟨w_84, w_80, ⟨by decide +kernel, by decide +kernel, by decide +kernel⟩⟩, trivial, w_83, trivial⟩
theorem ok_X6_init : okI yX6_init cX6_init 3 none 1 := ⟨⟨w_76, w_61, ⟨by decide +kernel, by decide +kernel, by decide +kernel⟩⟩, trivial, w_75, trivial⟩
theorem ok_X0_init : okI yX0_init cX0_init 1 none 0 := ⟨⟨w_49, w_34, ⟨by decide +kernel, by decide +kernel, by decide +kernel⟩⟩, trivial, w_48, trivial⟩
theorem ok_X3_init : okI yX3_init cX3_init 1 none 0 := ⟨⟨w_89, w_44, ⟨by decide +kernel, by decide +kernel, by decide +kernel⟩⟩, trivial, w_88, trivial⟩
theorem ok_X1_init : okI yX1_init cX1_init 2 none 0 := ⟨⟨w_37, w_14, ⟨by decide +kernel, by decide +kernel, by decide +kernel⟩⟩, trivial, w_36, trivial⟩
theorem ok_X2_init : okI yX2_init cX2_init 1 none 0 := ⟨⟨w_97, w_27, ⟨by decide +kernel, by decide +kernel, by decide +kernel⟩⟩, trivial, w_96, trivial⟩
theorem ok_X4_init : okI yX4_init cX4_init 1 none 0 := ⟨⟨w_93, w_23, ⟨by decide +kernel, by decide +kernel, by decide +kernel⟩⟩, trivial, w_92, trivial⟩
theorem ok_X9_init : okI yX9_init cX9_init 1 none 0 := ⟨⟨w_102, w_31, ⟨by decide +kernel, by decide +kernel, by decide +kernel⟩⟩, trivial, w_101, trivial⟩
theorem ok_X10_init : okI yX10_init cX10_init 2 none 0 := ⟨⟨w_8, w_2, ⟨by decide +kernel, by decide +kernel, by decide +kernel⟩⟩, trivial, w_7, trivial⟩
theorem ok_X11_init : okI yX11_init cX11_init 1 none 0 := ⟨⟨w_110, w_5, ⟨by decide +kernel, by decide +kernel, by decide +kernel⟩⟩, trivial, w_109, trivial⟩
set_option maxHeartbeats 4000000 in
set_option maxRecDepth 100000 in
theorem i_rows_30_4 (l : Launch) (G : gW) (g : Nat → Nat) (f : Nat → va_E) (sz k a : Nat) (hga0 : gq (g k) a) (hown0 : f k = eO 5 [.int 0, .int 0, .null, .int 0]) : Met l yX5_init (wsT yX5_init cX5_init 3 none) ({ frames := 1, cells := 1, slots := 120, locals := 12 }) (nP G (k + 1) g f sz [.ref a, .int 30, .int 4]) (nQ G (k + 1) (k + 2) g sz (fun (g' : Nat → Nat) (f' : Nat → va_E) => f' k = eO 5 [.int 30, .int 4, .ref (g' (k + 1)), .int 0] ∧ f' (k + 1) = eI G 120 (fun _ => 0) ∧ ∀ j, j < k → f' j = f j)) 1 120 (nA (k + 1) g sz) := by
  refine Met.ofW (cc := cX5_init) (maxL := 3) (ret := none) (by decide) rfl ?_
  intro p e s m args below meth c s₁ B hml hv
  obtain ⟨rfl, hsz, hP, hG, hD0⟩ := hv
  have hx := B.exec
  have hb := B.bytes
  have hr := B.returns
  have hts := my_hts (atoms_spec (ws := wsT yX5_init cX5_init 3 none) B.pre)
  have hown : s.vm.findClass RX5 = some m.cls := findClass_of_methodNamed B.named
  have hlocks := B.notSynchronized
  have hin : meth.name = "<init>" := (name_of_methodNamed B.named B.method).1
  subst hsz
  have hD := nD_self (sz := s.heap.size) hD0
  generalize hAe : nA (k + 1) g s.heap.size = A at hD ⊢
  have hA : ∀ q : Nat, s.heap.size ≤ q → A q := fun q h => by rw [← hAe]; exact Or.inr h
  have hS : va_S A s.heap s.heap [] := va_S.rf
  have hl := lv_entry ([.ref a, .int 30, .int 4]) (n := 3) (Nat.le_of_ble_eq_true rfl)
  rw [lg_entry_eq]
  generalize (lg_sl ([.ref a, .int 30, .int 4]) ++ List.replicate (3 - (lg_sl ([.ref a, .int 30, .int 4])).length) Slot.unset).toArray = ls at hl ⊢
  have hl : lv_has ls 3 [(0, .ref a), (1, .int 30), (2, .int 4)] := hl
  refine lv_aload_n hx hb dX5_init_0 rfl (lv_at hl 0 rfl) ?_
  refine W.objInit hx hb hown (hts (.methodLink RX5 3 objectInit) w_69) (hts (.instanceMethod objectInit) w_10) (hts (.code objectInit ⟨#[0xb1]⟩ 1 none) w_11) rfl (by rw [hml]; exact hl.1) rfl dX5_init_1 (Nat.le_of_ble_eq_true rfl) (Nat.le_of_ble_eq_true rfl) ?_
  refine W.eq (g2 := F0 m 4 ls []) rfl ?_
  refine lv_aload_n hx hb dX5_init_4 rfl (lv_at hl 0 rfl) ?_
  refine lv_iload_n hx hb dX5_init_5 rfl (lv_at hl 1 rfl) ?_
  refine va_putF (D := G.1) (ci := 5) (v := .int 30) (ty := .int) (C := RX5) (T := TX5) (N := 4) hx hb hts inlX5 tyX5 tyX5_ok nmX5 hown hG.1 hP hD hS k (wn_at (by first | exact lqA rfl | exact lqB rfl | omega) hga0 hown0) rfl 0 (by decide) (hts (.fieldLink RX5 9 "SwornLists$Rows" "most" "I") w_70) (fun _ h9 => h9) rfl hin rfl (by decide +kernel) rfl rfl (Nat.le_of_ble_eq_true rfl) dX5_init_6 (fun H locs hP hD hS => ?_)
  obtain ⟨f_1, hP, hD, e_1, o_1⟩ := n_put (by first | exact lqA rfl | exact lqB rfl | omega) hga0 hP hD
  have hown0 : f_1 k = eO 5 [.int 30, .int 0, .null, .int 0] := e_1
  refine lv_aload_n hx hb dX5_init_9 rfl (lv_at hl 0 rfl) ?_
  refine lv_iload_n hx hb dX5_init_10 rfl (lv_at hl 2 rfl) ?_
  refine va_putF (D := G.1) (ci := 5) (v := .int 4) (ty := .int) (C := RX5) (T := TX5) (N := 4) hx hb hts inlX5 tyX5 tyX5_ok nmX5 hown hG.1 hP hD hS k (wn_at (by first | exact lqA rfl | exact lqB rfl | omega) hga0 hown0) rfl 1 (by decide) (hts (.fieldLink RX5 15 "SwornLists$Rows" "width" "I") w_71) (fun _ h9 => h9) rfl hin rfl (by decide +kernel) rfl rfl (Nat.le_of_ble_eq_true rfl) dX5_init_11 (fun H locs hP hD hS => ?_)
  obtain ⟨f_2, hP, hD, e_2, o_2⟩ := n_put (by first | exact lqA rfl | exact lqB rfl | omega) hga0 hP hD
  have hown0 : f_2 k = eO 5 [.int 30, .int 4, .null, .int 0] := e_2
  refine lv_aload_n hx hb dX5_init_14 rfl (lv_at hl 0 rfl) ?_
  refine lv_iload_n hx hb dX5_init_15 rfl (lv_at hl 1 rfl) ?_
  refine lv_iload_n hx hb dX5_init_16 rfl (lv_at hl 2 rfl) ?_
  refine lv_imul hx hb dX5_init_17 ?_
  refine my_bei (v := 120) (by decide) ?_
  refine my_newaI hx hb (hts (.arrayClass .int) w_72) hG.1 hP hD hS hA (N' := 120) (by decide) (by decide) (Nat.le_of_ble_eq_true rfl) (Nat.le_of_ble_eq_true rfl) (Nat.le_of_ble_eq_true rfl) dX5_init_18 (fun q1 H hP hD hS => ?_)
  obtain ⟨g_3, f_3, hP, hD, hg_3, hf_3, og_3, of_3⟩ := n_ext hP hD
  have hf_3 : f_3 (k + 1) = eI G 120 (fun _ => 0) := hf_3
  have hg_3 : gq (g_3 (k + 1)) q1 := hg_3
  have hP : va_P G.1 vwCl (wn (k + 2) g_3 f_3) H := hP
  have hD : va_D A (wn (k + 2) g_3 f_3) := hD
  refine W.widen (k := 1) (n := 120) (by omega) (by omega) ?_
  replace hown0 := ((of_3 k (by first | exact lqA rfl | omega))).trans hown0
  replace hga0 := gq.tr ((og_3 k (by first | exact lqA rfl | omega))) hga0
  refine va_putF (D := G.1) (ci := 5) (v := .ref q1) (ty := .array .int) (C := RX5) (T := TX5) (N := 4) hx hb hts inlX5 tyX5 tyX5_ok nmX5 hown hG.1 hP hD hS k (wn_at (by first | exact lqA rfl | exact lqB rfl | omega) hga0 hown0) rfl 2 (by decide) (hts (.fieldLink RX5 18 "SwornLists$Rows" "cells" "[I") w_73) (fun _ h9 => h9) rfl hin rfl (by decide +kernel) rfl rfl (Nat.le_of_ble_eq_true rfl) dX5_init_20 (fun H locs hP hD hS => ?_)
  obtain ⟨f_4, hP, hD, e_4, o_4⟩ := n_put (by first | exact lqA rfl | exact lqB rfl | omega) hga0 hP hD
  have hown0 : f_4 k = eO 5 [.int 30, .int 4, .ref q1, .int 0] := e_4
  replace hf_3 := ((o_4 (k + 1) (by first | exact lqC rfl | exact lqE rfl | omega))).trans hf_3
  exact W.vret hx hb hr (fun t ht hW => ⟨⟨g_3, f_4, rfl, fun j hj => (og_3 j (by omega)), ⟨(by rw [show g_3 (k + 1) = q1 from hg_3]; exact hown0), hf_3, fun j hj => (o_4 j (by omega)).trans ((of_3 j (by omega)).trans ((o_2 j (by omega)).trans ((o_1 j (by omega)))))⟩, by rw [ht]; exact hP, by rw [hAe]; exact hD⟩, by rw [hAe]; exact hS.F ht⟩) hS.2.2 dX5_init_23
set_option maxHeartbeats 4000000 in
set_option maxRecDepth 100000 in
theorem i_rows_40_3 (l : Launch) (G : gW) (g : Nat → Nat) (f : Nat → va_E) (sz k a : Nat) (hga0 : gq (g k) a) (hown0 : f k = eO 5 [.int 0, .int 0, .null, .int 0]) : Met l yX5_init (wsT yX5_init cX5_init 3 none) ({ frames := 1, cells := 1, slots := 120, locals := 12 }) (nP G (k + 1) g f sz [.ref a, .int 40, .int 3]) (nQ G (k + 1) (k + 2) g sz (fun (g' : Nat → Nat) (f' : Nat → va_E) => f' k = eO 5 [.int 40, .int 3, .ref (g' (k + 1)), .int 0] ∧ f' (k + 1) = eI G 120 (fun _ => 0) ∧ ∀ j, j < k → f' j = f j)) 1 120 (nA (k + 1) g sz) := by
  refine Met.ofW (cc := cX5_init) (maxL := 3) (ret := none) (by decide) rfl ?_
  intro p e s m args below meth c s₁ B hml hv
  obtain ⟨rfl, hsz, hP, hG, hD0⟩ := hv
  have hx := B.exec
  have hb := B.bytes
  have hr := B.returns
  have hts := my_hts (atoms_spec (ws := wsT yX5_init cX5_init 3 none) B.pre)
  have hown : s.vm.findClass RX5 = some m.cls := findClass_of_methodNamed B.named
  have hlocks := B.notSynchronized
  have hin : meth.name = "<init>" := (name_of_methodNamed B.named B.method).1
  subst hsz
  have hD := nD_self (sz := s.heap.size) hD0
  generalize hAe : nA (k + 1) g s.heap.size = A at hD ⊢
  have hA : ∀ q : Nat, s.heap.size ≤ q → A q := fun q h => by rw [← hAe]; exact Or.inr h
  have hS : va_S A s.heap s.heap [] := va_S.rf
  have hl := lv_entry ([.ref a, .int 40, .int 3]) (n := 3) (Nat.le_of_ble_eq_true rfl)
  rw [lg_entry_eq]
  generalize (lg_sl ([.ref a, .int 40, .int 3]) ++ List.replicate (3 - (lg_sl ([.ref a, .int 40, .int 3])).length) Slot.unset).toArray = ls at hl ⊢
  have hl : lv_has ls 3 [(0, .ref a), (1, .int 40), (2, .int 3)] := hl
  refine lv_aload_n hx hb dX5_init_0 rfl (lv_at hl 0 rfl) ?_
  refine W.objInit hx hb hown (hts (.methodLink RX5 3 objectInit) w_69) (hts (.instanceMethod objectInit) w_10) (hts (.code objectInit ⟨#[0xb1]⟩ 1 none) w_11) rfl (by rw [hml]; exact hl.1) rfl dX5_init_1 (Nat.le_of_ble_eq_true rfl) (Nat.le_of_ble_eq_true rfl) ?_
  refine W.eq (g2 := F0 m 4 ls []) rfl ?_
  refine lv_aload_n hx hb dX5_init_4 rfl (lv_at hl 0 rfl) ?_
  refine lv_iload_n hx hb dX5_init_5 rfl (lv_at hl 1 rfl) ?_
  refine va_putF (D := G.1) (ci := 5) (v := .int 40) (ty := .int) (C := RX5) (T := TX5) (N := 4) hx hb hts inlX5 tyX5 tyX5_ok nmX5 hown hG.1 hP hD hS k (wn_at (by first | exact lqA rfl | exact lqB rfl | omega) hga0 hown0) rfl 0 (by decide) (hts (.fieldLink RX5 9 "SwornLists$Rows" "most" "I") w_70) (fun _ h9 => h9) rfl hin rfl (by decide +kernel) rfl rfl (Nat.le_of_ble_eq_true rfl) dX5_init_6 (fun H locs hP hD hS => ?_)
  obtain ⟨f_1, hP, hD, e_1, o_1⟩ := n_put (by first | exact lqA rfl | exact lqB rfl | omega) hga0 hP hD
  have hown0 : f_1 k = eO 5 [.int 40, .int 0, .null, .int 0] := e_1
  refine lv_aload_n hx hb dX5_init_9 rfl (lv_at hl 0 rfl) ?_
  refine lv_iload_n hx hb dX5_init_10 rfl (lv_at hl 2 rfl) ?_
  refine va_putF (D := G.1) (ci := 5) (v := .int 3) (ty := .int) (C := RX5) (T := TX5) (N := 4) hx hb hts inlX5 tyX5 tyX5_ok nmX5 hown hG.1 hP hD hS k (wn_at (by first | exact lqA rfl | exact lqB rfl | omega) hga0 hown0) rfl 1 (by decide) (hts (.fieldLink RX5 15 "SwornLists$Rows" "width" "I") w_71) (fun _ h9 => h9) rfl hin rfl (by decide +kernel) rfl rfl (Nat.le_of_ble_eq_true rfl) dX5_init_11 (fun H locs hP hD hS => ?_)
  obtain ⟨f_2, hP, hD, e_2, o_2⟩ := n_put (by first | exact lqA rfl | exact lqB rfl | omega) hga0 hP hD
  have hown0 : f_2 k = eO 5 [.int 40, .int 3, .null, .int 0] := e_2
  refine lv_aload_n hx hb dX5_init_14 rfl (lv_at hl 0 rfl) ?_
  refine lv_iload_n hx hb dX5_init_15 rfl (lv_at hl 1 rfl) ?_
  refine lv_iload_n hx hb dX5_init_16 rfl (lv_at hl 2 rfl) ?_
  refine lv_imul hx hb dX5_init_17 ?_
  refine my_bei (v := 120) (by decide) ?_
  refine my_newaI hx hb (hts (.arrayClass .int) w_72) hG.1 hP hD hS hA (N' := 120) (by decide) (by decide) (Nat.le_of_ble_eq_true rfl) (Nat.le_of_ble_eq_true rfl) (Nat.le_of_ble_eq_true rfl) dX5_init_18 (fun q1 H hP hD hS => ?_)
  obtain ⟨g_3, f_3, hP, hD, hg_3, hf_3, og_3, of_3⟩ := n_ext hP hD
  have hf_3 : f_3 (k + 1) = eI G 120 (fun _ => 0) := hf_3
  have hg_3 : gq (g_3 (k + 1)) q1 := hg_3
  have hP : va_P G.1 vwCl (wn (k + 2) g_3 f_3) H := hP
  have hD : va_D A (wn (k + 2) g_3 f_3) := hD
  refine W.widen (k := 1) (n := 120) (by omega) (by omega) ?_
  replace hown0 := ((of_3 k (by first | exact lqA rfl | omega))).trans hown0
  replace hga0 := gq.tr ((og_3 k (by first | exact lqA rfl | omega))) hga0
  refine va_putF (D := G.1) (ci := 5) (v := .ref q1) (ty := .array .int) (C := RX5) (T := TX5) (N := 4) hx hb hts inlX5 tyX5 tyX5_ok nmX5 hown hG.1 hP hD hS k (wn_at (by first | exact lqA rfl | exact lqB rfl | omega) hga0 hown0) rfl 2 (by decide) (hts (.fieldLink RX5 18 "SwornLists$Rows" "cells" "[I") w_73) (fun _ h9 => h9) rfl hin rfl (by decide +kernel) rfl rfl (Nat.le_of_ble_eq_true rfl) dX5_init_20 (fun H locs hP hD hS => ?_)
  obtain ⟨f_4, hP, hD, e_4, o_4⟩ := n_put (by first | exact lqA rfl | exact lqB rfl | omega) hga0 hP hD
  have hown0 : f_4 k = eO 5 [.int 40, .int 3, .ref q1, .int 0] := e_4
  replace hf_3 := ((o_4 (k + 1) (by first | exact lqC rfl | exact lqE rfl | omega))).trans hf_3
  exact W.vret hx hb hr (fun t ht hW => ⟨⟨g_3, f_4, rfl, fun j hj => (og_3 j (by omega)), ⟨(by rw [show g_3 (k + 1) = q1 from hg_3]; exact hown0), hf_3, fun j hj => (o_4 j (by omega)).trans ((of_3 j (by omega)).trans ((o_2 j (by omega)).trans ((o_1 j (by omega)))))⟩, by rw [ht]; exact hP, by rw [hAe]; exact hD⟩, by rw [hAe]; exact hS.F ht⟩) hS.2.2 dX5_init_23
set_option maxHeartbeats 4000000 in
set_option maxRecDepth 100000 in
theorem i_rows_4_3 (l : Launch) (G : gW) (g : Nat → Nat) (f : Nat → va_E) (sz k a : Nat) (hga0 : gq (g k) a) (hown0 : f k = eO 5 [.int 0, .int 0, .null, .int 0]) : Met l yX5_init (wsT yX5_init cX5_init 3 none) ({ frames := 1, cells := 1, slots := 12, locals := 12 }) (nP G (k + 1) g f sz [.ref a, .int 4, .int 3]) (nQ G (k + 1) (k + 2) g sz (fun (g' : Nat → Nat) (f' : Nat → va_E) => f' k = eO 5 [.int 4, .int 3, .ref (g' (k + 1)), .int 0] ∧ f' (k + 1) = eI G 12 (fun _ => 0) ∧ ∀ j, j < k → f' j = f j)) 1 12 (nA (k + 1) g sz) := by
  refine Met.ofW (cc := cX5_init) (maxL := 3) (ret := none) (by decide) rfl ?_
  intro p e s m args below meth c s₁ B hml hv
  obtain ⟨rfl, hsz, hP, hG, hD0⟩ := hv
  have hx := B.exec
  have hb := B.bytes
  have hr := B.returns
  have hts := my_hts (atoms_spec (ws := wsT yX5_init cX5_init 3 none) B.pre)
  have hown : s.vm.findClass RX5 = some m.cls := findClass_of_methodNamed B.named
  have hlocks := B.notSynchronized
  have hin : meth.name = "<init>" := (name_of_methodNamed B.named B.method).1
  subst hsz
  have hD := nD_self (sz := s.heap.size) hD0
  generalize hAe : nA (k + 1) g s.heap.size = A at hD ⊢
  have hA : ∀ q : Nat, s.heap.size ≤ q → A q := fun q h => by rw [← hAe]; exact Or.inr h
  have hS : va_S A s.heap s.heap [] := va_S.rf
  have hl := lv_entry ([.ref a, .int 4, .int 3]) (n := 3) (Nat.le_of_ble_eq_true rfl)
  rw [lg_entry_eq]
  generalize (lg_sl ([.ref a, .int 4, .int 3]) ++ List.replicate (3 - (lg_sl ([.ref a, .int 4, .int 3])).length) Slot.unset).toArray = ls at hl ⊢
  have hl : lv_has ls 3 [(0, .ref a), (1, .int 4), (2, .int 3)] := hl
  refine lv_aload_n hx hb dX5_init_0 rfl (lv_at hl 0 rfl) ?_
  refine W.objInit hx hb hown (hts (.methodLink RX5 3 objectInit) w_69) (hts (.instanceMethod objectInit) w_10) (hts (.code objectInit ⟨#[0xb1]⟩ 1 none) w_11) rfl (by rw [hml]; exact hl.1) rfl dX5_init_1 (Nat.le_of_ble_eq_true rfl) (Nat.le_of_ble_eq_true rfl) ?_
  refine W.eq (g2 := F0 m 4 ls []) rfl ?_
  refine lv_aload_n hx hb dX5_init_4 rfl (lv_at hl 0 rfl) ?_
  refine lv_iload_n hx hb dX5_init_5 rfl (lv_at hl 1 rfl) ?_
  refine va_putF (D := G.1) (ci := 5) (v := .int 4) (ty := .int) (C := RX5) (T := TX5) (N := 4) hx hb hts inlX5 tyX5 tyX5_ok nmX5 hown hG.1 hP hD hS k (wn_at (by first | exact lqA rfl | exact lqB rfl | omega) hga0 hown0) rfl 0 (by decide) (hts (.fieldLink RX5 9 "SwornLists$Rows" "most" "I") w_70) (fun _ h9 => h9) rfl hin rfl (by decide +kernel) rfl rfl (Nat.le_of_ble_eq_true rfl) dX5_init_6 (fun H locs hP hD hS => ?_)
  obtain ⟨f_1, hP, hD, e_1, o_1⟩ := n_put (by first | exact lqA rfl | exact lqB rfl | omega) hga0 hP hD
  have hown0 : f_1 k = eO 5 [.int 4, .int 0, .null, .int 0] := e_1
  refine lv_aload_n hx hb dX5_init_9 rfl (lv_at hl 0 rfl) ?_
  refine lv_iload_n hx hb dX5_init_10 rfl (lv_at hl 2 rfl) ?_
  refine va_putF (D := G.1) (ci := 5) (v := .int 3) (ty := .int) (C := RX5) (T := TX5) (N := 4) hx hb hts inlX5 tyX5 tyX5_ok nmX5 hown hG.1 hP hD hS k (wn_at (by first | exact lqA rfl | exact lqB rfl | omega) hga0 hown0) rfl 1 (by decide) (hts (.fieldLink RX5 15 "SwornLists$Rows" "width" "I") w_71) (fun _ h9 => h9) rfl hin rfl (by decide +kernel) rfl rfl (Nat.le_of_ble_eq_true rfl) dX5_init_11 (fun H locs hP hD hS => ?_)
  obtain ⟨f_2, hP, hD, e_2, o_2⟩ := n_put (by first | exact lqA rfl | exact lqB rfl | omega) hga0 hP hD
  have hown0 : f_2 k = eO 5 [.int 4, .int 3, .null, .int 0] := e_2
  refine lv_aload_n hx hb dX5_init_14 rfl (lv_at hl 0 rfl) ?_
  refine lv_iload_n hx hb dX5_init_15 rfl (lv_at hl 1 rfl) ?_
  refine lv_iload_n hx hb dX5_init_16 rfl (lv_at hl 2 rfl) ?_
  refine lv_imul hx hb dX5_init_17 ?_
  refine my_bei (v := 12) (by decide) ?_
  refine my_newaI hx hb (hts (.arrayClass .int) w_72) hG.1 hP hD hS hA (N' := 12) (by decide) (by decide) (Nat.le_of_ble_eq_true rfl) (Nat.le_of_ble_eq_true rfl) (Nat.le_of_ble_eq_true rfl) dX5_init_18 (fun q1 H hP hD hS => ?_)
  obtain ⟨g_3, f_3, hP, hD, hg_3, hf_3, og_3, of_3⟩ := n_ext hP hD
  have hf_3 : f_3 (k + 1) = eI G 12 (fun _ => 0) := hf_3
  have hg_3 : gq (g_3 (k + 1)) q1 := hg_3
  have hP : va_P G.1 vwCl (wn (k + 2) g_3 f_3) H := hP
  have hD : va_D A (wn (k + 2) g_3 f_3) := hD
  refine W.widen (k := 1) (n := 12) (by omega) (by omega) ?_
  replace hown0 := ((of_3 k (by first | exact lqA rfl | omega))).trans hown0
  replace hga0 := gq.tr ((og_3 k (by first | exact lqA rfl | omega))) hga0
  refine va_putF (D := G.1) (ci := 5) (v := .ref q1) (ty := .array .int) (C := RX5) (T := TX5) (N := 4) hx hb hts inlX5 tyX5 tyX5_ok nmX5 hown hG.1 hP hD hS k (wn_at (by first | exact lqA rfl | exact lqB rfl | omega) hga0 hown0) rfl 2 (by decide) (hts (.fieldLink RX5 18 "SwornLists$Rows" "cells" "[I") w_73) (fun _ h9 => h9) rfl hin rfl (by decide +kernel) rfl rfl (Nat.le_of_ble_eq_true rfl) dX5_init_20 (fun H locs hP hD hS => ?_)
  obtain ⟨f_4, hP, hD, e_4, o_4⟩ := n_put (by first | exact lqA rfl | exact lqB rfl | omega) hga0 hP hD
  have hown0 : f_4 k = eO 5 [.int 4, .int 3, .ref q1, .int 0] := e_4
  replace hf_3 := ((o_4 (k + 1) (by first | exact lqC rfl | exact lqE rfl | omega))).trans hf_3
  exact W.vret hx hb hr (fun t ht hW => ⟨⟨g_3, f_4, rfl, fun j hj => (og_3 j (by omega)), ⟨(by rw [show g_3 (k + 1) = q1 from hg_3]; exact hown0), hf_3, fun j hj => (o_4 j (by omega)).trans ((of_3 j (by omega)).trans ((o_2 j (by omega)).trans ((o_1 j (by omega)))))⟩, by rw [ht]; exact hP, by rw [hAe]; exact hD⟩, by rw [hAe]; exact hS.F ht⟩) hS.2.2 dX5_init_23
set_option maxHeartbeats 4000000 in
set_option maxRecDepth 100000 in
theorem i_rows_20_3 (l : Launch) (G : gW) (g : Nat → Nat) (f : Nat → va_E) (sz k a : Nat) (hga0 : gq (g k) a) (hown0 : f k = eO 5 [.int 0, .int 0, .null, .int 0]) : Met l yX5_init (wsT yX5_init cX5_init 3 none) ({ frames := 1, cells := 1, slots := 60, locals := 12 }) (nP G (k + 1) g f sz [.ref a, .int 20, .int 3]) (nQ G (k + 1) (k + 2) g sz (fun (g' : Nat → Nat) (f' : Nat → va_E) => f' k = eO 5 [.int 20, .int 3, .ref (g' (k + 1)), .int 0] ∧ f' (k + 1) = eI G 60 (fun _ => 0) ∧ ∀ j, j < k → f' j = f j)) 1 60 (nA (k + 1) g sz) := by
  refine Met.ofW (cc := cX5_init) (maxL := 3) (ret := none) (by decide) rfl ?_
  intro p e s m args below meth c s₁ B hml hv
  obtain ⟨rfl, hsz, hP, hG, hD0⟩ := hv
  have hx := B.exec
  have hb := B.bytes
  have hr := B.returns
  have hts := my_hts (atoms_spec (ws := wsT yX5_init cX5_init 3 none) B.pre)
  have hown : s.vm.findClass RX5 = some m.cls := findClass_of_methodNamed B.named
  have hlocks := B.notSynchronized
  have hin : meth.name = "<init>" := (name_of_methodNamed B.named B.method).1
  subst hsz
  have hD := nD_self (sz := s.heap.size) hD0
  generalize hAe : nA (k + 1) g s.heap.size = A at hD ⊢
  have hA : ∀ q : Nat, s.heap.size ≤ q → A q := fun q h => by rw [← hAe]; exact Or.inr h
  have hS : va_S A s.heap s.heap [] := va_S.rf
  have hl := lv_entry ([.ref a, .int 20, .int 3]) (n := 3) (Nat.le_of_ble_eq_true rfl)
  rw [lg_entry_eq]
  generalize (lg_sl ([.ref a, .int 20, .int 3]) ++ List.replicate (3 - (lg_sl ([.ref a, .int 20, .int 3])).length) Slot.unset).toArray = ls at hl ⊢
  have hl : lv_has ls 3 [(0, .ref a), (1, .int 20), (2, .int 3)] := hl
  refine lv_aload_n hx hb dX5_init_0 rfl (lv_at hl 0 rfl) ?_
  refine W.objInit hx hb hown (hts (.methodLink RX5 3 objectInit) w_69) (hts (.instanceMethod objectInit) w_10) (hts (.code objectInit ⟨#[0xb1]⟩ 1 none) w_11) rfl (by rw [hml]; exact hl.1) rfl dX5_init_1 (Nat.le_of_ble_eq_true rfl) (Nat.le_of_ble_eq_true rfl) ?_
  refine W.eq (g2 := F0 m 4 ls []) rfl ?_
  refine lv_aload_n hx hb dX5_init_4 rfl (lv_at hl 0 rfl) ?_
  refine lv_iload_n hx hb dX5_init_5 rfl (lv_at hl 1 rfl) ?_
  refine va_putF (D := G.1) (ci := 5) (v := .int 20) (ty := .int) (C := RX5) (T := TX5) (N := 4) hx hb hts inlX5 tyX5 tyX5_ok nmX5 hown hG.1 hP hD hS k (wn_at (by first | exact lqA rfl | exact lqB rfl | omega) hga0 hown0) rfl 0 (by decide) (hts (.fieldLink RX5 9 "SwornLists$Rows" "most" "I") w_70) (fun _ h9 => h9) rfl hin rfl (by decide +kernel) rfl rfl (Nat.le_of_ble_eq_true rfl) dX5_init_6 (fun H locs hP hD hS => ?_)
  obtain ⟨f_1, hP, hD, e_1, o_1⟩ := n_put (by first | exact lqA rfl | exact lqB rfl | omega) hga0 hP hD
  have hown0 : f_1 k = eO 5 [.int 20, .int 0, .null, .int 0] := e_1
  refine lv_aload_n hx hb dX5_init_9 rfl (lv_at hl 0 rfl) ?_
  refine lv_iload_n hx hb dX5_init_10 rfl (lv_at hl 2 rfl) ?_
  refine va_putF (D := G.1) (ci := 5) (v := .int 3) (ty := .int) (C := RX5) (T := TX5) (N := 4) hx hb hts inlX5 tyX5 tyX5_ok nmX5 hown hG.1 hP hD hS k (wn_at (by first | exact lqA rfl | exact lqB rfl | omega) hga0 hown0) rfl 1 (by decide) (hts (.fieldLink RX5 15 "SwornLists$Rows" "width" "I") w_71) (fun _ h9 => h9) rfl hin rfl (by decide +kernel) rfl rfl (Nat.le_of_ble_eq_true rfl) dX5_init_11 (fun H locs hP hD hS => ?_)
  obtain ⟨f_2, hP, hD, e_2, o_2⟩ := n_put (by first | exact lqA rfl | exact lqB rfl | omega) hga0 hP hD
  have hown0 : f_2 k = eO 5 [.int 20, .int 3, .null, .int 0] := e_2
  refine lv_aload_n hx hb dX5_init_14 rfl (lv_at hl 0 rfl) ?_
  refine lv_iload_n hx hb dX5_init_15 rfl (lv_at hl 1 rfl) ?_
  refine lv_iload_n hx hb dX5_init_16 rfl (lv_at hl 2 rfl) ?_
  refine lv_imul hx hb dX5_init_17 ?_
  refine my_bei (v := 60) (by decide) ?_
  refine my_newaI hx hb (hts (.arrayClass .int) w_72) hG.1 hP hD hS hA (N' := 60) (by decide) (by decide) (Nat.le_of_ble_eq_true rfl) (Nat.le_of_ble_eq_true rfl) (Nat.le_of_ble_eq_true rfl) dX5_init_18 (fun q1 H hP hD hS => ?_)
  obtain ⟨g_3, f_3, hP, hD, hg_3, hf_3, og_3, of_3⟩ := n_ext hP hD
  have hf_3 : f_3 (k + 1) = eI G 60 (fun _ => 0) := hf_3
  have hg_3 : gq (g_3 (k + 1)) q1 := hg_3
  have hP : va_P G.1 vwCl (wn (k + 2) g_3 f_3) H := hP
  have hD : va_D A (wn (k + 2) g_3 f_3) := hD
  refine W.widen (k := 1) (n := 60) (by omega) (by omega) ?_
  replace hown0 := ((of_3 k (by first | exact lqA rfl | omega))).trans hown0
  replace hga0 := gq.tr ((og_3 k (by first | exact lqA rfl | omega))) hga0
  refine va_putF (D := G.1) (ci := 5) (v := .ref q1) (ty := .array .int) (C := RX5) (T := TX5) (N := 4) hx hb hts inlX5 tyX5 tyX5_ok nmX5 hown hG.1 hP hD hS k (wn_at (by first | exact lqA rfl | exact lqB rfl | omega) hga0 hown0) rfl 2 (by decide) (hts (.fieldLink RX5 18 "SwornLists$Rows" "cells" "[I") w_73) (fun _ h9 => h9) rfl hin rfl (by decide +kernel) rfl rfl (Nat.le_of_ble_eq_true rfl) dX5_init_20 (fun H locs hP hD hS => ?_)
  obtain ⟨f_4, hP, hD, e_4, o_4⟩ := n_put (by first | exact lqA rfl | exact lqB rfl | omega) hga0 hP hD
  have hown0 : f_4 k = eO 5 [.int 20, .int 3, .ref q1, .int 0] := e_4
  replace hf_3 := ((o_4 (k + 1) (by first | exact lqC rfl | exact lqE rfl | omega))).trans hf_3
  exact W.vret hx hb hr (fun t ht hW => ⟨⟨g_3, f_4, rfl, fun j hj => (og_3 j (by omega)), ⟨(by rw [show g_3 (k + 1) = q1 from hg_3]; exact hown0), hf_3, fun j hj => (o_4 j (by omega)).trans ((of_3 j (by omega)).trans ((o_2 j (by omega)).trans ((o_1 j (by omega)))))⟩, by rw [ht]; exact hP, by rw [hAe]; exact hD⟩, by rw [hAe]; exact hS.F ht⟩) hS.2.2 dX5_init_23
set_option maxHeartbeats 4000000 in
set_option maxRecDepth 100000 in
theorem i_rows_10_70 (l : Launch) (G : gW) (g : Nat → Nat) (f : Nat → va_E) (sz k a : Nat) (hga0 : gq (g k) a) (hown0 : f k = eO 5 [.int 0, .int 0, .null, .int 0]) : Met l yX5_init (wsT yX5_init cX5_init 3 none) ({ frames := 1, cells := 1, slots := 700, locals := 12 }) (nP G (k + 1) g f sz [.ref a, .int 10, .int 70]) (nQ G (k + 1) (k + 2) g sz (fun (g' : Nat → Nat) (f' : Nat → va_E) => f' k = eO 5 [.int 10, .int 70, .ref (g' (k + 1)), .int 0] ∧ f' (k + 1) = eI G 700 (fun _ => 0) ∧ ∀ j, j < k → f' j = f j)) 1 700 (nA (k + 1) g sz) := by
  refine Met.ofW (cc := cX5_init) (maxL := 3) (ret := none) (by decide) rfl ?_
  intro p e s m args below meth c s₁ B hml hv
  obtain ⟨rfl, hsz, hP, hG, hD0⟩ := hv
  have hx := B.exec
  have hb := B.bytes
  have hr := B.returns
  have hts := my_hts (atoms_spec (ws := wsT yX5_init cX5_init 3 none) B.pre)
  have hown : s.vm.findClass RX5 = some m.cls := findClass_of_methodNamed B.named
  have hlocks := B.notSynchronized
  have hin : meth.name = "<init>" := (name_of_methodNamed B.named B.method).1
  subst hsz
  have hD := nD_self (sz := s.heap.size) hD0
  generalize hAe : nA (k + 1) g s.heap.size = A at hD ⊢
  have hA : ∀ q : Nat, s.heap.size ≤ q → A q := fun q h => by rw [← hAe]; exact Or.inr h
  have hS : va_S A s.heap s.heap [] := va_S.rf
  have hl := lv_entry ([.ref a, .int 10, .int 70]) (n := 3) (Nat.le_of_ble_eq_true rfl)
  rw [lg_entry_eq]
  generalize (lg_sl ([.ref a, .int 10, .int 70]) ++ List.replicate (3 - (lg_sl ([.ref a, .int 10, .int 70])).length) Slot.unset).toArray = ls at hl ⊢
  have hl : lv_has ls 3 [(0, .ref a), (1, .int 10), (2, .int 70)] := hl
  refine lv_aload_n hx hb dX5_init_0 rfl (lv_at hl 0 rfl) ?_
  refine W.objInit hx hb hown (hts (.methodLink RX5 3 objectInit) w_69) (hts (.instanceMethod objectInit) w_10) (hts (.code objectInit ⟨#[0xb1]⟩ 1 none) w_11) rfl (by rw [hml]; exact hl.1) rfl dX5_init_1 (Nat.le_of_ble_eq_true rfl) (Nat.le_of_ble_eq_true rfl) ?_
  refine W.eq (g2 := F0 m 4 ls []) rfl ?_
  refine lv_aload_n hx hb dX5_init_4 rfl (lv_at hl 0 rfl) ?_
  refine lv_iload_n hx hb dX5_init_5 rfl (lv_at hl 1 rfl) ?_
  refine va_putF (D := G.1) (ci := 5) (v := .int 10) (ty := .int) (C := RX5) (T := TX5) (N := 4) hx hb hts inlX5 tyX5 tyX5_ok nmX5 hown hG.1 hP hD hS k (wn_at (by first | exact lqA rfl | exact lqB rfl | omega) hga0 hown0) rfl 0 (by decide) (hts (.fieldLink RX5 9 "SwornLists$Rows" "most" "I") w_70) (fun _ h9 => h9) rfl hin rfl (by decide +kernel) rfl rfl (Nat.le_of_ble_eq_true rfl) dX5_init_6 (fun H locs hP hD hS => ?_)
  obtain ⟨f_1, hP, hD, e_1, o_1⟩ := n_put (by first | exact lqA rfl | exact lqB rfl | omega) hga0 hP hD
  have hown0 : f_1 k = eO 5 [.int 10, .int 0, .null, .int 0] := e_1
  refine lv_aload_n hx hb dX5_init_9 rfl (lv_at hl 0 rfl) ?_
  refine lv_iload_n hx hb dX5_init_10 rfl (lv_at hl 2 rfl) ?_
  refine va_putF (D := G.1) (ci := 5) (v := .int 70) (ty := .int) (C := RX5) (T := TX5) (N := 4) hx hb hts inlX5 tyX5 tyX5_ok nmX5 hown hG.1 hP hD hS k (wn_at (by first | exact lqA rfl | exact lqB rfl | omega) hga0 hown0) rfl 1 (by decide) (hts (.fieldLink RX5 15 "SwornLists$Rows" "width" "I") w_71) (fun _ h9 => h9) rfl hin rfl (by decide +kernel) rfl rfl (Nat.le_of_ble_eq_true rfl) dX5_init_11 (fun H locs hP hD hS => ?_)
  obtain ⟨f_2, hP, hD, e_2, o_2⟩ := n_put (by first | exact lqA rfl | exact lqB rfl | omega) hga0 hP hD
  have hown0 : f_2 k = eO 5 [.int 10, .int 70, .null, .int 0] := e_2
  refine lv_aload_n hx hb dX5_init_14 rfl (lv_at hl 0 rfl) ?_
  refine lv_iload_n hx hb dX5_init_15 rfl (lv_at hl 1 rfl) ?_
  refine lv_iload_n hx hb dX5_init_16 rfl (lv_at hl 2 rfl) ?_
  refine lv_imul hx hb dX5_init_17 ?_
  refine my_bei (v := 700) (by decide) ?_
  refine my_newaI hx hb (hts (.arrayClass .int) w_72) hG.1 hP hD hS hA (N' := 700) (by decide) (by decide) (Nat.le_of_ble_eq_true rfl) (Nat.le_of_ble_eq_true rfl) (Nat.le_of_ble_eq_true rfl) dX5_init_18 (fun q1 H hP hD hS => ?_)
  obtain ⟨g_3, f_3, hP, hD, hg_3, hf_3, og_3, of_3⟩ := n_ext hP hD
  have hf_3 : f_3 (k + 1) = eI G 700 (fun _ => 0) := hf_3
  have hg_3 : gq (g_3 (k + 1)) q1 := hg_3
  have hP : va_P G.1 vwCl (wn (k + 2) g_3 f_3) H := hP
  have hD : va_D A (wn (k + 2) g_3 f_3) := hD
  refine W.widen (k := 1) (n := 700) (by omega) (by omega) ?_
  replace hown0 := ((of_3 k (by first | exact lqA rfl | omega))).trans hown0
  replace hga0 := gq.tr ((og_3 k (by first | exact lqA rfl | omega))) hga0
  refine va_putF (D := G.1) (ci := 5) (v := .ref q1) (ty := .array .int) (C := RX5) (T := TX5) (N := 4) hx hb hts inlX5 tyX5 tyX5_ok nmX5 hown hG.1 hP hD hS k (wn_at (by first | exact lqA rfl | exact lqB rfl | omega) hga0 hown0) rfl 2 (by decide) (hts (.fieldLink RX5 18 "SwornLists$Rows" "cells" "[I") w_73) (fun _ h9 => h9) rfl hin rfl (by decide +kernel) rfl rfl (Nat.le_of_ble_eq_true rfl) dX5_init_20 (fun H locs hP hD hS => ?_)
  obtain ⟨f_4, hP, hD, e_4, o_4⟩ := n_put (by first | exact lqA rfl | exact lqB rfl | omega) hga0 hP hD
  have hown0 : f_4 k = eO 5 [.int 10, .int 70, .ref q1, .int 0] := e_4
  replace hf_3 := ((o_4 (k + 1) (by first | exact lqC rfl | exact lqE rfl | omega))).trans hf_3
  exact W.vret hx hb hr (fun t ht hW => ⟨⟨g_3, f_4, rfl, fun j hj => (og_3 j (by omega)), ⟨(by rw [show g_3 (k + 1) = q1 from hg_3]; exact hown0), hf_3, fun j hj => (o_4 j (by omega)).trans ((of_3 j (by omega)).trans ((o_2 j (by omega)).trans ((o_1 j (by omega)))))⟩, by rw [ht]; exact hP, by rw [hAe]; exact hD⟩, by rw [hAe]; exact hS.F ht⟩) hS.2.2 dX5_init_23
set_option maxHeartbeats 4000000 in
set_option maxRecDepth 100000 in
theorem i_text (l : Launch) (G : gW) (g : Nat → Nat) (f : Nat → va_E) (sz k a : Nat) (hga0 : gq (g k) a) (hown0 : f k = eO 7 [.null, .null, .int 0, .int 0]) : Met l yX8_init (wsT yX8_init cX8_init 1 none) ({ frames := 1, cells := 2, slots := 100, locals := 12 }) (nP G (k + 1) g f sz [.ref a]) (nQ G (k + 1) (k + 3) g sz (fun (g' : Nat → Nat) (f' : Nat → va_E) => f' k = eO 7 [.ref (g' (k + 1)), .ref (g' (k + 2)), .int 0, .int 0] ∧ (isT G g' f' k 0 0 (fun _ => 0) (fun _ => 0)) ∧ ∀ j, j < k → f' j = f j)) 2 100 (nA (k + 1) g sz) := by
  refine Met.ofW (cc := cX8_init) (maxL := 1) (ret := none) (by decide) rfl ?_
  intro p e s m args below meth c s₁ B hml hv
  obtain ⟨rfl, hsz, hP, hG, hD0⟩ := hv
  have hx := B.exec
  have hb := B.bytes
  have hr := B.returns
  have hts := my_hts (atoms_spec (ws := wsT yX8_init cX8_init 1 none) B.pre)
  have hown : s.vm.findClass RX8 = some m.cls := findClass_of_methodNamed B.named
  have hlocks := B.notSynchronized
  have hin : meth.name = "<init>" := (name_of_methodNamed B.named B.method).1
  subst hsz
  have hD := nD_self (sz := s.heap.size) hD0
  generalize hAe : nA (k + 1) g s.heap.size = A at hD ⊢
  have hA : ∀ q : Nat, s.heap.size ≤ q → A q := fun q h => by rw [← hAe]; exact Or.inr h
  have hS : va_S A s.heap s.heap [] := va_S.rf
  have hl := lv_entry ([.ref a]) (n := 1) (Nat.le_of_ble_eq_true rfl)
  rw [lg_entry_eq]
  generalize (lg_sl ([.ref a]) ++ List.replicate (1 - (lg_sl ([.ref a])).length) Slot.unset).toArray = ls at hl ⊢
  have hl : lv_has ls 1 [(0, .ref a)] := hl
  refine lv_aload_n hx hb dX8_init_0 rfl (lv_at hl 0 rfl) ?_
  refine W.objInit hx hb hown (hts (.methodLink RX8 3 objectInit) w_85) (hts (.instanceMethod objectInit) w_10) (hts (.code objectInit ⟨#[0xb1]⟩ 1 none) w_11) rfl (by rw [hml]; exact hl.1) rfl dX8_init_1 (Nat.le_of_ble_eq_true rfl) (Nat.le_of_ble_eq_true rfl) ?_
  refine W.eq (g2 := F0 m 4 ls []) rfl ?_
  refine lv_aload_n hx hb dX8_init_4 rfl (lv_at hl 0 rfl) ?_
  refine lv_bipush (v := 50) hx hb dX8_init_5 (by decide) ?_
  refine my_newaI hx hb (hts (.arrayClass .int) w_72) hG.1 hP hD hS hA (N' := 50) (by decide) (by decide) (Nat.le_of_ble_eq_true rfl) (Nat.le_of_ble_eq_true rfl) (Nat.le_of_ble_eq_true rfl) dX8_init_7 (fun q1 H hP hD hS => ?_)
  obtain ⟨g_1, f_1, hP, hD, hg_1, hf_1, og_1, of_1⟩ := n_ext hP hD
  have hf_1 : f_1 (k + 1) = eI G 50 (fun _ => 0) := hf_1
  have hg_1 : gq (g_1 (k + 1)) q1 := hg_1
  have hP : va_P G.1 vwCl (wn (k + 2) g_1 f_1) H := hP
  have hD : va_D A (wn (k + 2) g_1 f_1) := hD
  refine W.widen (k := 1) (n := 50) (by omega) (by omega) ?_
  replace hown0 := ((of_1 k (by first | exact lqA rfl | omega))).trans hown0
  replace hga0 := gq.tr ((og_1 k (by first | exact lqA rfl | omega))) hga0
  refine va_putF (D := G.1) (ci := 7) (v := .ref q1) (ty := .array .int) (C := RX8) (T := TX8) (N := 4) hx hb hts inlX8 tyX8 tyX8_ok nmX8 hown hG.1 hP hD hS k (wn_at (by first | exact lqA rfl | exact lqB rfl | omega) hga0 hown0) rfl 0 (by decide) (hts (.fieldLink RX8 9 "SwornLists$Text" "signs" "[I") w_86) (fun _ h9 => h9) rfl hin rfl (by decide +kernel) rfl rfl (Nat.le_of_ble_eq_true rfl) dX8_init_9 (fun H locs hP hD hS => ?_)
  obtain ⟨f_2, hP, hD, e_2, o_2⟩ := n_put (by first | exact lqA rfl | exact lqB rfl | omega) hga0 hP hD
  have hown0 : f_2 k = eO 7 [.ref q1, .null, .int 0, .int 0] := e_2
  refine lv_aload_n hx hb dX8_init_12 rfl (lv_at hl 0 rfl) ?_
  refine lv_bipush (v := 50) hx hb dX8_init_13 (by decide) ?_
  refine my_newaI hx hb (hts (.arrayClass .int) w_72) hG.1 hP hD hS hA (N' := 50) (by decide) (by decide) (Nat.le_of_ble_eq_true rfl) (Nat.le_of_ble_eq_true rfl) (Nat.le_of_ble_eq_true rfl) dX8_init_15 (fun q2 H hP hD hS => ?_)
  obtain ⟨g_3, f_3, hP, hD, hg_3, hf_3, og_3, of_3⟩ := n_ext hP hD
  have hf_3 : f_3 (k + 2) = eI G 50 (fun _ => 0) := hf_3
  have hg_3 : gq (g_3 (k + 2)) q2 := hg_3
  have hP : va_P G.1 vwCl (wn (k + 3) g_3 f_3) H := hP
  have hD : va_D A (wn (k + 3) g_3 f_3) := hD
  refine W.widen (k := 2) (n := 100) (by omega) (by omega) ?_
  replace hown0 := ((of_3 k (by first | exact lqA rfl | omega))).trans hown0
  replace hga0 := gq.tr ((og_3 k (by first | exact lqA rfl | omega))) hga0
  refine va_putF (D := G.1) (ci := 7) (v := .ref q2) (ty := .array .int) (C := RX8) (T := TX8) (N := 4) hx hb hts inlX8 tyX8 tyX8_ok nmX8 hown hG.1 hP hD hS k (wn_at (by first | exact lqA rfl | exact lqB rfl | omega) hga0 hown0) rfl 1 (by decide) (hts (.fieldLink RX8 15 "SwornLists$Text" "steps" "[I") w_87) (fun _ h9 => h9) rfl hin rfl (by decide +kernel) rfl rfl (Nat.le_of_ble_eq_true rfl) dX8_init_17 (fun H locs hP hD hS => ?_)
  obtain ⟨f_4, hP, hD, e_4, o_4⟩ := n_put (by first | exact lqA rfl | exact lqB rfl | omega) hga0 hP hD
  have hown0 : f_4 k = eO 7 [.ref q1, .ref q2, .int 0, .int 0] := e_4
  replace hg_1 := gq.tr ((og_3 (k + 1) (by first | exact lqB rfl | omega))) hg_1
  replace hf_1 := ((o_4 (k + 1) (by first | exact lqC rfl | exact lqE rfl | omega)).trans ((of_3 (k + 1) (by first | exact lqB rfl | omega)).trans ((o_2 (k + 1) (by first | exact lqC rfl | exact lqE rfl | omega))))).trans hf_1
  replace hf_3 := ((o_4 (k + 2) (by first | exact lqC rfl | exact lqE rfl | omega))).trans hf_3
  exact W.vret hx hb hr (fun t ht hW => ⟨⟨g_3, f_4, rfl, fun j hj => (og_3 j (by omega)).trans ((og_1 j (by omega))), ⟨(by rw [show g_3 (k + 1) = q1 from hg_1, show g_3 (k + 2) = q2 from hg_3]; exact hown0), ⟨(by rw [show g_3 (k + 1) = q1 from hg_1, show g_3 (k + 2) = q2 from hg_3]; exact hown0), hf_1, hf_3, by omega, by omega⟩, fun j hj => (o_4 j (by omega)).trans ((of_3 j (by omega)).trans ((o_2 j (by omega)).trans ((of_1 j (by omega)))))⟩, by rw [ht]; exact hP, by rw [hAe]; exact hD⟩, by rw [hAe]; exact hS.F ht⟩) hS.2.2 dX8_init_20
set_option maxHeartbeats 4000000 in
set_option maxRecDepth 100000 in
theorem i_hearing (l : Launch) (G : gW) (g : Nat → Nat) (f : Nat → va_E) (sz k a : Nat) (hga0 : gq (g k) a) (hown0 : f k = eO 3 [.null, .int 0, .int 0, .int 0, .int 0, .int 0, .int 0, .int 0, .int 0]) : Met l yX3_init (wsT yX3_init cX3_init 1 none) ({ frames := 1, cells := 1, slots := 24, locals := 12 }) (nP G (k + 1) g f sz [.ref a]) (nQ G (k + 1) (k + 2) g sz (fun (g' : Nat → Nat) (f' : Nat → va_E) => f' k = eO 3 [.ref (g' (k + 1)), .int 0, .int 0, .int 0, .int 0, .int 0, .int 0, .int 0, .int 0] ∧ (nH G g' f' k) ∧ ∀ j, j < k → f' j = f j)) 1 24 (nA (k + 1) g sz) := by
  refine Met.ofW (cc := cX3_init) (maxL := 1) (ret := none) (by decide) rfl ?_
  intro p e s m args below meth c s₁ B hml hv
  obtain ⟨rfl, hsz, hP, hG, hD0⟩ := hv
  have hx := B.exec
  have hb := B.bytes
  have hr := B.returns
  have hts := my_hts (atoms_spec (ws := wsT yX3_init cX3_init 1 none) B.pre)
  have hown : s.vm.findClass RX3 = some m.cls := findClass_of_methodNamed B.named
  have hlocks := B.notSynchronized
  have hin : meth.name = "<init>" := (name_of_methodNamed B.named B.method).1
  subst hsz
  have hD := nD_self (sz := s.heap.size) hD0
  generalize hAe : nA (k + 1) g s.heap.size = A at hD ⊢
  have hA : ∀ q : Nat, s.heap.size ≤ q → A q := fun q h => by rw [← hAe]; exact Or.inr h
  have hS : va_S A s.heap s.heap [] := va_S.rf
  have hl := lv_entry ([.ref a]) (n := 1) (Nat.le_of_ble_eq_true rfl)
  rw [lg_entry_eq]
  generalize (lg_sl ([.ref a]) ++ List.replicate (1 - (lg_sl ([.ref a])).length) Slot.unset).toArray = ls at hl ⊢
  have hl : lv_has ls 1 [(0, .ref a)] := hl
  refine lv_aload_n hx hb dX3_init_0 rfl (lv_at hl 0 rfl) ?_
  refine W.objInit hx hb hown (hts (.methodLink RX3 3 objectInit) w_90) (hts (.instanceMethod objectInit) w_10) (hts (.code objectInit ⟨#[0xb1]⟩ 1 none) w_11) rfl (by rw [hml]; exact hl.1) rfl dX3_init_1 (Nat.le_of_ble_eq_true rfl) (Nat.le_of_ble_eq_true rfl) ?_
  refine W.eq (g2 := F0 m 4 ls []) rfl ?_
  refine lv_aload_n hx hb dX3_init_4 rfl (lv_at hl 0 rfl) ?_
  refine lv_bipush (v := 24) hx hb dX3_init_5 (by decide) ?_
  refine my_newaI hx hb (hts (.arrayClass .int) w_72) hG.1 hP hD hS hA (N' := 24) (by decide) (by decide) (Nat.le_of_ble_eq_true rfl) (Nat.le_of_ble_eq_true rfl) (Nat.le_of_ble_eq_true rfl) dX3_init_7 (fun q1 H hP hD hS => ?_)
  obtain ⟨g_1, f_1, hP, hD, hg_1, hf_1, og_1, of_1⟩ := n_ext hP hD
  have hf_1 : f_1 (k + 1) = eI G 24 (fun _ => 0) := hf_1
  have hg_1 : gq (g_1 (k + 1)) q1 := hg_1
  have hP : va_P G.1 vwCl (wn (k + 2) g_1 f_1) H := hP
  have hD : va_D A (wn (k + 2) g_1 f_1) := hD
  refine W.widen (k := 1) (n := 24) (by omega) (by omega) ?_
  replace hown0 := ((of_1 k (by first | exact lqA rfl | omega))).trans hown0
  replace hga0 := gq.tr ((og_1 k (by first | exact lqA rfl | omega))) hga0
  refine va_putF (D := G.1) (ci := 3) (v := .ref q1) (ty := .array .int) (C := RX3) (T := TX3) (N := 9) hx hb hts inlX3 tyX3 tyX3_ok nmX3 hown hG.1 hP hD hS k (wn_at (by first | exact lqA rfl | exact lqB rfl | omega) hga0 hown0) rfl 0 (by decide) (hts (.fieldLink RX3 9 "SwornLists$Hearing" "order" "[I") w_91) (fun _ h9 => h9) rfl hin rfl (by decide +kernel) rfl rfl (Nat.le_of_ble_eq_true rfl) dX3_init_9 (fun H locs hP hD hS => ?_)
  obtain ⟨f_2, hP, hD, e_2, o_2⟩ := n_put (by first | exact lqA rfl | exact lqB rfl | omega) hga0 hP hD
  have hown0 : f_2 k = eO 3 [.ref q1, .int 0, .int 0, .int 0, .int 0, .int 0, .int 0, .int 0, .int 0] := e_2
  replace hf_1 := ((o_2 (k + 1) (by first | exact lqC rfl | exact lqE rfl | omega))).trans hf_1
  exact W.vret hx hb hr (fun t ht hW => ⟨⟨g_1, f_2, rfl, fun j hj => (og_1 j (by omega)), ⟨(by rw [show g_1 (k + 1) = q1 from hg_1]; exact hown0), ⟨(by rw [show g_1 (k + 1) = q1 from hg_1]; exact hown0), hf_1⟩, fun j hj => (o_2 j (by omega)).trans ((of_1 j (by omega)))⟩, by rw [ht]; exact hP, by rw [hAe]; exact hD⟩, by rw [hAe]; exact hS.F ht⟩) hS.2.2 dX3_init_12
set_option maxHeartbeats 4000000 in
set_option maxRecDepth 100000 in
theorem i_fraction (l : Launch) (G : gW) (g : Nat → Nat) (f : Nat → va_E) (sz k a : Nat) (hga0 : gq (g k) a) (hown0 : f k = eO 2 [.long 0, .long 0]) : Met l yX2_init (wsT yX2_init cX2_init 1 none) ({ frames := 1, cells := 0, slots := 0, locals := 12 }) (nP G (k + 1) g f sz [.ref a]) (nQ G (k + 1) (k + 1) g sz (fun (g' : Nat → Nat) (f' : Nat → va_E) => f' k = eO 2 [.long 0, .long 1] ∧ ∀ j, j < k → f' j = f j)) 0 0 (nA (k + 1) g sz) := by
  refine Met.ofW (cc := cX2_init) (maxL := 1) (ret := none) (by decide) rfl ?_
  intro p e s m args below meth c s₁ B hml hv
  obtain ⟨rfl, hsz, hP, hG, hD0⟩ := hv
  have hx := B.exec
  have hb := B.bytes
  have hr := B.returns
  have hts := my_hts (atoms_spec (ws := wsT yX2_init cX2_init 1 none) B.pre)
  have hown : s.vm.findClass RX2 = some m.cls := findClass_of_methodNamed B.named
  have hlocks := B.notSynchronized
  have hin : meth.name = "<init>" := (name_of_methodNamed B.named B.method).1
  subst hsz
  have hD := nD_self (sz := s.heap.size) hD0
  generalize hAe : nA (k + 1) g s.heap.size = A at hD ⊢
  have hA : ∀ q : Nat, s.heap.size ≤ q → A q := fun q h => by rw [← hAe]; exact Or.inr h
  have hS : va_S A s.heap s.heap [] := va_S.rf
  have hl := lv_entry ([.ref a]) (n := 1) (Nat.le_of_ble_eq_true rfl)
  rw [lg_entry_eq]
  generalize (lg_sl ([.ref a]) ++ List.replicate (1 - (lg_sl ([.ref a])).length) Slot.unset).toArray = ls at hl ⊢
  have hl : lv_has ls 1 [(0, .ref a)] := hl
  refine lv_aload_n hx hb dX2_init_0 rfl (lv_at hl 0 rfl) ?_
  refine W.objInit hx hb hown (hts (.methodLink RX2 1 objectInit) w_98) (hts (.instanceMethod objectInit) w_10) (hts (.code objectInit ⟨#[0xb1]⟩ 1 none) w_11) rfl (by rw [hml]; exact hl.1) rfl dX2_init_1 (Nat.le_of_ble_eq_true rfl) (Nat.le_of_ble_eq_true rfl) ?_
  refine W.eq (g2 := F0 m 4 ls []) rfl ?_
  refine lv_aload_n hx hb dX2_init_4 rfl (lv_at hl 0 rfl) ?_
  refine lv_lconst (v := 0) hx hb dX2_init_5 (by decide) ?_
  refine va_put (D := G.1) (ci := 2) (v := .long 0) (ty := .long) (C := RX2) (T := TX2) (N := 2) hx hb hts inlX2 tyX2 tyX2_ok nmX2 hown hG.1 hP hD hS k (wn_at (by first | exact lqA rfl | exact lqB rfl | omega) hga0 hown0) rfl 0 (by decide) (hts (.fieldLink RX2 7 "SwornLists$Fraction" "above" "J") w_99) (fun _ h9 => h9) rfl (by decide +kernel) rfl rfl (Nat.le_of_ble_eq_true rfl) dX2_init_6 (fun H locs hP hD hS => ?_)
  obtain ⟨f_1, hP, hD, e_1, o_1⟩ := n_put (by first | exact lqA rfl | exact lqB rfl | omega) hga0 hP hD
  have hown0 : f_1 k = eO 2 [.long 0, .long 0] := e_1
  refine lv_aload_n hx hb dX2_init_9 rfl (lv_at hl 0 rfl) ?_
  refine lv_lconst (v := 1) hx hb dX2_init_10 (by decide) ?_
  refine va_put (D := G.1) (ci := 2) (v := .long 1) (ty := .long) (C := RX2) (T := TX2) (N := 2) hx hb hts inlX2 tyX2 tyX2_ok nmX2 hown hG.1 hP hD hS k (wn_at (by first | exact lqA rfl | exact lqB rfl | omega) hga0 hown0) rfl 1 (by decide) (hts (.fieldLink RX2 13 "SwornLists$Fraction" "below" "J") w_100) (fun _ h9 => h9) rfl (by decide +kernel) rfl rfl (Nat.le_of_ble_eq_true rfl) dX2_init_11 (fun H locs hP hD hS => ?_)
  obtain ⟨f_2, hP, hD, e_2, o_2⟩ := n_put (by first | exact lqA rfl | exact lqB rfl | omega) hga0 hP hD
  have hown0 : f_2 k = eO 2 [.long 0, .long 1] := e_2
  exact W.vret hx hb hr (fun t ht hW => ⟨⟨g, f_2, rfl, fun j hj => rfl, ⟨hown0, fun j hj => (o_2 j (by omega)).trans ((o_1 j (by omega)))⟩, by rw [ht]; exact hP, by rw [hAe]; exact hD⟩, by rw [hAe]; exact hS.F ht⟩) hS.2.2 dX2_init_14
set_option maxHeartbeats 4000000 in
set_option maxRecDepth 100000 in
theorem i_reader (l : Launch) (G : gW) (g : Nat → Nat) (f : Nat → va_E) (sz k a : Nat) (hga0 : gq (g k) a) (hown0 : f k = eO 4 [.null, .int 0, .int 0, .int 0, .int 0]) : Met l yX4_init (wsT yX4_init cX4_init 1 none) ({ frames := 1, cells := 1, slots := 50, locals := 12 }) (nP G (k + 1) g f sz [.ref a]) (nQ G (k + 1) (k + 2) g sz (fun (g' : Nat → Nat) (f' : Nat → va_E) => f' k = eO 4 [.ref (g' (k + 1)), .int 0, .int 0, .int 0, .int 0] ∧ f' (k + 1) = eI G 50 (fun _ => 0) ∧ ∀ j, j < k → f' j = f j)) 1 50 (nA (k + 1) g sz) := by
  refine Met.ofW (cc := cX4_init) (maxL := 1) (ret := none) (by decide) rfl ?_
  intro p e s m args below meth c s₁ B hml hv
  obtain ⟨rfl, hsz, hP, hG, hD0⟩ := hv
  have hx := B.exec
  have hb := B.bytes
  have hr := B.returns
  have hts := my_hts (atoms_spec (ws := wsT yX4_init cX4_init 1 none) B.pre)
  have hown : s.vm.findClass RX4 = some m.cls := findClass_of_methodNamed B.named
  have hlocks := B.notSynchronized
  have hin : meth.name = "<init>" := (name_of_methodNamed B.named B.method).1
  subst hsz
  have hD := nD_self (sz := s.heap.size) hD0
  generalize hAe : nA (k + 1) g s.heap.size = A at hD ⊢
  have hA : ∀ q : Nat, s.heap.size ≤ q → A q := fun q h => by rw [← hAe]; exact Or.inr h
  have hS : va_S A s.heap s.heap [] := va_S.rf
  have hl := lv_entry ([.ref a]) (n := 1) (Nat.le_of_ble_eq_true rfl)
  rw [lg_entry_eq]
  generalize (lg_sl ([.ref a]) ++ List.replicate (1 - (lg_sl ([.ref a])).length) Slot.unset).toArray = ls at hl ⊢
  have hl : lv_has ls 1 [(0, .ref a)] := hl
  refine lv_aload_n hx hb dX4_init_0 rfl (lv_at hl 0 rfl) ?_
  refine W.objInit hx hb hown (hts (.methodLink RX4 3 objectInit) w_94) (hts (.instanceMethod objectInit) w_10) (hts (.code objectInit ⟨#[0xb1]⟩ 1 none) w_11) rfl (by rw [hml]; exact hl.1) rfl dX4_init_1 (Nat.le_of_ble_eq_true rfl) (Nat.le_of_ble_eq_true rfl) ?_
  refine W.eq (g2 := F0 m 4 ls []) rfl ?_
  refine lv_aload_n hx hb dX4_init_4 rfl (lv_at hl 0 rfl) ?_
  refine lv_bipush (v := 50) hx hb dX4_init_5 (by decide) ?_
  refine my_newaI hx hb (hts (.arrayClass .int) w_72) hG.1 hP hD hS hA (N' := 50) (by decide) (by decide) (Nat.le_of_ble_eq_true rfl) (Nat.le_of_ble_eq_true rfl) (Nat.le_of_ble_eq_true rfl) dX4_init_7 (fun q1 H hP hD hS => ?_)
  obtain ⟨g_1, f_1, hP, hD, hg_1, hf_1, og_1, of_1⟩ := n_ext hP hD
  have hf_1 : f_1 (k + 1) = eI G 50 (fun _ => 0) := hf_1
  have hg_1 : gq (g_1 (k + 1)) q1 := hg_1
  have hP : va_P G.1 vwCl (wn (k + 2) g_1 f_1) H := hP
  have hD : va_D A (wn (k + 2) g_1 f_1) := hD
  refine W.widen (k := 1) (n := 50) (by omega) (by omega) ?_
  replace hown0 := ((of_1 k (by first | exact lqA rfl | omega))).trans hown0
  replace hga0 := gq.tr ((og_1 k (by first | exact lqA rfl | omega))) hga0
  refine va_putF (D := G.1) (ci := 4) (v := .ref q1) (ty := .array .int) (C := RX4) (T := TX4) (N := 5) hx hb hts inlX4 tyX4 tyX4_ok nmX4 hown hG.1 hP hD hS k (wn_at (by first | exact lqA rfl | exact lqB rfl | omega) hga0 hown0) rfl 0 (by decide) (hts (.fieldLink RX4 9 "SwornLists$Reader" "marks" "[I") w_95) (fun _ h9 => h9) rfl hin rfl (by decide +kernel) rfl rfl (Nat.le_of_ble_eq_true rfl) dX4_init_9 (fun H locs hP hD hS => ?_)
  obtain ⟨f_2, hP, hD, e_2, o_2⟩ := n_put (by first | exact lqA rfl | exact lqB rfl | omega) hga0 hP hD
  have hown0 : f_2 k = eO 4 [.ref q1, .int 0, .int 0, .int 0, .int 0] := e_2
  replace hf_1 := ((o_2 (k + 1) (by first | exact lqC rfl | exact lqE rfl | omega))).trans hf_1
  exact W.vret hx hb hr (fun t ht hW => ⟨⟨g_1, f_2, rfl, fun j hj => (og_1 j (by omega)), ⟨(by rw [show g_1 (k + 1) = q1 from hg_1]; exact hown0), hf_1, fun j hj => (o_2 j (by omega)).trans ((of_1 j (by omega)))⟩, by rw [ht]; exact hP, by rw [hAe]; exact hD⟩, by rw [hAe]; exact hS.F ht⟩) hS.2.2 dX4_init_12
set_option maxHeartbeats 4000000 in
set_option maxRecDepth 100000 in
theorem i_waits (l : Launch) (G : gW) (g : Nat → Nat) (f : Nat → va_E) (sz k a : Nat) (hga0 : gq (g k) a) (hown0 : f k = eO 8 [.null, .null, .null, .null, .int 0, .int 0]) : Met l yX9_init (wsT yX9_init cX9_init 1 none) ({ frames := 1, cells := 4, slots := 24, locals := 12 }) (nP G (k + 1) g f sz [.ref a]) (nQ G (k + 1) (k + 5) g sz (fun (g' : Nat → Nat) (f' : Nat → va_E) => f' k = eO 8 [.ref (g' (k + 1)), .ref (g' (k + 2)), .ref (g' (k + 3)), .ref (g' (k + 4)), .int 0, .int 0] ∧ f' (k + 1) = eI G 6 (fun _ => 0) ∧ f' (k + 2) = eI G 6 (fun _ => 0) ∧ f' (k + 3) = eI G 6 (fun _ => 0) ∧ f' (k + 4) = eI G 6 (fun _ => 0) ∧ ∀ j, j < k → f' j = f j)) 4 24 (nA (k + 1) g sz) := by
  refine Met.ofW (cc := cX9_init) (maxL := 1) (ret := none) (by decide) rfl ?_
  intro p e s m args below meth c s₁ B hml hv
  obtain ⟨rfl, hsz, hP, hG, hD0⟩ := hv
  have hx := B.exec
  have hb := B.bytes
  have hr := B.returns
  have hts := my_hts (atoms_spec (ws := wsT yX9_init cX9_init 1 none) B.pre)
  have hown : s.vm.findClass RX9 = some m.cls := findClass_of_methodNamed B.named
  have hlocks := B.notSynchronized
  have hin : meth.name = "<init>" := (name_of_methodNamed B.named B.method).1
  subst hsz
  have hD := nD_self (sz := s.heap.size) hD0
  generalize hAe : nA (k + 1) g s.heap.size = A at hD ⊢
  have hA : ∀ q : Nat, s.heap.size ≤ q → A q := fun q h => by rw [← hAe]; exact Or.inr h
  have hS : va_S A s.heap s.heap [] := va_S.rf
  have hl := lv_entry ([.ref a]) (n := 1) (Nat.le_of_ble_eq_true rfl)
  rw [lg_entry_eq]
  generalize (lg_sl ([.ref a]) ++ List.replicate (1 - (lg_sl ([.ref a])).length) Slot.unset).toArray = ls at hl ⊢
  have hl : lv_has ls 1 [(0, .ref a)] := hl
  refine lv_aload_n hx hb dX9_init_0 rfl (lv_at hl 0 rfl) ?_
  refine W.objInit hx hb hown (hts (.methodLink RX9 3 objectInit) w_103) (hts (.instanceMethod objectInit) w_10) (hts (.code objectInit ⟨#[0xb1]⟩ 1 none) w_11) rfl (by rw [hml]; exact hl.1) rfl dX9_init_1 (Nat.le_of_ble_eq_true rfl) (Nat.le_of_ble_eq_true rfl) ?_
  refine W.eq (g2 := F0 m 4 ls []) rfl ?_
  refine lv_aload_n hx hb dX9_init_4 rfl (lv_at hl 0 rfl) ?_
  refine lv_bipush (v := 6) hx hb dX9_init_5 (by decide) ?_
  refine my_newaI hx hb (hts (.arrayClass .int) w_72) hG.1 hP hD hS hA (N' := 6) (by decide) (by decide) (Nat.le_of_ble_eq_true rfl) (Nat.le_of_ble_eq_true rfl) (Nat.le_of_ble_eq_true rfl) dX9_init_7 (fun q1 H hP hD hS => ?_)
  obtain ⟨g_1, f_1, hP, hD, hg_1, hf_1, og_1, of_1⟩ := n_ext hP hD
  have hf_1 : f_1 (k + 1) = eI G 6 (fun _ => 0) := hf_1
  have hg_1 : gq (g_1 (k + 1)) q1 := hg_1
  have hP : va_P G.1 vwCl (wn (k + 2) g_1 f_1) H := hP
  have hD : va_D A (wn (k + 2) g_1 f_1) := hD
  refine W.widen (k := 1) (n := 6) (by omega) (by omega) ?_
  replace hown0 := ((of_1 k (by first | exact lqA rfl | omega))).trans hown0
  replace hga0 := gq.tr ((og_1 k (by first | exact lqA rfl | omega))) hga0
  refine va_putF (D := G.1) (ci := 8) (v := .ref q1) (ty := .array .int) (C := RX9) (T := TX9) (N := 6) hx hb hts inlX9 tyX9 tyX9_ok nmX9 hown hG.1 hP hD hS k (wn_at (by first | exact lqA rfl | exact lqB rfl | omega) hga0 hown0) rfl 0 (by decide) (hts (.fieldLink RX9 11 "SwornLists$Waits" "trials" "[I") w_104) (fun _ h9 => h9) rfl hin rfl (by decide +kernel) rfl rfl (Nat.le_of_ble_eq_true rfl) dX9_init_9 (fun H locs hP hD hS => ?_)
  obtain ⟨f_2, hP, hD, e_2, o_2⟩ := n_put (by first | exact lqA rfl | exact lqB rfl | omega) hga0 hP hD
  have hown0 : f_2 k = eO 8 [.ref q1, .null, .null, .null, .int 0, .int 0] := e_2
  refine lv_aload_n hx hb dX9_init_12 rfl (lv_at hl 0 rfl) ?_
  refine lv_bipush (v := 6) hx hb dX9_init_13 (by decide) ?_
  refine my_newaI hx hb (hts (.arrayClass .int) w_72) hG.1 hP hD hS hA (N' := 6) (by decide) (by decide) (Nat.le_of_ble_eq_true rfl) (Nat.le_of_ble_eq_true rfl) (Nat.le_of_ble_eq_true rfl) dX9_init_15 (fun q2 H hP hD hS => ?_)
  obtain ⟨g_3, f_3, hP, hD, hg_3, hf_3, og_3, of_3⟩ := n_ext hP hD
  have hf_3 : f_3 (k + 2) = eI G 6 (fun _ => 0) := hf_3
  have hg_3 : gq (g_3 (k + 2)) q2 := hg_3
  have hP : va_P G.1 vwCl (wn (k + 3) g_3 f_3) H := hP
  have hD : va_D A (wn (k + 3) g_3 f_3) := hD
  refine W.widen (k := 2) (n := 12) (by omega) (by omega) ?_
  replace hown0 := ((of_3 k (by first | exact lqA rfl | omega))).trans hown0
  replace hga0 := gq.tr ((og_3 k (by first | exact lqA rfl | omega))) hga0
  refine va_putF (D := G.1) (ci := 8) (v := .ref q2) (ty := .array .int) (C := RX9) (T := TX9) (N := 6) hx hb hts inlX9 tyX9 tyX9_ok nmX9 hown hG.1 hP hD hS k (wn_at (by first | exact lqA rfl | exact lqB rfl | omega) hga0 hown0) rfl 1 (by decide) (hts (.fieldLink RX9 15 "SwornLists$Waits" "waits" "[I") w_105) (fun _ h9 => h9) rfl hin rfl (by decide +kernel) rfl rfl (Nat.le_of_ble_eq_true rfl) dX9_init_17 (fun H locs hP hD hS => ?_)
  obtain ⟨f_4, hP, hD, e_4, o_4⟩ := n_put (by first | exact lqA rfl | exact lqB rfl | omega) hga0 hP hD
  have hown0 : f_4 k = eO 8 [.ref q1, .ref q2, .null, .null, .int 0, .int 0] := e_4
  refine lv_aload_n hx hb dX9_init_20 rfl (lv_at hl 0 rfl) ?_
  refine lv_bipush (v := 6) hx hb dX9_init_21 (by decide) ?_
  refine my_newaI hx hb (hts (.arrayClass .int) w_72) hG.1 hP hD hS hA (N' := 6) (by decide) (by decide) (Nat.le_of_ble_eq_true rfl) (Nat.le_of_ble_eq_true rfl) (Nat.le_of_ble_eq_true rfl) dX9_init_23 (fun q3 H hP hD hS => ?_)
  obtain ⟨g_5, f_5, hP, hD, hg_5, hf_5, og_5, of_5⟩ := n_ext hP hD
  have hf_5 : f_5 (k + 3) = eI G 6 (fun _ => 0) := hf_5
  have hg_5 : gq (g_5 (k + 3)) q3 := hg_5
  have hP : va_P G.1 vwCl (wn (k + 4) g_5 f_5) H := hP
  have hD : va_D A (wn (k + 4) g_5 f_5) := hD
  refine W.widen (k := 3) (n := 18) (by omega) (by omega) ?_
  replace hown0 := ((of_5 k (by first | exact lqA rfl | omega))).trans hown0
  replace hga0 := gq.tr ((og_5 k (by first | exact lqA rfl | omega))) hga0
  refine va_putF (D := G.1) (ci := 8) (v := .ref q3) (ty := .array .int) (C := RX9) (T := TX9) (N := 6) hx hb hts inlX9 tyX9 tyX9_ok nmX9 hown hG.1 hP hD hS k (wn_at (by first | exact lqA rfl | exact lqB rfl | omega) hga0 hown0) rfl 2 (by decide) (hts (.fieldLink RX9 18 "SwornLists$Waits" "best" "[I") w_106) (fun _ h9 => h9) rfl hin rfl (by decide +kernel) rfl rfl (Nat.le_of_ble_eq_true rfl) dX9_init_25 (fun H locs hP hD hS => ?_)
  obtain ⟨f_6, hP, hD, e_6, o_6⟩ := n_put (by first | exact lqA rfl | exact lqB rfl | omega) hga0 hP hD
  have hown0 : f_6 k = eO 8 [.ref q1, .ref q2, .ref q3, .null, .int 0, .int 0] := e_6
  refine lv_aload_n hx hb dX9_init_28 rfl (lv_at hl 0 rfl) ?_
  refine lv_bipush (v := 6) hx hb dX9_init_29 (by decide) ?_
  refine my_newaI hx hb (hts (.arrayClass .int) w_72) hG.1 hP hD hS hA (N' := 6) (by decide) (by decide) (Nat.le_of_ble_eq_true rfl) (Nat.le_of_ble_eq_true rfl) (Nat.le_of_ble_eq_true rfl) dX9_init_31 (fun q4 H hP hD hS => ?_)
  obtain ⟨g_7, f_7, hP, hD, hg_7, hf_7, og_7, of_7⟩ := n_ext hP hD
  have hf_7 : f_7 (k + 4) = eI G 6 (fun _ => 0) := hf_7
  have hg_7 : gq (g_7 (k + 4)) q4 := hg_7
  have hP : va_P G.1 vwCl (wn (k + 5) g_7 f_7) H := hP
  have hD : va_D A (wn (k + 5) g_7 f_7) := hD
  refine W.widen (k := 4) (n := 24) (by omega) (by omega) ?_
  replace hown0 := ((of_7 k (by first | exact lqA rfl | omega))).trans hown0
  replace hga0 := gq.tr ((og_7 k (by first | exact lqA rfl | omega))) hga0
  refine va_putF (D := G.1) (ci := 8) (v := .ref q4) (ty := .array .int) (C := RX9) (T := TX9) (N := 6) hx hb hts inlX9 tyX9 tyX9_ok nmX9 hown hG.1 hP hD hS k (wn_at (by first | exact lqA rfl | exact lqB rfl | omega) hga0 hown0) rfl 3 (by decide) (hts (.fieldLink RX9 21 "SwornLists$Waits" "foes" "[I") w_107) (fun _ h9 => h9) rfl hin rfl (by decide +kernel) rfl rfl (Nat.le_of_ble_eq_true rfl) dX9_init_33 (fun H locs hP hD hS => ?_)
  obtain ⟨f_8, hP, hD, e_8, o_8⟩ := n_put (by first | exact lqA rfl | exact lqB rfl | omega) hga0 hP hD
  have hown0 : f_8 k = eO 8 [.ref q1, .ref q2, .ref q3, .ref q4, .int 0, .int 0] := e_8
  replace hg_1 := gq.tr ((og_7 (k + 1) (by first | exact lqB rfl | omega)).trans ((og_5 (k + 1) (by first | exact lqB rfl | omega)).trans ((og_3 (k + 1) (by first | exact lqB rfl | omega))))) hg_1
  replace hg_3 := gq.tr ((og_7 (k + 2) (by first | exact lqB rfl | omega)).trans ((og_5 (k + 2) (by first | exact lqB rfl | omega)))) hg_3
  replace hg_5 := gq.tr ((og_7 (k + 3) (by first | exact lqB rfl | omega))) hg_5
  replace hf_1 := ((o_8 (k + 1) (by first | exact lqC rfl | exact lqE rfl | omega)).trans ((of_7 (k + 1) (by first | exact lqB rfl | omega)).trans ((o_6 (k + 1) (by first | exact lqC rfl | exact lqE rfl | omega)).trans ((of_5 (k + 1) (by first | exact lqB rfl | omega)).trans ((o_4 (k + 1) (by first | exact lqC rfl | exact lqE rfl | omega)).trans ((of_3 (k + 1) (by first | exact lqB rfl | omega)).trans ((o_2 (k + 1) (by first | exact lqC rfl | exact lqE rfl | omega))))))))).trans hf_1
  replace hf_3 := ((o_8 (k + 2) (by first | exact lqC rfl | exact lqE rfl | omega)).trans ((of_7 (k + 2) (by first | exact lqB rfl | omega)).trans ((o_6 (k + 2) (by first | exact lqC rfl | exact lqE rfl | omega)).trans ((of_5 (k + 2) (by first | exact lqB rfl | omega)).trans ((o_4 (k + 2) (by first | exact lqC rfl | exact lqE rfl | omega))))))).trans hf_3
  replace hf_5 := ((o_8 (k + 3) (by first | exact lqC rfl | exact lqE rfl | omega)).trans ((of_7 (k + 3) (by first | exact lqB rfl | omega)).trans ((o_6 (k + 3) (by first | exact lqC rfl | exact lqE rfl | omega))))).trans hf_5
  replace hf_7 := ((o_8 (k + 4) (by first | exact lqC rfl | exact lqE rfl | omega))).trans hf_7
  exact W.vret hx hb hr (fun t ht hW => ⟨⟨g_7, f_8, rfl, fun j hj => (og_7 j (by omega)).trans ((og_5 j (by omega)).trans ((og_3 j (by omega)).trans ((og_1 j (by omega))))), ⟨(by rw [show g_7 (k + 1) = q1 from hg_1, show g_7 (k + 2) = q2 from hg_3, show g_7 (k + 3) = q3 from hg_5, show g_7 (k + 4) = q4 from hg_7]; exact hown0), hf_1, hf_3, hf_5, hf_7, fun j hj => (o_8 j (by omega)).trans ((of_7 j (by omega)).trans ((o_6 j (by omega)).trans ((of_5 j (by omega)).trans ((o_4 j (by omega)).trans ((of_3 j (by omega)).trans ((o_2 j (by omega)).trans ((of_1 j (by omega)))))))))⟩, by rw [ht]; exact hP, by rw [hAe]; exact hD⟩, by rw [hAe]; exact hS.F ht⟩) hS.2.2 dX9_init_36
set_option maxHeartbeats 4000000 in
set_option maxRecDepth 100000 in
theorem i_shelf_20 (l : Launch) (G : gW) (g : Nat → Nat) (f : Nat → va_E) (sz k a : Nat) (hga0 : gq (g k) a) (hown0 : f k = eO 6 [.null, .null]) : Met l yX6_init (wsT yX6_init cX6_init 3 none) ({ frames := 2, cells := 64, slots := 2204, locals := 32 }) (nP G (k + 1) g f sz [.ref a, .int 20]) (nQ G (k + 1) (k + 65) g sz (fun (g' : Nat → Nat) (f' : Nat → va_E) => (nSh G g' f' k 20) ∧ ∀ j, j < k → f' j = f j)) 64 2204 (nA (k + 1) g sz) := by
  refine Met.ofW (cc := cX6_init) (maxL := 3) (ret := none) (by decide) rfl ?_
  intro p e s m args below meth c s₁ B hml hv
  obtain ⟨rfl, hsz, hP, hG, hD0⟩ := hv
  have hx := B.exec
  have hb := B.bytes
  have hr := B.returns
  have hts := my_hts (atoms_spec (ws := wsT yX6_init cX6_init 3 none) B.pre)
  have hown : s.vm.findClass RX6 = some m.cls := findClass_of_methodNamed B.named
  have hlocks := B.notSynchronized
  have hin : meth.name = "<init>" := (name_of_methodNamed B.named B.method).1
  subst hsz
  have hD := nD_self (sz := s.heap.size) hD0
  generalize hAe : nA (k + 1) g s.heap.size = A at hD ⊢
  have hA : ∀ q : Nat, s.heap.size ≤ q → A q := fun q h => by rw [← hAe]; exact Or.inr h
  have hS : va_S A s.heap s.heap [] := va_S.rf
  have hl := lv_entry ([.ref a, .int 20]) (n := 3) (Nat.le_of_ble_eq_true rfl)
  rw [lg_entry_eq]
  generalize (lg_sl ([.ref a, .int 20]) ++ List.replicate (3 - (lg_sl ([.ref a, .int 20])).length) Slot.unset).toArray = ls at hl ⊢
  have hl : lv_has ls 3 [(0, .ref a), (1, .int 20)] := hl
  refine lv_aload_n hx hb dX6_init_0 rfl (lv_at hl 0 rfl) ?_
  refine W.objInit hx hb hown (hts (.methodLink RX6 1 objectInit) w_77) (hts (.instanceMethod objectInit) w_10) (hts (.code objectInit ⟨#[0xb1]⟩ 1 none) w_11) rfl (by rw [hml]; exact hl.1) rfl dX6_init_1 (Nat.le_of_ble_eq_true rfl) (Nat.le_of_ble_eq_true rfl) ?_
  refine W.eq (g2 := F0 m 4 ls []) rfl ?_
  refine lv_aload_n hx hb dX6_init_4 rfl (lv_at hl 0 rfl) ?_
  refine va_new (ci := 7) (fs := [.null, .null, .int 0, .int 0]) (C := RX8) (T := TX8) (N := 4) hx hb hts inlX8 tyX8 tyX8_ok hown (hts (.classLink RX6 7 RX8) w_78) (hts (.instantiable RX8 4) w_79) (hts (.initialized RX8) w_80) hG.1 hP hD hS hA rfl (fun j hj => by rcases (show j = 0 ∨ j = 1 ∨ j = 2 ∨ j = 3 by omega) with rfl | rfl | rfl | rfl <;> rfl) (Nat.le_of_ble_eq_true rfl) (Nat.le_of_ble_eq_true rfl) dX6_init_5 (fun q1 H hP hD hS => ?_)
  obtain ⟨g_1, f_1, hP, hD, hg_1, hf_1, og_1, of_1⟩ := n_ext hP hD
  have hf_1 : f_1 (k + 1) = eO 7 [.null, .null, .int 0, .int 0] := hf_1
  have hg_1 : gq (g_1 (k + 1)) q1 := hg_1
  have hP : va_P G.1 vwCl (wn (k + 2) g_1 f_1) H := hP
  have hD : va_D A (wn (k + 2) g_1 f_1) := hD
  refine W.widen (k := 1) (n := 4) (by omega) (by omega) ?_
  refine lv_dup hx hb dX6_init_8 rfl ?_
  refine n_call (va_runIN (As := []) (rest := [.ref q1, .ref a]) ⟨hx, hb, hml, hown, hts⟩ (i_text l G g_1 f_1 H.size (k + 1) q1 hg_1 hf_1) (⟨my_cn hts ok_X8_init.1 (hG.2.1 (.methodLinkNest RX6 9 yX8_init RX10) (List.mem_of_getElem? (i := 23) rfl)) rfl rfl ⟨Nat.le_of_ble_eq_true rfl, Nat.le_of_ble_eq_true rfl⟩, rfl, hts _ ok_X8_init.2.2.1⟩) ⟨nP.blind, fun U hU hW => ⟨rfl, by rw [hU], by rw [hU]; exact hP, kG.warm hW hG, hD.weaken (fun _ _ _ _ => trivial)⟩⟩ rfl rfl hl.1 rfl (lv_room (Nat.le_of_ble_eq_true rfl)) dX6_init_9 ⟨Nat.le_of_ble_eq_true rfl, Nat.le_of_ble_eq_true rfl⟩) hD hS hA (fun g_2 f_2 H locs og_2 hq9 hP hD hS => ?_)
  obtain ⟨hq_2_0, hx_2_0, of_2⟩ := hq9
  have hfq_2_0 : f_2 (k + 1) = eO 7 [.ref (g_2 (k + 2)), .ref (g_2 (k + 3)), .int 0, .int 0] := hq_2_0
  have pk_2_0 : isT G g_2 f_2 (k + 1) 0 0 (fun _ => 0) (fun _ => 0) := hx_2_0
  have hP : va_P G.1 vwCl (wn (k + 4) g_2 f_2) H := hP
  have hD : va_D A (wn (k + 4) g_2 f_2) := hD
  refine W.widen (k := 3) (n := 104) (by omega) (by omega) ?_
  replace hown0 := ((of_2 k (by first | exact lqA rfl | omega)).trans ((of_1 k (by first | exact lqA rfl | omega)))).trans hown0
  replace hga0 := gq.tr ((og_2 k (by first | exact lqA rfl | omega)).trans ((og_1 k (by first | exact lqA rfl | omega)))) hga0
  refine va_putF (D := G.1) (ci := 6) (v := .ref q1) (ty := .object "SwornLists$Text") (C := RX6) (T := TX6) (N := 2) hx hb hts inlX6 tyX6 tyX6_ok nmX6 hown hG.1 hP hD hS k (wn_at (by first | exact lqA rfl | exact lqB rfl | omega) hga0 hown0) rfl 1 (by decide) (hts (.fieldLink RX6 10 "SwornLists$Shelf" "blank" "LSwornLists$Text;") w_81) (fun _ h9 => h9) rfl hin rfl (by decide +kernel) rfl rfl (Nat.le_of_ble_eq_true rfl) dX6_init_12 (fun H locs hP hD hS => ?_)
  obtain ⟨f_3, hP, hD, e_3, o_3⟩ := n_put (by first | exact lqA rfl | exact lqB rfl | omega) hga0 hP hD
  have hown0 : f_3 k = eO 6 [.null, .ref q1] := e_3
  refine lv_aload_n hx hb dX6_init_15 rfl (lv_at hl 0 rfl) ?_
  refine lv_iload_n hx hb dX6_init_16 rfl (lv_at hl 1 rfl) ?_
  refine my_newq hx hb 5 hown (hts (.classLink RX6 7 RX8) w_78) hG.2.2.2.2 hG.1 rfl hP hD hS hA (N' := 20) (by decide) (by decide) (Nat.le_of_ble_eq_true rfl) (Nat.le_of_ble_eq_true rfl) (Nat.le_of_ble_eq_true rfl) dX6_init_17 (fun q2 H hP hD hS => ?_)
  obtain ⟨g_4, f_4, hP, hD, hg_4, hf_4, og_4, of_4⟩ := n_ext hP hD
  have hf_4 : f_4 (k + 4) = eA G 5 20 (aL []) := hf_4
  have hg_4 : gq (g_4 (k + 4)) q2 := hg_4
  have hP : va_P G.1 vwCl (wn (k + 5) g_4 f_4) H := hP
  have hD : va_D A (wn (k + 5) g_4 f_4) := hD
  refine W.widen (k := 4) (n := 124) (by omega) (by omega) ?_
  replace hown0 := ((of_4 k (by first | exact lqA rfl | omega))).trans hown0
  replace hga0 := gq.tr ((og_4 k (by first | exact lqA rfl | omega))) hga0
  refine va_putF (D := G.1) (ci := 6) (v := .ref q2) (ty := .array (.object "SwornLists$Text")) (C := RX6) (T := TX6) (N := 2) hx hb hts inlX6 tyX6 tyX6_ok nmX6 hown hG.1 hP hD hS k (wn_at (by first | exact lqA rfl | exact lqB rfl | omega) hga0 hown0) rfl 0 (by decide) (hts (.fieldLink RX6 16 "SwornLists$Shelf" "texts" "[LSwornLists$Text;") w_82) (fun _ h9 => h9) rfl hin rfl (by decide +kernel) rfl rfl (Nat.le_of_ble_eq_true rfl) dX6_init_20 (fun H locs hP hD hS => ?_)
  obtain ⟨f_5, hP, hD, e_5, o_5⟩ := n_put (by first | exact lqA rfl | exact lqB rfl | omega) hga0 hP hD
  have hown0 : f_5 k = eO 6 [.ref q2, .ref q1] := e_5
  refine lv_iconst (v := 0) hx hb dX6_init_23 (by decide) ?_
  refine lv_istore_n (lv' := [(2, .int 0), (0, .ref a), (1, .int 20)]) hx hb dX6_init_24 rfl hl (by decide) rfl (fun ls hl => ?_)
  refine lv_iload_n hx hb dX6_init_25 rfl (lv_at hl 0 rfl) ?_
  refine lv_iload_n hx hb dX6_init_26 rfl (lv_at hl 2 rfl) ?_
  refine lv_icmp_ge (tgt := 49) hx hb dX6_init_27 (by decide) (fun c_27 => absurd c_27 (by decide)) (fun c_27 => ?_)
  refine lv_aload_n hx hb dX6_init_30 rfl (lv_at hl 1 rfl) ?_
  refine va_get (D := G.1) (ci := 6) (v := .ref q2) (C := RX6) (T := TX6) (N := 2) hx hb hts inlX6 hown hG.1 hP k (wn_at (by first | exact lqA rfl | exact lqB rfl | omega) hga0 hown0) rfl 0 (by decide) (hts (.fieldLink RX6 16 "SwornLists$Shelf" "texts" "[LSwornLists$Text;") w_82) (fun _ h9 => h9) rfl dX6_init_31 ?_
  refine lv_iload_n hx hb dX6_init_34 rfl (lv_at hl 0 rfl) ?_
  refine va_new (ci := 7) (fs := [.null, .null, .int 0, .int 0]) (C := RX8) (T := TX8) (N := 4) hx hb hts inlX8 tyX8 tyX8_ok hown (hts (.classLink RX6 7 RX8) w_78) (hts (.instantiable RX8 4) w_79) (hts (.initialized RX8) w_80) hG.1 hP hD hS hA rfl (fun j hj => by rcases (show j = 0 ∨ j = 1 ∨ j = 2 ∨ j = 3 by omega) with rfl | rfl | rfl | rfl <;> rfl) (Nat.le_of_ble_eq_true rfl) (Nat.le_of_ble_eq_true rfl) dX6_init_35 (fun q3 H hP hD hS => ?_)
  obtain ⟨g_6, f_6, hP, hD, hg_6, hf_6, og_6, of_6⟩ := n_ext hP hD
  have hf_6 : f_6 (k + 5) = eO 7 [.null, .null, .int 0, .int 0] := hf_6
  have hg_6 : gq (g_6 (k + 5)) q3 := hg_6
  have hP : va_P G.1 vwCl (wn (k + 6) g_6 f_6) H := hP
  have hD : va_D A (wn (k + 6) g_6 f_6) := hD
  refine W.widen (k := 5) (n := 128) (by omega) (by omega) ?_
  refine lv_dup hx hb dX6_init_38 rfl ?_
  refine n_call (va_runIN (As := []) (rest := [.ref q3, .int 0, .ref q2]) ⟨hx, hb, hml, hown, hts⟩ (i_text l G g_6 f_6 H.size (k + 5) q3 hg_6 hf_6) (⟨my_cn hts ok_X8_init.1 (hG.2.1 (.methodLinkNest RX6 9 yX8_init RX10) (List.mem_of_getElem? (i := 23) rfl)) rfl rfl ⟨Nat.le_of_ble_eq_true rfl, Nat.le_of_ble_eq_true rfl⟩, rfl, hts _ ok_X8_init.2.2.1⟩) ⟨nP.blind, fun U hU hW => ⟨rfl, by rw [hU], by rw [hU]; exact hP, kG.warm hW hG, hD.weaken (fun _ _ _ _ => trivial)⟩⟩ rfl rfl hl.1 rfl (lv_room (Nat.le_of_ble_eq_true rfl)) dX6_init_39 ⟨Nat.le_of_ble_eq_true rfl, Nat.le_of_ble_eq_true rfl⟩) hD hS hA (fun g_7 f_7 H locs og_7 hq9 hP hD hS => ?_)
  obtain ⟨hq_7_0, hx_7_0, of_7⟩ := hq9
  have hfq_7_0 : f_7 (k + 5) = eO 7 [.ref (g_7 (k + 6)), .ref (g_7 (k + 7)), .int 0, .int 0] := hq_7_0
  have pk_7_0 : isT G g_7 f_7 (k + 5) 0 0 (fun _ => 0) (fun _ => 0) := hx_7_0
  have hP : va_P G.1 vwCl (wn (k + 8) g_7 f_7) H := hP
  have hD : va_D A (wn (k + 8) g_7 f_7) := hD
  refine W.widen (k := 7) (n := 228) (by omega) (by omega) ?_
  replace hf_4 := ((of_7 (k + 4) (by first | exact lqB rfl | omega)).trans ((of_6 (k + 4) (by first | exact lqB rfl | omega)).trans ((o_5 (k + 4) (by first | exact lqC rfl | exact lqE rfl | omega))))).trans hf_4
  replace hg_4 := gq.tr ((og_7 (k + 4) (by first | exact lqB rfl | omega)).trans ((og_6 (k + 4) (by first | exact lqB rfl | omega)))) hg_4
  replace hg_6 := gq.tr ((og_7 (k + 5) (by first | exact lqB rfl | omega))) hg_6
  refine va_astq (r := (RX8, TX8, 4)) hx hb hG.1 hP hD hS (k + 4) 5 (k + 5) 7 (wn_at (by first | exact lqA rfl | exact lqB rfl | omega) hg_4 hf_4) rfl (wn_at (by first | exact lqA rfl | exact lqB rfl | omega) hg_6 hfq_7_0) rfl (by unfold vp_in; decide) dX6_init_42 (fun H locs hP hD hS => ?_)
  have ef : va_up (aL []) (Int32.toNatClampNeg 0) (some q3) = aL [q3] := aL_push [] q3
  have hP := (congrArg (fun z9 => va_P G.1 vwCl ((wn (k + 8) g_7 f_7).set (k + 4) (q2, eA G 5 20 z9)) H) ef).mp hP
  have hD := (congrArg (fun z9 => va_D A ((wn (k + 8) g_7 f_7).set (k + 4) (q2, eA G 5 20 z9))) ef).mp hD
  obtain ⟨f_8, hP, hD, e_8, o_8⟩ := n_put (by first | exact lqA rfl | exact lqB rfl | omega) hg_4 hP hD
  have hf_4 : f_8 (k + 4) = eA G 5 20 (aL [q3]) := e_8
  have pk_7_0 : isT G g_7 f_8 (k + 5) 0 0 (fun _ => 0) (fun _ => 0) := isT_gf pk_7_0 (fun j _ => rfl) (fun j h1 h2 => o_8 j (by omega))
  have txA : ∀ z, z < 0 → isT G g_7 f_8 (k + 3 * z + 5) 0 0 (fun _ => 0) (fun _ => 0) := fun z hz => absurd hz (Nat.not_lt_zero _)
  have taA : ∀ z, z < 0 → (aL []) z = some (g_7 (k + 3 * z + 5)) := fun z hz => absurd hz (Nat.not_lt_zero _)
  have txA : ∀ z, z < 1 → isT G g_7 f_8 (k + 3 * z + 5) 0 0 (fun _ => 0) (fun _ => 0) := tx_ext (P := fun z => isT G g_7 f_8 (k + 3 * z + 5) 0 0 (fun _ => 0) (fun _ => 0)) txA pk_7_0
  have taA : ∀ z, z < 1 → (aL [q3]) z = some (g_7 (k + 3 * z + 5)) := ta_ext (L := []) (s := 3) (c := 5) rfl taA hg_6
  refine lv_iinc (v := 1) (lv' := [(2, .int 1), (0, .ref a), (1, .int 20)]) hx hb dX6_init_43 hl (k := 0) rfl (by decide) (by decide) rfl (fun ls hl => ?_)
  refine lv_goto (tgt := 25) hx hb dX6_init_46 (by decide) ?_
  refine lv_iload_n hx hb dX6_init_25 rfl (lv_at hl 0 rfl) ?_
  refine lv_iload_n hx hb dX6_init_26 rfl (lv_at hl 2 rfl) ?_
  refine lv_icmp_ge (tgt := 49) hx hb dX6_init_27 (by decide) (fun c_27 => absurd c_27 (by decide)) (fun c_27 => ?_)
  refine lv_aload_n hx hb dX6_init_30 rfl (lv_at hl 1 rfl) ?_
  replace hown0 := ((o_8 k (by first | exact lqD rfl | omega)).trans ((of_7 k (by first | exact lqA rfl | omega)).trans ((of_6 k (by first | exact lqA rfl | omega))))).trans hown0
  replace hga0 := gq.tr ((og_7 k (by first | exact lqA rfl | omega)).trans ((og_6 k (by first | exact lqA rfl | omega)))) hga0
  refine va_get (D := G.1) (ci := 6) (v := .ref q2) (C := RX6) (T := TX6) (N := 2) hx hb hts inlX6 hown hG.1 hP k (wn_at (by first | exact lqA rfl | exact lqB rfl | omega) hga0 hown0) rfl 0 (by decide) (hts (.fieldLink RX6 16 "SwornLists$Shelf" "texts" "[LSwornLists$Text;") w_82) (fun _ h9 => h9) rfl dX6_init_31 ?_
  refine lv_iload_n hx hb dX6_init_34 rfl (lv_at hl 0 rfl) ?_
  refine va_new (ci := 7) (fs := [.null, .null, .int 0, .int 0]) (C := RX8) (T := TX8) (N := 4) hx hb hts inlX8 tyX8 tyX8_ok hown (hts (.classLink RX6 7 RX8) w_78) (hts (.instantiable RX8 4) w_79) (hts (.initialized RX8) w_80) hG.1 hP hD hS hA rfl (fun j hj => by rcases (show j = 0 ∨ j = 1 ∨ j = 2 ∨ j = 3 by omega) with rfl | rfl | rfl | rfl <;> rfl) (Nat.le_of_ble_eq_true rfl) (Nat.le_of_ble_eq_true rfl) dX6_init_35 (fun q4 H hP hD hS => ?_)
  obtain ⟨g_9, f_9, hP, hD, hg_9, hf_9, og_9, of_9⟩ := n_ext hP hD
  have hf_9 : f_9 (k + 8) = eO 7 [.null, .null, .int 0, .int 0] := hf_9
  have hg_9 : gq (g_9 (k + 8)) q4 := hg_9
  have hP : va_P G.1 vwCl (wn (k + 9) g_9 f_9) H := hP
  have hD : va_D A (wn (k + 9) g_9 f_9) := hD
  refine W.widen (k := 8) (n := 232) (by omega) (by omega) ?_
  refine lv_dup hx hb dX6_init_38 rfl ?_
  refine n_call (va_runIN (As := []) (rest := [.ref q4, .int 1, .ref q2]) ⟨hx, hb, hml, hown, hts⟩ (i_text l G g_9 f_9 H.size (k + 8) q4 hg_9 hf_9) (⟨my_cn hts ok_X8_init.1 (hG.2.1 (.methodLinkNest RX6 9 yX8_init RX10) (List.mem_of_getElem? (i := 23) rfl)) rfl rfl ⟨Nat.le_of_ble_eq_true rfl, Nat.le_of_ble_eq_true rfl⟩, rfl, hts _ ok_X8_init.2.2.1⟩) ⟨nP.blind, fun U hU hW => ⟨rfl, by rw [hU], by rw [hU]; exact hP, kG.warm hW hG, hD.weaken (fun _ _ _ _ => trivial)⟩⟩ rfl rfl hl.1 rfl (lv_room (Nat.le_of_ble_eq_true rfl)) dX6_init_39 ⟨Nat.le_of_ble_eq_true rfl, Nat.le_of_ble_eq_true rfl⟩) hD hS hA (fun g_10 f_10 H locs og_10 hq9 hP hD hS => ?_)
  obtain ⟨hq_10_0, hx_10_0, of_10⟩ := hq9
  have hfq_10_0 : f_10 (k + 8) = eO 7 [.ref (g_10 (k + 9)), .ref (g_10 (k + 10)), .int 0, .int 0] := hq_10_0
  have pk_10_0 : isT G g_10 f_10 (k + 8) 0 0 (fun _ => 0) (fun _ => 0) := hx_10_0
  have hP : va_P G.1 vwCl (wn (k + 11) g_10 f_10) H := hP
  have hD : va_D A (wn (k + 11) g_10 f_10) := hD
  refine W.widen (k := 10) (n := 332) (by omega) (by omega) ?_
  replace hf_4 := ((of_10 (k + 4) (by first | exact lqB rfl | omega)).trans ((of_9 (k + 4) (by first | exact lqB rfl | omega)))).trans hf_4
  replace hg_4 := gq.tr ((og_10 (k + 4) (by first | exact lqB rfl | omega)).trans ((og_9 (k + 4) (by first | exact lqB rfl | omega)))) hg_4
  replace hg_9 := gq.tr ((og_10 (k + 8) (by first | exact lqB rfl | omega))) hg_9
  refine va_astq (r := (RX8, TX8, 4)) hx hb hG.1 hP hD hS (k + 4) 5 (k + 8) 7 (wn_at (by first | exact lqA rfl | exact lqB rfl | omega) hg_4 hf_4) rfl (wn_at (by first | exact lqA rfl | exact lqB rfl | omega) hg_9 hfq_10_0) rfl (by unfold vp_in; decide) dX6_init_42 (fun H locs hP hD hS => ?_)
  have ef : va_up (aL [q3]) (Int32.toNatClampNeg 1) (some q4) = aL [q3, q4] := aL_push [q3] q4
  have hP := (congrArg (fun z9 => va_P G.1 vwCl ((wn (k + 11) g_10 f_10).set (k + 4) (q2, eA G 5 20 z9)) H) ef).mp hP
  have hD := (congrArg (fun z9 => va_D A ((wn (k + 11) g_10 f_10).set (k + 4) (q2, eA G 5 20 z9))) ef).mp hD
  obtain ⟨f_11, hP, hD, e_11, o_11⟩ := n_put (by first | exact lqA rfl | exact lqB rfl | omega) hg_4 hP hD
  have hf_4 : f_11 (k + 4) = eA G 5 20 (aL [q3, q4]) := e_11
  have pk_10_0 : isT G g_10 f_11 (k + 8) 0 0 (fun _ => 0) (fun _ => 0) := isT_gf pk_10_0 (fun j _ => rfl) (fun j h1 h2 => o_11 j (by omega))
  have txA : ∀ z, z < 1 → isT G g_9 f_9 (k + 3 * z + 5) 0 0 (fun _ => 0) (fun _ => 0) := fun z hz => isT_gf (txA z hz) (fun j hj => og_9 j (by omega)) (fun j h1 h2 => of_9 j (by omega))
  have txA : ∀ z, z < 1 → isT G g_10 f_10 (k + 3 * z + 5) 0 0 (fun _ => 0) (fun _ => 0) := fun z hz => isT_gf (txA z hz) (fun j hj => og_10 j (by omega)) (fun j h1 h2 => of_10 j (by omega))
  have txA : ∀ z, z < 1 → isT G g_10 f_11 (k + 3 * z + 5) 0 0 (fun _ => 0) (fun _ => 0) := fun z hz => isT_gf (txA z hz) (fun j _ => rfl) (fun j h1 h2 => o_11 j (by omega))
  have taA : ∀ z, z < 1 → (aL [q3]) z = some (g_9 (k + 3 * z + 5)) := fun z hz => (taA z hz).trans (congrArg some (og_9 _ (by omega)).symm)
  have taA : ∀ z, z < 1 → (aL [q3]) z = some (g_10 (k + 3 * z + 5)) := fun z hz => (taA z hz).trans (congrArg some (og_10 _ (by omega)).symm)
  have taA : ∀ z, z < 1 → (aL [q3]) z = some (g_10 (k + 3 * z + 5)) := taA
  have txA : ∀ z, z < 2 → isT G g_10 f_11 (k + 3 * z + 5) 0 0 (fun _ => 0) (fun _ => 0) := tx_ext (P := fun z => isT G g_10 f_11 (k + 3 * z + 5) 0 0 (fun _ => 0) (fun _ => 0)) txA pk_10_0
  have taA : ∀ z, z < 2 → (aL [q3, q4]) z = some (g_10 (k + 3 * z + 5)) := ta_ext (L := [q3]) (s := 3) (c := 5) rfl taA hg_9
  refine lv_iinc (v := 2) (lv' := [(2, .int 2), (0, .ref a), (1, .int 20)]) hx hb dX6_init_43 hl (k := 0) rfl (by decide) (by decide) rfl (fun ls hl => ?_)
  refine lv_goto (tgt := 25) hx hb dX6_init_46 (by decide) ?_
  refine lv_iload_n hx hb dX6_init_25 rfl (lv_at hl 0 rfl) ?_
  refine lv_iload_n hx hb dX6_init_26 rfl (lv_at hl 2 rfl) ?_
  refine lv_icmp_ge (tgt := 49) hx hb dX6_init_27 (by decide) (fun c_27 => absurd c_27 (by decide)) (fun c_27 => ?_)
  refine lv_aload_n hx hb dX6_init_30 rfl (lv_at hl 1 rfl) ?_
  replace hown0 := ((o_11 k (by first | exact lqD rfl | omega)).trans ((of_10 k (by first | exact lqA rfl | omega)).trans ((of_9 k (by first | exact lqA rfl | omega))))).trans hown0
  replace hga0 := gq.tr ((og_10 k (by first | exact lqA rfl | omega)).trans ((og_9 k (by first | exact lqA rfl | omega)))) hga0
  refine va_get (D := G.1) (ci := 6) (v := .ref q2) (C := RX6) (T := TX6) (N := 2) hx hb hts inlX6 hown hG.1 hP k (wn_at (by first | exact lqA rfl | exact lqB rfl | omega) hga0 hown0) rfl 0 (by decide) (hts (.fieldLink RX6 16 "SwornLists$Shelf" "texts" "[LSwornLists$Text;") w_82) (fun _ h9 => h9) rfl dX6_init_31 ?_
  refine lv_iload_n hx hb dX6_init_34 rfl (lv_at hl 0 rfl) ?_
  refine va_new (ci := 7) (fs := [.null, .null, .int 0, .int 0]) (C := RX8) (T := TX8) (N := 4) hx hb hts inlX8 tyX8 tyX8_ok hown (hts (.classLink RX6 7 RX8) w_78) (hts (.instantiable RX8 4) w_79) (hts (.initialized RX8) w_80) hG.1 hP hD hS hA rfl (fun j hj => by rcases (show j = 0 ∨ j = 1 ∨ j = 2 ∨ j = 3 by omega) with rfl | rfl | rfl | rfl <;> rfl) (Nat.le_of_ble_eq_true rfl) (Nat.le_of_ble_eq_true rfl) dX6_init_35 (fun q5 H hP hD hS => ?_)
  obtain ⟨g_12, f_12, hP, hD, hg_12, hf_12, og_12, of_12⟩ := n_ext hP hD
  have hf_12 : f_12 (k + 11) = eO 7 [.null, .null, .int 0, .int 0] := hf_12
  have hg_12 : gq (g_12 (k + 11)) q5 := hg_12
  have hP : va_P G.1 vwCl (wn (k + 12) g_12 f_12) H := hP
  have hD : va_D A (wn (k + 12) g_12 f_12) := hD
  refine W.widen (k := 11) (n := 336) (by omega) (by omega) ?_
  refine lv_dup hx hb dX6_init_38 rfl ?_
  refine n_call (va_runIN (As := []) (rest := [.ref q5, .int 2, .ref q2]) ⟨hx, hb, hml, hown, hts⟩ (i_text l G g_12 f_12 H.size (k + 11) q5 hg_12 hf_12) (⟨my_cn hts ok_X8_init.1 (hG.2.1 (.methodLinkNest RX6 9 yX8_init RX10) (List.mem_of_getElem? (i := 23) rfl)) rfl rfl ⟨Nat.le_of_ble_eq_true rfl, Nat.le_of_ble_eq_true rfl⟩, rfl, hts _ ok_X8_init.2.2.1⟩) ⟨nP.blind, fun U hU hW => ⟨rfl, by rw [hU], by rw [hU]; exact hP, kG.warm hW hG, hD.weaken (fun _ _ _ _ => trivial)⟩⟩ rfl rfl hl.1 rfl (lv_room (Nat.le_of_ble_eq_true rfl)) dX6_init_39 ⟨Nat.le_of_ble_eq_true rfl, Nat.le_of_ble_eq_true rfl⟩) hD hS hA (fun g_13 f_13 H locs og_13 hq9 hP hD hS => ?_)
  obtain ⟨hq_13_0, hx_13_0, of_13⟩ := hq9
  have hfq_13_0 : f_13 (k + 11) = eO 7 [.ref (g_13 (k + 12)), .ref (g_13 (k + 13)), .int 0, .int 0] := hq_13_0
  have pk_13_0 : isT G g_13 f_13 (k + 11) 0 0 (fun _ => 0) (fun _ => 0) := hx_13_0
  have hP : va_P G.1 vwCl (wn (k + 14) g_13 f_13) H := hP
  have hD : va_D A (wn (k + 14) g_13 f_13) := hD
  refine W.widen (k := 13) (n := 436) (by omega) (by omega) ?_
  replace hf_4 := ((of_13 (k + 4) (by first | exact lqB rfl | omega)).trans ((of_12 (k + 4) (by first | exact lqB rfl | omega)))).trans hf_4
  replace hg_4 := gq.tr ((og_13 (k + 4) (by first | exact lqB rfl | omega)).trans ((og_12 (k + 4) (by first | exact lqB rfl | omega)))) hg_4
  replace hg_12 := gq.tr ((og_13 (k + 11) (by first | exact lqB rfl | omega))) hg_12
  refine va_astq (r := (RX8, TX8, 4)) hx hb hG.1 hP hD hS (k + 4) 5 (k + 11) 7 (wn_at (by first | exact lqA rfl | exact lqB rfl | omega) hg_4 hf_4) rfl (wn_at (by first | exact lqA rfl | exact lqB rfl | omega) hg_12 hfq_13_0) rfl (by unfold vp_in; decide) dX6_init_42 (fun H locs hP hD hS => ?_)
  have ef : va_up (aL [q3, q4]) (Int32.toNatClampNeg 2) (some q5) = aL [q3, q4, q5] := aL_push [q3, q4] q5
  have hP := (congrArg (fun z9 => va_P G.1 vwCl ((wn (k + 14) g_13 f_13).set (k + 4) (q2, eA G 5 20 z9)) H) ef).mp hP
  have hD := (congrArg (fun z9 => va_D A ((wn (k + 14) g_13 f_13).set (k + 4) (q2, eA G 5 20 z9))) ef).mp hD
  obtain ⟨f_14, hP, hD, e_14, o_14⟩ := n_put (by first | exact lqA rfl | exact lqB rfl | omega) hg_4 hP hD
  have hf_4 : f_14 (k + 4) = eA G 5 20 (aL [q3, q4, q5]) := e_14
  have pk_13_0 : isT G g_13 f_14 (k + 11) 0 0 (fun _ => 0) (fun _ => 0) := isT_gf pk_13_0 (fun j _ => rfl) (fun j h1 h2 => o_14 j (by omega))
  have txA : ∀ z, z < 2 → isT G g_12 f_12 (k + 3 * z + 5) 0 0 (fun _ => 0) (fun _ => 0) := fun z hz => isT_gf (txA z hz) (fun j hj => og_12 j (by omega)) (fun j h1 h2 => of_12 j (by omega))
  have txA : ∀ z, z < 2 → isT G g_13 f_13 (k + 3 * z + 5) 0 0 (fun _ => 0) (fun _ => 0) := fun z hz => isT_gf (txA z hz) (fun j hj => og_13 j (by omega)) (fun j h1 h2 => of_13 j (by omega))
  have txA : ∀ z, z < 2 → isT G g_13 f_14 (k + 3 * z + 5) 0 0 (fun _ => 0) (fun _ => 0) := fun z hz => isT_gf (txA z hz) (fun j _ => rfl) (fun j h1 h2 => o_14 j (by omega))
  have taA : ∀ z, z < 2 → (aL [q3, q4]) z = some (g_12 (k + 3 * z + 5)) := fun z hz => (taA z hz).trans (congrArg some (og_12 _ (by omega)).symm)
  have taA : ∀ z, z < 2 → (aL [q3, q4]) z = some (g_13 (k + 3 * z + 5)) := fun z hz => (taA z hz).trans (congrArg some (og_13 _ (by omega)).symm)
  have taA : ∀ z, z < 2 → (aL [q3, q4]) z = some (g_13 (k + 3 * z + 5)) := taA
  have txA : ∀ z, z < 3 → isT G g_13 f_14 (k + 3 * z + 5) 0 0 (fun _ => 0) (fun _ => 0) := tx_ext (P := fun z => isT G g_13 f_14 (k + 3 * z + 5) 0 0 (fun _ => 0) (fun _ => 0)) txA pk_13_0
  have taA : ∀ z, z < 3 → (aL [q3, q4, q5]) z = some (g_13 (k + 3 * z + 5)) := ta_ext (L := [q3, q4]) (s := 3) (c := 5) rfl taA hg_12
  refine lv_iinc (v := 3) (lv' := [(2, .int 3), (0, .ref a), (1, .int 20)]) hx hb dX6_init_43 hl (k := 0) rfl (by decide) (by decide) rfl (fun ls hl => ?_)
  refine lv_goto (tgt := 25) hx hb dX6_init_46 (by decide) ?_
  refine lv_iload_n hx hb dX6_init_25 rfl (lv_at hl 0 rfl) ?_
  refine lv_iload_n hx hb dX6_init_26 rfl (lv_at hl 2 rfl) ?_
  refine lv_icmp_ge (tgt := 49) hx hb dX6_init_27 (by decide) (fun c_27 => absurd c_27 (by decide)) (fun c_27 => ?_)
  refine lv_aload_n hx hb dX6_init_30 rfl (lv_at hl 1 rfl) ?_
  replace hown0 := ((o_14 k (by first | exact lqD rfl | omega)).trans ((of_13 k (by first | exact lqA rfl | omega)).trans ((of_12 k (by first | exact lqA rfl | omega))))).trans hown0
  replace hga0 := gq.tr ((og_13 k (by first | exact lqA rfl | omega)).trans ((og_12 k (by first | exact lqA rfl | omega)))) hga0
  refine va_get (D := G.1) (ci := 6) (v := .ref q2) (C := RX6) (T := TX6) (N := 2) hx hb hts inlX6 hown hG.1 hP k (wn_at (by first | exact lqA rfl | exact lqB rfl | omega) hga0 hown0) rfl 0 (by decide) (hts (.fieldLink RX6 16 "SwornLists$Shelf" "texts" "[LSwornLists$Text;") w_82) (fun _ h9 => h9) rfl dX6_init_31 ?_
  refine lv_iload_n hx hb dX6_init_34 rfl (lv_at hl 0 rfl) ?_
  refine va_new (ci := 7) (fs := [.null, .null, .int 0, .int 0]) (C := RX8) (T := TX8) (N := 4) hx hb hts inlX8 tyX8 tyX8_ok hown (hts (.classLink RX6 7 RX8) w_78) (hts (.instantiable RX8 4) w_79) (hts (.initialized RX8) w_80) hG.1 hP hD hS hA rfl (fun j hj => by rcases (show j = 0 ∨ j = 1 ∨ j = 2 ∨ j = 3 by omega) with rfl | rfl | rfl | rfl <;> rfl) (Nat.le_of_ble_eq_true rfl) (Nat.le_of_ble_eq_true rfl) dX6_init_35 (fun q6 H hP hD hS => ?_)
  obtain ⟨g_15, f_15, hP, hD, hg_15, hf_15, og_15, of_15⟩ := n_ext hP hD
  have hf_15 : f_15 (k + 14) = eO 7 [.null, .null, .int 0, .int 0] := hf_15
  have hg_15 : gq (g_15 (k + 14)) q6 := hg_15
  have hP : va_P G.1 vwCl (wn (k + 15) g_15 f_15) H := hP
  have hD : va_D A (wn (k + 15) g_15 f_15) := hD
  refine W.widen (k := 14) (n := 440) (by omega) (by omega) ?_
  refine lv_dup hx hb dX6_init_38 rfl ?_
  refine n_call (va_runIN (As := []) (rest := [.ref q6, .int 3, .ref q2]) ⟨hx, hb, hml, hown, hts⟩ (i_text l G g_15 f_15 H.size (k + 14) q6 hg_15 hf_15) (⟨my_cn hts ok_X8_init.1 (hG.2.1 (.methodLinkNest RX6 9 yX8_init RX10) (List.mem_of_getElem? (i := 23) rfl)) rfl rfl ⟨Nat.le_of_ble_eq_true rfl, Nat.le_of_ble_eq_true rfl⟩, rfl, hts _ ok_X8_init.2.2.1⟩) ⟨nP.blind, fun U hU hW => ⟨rfl, by rw [hU], by rw [hU]; exact hP, kG.warm hW hG, hD.weaken (fun _ _ _ _ => trivial)⟩⟩ rfl rfl hl.1 rfl (lv_room (Nat.le_of_ble_eq_true rfl)) dX6_init_39 ⟨Nat.le_of_ble_eq_true rfl, Nat.le_of_ble_eq_true rfl⟩) hD hS hA (fun g_16 f_16 H locs og_16 hq9 hP hD hS => ?_)
  obtain ⟨hq_16_0, hx_16_0, of_16⟩ := hq9
  have hfq_16_0 : f_16 (k + 14) = eO 7 [.ref (g_16 (k + 15)), .ref (g_16 (k + 16)), .int 0, .int 0] := hq_16_0
  have pk_16_0 : isT G g_16 f_16 (k + 14) 0 0 (fun _ => 0) (fun _ => 0) := hx_16_0
  have hP : va_P G.1 vwCl (wn (k + 17) g_16 f_16) H := hP
  have hD : va_D A (wn (k + 17) g_16 f_16) := hD
  refine W.widen (k := 16) (n := 540) (by omega) (by omega) ?_
  replace hf_4 := ((of_16 (k + 4) (by first | exact lqB rfl | omega)).trans ((of_15 (k + 4) (by first | exact lqB rfl | omega)))).trans hf_4
  replace hg_4 := gq.tr ((og_16 (k + 4) (by first | exact lqB rfl | omega)).trans ((og_15 (k + 4) (by first | exact lqB rfl | omega)))) hg_4
  replace hg_15 := gq.tr ((og_16 (k + 14) (by first | exact lqB rfl | omega))) hg_15
  refine va_astq (r := (RX8, TX8, 4)) hx hb hG.1 hP hD hS (k + 4) 5 (k + 14) 7 (wn_at (by first | exact lqA rfl | exact lqB rfl | omega) hg_4 hf_4) rfl (wn_at (by first | exact lqA rfl | exact lqB rfl | omega) hg_15 hfq_16_0) rfl (by unfold vp_in; decide) dX6_init_42 (fun H locs hP hD hS => ?_)
  have ef : va_up (aL [q3, q4, q5]) (Int32.toNatClampNeg 3) (some q6) = aL [q3, q4, q5, q6] := aL_push [q3, q4, q5] q6
  have hP := (congrArg (fun z9 => va_P G.1 vwCl ((wn (k + 17) g_16 f_16).set (k + 4) (q2, eA G 5 20 z9)) H) ef).mp hP
  have hD := (congrArg (fun z9 => va_D A ((wn (k + 17) g_16 f_16).set (k + 4) (q2, eA G 5 20 z9))) ef).mp hD
  obtain ⟨f_17, hP, hD, e_17, o_17⟩ := n_put (by first | exact lqA rfl | exact lqB rfl | omega) hg_4 hP hD
  have hf_4 : f_17 (k + 4) = eA G 5 20 (aL [q3, q4, q5, q6]) := e_17
  have pk_16_0 : isT G g_16 f_17 (k + 14) 0 0 (fun _ => 0) (fun _ => 0) := isT_gf pk_16_0 (fun j _ => rfl) (fun j h1 h2 => o_17 j (by omega))
  have txA : ∀ z, z < 3 → isT G g_15 f_15 (k + 3 * z + 5) 0 0 (fun _ => 0) (fun _ => 0) := fun z hz => isT_gf (txA z hz) (fun j hj => og_15 j (by omega)) (fun j h1 h2 => of_15 j (by omega))
  have txA : ∀ z, z < 3 → isT G g_16 f_16 (k + 3 * z + 5) 0 0 (fun _ => 0) (fun _ => 0) := fun z hz => isT_gf (txA z hz) (fun j hj => og_16 j (by omega)) (fun j h1 h2 => of_16 j (by omega))
  have txA : ∀ z, z < 3 → isT G g_16 f_17 (k + 3 * z + 5) 0 0 (fun _ => 0) (fun _ => 0) := fun z hz => isT_gf (txA z hz) (fun j _ => rfl) (fun j h1 h2 => o_17 j (by omega))
  have taA : ∀ z, z < 3 → (aL [q3, q4, q5]) z = some (g_15 (k + 3 * z + 5)) := fun z hz => (taA z hz).trans (congrArg some (og_15 _ (by omega)).symm)
  have taA : ∀ z, z < 3 → (aL [q3, q4, q5]) z = some (g_16 (k + 3 * z + 5)) := fun z hz => (taA z hz).trans (congrArg some (og_16 _ (by omega)).symm)
  have taA : ∀ z, z < 3 → (aL [q3, q4, q5]) z = some (g_16 (k + 3 * z + 5)) := taA
  have txA : ∀ z, z < 4 → isT G g_16 f_17 (k + 3 * z + 5) 0 0 (fun _ => 0) (fun _ => 0) := tx_ext (P := fun z => isT G g_16 f_17 (k + 3 * z + 5) 0 0 (fun _ => 0) (fun _ => 0)) txA pk_16_0
  have taA : ∀ z, z < 4 → (aL [q3, q4, q5, q6]) z = some (g_16 (k + 3 * z + 5)) := ta_ext (L := [q3, q4, q5]) (s := 3) (c := 5) rfl taA hg_15
  refine lv_iinc (v := 4) (lv' := [(2, .int 4), (0, .ref a), (1, .int 20)]) hx hb dX6_init_43 hl (k := 0) rfl (by decide) (by decide) rfl (fun ls hl => ?_)
  refine lv_goto (tgt := 25) hx hb dX6_init_46 (by decide) ?_
  refine lv_iload_n hx hb dX6_init_25 rfl (lv_at hl 0 rfl) ?_
  refine lv_iload_n hx hb dX6_init_26 rfl (lv_at hl 2 rfl) ?_
  refine lv_icmp_ge (tgt := 49) hx hb dX6_init_27 (by decide) (fun c_27 => absurd c_27 (by decide)) (fun c_27 => ?_)
  refine lv_aload_n hx hb dX6_init_30 rfl (lv_at hl 1 rfl) ?_
  replace hown0 := ((o_17 k (by first | exact lqD rfl | omega)).trans ((of_16 k (by first | exact lqA rfl | omega)).trans ((of_15 k (by first | exact lqA rfl | omega))))).trans hown0
  replace hga0 := gq.tr ((og_16 k (by first | exact lqA rfl | omega)).trans ((og_15 k (by first | exact lqA rfl | omega)))) hga0
  refine va_get (D := G.1) (ci := 6) (v := .ref q2) (C := RX6) (T := TX6) (N := 2) hx hb hts inlX6 hown hG.1 hP k (wn_at (by first | exact lqA rfl | exact lqB rfl | omega) hga0 hown0) rfl 0 (by decide) (hts (.fieldLink RX6 16 "SwornLists$Shelf" "texts" "[LSwornLists$Text;") w_82) (fun _ h9 => h9) rfl dX6_init_31 ?_
  refine lv_iload_n hx hb dX6_init_34 rfl (lv_at hl 0 rfl) ?_
  refine va_new (ci := 7) (fs := [.null, .null, .int 0, .int 0]) (C := RX8) (T := TX8) (N := 4) hx hb hts inlX8 tyX8 tyX8_ok hown (hts (.classLink RX6 7 RX8) w_78) (hts (.instantiable RX8 4) w_79) (hts (.initialized RX8) w_80) hG.1 hP hD hS hA rfl (fun j hj => by rcases (show j = 0 ∨ j = 1 ∨ j = 2 ∨ j = 3 by omega) with rfl | rfl | rfl | rfl <;> rfl) (Nat.le_of_ble_eq_true rfl) (Nat.le_of_ble_eq_true rfl) dX6_init_35 (fun q7 H hP hD hS => ?_)
  obtain ⟨g_18, f_18, hP, hD, hg_18, hf_18, og_18, of_18⟩ := n_ext hP hD
  have hf_18 : f_18 (k + 17) = eO 7 [.null, .null, .int 0, .int 0] := hf_18
  have hg_18 : gq (g_18 (k + 17)) q7 := hg_18
  have hP : va_P G.1 vwCl (wn (k + 18) g_18 f_18) H := hP
  have hD : va_D A (wn (k + 18) g_18 f_18) := hD
  refine W.widen (k := 17) (n := 544) (by omega) (by omega) ?_
  refine lv_dup hx hb dX6_init_38 rfl ?_
  refine n_call (va_runIN (As := []) (rest := [.ref q7, .int 4, .ref q2]) ⟨hx, hb, hml, hown, hts⟩ (i_text l G g_18 f_18 H.size (k + 17) q7 hg_18 hf_18) (⟨my_cn hts ok_X8_init.1 (hG.2.1 (.methodLinkNest RX6 9 yX8_init RX10) (List.mem_of_getElem? (i := 23) rfl)) rfl rfl ⟨Nat.le_of_ble_eq_true rfl, Nat.le_of_ble_eq_true rfl⟩, rfl, hts _ ok_X8_init.2.2.1⟩) ⟨nP.blind, fun U hU hW => ⟨rfl, by rw [hU], by rw [hU]; exact hP, kG.warm hW hG, hD.weaken (fun _ _ _ _ => trivial)⟩⟩ rfl rfl hl.1 rfl (lv_room (Nat.le_of_ble_eq_true rfl)) dX6_init_39 ⟨Nat.le_of_ble_eq_true rfl, Nat.le_of_ble_eq_true rfl⟩) hD hS hA (fun g_19 f_19 H locs og_19 hq9 hP hD hS => ?_)
  obtain ⟨hq_19_0, hx_19_0, of_19⟩ := hq9
  have hfq_19_0 : f_19 (k + 17) = eO 7 [.ref (g_19 (k + 18)), .ref (g_19 (k + 19)), .int 0, .int 0] := hq_19_0
  have pk_19_0 : isT G g_19 f_19 (k + 17) 0 0 (fun _ => 0) (fun _ => 0) := hx_19_0
  have hP : va_P G.1 vwCl (wn (k + 20) g_19 f_19) H := hP
  have hD : va_D A (wn (k + 20) g_19 f_19) := hD
  refine W.widen (k := 19) (n := 644) (by omega) (by omega) ?_
  replace hf_4 := ((of_19 (k + 4) (by first | exact lqB rfl | omega)).trans ((of_18 (k + 4) (by first | exact lqB rfl | omega)))).trans hf_4
  replace hg_4 := gq.tr ((og_19 (k + 4) (by first | exact lqB rfl | omega)).trans ((og_18 (k + 4) (by first | exact lqB rfl | omega)))) hg_4
  replace hg_18 := gq.tr ((og_19 (k + 17) (by first | exact lqB rfl | omega))) hg_18
  refine va_astq (r := (RX8, TX8, 4)) hx hb hG.1 hP hD hS (k + 4) 5 (k + 17) 7 (wn_at (by first | exact lqA rfl | exact lqB rfl | omega) hg_4 hf_4) rfl (wn_at (by first | exact lqA rfl | exact lqB rfl | omega) hg_18 hfq_19_0) rfl (by unfold vp_in; decide) dX6_init_42 (fun H locs hP hD hS => ?_)
  have ef : va_up (aL [q3, q4, q5, q6]) (Int32.toNatClampNeg 4) (some q7) = aL [q3, q4, q5, q6, q7] := aL_push [q3, q4, q5, q6] q7
  have hP := (congrArg (fun z9 => va_P G.1 vwCl ((wn (k + 20) g_19 f_19).set (k + 4) (q2, eA G 5 20 z9)) H) ef).mp hP
  have hD := (congrArg (fun z9 => va_D A ((wn (k + 20) g_19 f_19).set (k + 4) (q2, eA G 5 20 z9))) ef).mp hD
  obtain ⟨f_20, hP, hD, e_20, o_20⟩ := n_put (by first | exact lqA rfl | exact lqB rfl | omega) hg_4 hP hD
  have hf_4 : f_20 (k + 4) = eA G 5 20 (aL [q3, q4, q5, q6, q7]) := e_20
  have pk_19_0 : isT G g_19 f_20 (k + 17) 0 0 (fun _ => 0) (fun _ => 0) := isT_gf pk_19_0 (fun j _ => rfl) (fun j h1 h2 => o_20 j (by omega))
  have txA : ∀ z, z < 4 → isT G g_18 f_18 (k + 3 * z + 5) 0 0 (fun _ => 0) (fun _ => 0) := fun z hz => isT_gf (txA z hz) (fun j hj => og_18 j (by omega)) (fun j h1 h2 => of_18 j (by omega))
  have txA : ∀ z, z < 4 → isT G g_19 f_19 (k + 3 * z + 5) 0 0 (fun _ => 0) (fun _ => 0) := fun z hz => isT_gf (txA z hz) (fun j hj => og_19 j (by omega)) (fun j h1 h2 => of_19 j (by omega))
  have txA : ∀ z, z < 4 → isT G g_19 f_20 (k + 3 * z + 5) 0 0 (fun _ => 0) (fun _ => 0) := fun z hz => isT_gf (txA z hz) (fun j _ => rfl) (fun j h1 h2 => o_20 j (by omega))
  have taA : ∀ z, z < 4 → (aL [q3, q4, q5, q6]) z = some (g_18 (k + 3 * z + 5)) := fun z hz => (taA z hz).trans (congrArg some (og_18 _ (by omega)).symm)
  have taA : ∀ z, z < 4 → (aL [q3, q4, q5, q6]) z = some (g_19 (k + 3 * z + 5)) := fun z hz => (taA z hz).trans (congrArg some (og_19 _ (by omega)).symm)
  have taA : ∀ z, z < 4 → (aL [q3, q4, q5, q6]) z = some (g_19 (k + 3 * z + 5)) := taA
  have txA : ∀ z, z < 5 → isT G g_19 f_20 (k + 3 * z + 5) 0 0 (fun _ => 0) (fun _ => 0) := tx_ext (P := fun z => isT G g_19 f_20 (k + 3 * z + 5) 0 0 (fun _ => 0) (fun _ => 0)) txA pk_19_0
  have taA : ∀ z, z < 5 → (aL [q3, q4, q5, q6, q7]) z = some (g_19 (k + 3 * z + 5)) := ta_ext (L := [q3, q4, q5, q6]) (s := 3) (c := 5) rfl taA hg_18
  refine lv_iinc (v := 5) (lv' := [(2, .int 5), (0, .ref a), (1, .int 20)]) hx hb dX6_init_43 hl (k := 0) rfl (by decide) (by decide) rfl (fun ls hl => ?_)
  refine lv_goto (tgt := 25) hx hb dX6_init_46 (by decide) ?_
  refine lv_iload_n hx hb dX6_init_25 rfl (lv_at hl 0 rfl) ?_
  refine lv_iload_n hx hb dX6_init_26 rfl (lv_at hl 2 rfl) ?_
  refine lv_icmp_ge (tgt := 49) hx hb dX6_init_27 (by decide) (fun c_27 => absurd c_27 (by decide)) (fun c_27 => ?_)
  refine lv_aload_n hx hb dX6_init_30 rfl (lv_at hl 1 rfl) ?_
  replace hown0 := ((o_20 k (by first | exact lqD rfl | omega)).trans ((of_19 k (by first | exact lqA rfl | omega)).trans ((of_18 k (by first | exact lqA rfl | omega))))).trans hown0
  replace hga0 := gq.tr ((og_19 k (by first | exact lqA rfl | omega)).trans ((og_18 k (by first | exact lqA rfl | omega)))) hga0
  refine va_get (D := G.1) (ci := 6) (v := .ref q2) (C := RX6) (T := TX6) (N := 2) hx hb hts inlX6 hown hG.1 hP k (wn_at (by first | exact lqA rfl | exact lqB rfl | omega) hga0 hown0) rfl 0 (by decide) (hts (.fieldLink RX6 16 "SwornLists$Shelf" "texts" "[LSwornLists$Text;") w_82) (fun _ h9 => h9) rfl dX6_init_31 ?_
  refine lv_iload_n hx hb dX6_init_34 rfl (lv_at hl 0 rfl) ?_
  refine va_new (ci := 7) (fs := [.null, .null, .int 0, .int 0]) (C := RX8) (T := TX8) (N := 4) hx hb hts inlX8 tyX8 tyX8_ok hown (hts (.classLink RX6 7 RX8) w_78) (hts (.instantiable RX8 4) w_79) (hts (.initialized RX8) w_80) hG.1 hP hD hS hA rfl (fun j hj => by rcases (show j = 0 ∨ j = 1 ∨ j = 2 ∨ j = 3 by omega) with rfl | rfl | rfl | rfl <;> rfl) (Nat.le_of_ble_eq_true rfl) (Nat.le_of_ble_eq_true rfl) dX6_init_35 (fun q8 H hP hD hS => ?_)
  obtain ⟨g_21, f_21, hP, hD, hg_21, hf_21, og_21, of_21⟩ := n_ext hP hD
  have hf_21 : f_21 (k + 20) = eO 7 [.null, .null, .int 0, .int 0] := hf_21
  have hg_21 : gq (g_21 (k + 20)) q8 := hg_21
  have hP : va_P G.1 vwCl (wn (k + 21) g_21 f_21) H := hP
  have hD : va_D A (wn (k + 21) g_21 f_21) := hD
  refine W.widen (k := 20) (n := 648) (by omega) (by omega) ?_
  refine lv_dup hx hb dX6_init_38 rfl ?_
  refine n_call (va_runIN (As := []) (rest := [.ref q8, .int 5, .ref q2]) ⟨hx, hb, hml, hown, hts⟩ (i_text l G g_21 f_21 H.size (k + 20) q8 hg_21 hf_21) (⟨my_cn hts ok_X8_init.1 (hG.2.1 (.methodLinkNest RX6 9 yX8_init RX10) (List.mem_of_getElem? (i := 23) rfl)) rfl rfl ⟨Nat.le_of_ble_eq_true rfl, Nat.le_of_ble_eq_true rfl⟩, rfl, hts _ ok_X8_init.2.2.1⟩) ⟨nP.blind, fun U hU hW => ⟨rfl, by rw [hU], by rw [hU]; exact hP, kG.warm hW hG, hD.weaken (fun _ _ _ _ => trivial)⟩⟩ rfl rfl hl.1 rfl (lv_room (Nat.le_of_ble_eq_true rfl)) dX6_init_39 ⟨Nat.le_of_ble_eq_true rfl, Nat.le_of_ble_eq_true rfl⟩) hD hS hA (fun g_22 f_22 H locs og_22 hq9 hP hD hS => ?_)
  obtain ⟨hq_22_0, hx_22_0, of_22⟩ := hq9
  have hfq_22_0 : f_22 (k + 20) = eO 7 [.ref (g_22 (k + 21)), .ref (g_22 (k + 22)), .int 0, .int 0] := hq_22_0
  have pk_22_0 : isT G g_22 f_22 (k + 20) 0 0 (fun _ => 0) (fun _ => 0) := hx_22_0
  have hP : va_P G.1 vwCl (wn (k + 23) g_22 f_22) H := hP
  have hD : va_D A (wn (k + 23) g_22 f_22) := hD
  refine W.widen (k := 22) (n := 748) (by omega) (by omega) ?_
  replace hf_4 := ((of_22 (k + 4) (by first | exact lqB rfl | omega)).trans ((of_21 (k + 4) (by first | exact lqB rfl | omega)))).trans hf_4
  replace hg_4 := gq.tr ((og_22 (k + 4) (by first | exact lqB rfl | omega)).trans ((og_21 (k + 4) (by first | exact lqB rfl | omega)))) hg_4
  replace hg_21 := gq.tr ((og_22 (k + 20) (by first | exact lqB rfl | omega))) hg_21
  refine va_astq (r := (RX8, TX8, 4)) hx hb hG.1 hP hD hS (k + 4) 5 (k + 20) 7 (wn_at (by first | exact lqA rfl | exact lqB rfl | omega) hg_4 hf_4) rfl (wn_at (by first | exact lqA rfl | exact lqB rfl | omega) hg_21 hfq_22_0) rfl (by unfold vp_in; decide) dX6_init_42 (fun H locs hP hD hS => ?_)
  have ef : va_up (aL [q3, q4, q5, q6, q7]) (Int32.toNatClampNeg 5) (some q8) = aL [q3, q4, q5, q6, q7, q8] := aL_push [q3, q4, q5, q6, q7] q8
  have hP := (congrArg (fun z9 => va_P G.1 vwCl ((wn (k + 23) g_22 f_22).set (k + 4) (q2, eA G 5 20 z9)) H) ef).mp hP
  have hD := (congrArg (fun z9 => va_D A ((wn (k + 23) g_22 f_22).set (k + 4) (q2, eA G 5 20 z9))) ef).mp hD
  obtain ⟨f_23, hP, hD, e_23, o_23⟩ := n_put (by first | exact lqA rfl | exact lqB rfl | omega) hg_4 hP hD
  have hf_4 : f_23 (k + 4) = eA G 5 20 (aL [q3, q4, q5, q6, q7, q8]) := e_23
  have pk_22_0 : isT G g_22 f_23 (k + 20) 0 0 (fun _ => 0) (fun _ => 0) := isT_gf pk_22_0 (fun j _ => rfl) (fun j h1 h2 => o_23 j (by omega))
  have txA : ∀ z, z < 5 → isT G g_21 f_21 (k + 3 * z + 5) 0 0 (fun _ => 0) (fun _ => 0) := fun z hz => isT_gf (txA z hz) (fun j hj => og_21 j (by omega)) (fun j h1 h2 => of_21 j (by omega))
  have txA : ∀ z, z < 5 → isT G g_22 f_22 (k + 3 * z + 5) 0 0 (fun _ => 0) (fun _ => 0) := fun z hz => isT_gf (txA z hz) (fun j hj => og_22 j (by omega)) (fun j h1 h2 => of_22 j (by omega))
  have txA : ∀ z, z < 5 → isT G g_22 f_23 (k + 3 * z + 5) 0 0 (fun _ => 0) (fun _ => 0) := fun z hz => isT_gf (txA z hz) (fun j _ => rfl) (fun j h1 h2 => o_23 j (by omega))
  have taA : ∀ z, z < 5 → (aL [q3, q4, q5, q6, q7]) z = some (g_21 (k + 3 * z + 5)) := fun z hz => (taA z hz).trans (congrArg some (og_21 _ (by omega)).symm)
  have taA : ∀ z, z < 5 → (aL [q3, q4, q5, q6, q7]) z = some (g_22 (k + 3 * z + 5)) := fun z hz => (taA z hz).trans (congrArg some (og_22 _ (by omega)).symm)
  have taA : ∀ z, z < 5 → (aL [q3, q4, q5, q6, q7]) z = some (g_22 (k + 3 * z + 5)) := taA
  have txA : ∀ z, z < 6 → isT G g_22 f_23 (k + 3 * z + 5) 0 0 (fun _ => 0) (fun _ => 0) := tx_ext (P := fun z => isT G g_22 f_23 (k + 3 * z + 5) 0 0 (fun _ => 0) (fun _ => 0)) txA pk_22_0
  have taA : ∀ z, z < 6 → (aL [q3, q4, q5, q6, q7, q8]) z = some (g_22 (k + 3 * z + 5)) := ta_ext (L := [q3, q4, q5, q6, q7]) (s := 3) (c := 5) rfl taA hg_21
  refine lv_iinc (v := 6) (lv' := [(2, .int 6), (0, .ref a), (1, .int 20)]) hx hb dX6_init_43 hl (k := 0) rfl (by decide) (by decide) rfl (fun ls hl => ?_)
  refine lv_goto (tgt := 25) hx hb dX6_init_46 (by decide) ?_
  refine lv_iload_n hx hb dX6_init_25 rfl (lv_at hl 0 rfl) ?_
  refine lv_iload_n hx hb dX6_init_26 rfl (lv_at hl 2 rfl) ?_
  refine lv_icmp_ge (tgt := 49) hx hb dX6_init_27 (by decide) (fun c_27 => absurd c_27 (by decide)) (fun c_27 => ?_)
  refine lv_aload_n hx hb dX6_init_30 rfl (lv_at hl 1 rfl) ?_
  replace hown0 := ((o_23 k (by first | exact lqD rfl | omega)).trans ((of_22 k (by first | exact lqA rfl | omega)).trans ((of_21 k (by first | exact lqA rfl | omega))))).trans hown0
  replace hga0 := gq.tr ((og_22 k (by first | exact lqA rfl | omega)).trans ((og_21 k (by first | exact lqA rfl | omega)))) hga0
  refine va_get (D := G.1) (ci := 6) (v := .ref q2) (C := RX6) (T := TX6) (N := 2) hx hb hts inlX6 hown hG.1 hP k (wn_at (by first | exact lqA rfl | exact lqB rfl | omega) hga0 hown0) rfl 0 (by decide) (hts (.fieldLink RX6 16 "SwornLists$Shelf" "texts" "[LSwornLists$Text;") w_82) (fun _ h9 => h9) rfl dX6_init_31 ?_
  refine lv_iload_n hx hb dX6_init_34 rfl (lv_at hl 0 rfl) ?_
  refine va_new (ci := 7) (fs := [.null, .null, .int 0, .int 0]) (C := RX8) (T := TX8) (N := 4) hx hb hts inlX8 tyX8 tyX8_ok hown (hts (.classLink RX6 7 RX8) w_78) (hts (.instantiable RX8 4) w_79) (hts (.initialized RX8) w_80) hG.1 hP hD hS hA rfl (fun j hj => by rcases (show j = 0 ∨ j = 1 ∨ j = 2 ∨ j = 3 by omega) with rfl | rfl | rfl | rfl <;> rfl) (Nat.le_of_ble_eq_true rfl) (Nat.le_of_ble_eq_true rfl) dX6_init_35 (fun q9 H hP hD hS => ?_)
  obtain ⟨g_24, f_24, hP, hD, hg_24, hf_24, og_24, of_24⟩ := n_ext hP hD
  have hf_24 : f_24 (k + 23) = eO 7 [.null, .null, .int 0, .int 0] := hf_24
  have hg_24 : gq (g_24 (k + 23)) q9 := hg_24
  have hP : va_P G.1 vwCl (wn (k + 24) g_24 f_24) H := hP
  have hD : va_D A (wn (k + 24) g_24 f_24) := hD
  refine W.widen (k := 23) (n := 752) (by omega) (by omega) ?_
  refine lv_dup hx hb dX6_init_38 rfl ?_
  refine n_call (va_runIN (As := []) (rest := [.ref q9, .int 6, .ref q2]) ⟨hx, hb, hml, hown, hts⟩ (i_text l G g_24 f_24 H.size (k + 23) q9 hg_24 hf_24) (⟨my_cn hts ok_X8_init.1 (hG.2.1 (.methodLinkNest RX6 9 yX8_init RX10) (List.mem_of_getElem? (i := 23) rfl)) rfl rfl ⟨Nat.le_of_ble_eq_true rfl, Nat.le_of_ble_eq_true rfl⟩, rfl, hts _ ok_X8_init.2.2.1⟩) ⟨nP.blind, fun U hU hW => ⟨rfl, by rw [hU], by rw [hU]; exact hP, kG.warm hW hG, hD.weaken (fun _ _ _ _ => trivial)⟩⟩ rfl rfl hl.1 rfl (lv_room (Nat.le_of_ble_eq_true rfl)) dX6_init_39 ⟨Nat.le_of_ble_eq_true rfl, Nat.le_of_ble_eq_true rfl⟩) hD hS hA (fun g_25 f_25 H locs og_25 hq9 hP hD hS => ?_)
  obtain ⟨hq_25_0, hx_25_0, of_25⟩ := hq9
  have hfq_25_0 : f_25 (k + 23) = eO 7 [.ref (g_25 (k + 24)), .ref (g_25 (k + 25)), .int 0, .int 0] := hq_25_0
  have pk_25_0 : isT G g_25 f_25 (k + 23) 0 0 (fun _ => 0) (fun _ => 0) := hx_25_0
  have hP : va_P G.1 vwCl (wn (k + 26) g_25 f_25) H := hP
  have hD : va_D A (wn (k + 26) g_25 f_25) := hD
  refine W.widen (k := 25) (n := 852) (by omega) (by omega) ?_
  replace hf_4 := ((of_25 (k + 4) (by first | exact lqB rfl | omega)).trans ((of_24 (k + 4) (by first | exact lqB rfl | omega)))).trans hf_4
  replace hg_4 := gq.tr ((og_25 (k + 4) (by first | exact lqB rfl | omega)).trans ((og_24 (k + 4) (by first | exact lqB rfl | omega)))) hg_4
  replace hg_24 := gq.tr ((og_25 (k + 23) (by first | exact lqB rfl | omega))) hg_24
  refine va_astq (r := (RX8, TX8, 4)) hx hb hG.1 hP hD hS (k + 4) 5 (k + 23) 7 (wn_at (by first | exact lqA rfl | exact lqB rfl | omega) hg_4 hf_4) rfl (wn_at (by first | exact lqA rfl | exact lqB rfl | omega) hg_24 hfq_25_0) rfl (by unfold vp_in; decide) dX6_init_42 (fun H locs hP hD hS => ?_)
  have ef : va_up (aL [q3, q4, q5, q6, q7, q8]) (Int32.toNatClampNeg 6) (some q9) = aL [q3, q4, q5, q6, q7, q8, q9] := aL_push [q3, q4, q5, q6, q7, q8] q9
  have hP := (congrArg (fun z9 => va_P G.1 vwCl ((wn (k + 26) g_25 f_25).set (k + 4) (q2, eA G 5 20 z9)) H) ef).mp hP
  have hD := (congrArg (fun z9 => va_D A ((wn (k + 26) g_25 f_25).set (k + 4) (q2, eA G 5 20 z9))) ef).mp hD
  obtain ⟨f_26, hP, hD, e_26, o_26⟩ := n_put (by first | exact lqA rfl | exact lqB rfl | omega) hg_4 hP hD
  have hf_4 : f_26 (k + 4) = eA G 5 20 (aL [q3, q4, q5, q6, q7, q8, q9]) := e_26
  have pk_25_0 : isT G g_25 f_26 (k + 23) 0 0 (fun _ => 0) (fun _ => 0) := isT_gf pk_25_0 (fun j _ => rfl) (fun j h1 h2 => o_26 j (by omega))
  have txA : ∀ z, z < 6 → isT G g_24 f_24 (k + 3 * z + 5) 0 0 (fun _ => 0) (fun _ => 0) := fun z hz => isT_gf (txA z hz) (fun j hj => og_24 j (by omega)) (fun j h1 h2 => of_24 j (by omega))
  have txA : ∀ z, z < 6 → isT G g_25 f_25 (k + 3 * z + 5) 0 0 (fun _ => 0) (fun _ => 0) := fun z hz => isT_gf (txA z hz) (fun j hj => og_25 j (by omega)) (fun j h1 h2 => of_25 j (by omega))
  have txA : ∀ z, z < 6 → isT G g_25 f_26 (k + 3 * z + 5) 0 0 (fun _ => 0) (fun _ => 0) := fun z hz => isT_gf (txA z hz) (fun j _ => rfl) (fun j h1 h2 => o_26 j (by omega))
  have taA : ∀ z, z < 6 → (aL [q3, q4, q5, q6, q7, q8]) z = some (g_24 (k + 3 * z + 5)) := fun z hz => (taA z hz).trans (congrArg some (og_24 _ (by omega)).symm)
  have taA : ∀ z, z < 6 → (aL [q3, q4, q5, q6, q7, q8]) z = some (g_25 (k + 3 * z + 5)) := fun z hz => (taA z hz).trans (congrArg some (og_25 _ (by omega)).symm)
  have taA : ∀ z, z < 6 → (aL [q3, q4, q5, q6, q7, q8]) z = some (g_25 (k + 3 * z + 5)) := taA
  have txA : ∀ z, z < 7 → isT G g_25 f_26 (k + 3 * z + 5) 0 0 (fun _ => 0) (fun _ => 0) := tx_ext (P := fun z => isT G g_25 f_26 (k + 3 * z + 5) 0 0 (fun _ => 0) (fun _ => 0)) txA pk_25_0
  have taA : ∀ z, z < 7 → (aL [q3, q4, q5, q6, q7, q8, q9]) z = some (g_25 (k + 3 * z + 5)) := ta_ext (L := [q3, q4, q5, q6, q7, q8]) (s := 3) (c := 5) rfl taA hg_24
  refine lv_iinc (v := 7) (lv' := [(2, .int 7), (0, .ref a), (1, .int 20)]) hx hb dX6_init_43 hl (k := 0) rfl (by decide) (by decide) rfl (fun ls hl => ?_)
  refine lv_goto (tgt := 25) hx hb dX6_init_46 (by decide) ?_
  refine lv_iload_n hx hb dX6_init_25 rfl (lv_at hl 0 rfl) ?_
  refine lv_iload_n hx hb dX6_init_26 rfl (lv_at hl 2 rfl) ?_
  refine lv_icmp_ge (tgt := 49) hx hb dX6_init_27 (by decide) (fun c_27 => absurd c_27 (by decide)) (fun c_27 => ?_)
  refine lv_aload_n hx hb dX6_init_30 rfl (lv_at hl 1 rfl) ?_
  replace hown0 := ((o_26 k (by first | exact lqD rfl | omega)).trans ((of_25 k (by first | exact lqA rfl | omega)).trans ((of_24 k (by first | exact lqA rfl | omega))))).trans hown0
  replace hga0 := gq.tr ((og_25 k (by first | exact lqA rfl | omega)).trans ((og_24 k (by first | exact lqA rfl | omega)))) hga0
  refine va_get (D := G.1) (ci := 6) (v := .ref q2) (C := RX6) (T := TX6) (N := 2) hx hb hts inlX6 hown hG.1 hP k (wn_at (by first | exact lqA rfl | exact lqB rfl | omega) hga0 hown0) rfl 0 (by decide) (hts (.fieldLink RX6 16 "SwornLists$Shelf" "texts" "[LSwornLists$Text;") w_82) (fun _ h9 => h9) rfl dX6_init_31 ?_
  refine lv_iload_n hx hb dX6_init_34 rfl (lv_at hl 0 rfl) ?_
  refine va_new (ci := 7) (fs := [.null, .null, .int 0, .int 0]) (C := RX8) (T := TX8) (N := 4) hx hb hts inlX8 tyX8 tyX8_ok hown (hts (.classLink RX6 7 RX8) w_78) (hts (.instantiable RX8 4) w_79) (hts (.initialized RX8) w_80) hG.1 hP hD hS hA rfl (fun j hj => by rcases (show j = 0 ∨ j = 1 ∨ j = 2 ∨ j = 3 by omega) with rfl | rfl | rfl | rfl <;> rfl) (Nat.le_of_ble_eq_true rfl) (Nat.le_of_ble_eq_true rfl) dX6_init_35 (fun q10 H hP hD hS => ?_)
  obtain ⟨g_27, f_27, hP, hD, hg_27, hf_27, og_27, of_27⟩ := n_ext hP hD
  have hf_27 : f_27 (k + 26) = eO 7 [.null, .null, .int 0, .int 0] := hf_27
  have hg_27 : gq (g_27 (k + 26)) q10 := hg_27
  have hP : va_P G.1 vwCl (wn (k + 27) g_27 f_27) H := hP
  have hD : va_D A (wn (k + 27) g_27 f_27) := hD
  refine W.widen (k := 26) (n := 856) (by omega) (by omega) ?_
  refine lv_dup hx hb dX6_init_38 rfl ?_
  refine n_call (va_runIN (As := []) (rest := [.ref q10, .int 7, .ref q2]) ⟨hx, hb, hml, hown, hts⟩ (i_text l G g_27 f_27 H.size (k + 26) q10 hg_27 hf_27) (⟨my_cn hts ok_X8_init.1 (hG.2.1 (.methodLinkNest RX6 9 yX8_init RX10) (List.mem_of_getElem? (i := 23) rfl)) rfl rfl ⟨Nat.le_of_ble_eq_true rfl, Nat.le_of_ble_eq_true rfl⟩, rfl, hts _ ok_X8_init.2.2.1⟩) ⟨nP.blind, fun U hU hW => ⟨rfl, by rw [hU], by rw [hU]; exact hP, kG.warm hW hG, hD.weaken (fun _ _ _ _ => trivial)⟩⟩ rfl rfl hl.1 rfl (lv_room (Nat.le_of_ble_eq_true rfl)) dX6_init_39 ⟨Nat.le_of_ble_eq_true rfl, Nat.le_of_ble_eq_true rfl⟩) hD hS hA (fun g_28 f_28 H locs og_28 hq9 hP hD hS => ?_)
  obtain ⟨hq_28_0, hx_28_0, of_28⟩ := hq9
  have hfq_28_0 : f_28 (k + 26) = eO 7 [.ref (g_28 (k + 27)), .ref (g_28 (k + 28)), .int 0, .int 0] := hq_28_0
  have pk_28_0 : isT G g_28 f_28 (k + 26) 0 0 (fun _ => 0) (fun _ => 0) := hx_28_0
  have hP : va_P G.1 vwCl (wn (k + 29) g_28 f_28) H := hP
  have hD : va_D A (wn (k + 29) g_28 f_28) := hD
  refine W.widen (k := 28) (n := 956) (by omega) (by omega) ?_
  replace hf_4 := ((of_28 (k + 4) (by first | exact lqB rfl | omega)).trans ((of_27 (k + 4) (by first | exact lqB rfl | omega)))).trans hf_4
  replace hg_4 := gq.tr ((og_28 (k + 4) (by first | exact lqB rfl | omega)).trans ((og_27 (k + 4) (by first | exact lqB rfl | omega)))) hg_4
  replace hg_27 := gq.tr ((og_28 (k + 26) (by first | exact lqB rfl | omega))) hg_27
  refine va_astq (r := (RX8, TX8, 4)) hx hb hG.1 hP hD hS (k + 4) 5 (k + 26) 7 (wn_at (by first | exact lqA rfl | exact lqB rfl | omega) hg_4 hf_4) rfl (wn_at (by first | exact lqA rfl | exact lqB rfl | omega) hg_27 hfq_28_0) rfl (by unfold vp_in; decide) dX6_init_42 (fun H locs hP hD hS => ?_)
  have ef : va_up (aL [q3, q4, q5, q6, q7, q8, q9]) (Int32.toNatClampNeg 7) (some q10) = aL [q3, q4, q5, q6, q7, q8, q9, q10] := aL_push [q3, q4, q5, q6, q7, q8, q9] q10
  have hP := (congrArg (fun z9 => va_P G.1 vwCl ((wn (k + 29) g_28 f_28).set (k + 4) (q2, eA G 5 20 z9)) H) ef).mp hP
  have hD := (congrArg (fun z9 => va_D A ((wn (k + 29) g_28 f_28).set (k + 4) (q2, eA G 5 20 z9))) ef).mp hD
  obtain ⟨f_29, hP, hD, e_29, o_29⟩ := n_put (by first | exact lqA rfl | exact lqB rfl | omega) hg_4 hP hD
  have hf_4 : f_29 (k + 4) = eA G 5 20 (aL [q3, q4, q5, q6, q7, q8, q9, q10]) := e_29
  have pk_28_0 : isT G g_28 f_29 (k + 26) 0 0 (fun _ => 0) (fun _ => 0) := isT_gf pk_28_0 (fun j _ => rfl) (fun j h1 h2 => o_29 j (by omega))
  have txA : ∀ z, z < 7 → isT G g_27 f_27 (k + 3 * z + 5) 0 0 (fun _ => 0) (fun _ => 0) := fun z hz => isT_gf (txA z hz) (fun j hj => og_27 j (by omega)) (fun j h1 h2 => of_27 j (by omega))
  have txA : ∀ z, z < 7 → isT G g_28 f_28 (k + 3 * z + 5) 0 0 (fun _ => 0) (fun _ => 0) := fun z hz => isT_gf (txA z hz) (fun j hj => og_28 j (by omega)) (fun j h1 h2 => of_28 j (by omega))
  have txA : ∀ z, z < 7 → isT G g_28 f_29 (k + 3 * z + 5) 0 0 (fun _ => 0) (fun _ => 0) := fun z hz => isT_gf (txA z hz) (fun j _ => rfl) (fun j h1 h2 => o_29 j (by omega))
  have taA : ∀ z, z < 7 → (aL [q3, q4, q5, q6, q7, q8, q9]) z = some (g_27 (k + 3 * z + 5)) := fun z hz => (taA z hz).trans (congrArg some (og_27 _ (by omega)).symm)
  have taA : ∀ z, z < 7 → (aL [q3, q4, q5, q6, q7, q8, q9]) z = some (g_28 (k + 3 * z + 5)) := fun z hz => (taA z hz).trans (congrArg some (og_28 _ (by omega)).symm)
  have taA : ∀ z, z < 7 → (aL [q3, q4, q5, q6, q7, q8, q9]) z = some (g_28 (k + 3 * z + 5)) := taA
  have txA : ∀ z, z < 8 → isT G g_28 f_29 (k + 3 * z + 5) 0 0 (fun _ => 0) (fun _ => 0) := tx_ext (P := fun z => isT G g_28 f_29 (k + 3 * z + 5) 0 0 (fun _ => 0) (fun _ => 0)) txA pk_28_0
  have taA : ∀ z, z < 8 → (aL [q3, q4, q5, q6, q7, q8, q9, q10]) z = some (g_28 (k + 3 * z + 5)) := ta_ext (L := [q3, q4, q5, q6, q7, q8, q9]) (s := 3) (c := 5) rfl taA hg_27
  refine lv_iinc (v := 8) (lv' := [(2, .int 8), (0, .ref a), (1, .int 20)]) hx hb dX6_init_43 hl (k := 0) rfl (by decide) (by decide) rfl (fun ls hl => ?_)
  refine lv_goto (tgt := 25) hx hb dX6_init_46 (by decide) ?_
  refine lv_iload_n hx hb dX6_init_25 rfl (lv_at hl 0 rfl) ?_
  refine lv_iload_n hx hb dX6_init_26 rfl (lv_at hl 2 rfl) ?_
  refine lv_icmp_ge (tgt := 49) hx hb dX6_init_27 (by decide) (fun c_27 => absurd c_27 (by decide)) (fun c_27 => ?_)
  refine lv_aload_n hx hb dX6_init_30 rfl (lv_at hl 1 rfl) ?_
  replace hown0 := ((o_29 k (by first | exact lqD rfl | omega)).trans ((of_28 k (by first | exact lqA rfl | omega)).trans ((of_27 k (by first | exact lqA rfl | omega))))).trans hown0
  replace hga0 := gq.tr ((og_28 k (by first | exact lqA rfl | omega)).trans ((og_27 k (by first | exact lqA rfl | omega)))) hga0
  refine va_get (D := G.1) (ci := 6) (v := .ref q2) (C := RX6) (T := TX6) (N := 2) hx hb hts inlX6 hown hG.1 hP k (wn_at (by first | exact lqA rfl | exact lqB rfl | omega) hga0 hown0) rfl 0 (by decide) (hts (.fieldLink RX6 16 "SwornLists$Shelf" "texts" "[LSwornLists$Text;") w_82) (fun _ h9 => h9) rfl dX6_init_31 ?_
  refine lv_iload_n hx hb dX6_init_34 rfl (lv_at hl 0 rfl) ?_
  refine va_new (ci := 7) (fs := [.null, .null, .int 0, .int 0]) (C := RX8) (T := TX8) (N := 4) hx hb hts inlX8 tyX8 tyX8_ok hown (hts (.classLink RX6 7 RX8) w_78) (hts (.instantiable RX8 4) w_79) (hts (.initialized RX8) w_80) hG.1 hP hD hS hA rfl (fun j hj => by rcases (show j = 0 ∨ j = 1 ∨ j = 2 ∨ j = 3 by omega) with rfl | rfl | rfl | rfl <;> rfl) (Nat.le_of_ble_eq_true rfl) (Nat.le_of_ble_eq_true rfl) dX6_init_35 (fun q11 H hP hD hS => ?_)
  obtain ⟨g_30, f_30, hP, hD, hg_30, hf_30, og_30, of_30⟩ := n_ext hP hD
  have hf_30 : f_30 (k + 29) = eO 7 [.null, .null, .int 0, .int 0] := hf_30
  have hg_30 : gq (g_30 (k + 29)) q11 := hg_30
  have hP : va_P G.1 vwCl (wn (k + 30) g_30 f_30) H := hP
  have hD : va_D A (wn (k + 30) g_30 f_30) := hD
  refine W.widen (k := 29) (n := 960) (by omega) (by omega) ?_
  refine lv_dup hx hb dX6_init_38 rfl ?_
  refine n_call (va_runIN (As := []) (rest := [.ref q11, .int 8, .ref q2]) ⟨hx, hb, hml, hown, hts⟩ (i_text l G g_30 f_30 H.size (k + 29) q11 hg_30 hf_30) (⟨my_cn hts ok_X8_init.1 (hG.2.1 (.methodLinkNest RX6 9 yX8_init RX10) (List.mem_of_getElem? (i := 23) rfl)) rfl rfl ⟨Nat.le_of_ble_eq_true rfl, Nat.le_of_ble_eq_true rfl⟩, rfl, hts _ ok_X8_init.2.2.1⟩) ⟨nP.blind, fun U hU hW => ⟨rfl, by rw [hU], by rw [hU]; exact hP, kG.warm hW hG, hD.weaken (fun _ _ _ _ => trivial)⟩⟩ rfl rfl hl.1 rfl (lv_room (Nat.le_of_ble_eq_true rfl)) dX6_init_39 ⟨Nat.le_of_ble_eq_true rfl, Nat.le_of_ble_eq_true rfl⟩) hD hS hA (fun g_31 f_31 H locs og_31 hq9 hP hD hS => ?_)
  obtain ⟨hq_31_0, hx_31_0, of_31⟩ := hq9
  have hfq_31_0 : f_31 (k + 29) = eO 7 [.ref (g_31 (k + 30)), .ref (g_31 (k + 31)), .int 0, .int 0] := hq_31_0
  have pk_31_0 : isT G g_31 f_31 (k + 29) 0 0 (fun _ => 0) (fun _ => 0) := hx_31_0
  have hP : va_P G.1 vwCl (wn (k + 32) g_31 f_31) H := hP
  have hD : va_D A (wn (k + 32) g_31 f_31) := hD
  refine W.widen (k := 31) (n := 1060) (by omega) (by omega) ?_
  replace hf_4 := ((of_31 (k + 4) (by first | exact lqB rfl | omega)).trans ((of_30 (k + 4) (by first | exact lqB rfl | omega)))).trans hf_4
  replace hg_4 := gq.tr ((og_31 (k + 4) (by first | exact lqB rfl | omega)).trans ((og_30 (k + 4) (by first | exact lqB rfl | omega)))) hg_4
  replace hg_30 := gq.tr ((og_31 (k + 29) (by first | exact lqB rfl | omega))) hg_30
  refine va_astq (r := (RX8, TX8, 4)) hx hb hG.1 hP hD hS (k + 4) 5 (k + 29) 7 (wn_at (by first | exact lqA rfl | exact lqB rfl | omega) hg_4 hf_4) rfl (wn_at (by first | exact lqA rfl | exact lqB rfl | omega) hg_30 hfq_31_0) rfl (by unfold vp_in; decide) dX6_init_42 (fun H locs hP hD hS => ?_)
  have ef : va_up (aL [q3, q4, q5, q6, q7, q8, q9, q10]) (Int32.toNatClampNeg 8) (some q11) = aL [q3, q4, q5, q6, q7, q8, q9, q10, q11] := aL_push [q3, q4, q5, q6, q7, q8, q9, q10] q11
  have hP := (congrArg (fun z9 => va_P G.1 vwCl ((wn (k + 32) g_31 f_31).set (k + 4) (q2, eA G 5 20 z9)) H) ef).mp hP
  have hD := (congrArg (fun z9 => va_D A ((wn (k + 32) g_31 f_31).set (k + 4) (q2, eA G 5 20 z9))) ef).mp hD
  obtain ⟨f_32, hP, hD, e_32, o_32⟩ := n_put (by first | exact lqA rfl | exact lqB rfl | omega) hg_4 hP hD
  have hf_4 : f_32 (k + 4) = eA G 5 20 (aL [q3, q4, q5, q6, q7, q8, q9, q10, q11]) := e_32
  have pk_31_0 : isT G g_31 f_32 (k + 29) 0 0 (fun _ => 0) (fun _ => 0) := isT_gf pk_31_0 (fun j _ => rfl) (fun j h1 h2 => o_32 j (by omega))
  have txA : ∀ z, z < 8 → isT G g_30 f_30 (k + 3 * z + 5) 0 0 (fun _ => 0) (fun _ => 0) := fun z hz => isT_gf (txA z hz) (fun j hj => og_30 j (by omega)) (fun j h1 h2 => of_30 j (by omega))
  have txA : ∀ z, z < 8 → isT G g_31 f_31 (k + 3 * z + 5) 0 0 (fun _ => 0) (fun _ => 0) := fun z hz => isT_gf (txA z hz) (fun j hj => og_31 j (by omega)) (fun j h1 h2 => of_31 j (by omega))
  have txA : ∀ z, z < 8 → isT G g_31 f_32 (k + 3 * z + 5) 0 0 (fun _ => 0) (fun _ => 0) := fun z hz => isT_gf (txA z hz) (fun j _ => rfl) (fun j h1 h2 => o_32 j (by omega))
  have taA : ∀ z, z < 8 → (aL [q3, q4, q5, q6, q7, q8, q9, q10]) z = some (g_30 (k + 3 * z + 5)) := fun z hz => (taA z hz).trans (congrArg some (og_30 _ (by omega)).symm)
  have taA : ∀ z, z < 8 → (aL [q3, q4, q5, q6, q7, q8, q9, q10]) z = some (g_31 (k + 3 * z + 5)) := fun z hz => (taA z hz).trans (congrArg some (og_31 _ (by omega)).symm)
  have taA : ∀ z, z < 8 → (aL [q3, q4, q5, q6, q7, q8, q9, q10]) z = some (g_31 (k + 3 * z + 5)) := taA
  have txA : ∀ z, z < 9 → isT G g_31 f_32 (k + 3 * z + 5) 0 0 (fun _ => 0) (fun _ => 0) := tx_ext (P := fun z => isT G g_31 f_32 (k + 3 * z + 5) 0 0 (fun _ => 0) (fun _ => 0)) txA pk_31_0
  have taA : ∀ z, z < 9 → (aL [q3, q4, q5, q6, q7, q8, q9, q10, q11]) z = some (g_31 (k + 3 * z + 5)) := ta_ext (L := [q3, q4, q5, q6, q7, q8, q9, q10]) (s := 3) (c := 5) rfl taA hg_30
  refine lv_iinc (v := 9) (lv' := [(2, .int 9), (0, .ref a), (1, .int 20)]) hx hb dX6_init_43 hl (k := 0) rfl (by decide) (by decide) rfl (fun ls hl => ?_)
  refine lv_goto (tgt := 25) hx hb dX6_init_46 (by decide) ?_
  refine lv_iload_n hx hb dX6_init_25 rfl (lv_at hl 0 rfl) ?_
  refine lv_iload_n hx hb dX6_init_26 rfl (lv_at hl 2 rfl) ?_
  refine lv_icmp_ge (tgt := 49) hx hb dX6_init_27 (by decide) (fun c_27 => absurd c_27 (by decide)) (fun c_27 => ?_)
  refine lv_aload_n hx hb dX6_init_30 rfl (lv_at hl 1 rfl) ?_
  replace hown0 := ((o_32 k (by first | exact lqD rfl | omega)).trans ((of_31 k (by first | exact lqA rfl | omega)).trans ((of_30 k (by first | exact lqA rfl | omega))))).trans hown0
  replace hga0 := gq.tr ((og_31 k (by first | exact lqA rfl | omega)).trans ((og_30 k (by first | exact lqA rfl | omega)))) hga0
  refine va_get (D := G.1) (ci := 6) (v := .ref q2) (C := RX6) (T := TX6) (N := 2) hx hb hts inlX6 hown hG.1 hP k (wn_at (by first | exact lqA rfl | exact lqB rfl | omega) hga0 hown0) rfl 0 (by decide) (hts (.fieldLink RX6 16 "SwornLists$Shelf" "texts" "[LSwornLists$Text;") w_82) (fun _ h9 => h9) rfl dX6_init_31 ?_
  refine lv_iload_n hx hb dX6_init_34 rfl (lv_at hl 0 rfl) ?_
  refine va_new (ci := 7) (fs := [.null, .null, .int 0, .int 0]) (C := RX8) (T := TX8) (N := 4) hx hb hts inlX8 tyX8 tyX8_ok hown (hts (.classLink RX6 7 RX8) w_78) (hts (.instantiable RX8 4) w_79) (hts (.initialized RX8) w_80) hG.1 hP hD hS hA rfl (fun j hj => by rcases (show j = 0 ∨ j = 1 ∨ j = 2 ∨ j = 3 by omega) with rfl | rfl | rfl | rfl <;> rfl) (Nat.le_of_ble_eq_true rfl) (Nat.le_of_ble_eq_true rfl) dX6_init_35 (fun q12 H hP hD hS => ?_)
  obtain ⟨g_33, f_33, hP, hD, hg_33, hf_33, og_33, of_33⟩ := n_ext hP hD
  have hf_33 : f_33 (k + 32) = eO 7 [.null, .null, .int 0, .int 0] := hf_33
  have hg_33 : gq (g_33 (k + 32)) q12 := hg_33
  have hP : va_P G.1 vwCl (wn (k + 33) g_33 f_33) H := hP
  have hD : va_D A (wn (k + 33) g_33 f_33) := hD
  refine W.widen (k := 32) (n := 1064) (by omega) (by omega) ?_
  refine lv_dup hx hb dX6_init_38 rfl ?_
  refine n_call (va_runIN (As := []) (rest := [.ref q12, .int 9, .ref q2]) ⟨hx, hb, hml, hown, hts⟩ (i_text l G g_33 f_33 H.size (k + 32) q12 hg_33 hf_33) (⟨my_cn hts ok_X8_init.1 (hG.2.1 (.methodLinkNest RX6 9 yX8_init RX10) (List.mem_of_getElem? (i := 23) rfl)) rfl rfl ⟨Nat.le_of_ble_eq_true rfl, Nat.le_of_ble_eq_true rfl⟩, rfl, hts _ ok_X8_init.2.2.1⟩) ⟨nP.blind, fun U hU hW => ⟨rfl, by rw [hU], by rw [hU]; exact hP, kG.warm hW hG, hD.weaken (fun _ _ _ _ => trivial)⟩⟩ rfl rfl hl.1 rfl (lv_room (Nat.le_of_ble_eq_true rfl)) dX6_init_39 ⟨Nat.le_of_ble_eq_true rfl, Nat.le_of_ble_eq_true rfl⟩) hD hS hA (fun g_34 f_34 H locs og_34 hq9 hP hD hS => ?_)
  obtain ⟨hq_34_0, hx_34_0, of_34⟩ := hq9
  have hfq_34_0 : f_34 (k + 32) = eO 7 [.ref (g_34 (k + 33)), .ref (g_34 (k + 34)), .int 0, .int 0] := hq_34_0
  have pk_34_0 : isT G g_34 f_34 (k + 32) 0 0 (fun _ => 0) (fun _ => 0) := hx_34_0
  have hP : va_P G.1 vwCl (wn (k + 35) g_34 f_34) H := hP
  have hD : va_D A (wn (k + 35) g_34 f_34) := hD
  refine W.widen (k := 34) (n := 1164) (by omega) (by omega) ?_
  replace hf_4 := ((of_34 (k + 4) (by first | exact lqB rfl | omega)).trans ((of_33 (k + 4) (by first | exact lqB rfl | omega)))).trans hf_4
  replace hg_4 := gq.tr ((og_34 (k + 4) (by first | exact lqB rfl | omega)).trans ((og_33 (k + 4) (by first | exact lqB rfl | omega)))) hg_4
  replace hg_33 := gq.tr ((og_34 (k + 32) (by first | exact lqB rfl | omega))) hg_33
  refine va_astq (r := (RX8, TX8, 4)) hx hb hG.1 hP hD hS (k + 4) 5 (k + 32) 7 (wn_at (by first | exact lqA rfl | exact lqB rfl | omega) hg_4 hf_4) rfl (wn_at (by first | exact lqA rfl | exact lqB rfl | omega) hg_33 hfq_34_0) rfl (by unfold vp_in; decide) dX6_init_42 (fun H locs hP hD hS => ?_)
  have ef : va_up (aL [q3, q4, q5, q6, q7, q8, q9, q10, q11]) (Int32.toNatClampNeg 9) (some q12) = aL [q3, q4, q5, q6, q7, q8, q9, q10, q11, q12] := aL_push [q3, q4, q5, q6, q7, q8, q9, q10, q11] q12
  have hP := (congrArg (fun z9 => va_P G.1 vwCl ((wn (k + 35) g_34 f_34).set (k + 4) (q2, eA G 5 20 z9)) H) ef).mp hP
  have hD := (congrArg (fun z9 => va_D A ((wn (k + 35) g_34 f_34).set (k + 4) (q2, eA G 5 20 z9))) ef).mp hD
  obtain ⟨f_35, hP, hD, e_35, o_35⟩ := n_put (by first | exact lqA rfl | exact lqB rfl | omega) hg_4 hP hD
  have hf_4 : f_35 (k + 4) = eA G 5 20 (aL [q3, q4, q5, q6, q7, q8, q9, q10, q11, q12]) := e_35
  have pk_34_0 : isT G g_34 f_35 (k + 32) 0 0 (fun _ => 0) (fun _ => 0) := isT_gf pk_34_0 (fun j _ => rfl) (fun j h1 h2 => o_35 j (by omega))
  have txA : ∀ z, z < 9 → isT G g_33 f_33 (k + 3 * z + 5) 0 0 (fun _ => 0) (fun _ => 0) := fun z hz => isT_gf (txA z hz) (fun j hj => og_33 j (by omega)) (fun j h1 h2 => of_33 j (by omega))
  have txA : ∀ z, z < 9 → isT G g_34 f_34 (k + 3 * z + 5) 0 0 (fun _ => 0) (fun _ => 0) := fun z hz => isT_gf (txA z hz) (fun j hj => og_34 j (by omega)) (fun j h1 h2 => of_34 j (by omega))
  have txA : ∀ z, z < 9 → isT G g_34 f_35 (k + 3 * z + 5) 0 0 (fun _ => 0) (fun _ => 0) := fun z hz => isT_gf (txA z hz) (fun j _ => rfl) (fun j h1 h2 => o_35 j (by omega))
  have taA : ∀ z, z < 9 → (aL [q3, q4, q5, q6, q7, q8, q9, q10, q11]) z = some (g_33 (k + 3 * z + 5)) := fun z hz => (taA z hz).trans (congrArg some (og_33 _ (by omega)).symm)
  have taA : ∀ z, z < 9 → (aL [q3, q4, q5, q6, q7, q8, q9, q10, q11]) z = some (g_34 (k + 3 * z + 5)) := fun z hz => (taA z hz).trans (congrArg some (og_34 _ (by omega)).symm)
  have taA : ∀ z, z < 9 → (aL [q3, q4, q5, q6, q7, q8, q9, q10, q11]) z = some (g_34 (k + 3 * z + 5)) := taA
  have txA : ∀ z, z < 10 → isT G g_34 f_35 (k + 3 * z + 5) 0 0 (fun _ => 0) (fun _ => 0) := tx_ext (P := fun z => isT G g_34 f_35 (k + 3 * z + 5) 0 0 (fun _ => 0) (fun _ => 0)) txA pk_34_0
  have taA : ∀ z, z < 10 → (aL [q3, q4, q5, q6, q7, q8, q9, q10, q11, q12]) z = some (g_34 (k + 3 * z + 5)) := ta_ext (L := [q3, q4, q5, q6, q7, q8, q9, q10, q11]) (s := 3) (c := 5) rfl taA hg_33
  refine lv_iinc (v := 10) (lv' := [(2, .int 10), (0, .ref a), (1, .int 20)]) hx hb dX6_init_43 hl (k := 0) rfl (by decide) (by decide) rfl (fun ls hl => ?_)
  refine lv_goto (tgt := 25) hx hb dX6_init_46 (by decide) ?_
  refine lv_iload_n hx hb dX6_init_25 rfl (lv_at hl 0 rfl) ?_
  refine lv_iload_n hx hb dX6_init_26 rfl (lv_at hl 2 rfl) ?_
  refine lv_icmp_ge (tgt := 49) hx hb dX6_init_27 (by decide) (fun c_27 => absurd c_27 (by decide)) (fun c_27 => ?_)
  refine lv_aload_n hx hb dX6_init_30 rfl (lv_at hl 1 rfl) ?_
  replace hown0 := ((o_35 k (by first | exact lqD rfl | omega)).trans ((of_34 k (by first | exact lqA rfl | omega)).trans ((of_33 k (by first | exact lqA rfl | omega))))).trans hown0
  replace hga0 := gq.tr ((og_34 k (by first | exact lqA rfl | omega)).trans ((og_33 k (by first | exact lqA rfl | omega)))) hga0
  refine va_get (D := G.1) (ci := 6) (v := .ref q2) (C := RX6) (T := TX6) (N := 2) hx hb hts inlX6 hown hG.1 hP k (wn_at (by first | exact lqA rfl | exact lqB rfl | omega) hga0 hown0) rfl 0 (by decide) (hts (.fieldLink RX6 16 "SwornLists$Shelf" "texts" "[LSwornLists$Text;") w_82) (fun _ h9 => h9) rfl dX6_init_31 ?_
  refine lv_iload_n hx hb dX6_init_34 rfl (lv_at hl 0 rfl) ?_
  refine va_new (ci := 7) (fs := [.null, .null, .int 0, .int 0]) (C := RX8) (T := TX8) (N := 4) hx hb hts inlX8 tyX8 tyX8_ok hown (hts (.classLink RX6 7 RX8) w_78) (hts (.instantiable RX8 4) w_79) (hts (.initialized RX8) w_80) hG.1 hP hD hS hA rfl (fun j hj => by rcases (show j = 0 ∨ j = 1 ∨ j = 2 ∨ j = 3 by omega) with rfl | rfl | rfl | rfl <;> rfl) (Nat.le_of_ble_eq_true rfl) (Nat.le_of_ble_eq_true rfl) dX6_init_35 (fun q13 H hP hD hS => ?_)
  obtain ⟨g_36, f_36, hP, hD, hg_36, hf_36, og_36, of_36⟩ := n_ext hP hD
  have hf_36 : f_36 (k + 35) = eO 7 [.null, .null, .int 0, .int 0] := hf_36
  have hg_36 : gq (g_36 (k + 35)) q13 := hg_36
  have hP : va_P G.1 vwCl (wn (k + 36) g_36 f_36) H := hP
  have hD : va_D A (wn (k + 36) g_36 f_36) := hD
  refine W.widen (k := 35) (n := 1168) (by omega) (by omega) ?_
  refine lv_dup hx hb dX6_init_38 rfl ?_
  refine n_call (va_runIN (As := []) (rest := [.ref q13, .int 10, .ref q2]) ⟨hx, hb, hml, hown, hts⟩ (i_text l G g_36 f_36 H.size (k + 35) q13 hg_36 hf_36) (⟨my_cn hts ok_X8_init.1 (hG.2.1 (.methodLinkNest RX6 9 yX8_init RX10) (List.mem_of_getElem? (i := 23) rfl)) rfl rfl ⟨Nat.le_of_ble_eq_true rfl, Nat.le_of_ble_eq_true rfl⟩, rfl, hts _ ok_X8_init.2.2.1⟩) ⟨nP.blind, fun U hU hW => ⟨rfl, by rw [hU], by rw [hU]; exact hP, kG.warm hW hG, hD.weaken (fun _ _ _ _ => trivial)⟩⟩ rfl rfl hl.1 rfl (lv_room (Nat.le_of_ble_eq_true rfl)) dX6_init_39 ⟨Nat.le_of_ble_eq_true rfl, Nat.le_of_ble_eq_true rfl⟩) hD hS hA (fun g_37 f_37 H locs og_37 hq9 hP hD hS => ?_)
  obtain ⟨hq_37_0, hx_37_0, of_37⟩ := hq9
  have hfq_37_0 : f_37 (k + 35) = eO 7 [.ref (g_37 (k + 36)), .ref (g_37 (k + 37)), .int 0, .int 0] := hq_37_0
  have pk_37_0 : isT G g_37 f_37 (k + 35) 0 0 (fun _ => 0) (fun _ => 0) := hx_37_0
  have hP : va_P G.1 vwCl (wn (k + 38) g_37 f_37) H := hP
  have hD : va_D A (wn (k + 38) g_37 f_37) := hD
  refine W.widen (k := 37) (n := 1268) (by omega) (by omega) ?_
  replace hf_4 := ((of_37 (k + 4) (by first | exact lqB rfl | omega)).trans ((of_36 (k + 4) (by first | exact lqB rfl | omega)))).trans hf_4
  replace hg_4 := gq.tr ((og_37 (k + 4) (by first | exact lqB rfl | omega)).trans ((og_36 (k + 4) (by first | exact lqB rfl | omega)))) hg_4
  replace hg_36 := gq.tr ((og_37 (k + 35) (by first | exact lqB rfl | omega))) hg_36
  refine va_astq (r := (RX8, TX8, 4)) hx hb hG.1 hP hD hS (k + 4) 5 (k + 35) 7 (wn_at (by first | exact lqA rfl | exact lqB rfl | omega) hg_4 hf_4) rfl (wn_at (by first | exact lqA rfl | exact lqB rfl | omega) hg_36 hfq_37_0) rfl (by unfold vp_in; decide) dX6_init_42 (fun H locs hP hD hS => ?_)
  have ef : va_up (aL [q3, q4, q5, q6, q7, q8, q9, q10, q11, q12]) (Int32.toNatClampNeg 10) (some q13) = aL [q3, q4, q5, q6, q7, q8, q9, q10, q11, q12, q13] := aL_push [q3, q4, q5, q6, q7, q8, q9, q10, q11, q12] q13
  have hP := (congrArg (fun z9 => va_P G.1 vwCl ((wn (k + 38) g_37 f_37).set (k + 4) (q2, eA G 5 20 z9)) H) ef).mp hP
  have hD := (congrArg (fun z9 => va_D A ((wn (k + 38) g_37 f_37).set (k + 4) (q2, eA G 5 20 z9))) ef).mp hD
  obtain ⟨f_38, hP, hD, e_38, o_38⟩ := n_put (by first | exact lqA rfl | exact lqB rfl | omega) hg_4 hP hD
  have hf_4 : f_38 (k + 4) = eA G 5 20 (aL [q3, q4, q5, q6, q7, q8, q9, q10, q11, q12, q13]) := e_38
  have pk_37_0 : isT G g_37 f_38 (k + 35) 0 0 (fun _ => 0) (fun _ => 0) := isT_gf pk_37_0 (fun j _ => rfl) (fun j h1 h2 => o_38 j (by omega))
  have txA : ∀ z, z < 10 → isT G g_36 f_36 (k + 3 * z + 5) 0 0 (fun _ => 0) (fun _ => 0) := fun z hz => isT_gf (txA z hz) (fun j hj => og_36 j (by omega)) (fun j h1 h2 => of_36 j (by omega))
  have txA : ∀ z, z < 10 → isT G g_37 f_37 (k + 3 * z + 5) 0 0 (fun _ => 0) (fun _ => 0) := fun z hz => isT_gf (txA z hz) (fun j hj => og_37 j (by omega)) (fun j h1 h2 => of_37 j (by omega))
  have txA : ∀ z, z < 10 → isT G g_37 f_38 (k + 3 * z + 5) 0 0 (fun _ => 0) (fun _ => 0) := fun z hz => isT_gf (txA z hz) (fun j _ => rfl) (fun j h1 h2 => o_38 j (by omega))
  have taA : ∀ z, z < 10 → (aL [q3, q4, q5, q6, q7, q8, q9, q10, q11, q12]) z = some (g_36 (k + 3 * z + 5)) := fun z hz => (taA z hz).trans (congrArg some (og_36 _ (by omega)).symm)
  have taA : ∀ z, z < 10 → (aL [q3, q4, q5, q6, q7, q8, q9, q10, q11, q12]) z = some (g_37 (k + 3 * z + 5)) := fun z hz => (taA z hz).trans (congrArg some (og_37 _ (by omega)).symm)
  have taA : ∀ z, z < 10 → (aL [q3, q4, q5, q6, q7, q8, q9, q10, q11, q12]) z = some (g_37 (k + 3 * z + 5)) := taA
  have txA : ∀ z, z < 11 → isT G g_37 f_38 (k + 3 * z + 5) 0 0 (fun _ => 0) (fun _ => 0) := tx_ext (P := fun z => isT G g_37 f_38 (k + 3 * z + 5) 0 0 (fun _ => 0) (fun _ => 0)) txA pk_37_0
  have taA : ∀ z, z < 11 → (aL [q3, q4, q5, q6, q7, q8, q9, q10, q11, q12, q13]) z = some (g_37 (k + 3 * z + 5)) := ta_ext (L := [q3, q4, q5, q6, q7, q8, q9, q10, q11, q12]) (s := 3) (c := 5) rfl taA hg_36
  refine lv_iinc (v := 11) (lv' := [(2, .int 11), (0, .ref a), (1, .int 20)]) hx hb dX6_init_43 hl (k := 0) rfl (by decide) (by decide) rfl (fun ls hl => ?_)
  refine lv_goto (tgt := 25) hx hb dX6_init_46 (by decide) ?_
  refine lv_iload_n hx hb dX6_init_25 rfl (lv_at hl 0 rfl) ?_
  refine lv_iload_n hx hb dX6_init_26 rfl (lv_at hl 2 rfl) ?_
  refine lv_icmp_ge (tgt := 49) hx hb dX6_init_27 (by decide) (fun c_27 => absurd c_27 (by decide)) (fun c_27 => ?_)
  refine lv_aload_n hx hb dX6_init_30 rfl (lv_at hl 1 rfl) ?_
  replace hown0 := ((o_38 k (by first | exact lqD rfl | omega)).trans ((of_37 k (by first | exact lqA rfl | omega)).trans ((of_36 k (by first | exact lqA rfl | omega))))).trans hown0
  replace hga0 := gq.tr ((og_37 k (by first | exact lqA rfl | omega)).trans ((og_36 k (by first | exact lqA rfl | omega)))) hga0
  refine va_get (D := G.1) (ci := 6) (v := .ref q2) (C := RX6) (T := TX6) (N := 2) hx hb hts inlX6 hown hG.1 hP k (wn_at (by first | exact lqA rfl | exact lqB rfl | omega) hga0 hown0) rfl 0 (by decide) (hts (.fieldLink RX6 16 "SwornLists$Shelf" "texts" "[LSwornLists$Text;") w_82) (fun _ h9 => h9) rfl dX6_init_31 ?_
  refine lv_iload_n hx hb dX6_init_34 rfl (lv_at hl 0 rfl) ?_
  refine va_new (ci := 7) (fs := [.null, .null, .int 0, .int 0]) (C := RX8) (T := TX8) (N := 4) hx hb hts inlX8 tyX8 tyX8_ok hown (hts (.classLink RX6 7 RX8) w_78) (hts (.instantiable RX8 4) w_79) (hts (.initialized RX8) w_80) hG.1 hP hD hS hA rfl (fun j hj => by rcases (show j = 0 ∨ j = 1 ∨ j = 2 ∨ j = 3 by omega) with rfl | rfl | rfl | rfl <;> rfl) (Nat.le_of_ble_eq_true rfl) (Nat.le_of_ble_eq_true rfl) dX6_init_35 (fun q14 H hP hD hS => ?_)
  obtain ⟨g_39, f_39, hP, hD, hg_39, hf_39, og_39, of_39⟩ := n_ext hP hD
  have hf_39 : f_39 (k + 38) = eO 7 [.null, .null, .int 0, .int 0] := hf_39
  have hg_39 : gq (g_39 (k + 38)) q14 := hg_39
  have hP : va_P G.1 vwCl (wn (k + 39) g_39 f_39) H := hP
  have hD : va_D A (wn (k + 39) g_39 f_39) := hD
  refine W.widen (k := 38) (n := 1272) (by omega) (by omega) ?_
  refine lv_dup hx hb dX6_init_38 rfl ?_
  refine n_call (va_runIN (As := []) (rest := [.ref q14, .int 11, .ref q2]) ⟨hx, hb, hml, hown, hts⟩ (i_text l G g_39 f_39 H.size (k + 38) q14 hg_39 hf_39) (⟨my_cn hts ok_X8_init.1 (hG.2.1 (.methodLinkNest RX6 9 yX8_init RX10) (List.mem_of_getElem? (i := 23) rfl)) rfl rfl ⟨Nat.le_of_ble_eq_true rfl, Nat.le_of_ble_eq_true rfl⟩, rfl, hts _ ok_X8_init.2.2.1⟩) ⟨nP.blind, fun U hU hW => ⟨rfl, by rw [hU], by rw [hU]; exact hP, kG.warm hW hG, hD.weaken (fun _ _ _ _ => trivial)⟩⟩ rfl rfl hl.1 rfl (lv_room (Nat.le_of_ble_eq_true rfl)) dX6_init_39 ⟨Nat.le_of_ble_eq_true rfl, Nat.le_of_ble_eq_true rfl⟩) hD hS hA (fun g_40 f_40 H locs og_40 hq9 hP hD hS => ?_)
  obtain ⟨hq_40_0, hx_40_0, of_40⟩ := hq9
  have hfq_40_0 : f_40 (k + 38) = eO 7 [.ref (g_40 (k + 39)), .ref (g_40 (k + 40)), .int 0, .int 0] := hq_40_0
  have pk_40_0 : isT G g_40 f_40 (k + 38) 0 0 (fun _ => 0) (fun _ => 0) := hx_40_0
  have hP : va_P G.1 vwCl (wn (k + 41) g_40 f_40) H := hP
  have hD : va_D A (wn (k + 41) g_40 f_40) := hD
  refine W.widen (k := 40) (n := 1372) (by omega) (by omega) ?_
  replace hf_4 := ((of_40 (k + 4) (by first | exact lqB rfl | omega)).trans ((of_39 (k + 4) (by first | exact lqB rfl | omega)))).trans hf_4
  replace hg_4 := gq.tr ((og_40 (k + 4) (by first | exact lqB rfl | omega)).trans ((og_39 (k + 4) (by first | exact lqB rfl | omega)))) hg_4
  replace hg_39 := gq.tr ((og_40 (k + 38) (by first | exact lqB rfl | omega))) hg_39
  refine va_astq (r := (RX8, TX8, 4)) hx hb hG.1 hP hD hS (k + 4) 5 (k + 38) 7 (wn_at (by first | exact lqA rfl | exact lqB rfl | omega) hg_4 hf_4) rfl (wn_at (by first | exact lqA rfl | exact lqB rfl | omega) hg_39 hfq_40_0) rfl (by unfold vp_in; decide) dX6_init_42 (fun H locs hP hD hS => ?_)
  have ef : va_up (aL [q3, q4, q5, q6, q7, q8, q9, q10, q11, q12, q13]) (Int32.toNatClampNeg 11) (some q14) = aL [q3, q4, q5, q6, q7, q8, q9, q10, q11, q12, q13, q14] := aL_push [q3, q4, q5, q6, q7, q8, q9, q10, q11, q12, q13] q14
  have hP := (congrArg (fun z9 => va_P G.1 vwCl ((wn (k + 41) g_40 f_40).set (k + 4) (q2, eA G 5 20 z9)) H) ef).mp hP
  have hD := (congrArg (fun z9 => va_D A ((wn (k + 41) g_40 f_40).set (k + 4) (q2, eA G 5 20 z9))) ef).mp hD
  obtain ⟨f_41, hP, hD, e_41, o_41⟩ := n_put (by first | exact lqA rfl | exact lqB rfl | omega) hg_4 hP hD
  have hf_4 : f_41 (k + 4) = eA G 5 20 (aL [q3, q4, q5, q6, q7, q8, q9, q10, q11, q12, q13, q14]) := e_41
  have pk_40_0 : isT G g_40 f_41 (k + 38) 0 0 (fun _ => 0) (fun _ => 0) := isT_gf pk_40_0 (fun j _ => rfl) (fun j h1 h2 => o_41 j (by omega))
  have txA : ∀ z, z < 11 → isT G g_39 f_39 (k + 3 * z + 5) 0 0 (fun _ => 0) (fun _ => 0) := fun z hz => isT_gf (txA z hz) (fun j hj => og_39 j (by omega)) (fun j h1 h2 => of_39 j (by omega))
  have txA : ∀ z, z < 11 → isT G g_40 f_40 (k + 3 * z + 5) 0 0 (fun _ => 0) (fun _ => 0) := fun z hz => isT_gf (txA z hz) (fun j hj => og_40 j (by omega)) (fun j h1 h2 => of_40 j (by omega))
  have txA : ∀ z, z < 11 → isT G g_40 f_41 (k + 3 * z + 5) 0 0 (fun _ => 0) (fun _ => 0) := fun z hz => isT_gf (txA z hz) (fun j _ => rfl) (fun j h1 h2 => o_41 j (by omega))
  have taA : ∀ z, z < 11 → (aL [q3, q4, q5, q6, q7, q8, q9, q10, q11, q12, q13]) z = some (g_39 (k + 3 * z + 5)) := fun z hz => (taA z hz).trans (congrArg some (og_39 _ (by omega)).symm)
  have taA : ∀ z, z < 11 → (aL [q3, q4, q5, q6, q7, q8, q9, q10, q11, q12, q13]) z = some (g_40 (k + 3 * z + 5)) := fun z hz => (taA z hz).trans (congrArg some (og_40 _ (by omega)).symm)
  have taA : ∀ z, z < 11 → (aL [q3, q4, q5, q6, q7, q8, q9, q10, q11, q12, q13]) z = some (g_40 (k + 3 * z + 5)) := taA
  have txA : ∀ z, z < 12 → isT G g_40 f_41 (k + 3 * z + 5) 0 0 (fun _ => 0) (fun _ => 0) := tx_ext (P := fun z => isT G g_40 f_41 (k + 3 * z + 5) 0 0 (fun _ => 0) (fun _ => 0)) txA pk_40_0
  have taA : ∀ z, z < 12 → (aL [q3, q4, q5, q6, q7, q8, q9, q10, q11, q12, q13, q14]) z = some (g_40 (k + 3 * z + 5)) := ta_ext (L := [q3, q4, q5, q6, q7, q8, q9, q10, q11, q12, q13]) (s := 3) (c := 5) rfl taA hg_39
  refine lv_iinc (v := 12) (lv' := [(2, .int 12), (0, .ref a), (1, .int 20)]) hx hb dX6_init_43 hl (k := 0) rfl (by decide) (by decide) rfl (fun ls hl => ?_)
  refine lv_goto (tgt := 25) hx hb dX6_init_46 (by decide) ?_
  refine lv_iload_n hx hb dX6_init_25 rfl (lv_at hl 0 rfl) ?_
  refine lv_iload_n hx hb dX6_init_26 rfl (lv_at hl 2 rfl) ?_
  refine lv_icmp_ge (tgt := 49) hx hb dX6_init_27 (by decide) (fun c_27 => absurd c_27 (by decide)) (fun c_27 => ?_)
  refine lv_aload_n hx hb dX6_init_30 rfl (lv_at hl 1 rfl) ?_
  replace hown0 := ((o_41 k (by first | exact lqD rfl | omega)).trans ((of_40 k (by first | exact lqA rfl | omega)).trans ((of_39 k (by first | exact lqA rfl | omega))))).trans hown0
  replace hga0 := gq.tr ((og_40 k (by first | exact lqA rfl | omega)).trans ((og_39 k (by first | exact lqA rfl | omega)))) hga0
  refine va_get (D := G.1) (ci := 6) (v := .ref q2) (C := RX6) (T := TX6) (N := 2) hx hb hts inlX6 hown hG.1 hP k (wn_at (by first | exact lqA rfl | exact lqB rfl | omega) hga0 hown0) rfl 0 (by decide) (hts (.fieldLink RX6 16 "SwornLists$Shelf" "texts" "[LSwornLists$Text;") w_82) (fun _ h9 => h9) rfl dX6_init_31 ?_
  refine lv_iload_n hx hb dX6_init_34 rfl (lv_at hl 0 rfl) ?_
  refine va_new (ci := 7) (fs := [.null, .null, .int 0, .int 0]) (C := RX8) (T := TX8) (N := 4) hx hb hts inlX8 tyX8 tyX8_ok hown (hts (.classLink RX6 7 RX8) w_78) (hts (.instantiable RX8 4) w_79) (hts (.initialized RX8) w_80) hG.1 hP hD hS hA rfl (fun j hj => by rcases (show j = 0 ∨ j = 1 ∨ j = 2 ∨ j = 3 by omega) with rfl | rfl | rfl | rfl <;> rfl) (Nat.le_of_ble_eq_true rfl) (Nat.le_of_ble_eq_true rfl) dX6_init_35 (fun q15 H hP hD hS => ?_)
  obtain ⟨g_42, f_42, hP, hD, hg_42, hf_42, og_42, of_42⟩ := n_ext hP hD
  have hf_42 : f_42 (k + 41) = eO 7 [.null, .null, .int 0, .int 0] := hf_42
  have hg_42 : gq (g_42 (k + 41)) q15 := hg_42
  have hP : va_P G.1 vwCl (wn (k + 42) g_42 f_42) H := hP
  have hD : va_D A (wn (k + 42) g_42 f_42) := hD
  refine W.widen (k := 41) (n := 1376) (by omega) (by omega) ?_
  refine lv_dup hx hb dX6_init_38 rfl ?_
  refine n_call (va_runIN (As := []) (rest := [.ref q15, .int 12, .ref q2]) ⟨hx, hb, hml, hown, hts⟩ (i_text l G g_42 f_42 H.size (k + 41) q15 hg_42 hf_42) (⟨my_cn hts ok_X8_init.1 (hG.2.1 (.methodLinkNest RX6 9 yX8_init RX10) (List.mem_of_getElem? (i := 23) rfl)) rfl rfl ⟨Nat.le_of_ble_eq_true rfl, Nat.le_of_ble_eq_true rfl⟩, rfl, hts _ ok_X8_init.2.2.1⟩) ⟨nP.blind, fun U hU hW => ⟨rfl, by rw [hU], by rw [hU]; exact hP, kG.warm hW hG, hD.weaken (fun _ _ _ _ => trivial)⟩⟩ rfl rfl hl.1 rfl (lv_room (Nat.le_of_ble_eq_true rfl)) dX6_init_39 ⟨Nat.le_of_ble_eq_true rfl, Nat.le_of_ble_eq_true rfl⟩) hD hS hA (fun g_43 f_43 H locs og_43 hq9 hP hD hS => ?_)
  obtain ⟨hq_43_0, hx_43_0, of_43⟩ := hq9
  have hfq_43_0 : f_43 (k + 41) = eO 7 [.ref (g_43 (k + 42)), .ref (g_43 (k + 43)), .int 0, .int 0] := hq_43_0
  have pk_43_0 : isT G g_43 f_43 (k + 41) 0 0 (fun _ => 0) (fun _ => 0) := hx_43_0
  have hP : va_P G.1 vwCl (wn (k + 44) g_43 f_43) H := hP
  have hD : va_D A (wn (k + 44) g_43 f_43) := hD
  refine W.widen (k := 43) (n := 1476) (by omega) (by omega) ?_
  replace hf_4 := ((of_43 (k + 4) (by first | exact lqB rfl | omega)).trans ((of_42 (k + 4) (by first | exact lqB rfl | omega)))).trans hf_4
  replace hg_4 := gq.tr ((og_43 (k + 4) (by first | exact lqB rfl | omega)).trans ((og_42 (k + 4) (by first | exact lqB rfl | omega)))) hg_4
  replace hg_42 := gq.tr ((og_43 (k + 41) (by first | exact lqB rfl | omega))) hg_42
  refine va_astq (r := (RX8, TX8, 4)) hx hb hG.1 hP hD hS (k + 4) 5 (k + 41) 7 (wn_at (by first | exact lqA rfl | exact lqB rfl | omega) hg_4 hf_4) rfl (wn_at (by first | exact lqA rfl | exact lqB rfl | omega) hg_42 hfq_43_0) rfl (by unfold vp_in; decide) dX6_init_42 (fun H locs hP hD hS => ?_)
  have ef : va_up (aL [q3, q4, q5, q6, q7, q8, q9, q10, q11, q12, q13, q14]) (Int32.toNatClampNeg 12) (some q15) = aL [q3, q4, q5, q6, q7, q8, q9, q10, q11, q12, q13, q14, q15] := aL_push [q3, q4, q5, q6, q7, q8, q9, q10, q11, q12, q13, q14] q15
  have hP := (congrArg (fun z9 => va_P G.1 vwCl ((wn (k + 44) g_43 f_43).set (k + 4) (q2, eA G 5 20 z9)) H) ef).mp hP
  have hD := (congrArg (fun z9 => va_D A ((wn (k + 44) g_43 f_43).set (k + 4) (q2, eA G 5 20 z9))) ef).mp hD
  obtain ⟨f_44, hP, hD, e_44, o_44⟩ := n_put (by first | exact lqA rfl | exact lqB rfl | omega) hg_4 hP hD
  have hf_4 : f_44 (k + 4) = eA G 5 20 (aL [q3, q4, q5, q6, q7, q8, q9, q10, q11, q12, q13, q14, q15]) := e_44
  have pk_43_0 : isT G g_43 f_44 (k + 41) 0 0 (fun _ => 0) (fun _ => 0) := isT_gf pk_43_0 (fun j _ => rfl) (fun j h1 h2 => o_44 j (by omega))
  have txA : ∀ z, z < 12 → isT G g_42 f_42 (k + 3 * z + 5) 0 0 (fun _ => 0) (fun _ => 0) := fun z hz => isT_gf (txA z hz) (fun j hj => og_42 j (by omega)) (fun j h1 h2 => of_42 j (by omega))
  have txA : ∀ z, z < 12 → isT G g_43 f_43 (k + 3 * z + 5) 0 0 (fun _ => 0) (fun _ => 0) := fun z hz => isT_gf (txA z hz) (fun j hj => og_43 j (by omega)) (fun j h1 h2 => of_43 j (by omega))
  have txA : ∀ z, z < 12 → isT G g_43 f_44 (k + 3 * z + 5) 0 0 (fun _ => 0) (fun _ => 0) := fun z hz => isT_gf (txA z hz) (fun j _ => rfl) (fun j h1 h2 => o_44 j (by omega))
  have taA : ∀ z, z < 12 → (aL [q3, q4, q5, q6, q7, q8, q9, q10, q11, q12, q13, q14]) z = some (g_42 (k + 3 * z + 5)) := fun z hz => (taA z hz).trans (congrArg some (og_42 _ (by omega)).symm)
  have taA : ∀ z, z < 12 → (aL [q3, q4, q5, q6, q7, q8, q9, q10, q11, q12, q13, q14]) z = some (g_43 (k + 3 * z + 5)) := fun z hz => (taA z hz).trans (congrArg some (og_43 _ (by omega)).symm)
  have taA : ∀ z, z < 12 → (aL [q3, q4, q5, q6, q7, q8, q9, q10, q11, q12, q13, q14]) z = some (g_43 (k + 3 * z + 5)) := taA
  have txA : ∀ z, z < 13 → isT G g_43 f_44 (k + 3 * z + 5) 0 0 (fun _ => 0) (fun _ => 0) := tx_ext (P := fun z => isT G g_43 f_44 (k + 3 * z + 5) 0 0 (fun _ => 0) (fun _ => 0)) txA pk_43_0
  have taA : ∀ z, z < 13 → (aL [q3, q4, q5, q6, q7, q8, q9, q10, q11, q12, q13, q14, q15]) z = some (g_43 (k + 3 * z + 5)) := ta_ext (L := [q3, q4, q5, q6, q7, q8, q9, q10, q11, q12, q13, q14]) (s := 3) (c := 5) rfl taA hg_42
  refine lv_iinc (v := 13) (lv' := [(2, .int 13), (0, .ref a), (1, .int 20)]) hx hb dX6_init_43 hl (k := 0) rfl (by decide) (by decide) rfl (fun ls hl => ?_)
  refine lv_goto (tgt := 25) hx hb dX6_init_46 (by decide) ?_
  refine lv_iload_n hx hb dX6_init_25 rfl (lv_at hl 0 rfl) ?_
  refine lv_iload_n hx hb dX6_init_26 rfl (lv_at hl 2 rfl) ?_
  refine lv_icmp_ge (tgt := 49) hx hb dX6_init_27 (by decide) (fun c_27 => absurd c_27 (by decide)) (fun c_27 => ?_)
  refine lv_aload_n hx hb dX6_init_30 rfl (lv_at hl 1 rfl) ?_
  replace hown0 := ((o_44 k (by first | exact lqD rfl | omega)).trans ((of_43 k (by first | exact lqA rfl | omega)).trans ((of_42 k (by first | exact lqA rfl | omega))))).trans hown0
  replace hga0 := gq.tr ((og_43 k (by first | exact lqA rfl | omega)).trans ((og_42 k (by first | exact lqA rfl | omega)))) hga0
  refine va_get (D := G.1) (ci := 6) (v := .ref q2) (C := RX6) (T := TX6) (N := 2) hx hb hts inlX6 hown hG.1 hP k (wn_at (by first | exact lqA rfl | exact lqB rfl | omega) hga0 hown0) rfl 0 (by decide) (hts (.fieldLink RX6 16 "SwornLists$Shelf" "texts" "[LSwornLists$Text;") w_82) (fun _ h9 => h9) rfl dX6_init_31 ?_
  refine lv_iload_n hx hb dX6_init_34 rfl (lv_at hl 0 rfl) ?_
  refine va_new (ci := 7) (fs := [.null, .null, .int 0, .int 0]) (C := RX8) (T := TX8) (N := 4) hx hb hts inlX8 tyX8 tyX8_ok hown (hts (.classLink RX6 7 RX8) w_78) (hts (.instantiable RX8 4) w_79) (hts (.initialized RX8) w_80) hG.1 hP hD hS hA rfl (fun j hj => by rcases (show j = 0 ∨ j = 1 ∨ j = 2 ∨ j = 3 by omega) with rfl | rfl | rfl | rfl <;> rfl) (Nat.le_of_ble_eq_true rfl) (Nat.le_of_ble_eq_true rfl) dX6_init_35 (fun q16 H hP hD hS => ?_)
  obtain ⟨g_45, f_45, hP, hD, hg_45, hf_45, og_45, of_45⟩ := n_ext hP hD
  have hf_45 : f_45 (k + 44) = eO 7 [.null, .null, .int 0, .int 0] := hf_45
  have hg_45 : gq (g_45 (k + 44)) q16 := hg_45
  have hP : va_P G.1 vwCl (wn (k + 45) g_45 f_45) H := hP
  have hD : va_D A (wn (k + 45) g_45 f_45) := hD
  refine W.widen (k := 44) (n := 1480) (by omega) (by omega) ?_
  refine lv_dup hx hb dX6_init_38 rfl ?_
  refine n_call (va_runIN (As := []) (rest := [.ref q16, .int 13, .ref q2]) ⟨hx, hb, hml, hown, hts⟩ (i_text l G g_45 f_45 H.size (k + 44) q16 hg_45 hf_45) (⟨my_cn hts ok_X8_init.1 (hG.2.1 (.methodLinkNest RX6 9 yX8_init RX10) (List.mem_of_getElem? (i := 23) rfl)) rfl rfl ⟨Nat.le_of_ble_eq_true rfl, Nat.le_of_ble_eq_true rfl⟩, rfl, hts _ ok_X8_init.2.2.1⟩) ⟨nP.blind, fun U hU hW => ⟨rfl, by rw [hU], by rw [hU]; exact hP, kG.warm hW hG, hD.weaken (fun _ _ _ _ => trivial)⟩⟩ rfl rfl hl.1 rfl (lv_room (Nat.le_of_ble_eq_true rfl)) dX6_init_39 ⟨Nat.le_of_ble_eq_true rfl, Nat.le_of_ble_eq_true rfl⟩) hD hS hA (fun g_46 f_46 H locs og_46 hq9 hP hD hS => ?_)
  obtain ⟨hq_46_0, hx_46_0, of_46⟩ := hq9
  have hfq_46_0 : f_46 (k + 44) = eO 7 [.ref (g_46 (k + 45)), .ref (g_46 (k + 46)), .int 0, .int 0] := hq_46_0
  have pk_46_0 : isT G g_46 f_46 (k + 44) 0 0 (fun _ => 0) (fun _ => 0) := hx_46_0
  have hP : va_P G.1 vwCl (wn (k + 47) g_46 f_46) H := hP
  have hD : va_D A (wn (k + 47) g_46 f_46) := hD
  refine W.widen (k := 46) (n := 1580) (by omega) (by omega) ?_
  replace hf_4 := ((of_46 (k + 4) (by first | exact lqB rfl | omega)).trans ((of_45 (k + 4) (by first | exact lqB rfl | omega)))).trans hf_4
  replace hg_4 := gq.tr ((og_46 (k + 4) (by first | exact lqB rfl | omega)).trans ((og_45 (k + 4) (by first | exact lqB rfl | omega)))) hg_4
  replace hg_45 := gq.tr ((og_46 (k + 44) (by first | exact lqB rfl | omega))) hg_45
  refine va_astq (r := (RX8, TX8, 4)) hx hb hG.1 hP hD hS (k + 4) 5 (k + 44) 7 (wn_at (by first | exact lqA rfl | exact lqB rfl | omega) hg_4 hf_4) rfl (wn_at (by first | exact lqA rfl | exact lqB rfl | omega) hg_45 hfq_46_0) rfl (by unfold vp_in; decide) dX6_init_42 (fun H locs hP hD hS => ?_)
  have ef : va_up (aL [q3, q4, q5, q6, q7, q8, q9, q10, q11, q12, q13, q14, q15]) (Int32.toNatClampNeg 13) (some q16) = aL [q3, q4, q5, q6, q7, q8, q9, q10, q11, q12, q13, q14, q15, q16] := aL_push [q3, q4, q5, q6, q7, q8, q9, q10, q11, q12, q13, q14, q15] q16
  have hP := (congrArg (fun z9 => va_P G.1 vwCl ((wn (k + 47) g_46 f_46).set (k + 4) (q2, eA G 5 20 z9)) H) ef).mp hP
  have hD := (congrArg (fun z9 => va_D A ((wn (k + 47) g_46 f_46).set (k + 4) (q2, eA G 5 20 z9))) ef).mp hD
  obtain ⟨f_47, hP, hD, e_47, o_47⟩ := n_put (by first | exact lqA rfl | exact lqB rfl | omega) hg_4 hP hD
  have hf_4 : f_47 (k + 4) = eA G 5 20 (aL [q3, q4, q5, q6, q7, q8, q9, q10, q11, q12, q13, q14, q15, q16]) := e_47
  have pk_46_0 : isT G g_46 f_47 (k + 44) 0 0 (fun _ => 0) (fun _ => 0) := isT_gf pk_46_0 (fun j _ => rfl) (fun j h1 h2 => o_47 j (by omega))
  have txA : ∀ z, z < 13 → isT G g_45 f_45 (k + 3 * z + 5) 0 0 (fun _ => 0) (fun _ => 0) := fun z hz => isT_gf (txA z hz) (fun j hj => og_45 j (by omega)) (fun j h1 h2 => of_45 j (by omega))
  have txA : ∀ z, z < 13 → isT G g_46 f_46 (k + 3 * z + 5) 0 0 (fun _ => 0) (fun _ => 0) := fun z hz => isT_gf (txA z hz) (fun j hj => og_46 j (by omega)) (fun j h1 h2 => of_46 j (by omega))
  have txA : ∀ z, z < 13 → isT G g_46 f_47 (k + 3 * z + 5) 0 0 (fun _ => 0) (fun _ => 0) := fun z hz => isT_gf (txA z hz) (fun j _ => rfl) (fun j h1 h2 => o_47 j (by omega))
  have taA : ∀ z, z < 13 → (aL [q3, q4, q5, q6, q7, q8, q9, q10, q11, q12, q13, q14, q15]) z = some (g_45 (k + 3 * z + 5)) := fun z hz => (taA z hz).trans (congrArg some (og_45 _ (by omega)).symm)
  have taA : ∀ z, z < 13 → (aL [q3, q4, q5, q6, q7, q8, q9, q10, q11, q12, q13, q14, q15]) z = some (g_46 (k + 3 * z + 5)) := fun z hz => (taA z hz).trans (congrArg some (og_46 _ (by omega)).symm)
  have taA : ∀ z, z < 13 → (aL [q3, q4, q5, q6, q7, q8, q9, q10, q11, q12, q13, q14, q15]) z = some (g_46 (k + 3 * z + 5)) := taA
  have txA : ∀ z, z < 14 → isT G g_46 f_47 (k + 3 * z + 5) 0 0 (fun _ => 0) (fun _ => 0) := tx_ext (P := fun z => isT G g_46 f_47 (k + 3 * z + 5) 0 0 (fun _ => 0) (fun _ => 0)) txA pk_46_0
  have taA : ∀ z, z < 14 → (aL [q3, q4, q5, q6, q7, q8, q9, q10, q11, q12, q13, q14, q15, q16]) z = some (g_46 (k + 3 * z + 5)) := ta_ext (L := [q3, q4, q5, q6, q7, q8, q9, q10, q11, q12, q13, q14, q15]) (s := 3) (c := 5) rfl taA hg_45
  refine lv_iinc (v := 14) (lv' := [(2, .int 14), (0, .ref a), (1, .int 20)]) hx hb dX6_init_43 hl (k := 0) rfl (by decide) (by decide) rfl (fun ls hl => ?_)
  refine lv_goto (tgt := 25) hx hb dX6_init_46 (by decide) ?_
  refine lv_iload_n hx hb dX6_init_25 rfl (lv_at hl 0 rfl) ?_
  refine lv_iload_n hx hb dX6_init_26 rfl (lv_at hl 2 rfl) ?_
  refine lv_icmp_ge (tgt := 49) hx hb dX6_init_27 (by decide) (fun c_27 => absurd c_27 (by decide)) (fun c_27 => ?_)
  refine lv_aload_n hx hb dX6_init_30 rfl (lv_at hl 1 rfl) ?_
  replace hown0 := ((o_47 k (by first | exact lqD rfl | omega)).trans ((of_46 k (by first | exact lqA rfl | omega)).trans ((of_45 k (by first | exact lqA rfl | omega))))).trans hown0
  replace hga0 := gq.tr ((og_46 k (by first | exact lqA rfl | omega)).trans ((og_45 k (by first | exact lqA rfl | omega)))) hga0
  refine va_get (D := G.1) (ci := 6) (v := .ref q2) (C := RX6) (T := TX6) (N := 2) hx hb hts inlX6 hown hG.1 hP k (wn_at (by first | exact lqA rfl | exact lqB rfl | omega) hga0 hown0) rfl 0 (by decide) (hts (.fieldLink RX6 16 "SwornLists$Shelf" "texts" "[LSwornLists$Text;") w_82) (fun _ h9 => h9) rfl dX6_init_31 ?_
  refine lv_iload_n hx hb dX6_init_34 rfl (lv_at hl 0 rfl) ?_
  refine va_new (ci := 7) (fs := [.null, .null, .int 0, .int 0]) (C := RX8) (T := TX8) (N := 4) hx hb hts inlX8 tyX8 tyX8_ok hown (hts (.classLink RX6 7 RX8) w_78) (hts (.instantiable RX8 4) w_79) (hts (.initialized RX8) w_80) hG.1 hP hD hS hA rfl (fun j hj => by rcases (show j = 0 ∨ j = 1 ∨ j = 2 ∨ j = 3 by omega) with rfl | rfl | rfl | rfl <;> rfl) (Nat.le_of_ble_eq_true rfl) (Nat.le_of_ble_eq_true rfl) dX6_init_35 (fun q17 H hP hD hS => ?_)
  obtain ⟨g_48, f_48, hP, hD, hg_48, hf_48, og_48, of_48⟩ := n_ext hP hD
  have hf_48 : f_48 (k + 47) = eO 7 [.null, .null, .int 0, .int 0] := hf_48
  have hg_48 : gq (g_48 (k + 47)) q17 := hg_48
  have hP : va_P G.1 vwCl (wn (k + 48) g_48 f_48) H := hP
  have hD : va_D A (wn (k + 48) g_48 f_48) := hD
  refine W.widen (k := 47) (n := 1584) (by omega) (by omega) ?_
  refine lv_dup hx hb dX6_init_38 rfl ?_
  refine n_call (va_runIN (As := []) (rest := [.ref q17, .int 14, .ref q2]) ⟨hx, hb, hml, hown, hts⟩ (i_text l G g_48 f_48 H.size (k + 47) q17 hg_48 hf_48) (⟨my_cn hts ok_X8_init.1 (hG.2.1 (.methodLinkNest RX6 9 yX8_init RX10) (List.mem_of_getElem? (i := 23) rfl)) rfl rfl ⟨Nat.le_of_ble_eq_true rfl, Nat.le_of_ble_eq_true rfl⟩, rfl, hts _ ok_X8_init.2.2.1⟩) ⟨nP.blind, fun U hU hW => ⟨rfl, by rw [hU], by rw [hU]; exact hP, kG.warm hW hG, hD.weaken (fun _ _ _ _ => trivial)⟩⟩ rfl rfl hl.1 rfl (lv_room (Nat.le_of_ble_eq_true rfl)) dX6_init_39 ⟨Nat.le_of_ble_eq_true rfl, Nat.le_of_ble_eq_true rfl⟩) hD hS hA (fun g_49 f_49 H locs og_49 hq9 hP hD hS => ?_)
  obtain ⟨hq_49_0, hx_49_0, of_49⟩ := hq9
  have hfq_49_0 : f_49 (k + 47) = eO 7 [.ref (g_49 (k + 48)), .ref (g_49 (k + 49)), .int 0, .int 0] := hq_49_0
  have pk_49_0 : isT G g_49 f_49 (k + 47) 0 0 (fun _ => 0) (fun _ => 0) := hx_49_0
  have hP : va_P G.1 vwCl (wn (k + 50) g_49 f_49) H := hP
  have hD : va_D A (wn (k + 50) g_49 f_49) := hD
  refine W.widen (k := 49) (n := 1684) (by omega) (by omega) ?_
  replace hf_4 := ((of_49 (k + 4) (by first | exact lqB rfl | omega)).trans ((of_48 (k + 4) (by first | exact lqB rfl | omega)))).trans hf_4
  replace hg_4 := gq.tr ((og_49 (k + 4) (by first | exact lqB rfl | omega)).trans ((og_48 (k + 4) (by first | exact lqB rfl | omega)))) hg_4
  replace hg_48 := gq.tr ((og_49 (k + 47) (by first | exact lqB rfl | omega))) hg_48
  refine va_astq (r := (RX8, TX8, 4)) hx hb hG.1 hP hD hS (k + 4) 5 (k + 47) 7 (wn_at (by first | exact lqA rfl | exact lqB rfl | omega) hg_4 hf_4) rfl (wn_at (by first | exact lqA rfl | exact lqB rfl | omega) hg_48 hfq_49_0) rfl (by unfold vp_in; decide) dX6_init_42 (fun H locs hP hD hS => ?_)
  have ef : va_up (aL [q3, q4, q5, q6, q7, q8, q9, q10, q11, q12, q13, q14, q15, q16]) (Int32.toNatClampNeg 14) (some q17) = aL [q3, q4, q5, q6, q7, q8, q9, q10, q11, q12, q13, q14, q15, q16, q17] := aL_push [q3, q4, q5, q6, q7, q8, q9, q10, q11, q12, q13, q14, q15, q16] q17
  have hP := (congrArg (fun z9 => va_P G.1 vwCl ((wn (k + 50) g_49 f_49).set (k + 4) (q2, eA G 5 20 z9)) H) ef).mp hP
  have hD := (congrArg (fun z9 => va_D A ((wn (k + 50) g_49 f_49).set (k + 4) (q2, eA G 5 20 z9))) ef).mp hD
  obtain ⟨f_50, hP, hD, e_50, o_50⟩ := n_put (by first | exact lqA rfl | exact lqB rfl | omega) hg_4 hP hD
  have hf_4 : f_50 (k + 4) = eA G 5 20 (aL [q3, q4, q5, q6, q7, q8, q9, q10, q11, q12, q13, q14, q15, q16, q17]) := e_50
  have pk_49_0 : isT G g_49 f_50 (k + 47) 0 0 (fun _ => 0) (fun _ => 0) := isT_gf pk_49_0 (fun j _ => rfl) (fun j h1 h2 => o_50 j (by omega))
  have txA : ∀ z, z < 14 → isT G g_48 f_48 (k + 3 * z + 5) 0 0 (fun _ => 0) (fun _ => 0) := fun z hz => isT_gf (txA z hz) (fun j hj => og_48 j (by omega)) (fun j h1 h2 => of_48 j (by omega))
  have txA : ∀ z, z < 14 → isT G g_49 f_49 (k + 3 * z + 5) 0 0 (fun _ => 0) (fun _ => 0) := fun z hz => isT_gf (txA z hz) (fun j hj => og_49 j (by omega)) (fun j h1 h2 => of_49 j (by omega))
  have txA : ∀ z, z < 14 → isT G g_49 f_50 (k + 3 * z + 5) 0 0 (fun _ => 0) (fun _ => 0) := fun z hz => isT_gf (txA z hz) (fun j _ => rfl) (fun j h1 h2 => o_50 j (by omega))
  have taA : ∀ z, z < 14 → (aL [q3, q4, q5, q6, q7, q8, q9, q10, q11, q12, q13, q14, q15, q16]) z = some (g_48 (k + 3 * z + 5)) := fun z hz => (taA z hz).trans (congrArg some (og_48 _ (by omega)).symm)
  have taA : ∀ z, z < 14 → (aL [q3, q4, q5, q6, q7, q8, q9, q10, q11, q12, q13, q14, q15, q16]) z = some (g_49 (k + 3 * z + 5)) := fun z hz => (taA z hz).trans (congrArg some (og_49 _ (by omega)).symm)
  have taA : ∀ z, z < 14 → (aL [q3, q4, q5, q6, q7, q8, q9, q10, q11, q12, q13, q14, q15, q16]) z = some (g_49 (k + 3 * z + 5)) := taA
  have txA : ∀ z, z < 15 → isT G g_49 f_50 (k + 3 * z + 5) 0 0 (fun _ => 0) (fun _ => 0) := tx_ext (P := fun z => isT G g_49 f_50 (k + 3 * z + 5) 0 0 (fun _ => 0) (fun _ => 0)) txA pk_49_0
  have taA : ∀ z, z < 15 → (aL [q3, q4, q5, q6, q7, q8, q9, q10, q11, q12, q13, q14, q15, q16, q17]) z = some (g_49 (k + 3 * z + 5)) := ta_ext (L := [q3, q4, q5, q6, q7, q8, q9, q10, q11, q12, q13, q14, q15, q16]) (s := 3) (c := 5) rfl taA hg_48
  refine lv_iinc (v := 15) (lv' := [(2, .int 15), (0, .ref a), (1, .int 20)]) hx hb dX6_init_43 hl (k := 0) rfl (by decide) (by decide) rfl (fun ls hl => ?_)
  refine lv_goto (tgt := 25) hx hb dX6_init_46 (by decide) ?_
  refine lv_iload_n hx hb dX6_init_25 rfl (lv_at hl 0 rfl) ?_
  refine lv_iload_n hx hb dX6_init_26 rfl (lv_at hl 2 rfl) ?_
  refine lv_icmp_ge (tgt := 49) hx hb dX6_init_27 (by decide) (fun c_27 => absurd c_27 (by decide)) (fun c_27 => ?_)
  refine lv_aload_n hx hb dX6_init_30 rfl (lv_at hl 1 rfl) ?_
  replace hown0 := ((o_50 k (by first | exact lqD rfl | omega)).trans ((of_49 k (by first | exact lqA rfl | omega)).trans ((of_48 k (by first | exact lqA rfl | omega))))).trans hown0
  replace hga0 := gq.tr ((og_49 k (by first | exact lqA rfl | omega)).trans ((og_48 k (by first | exact lqA rfl | omega)))) hga0
  refine va_get (D := G.1) (ci := 6) (v := .ref q2) (C := RX6) (T := TX6) (N := 2) hx hb hts inlX6 hown hG.1 hP k (wn_at (by first | exact lqA rfl | exact lqB rfl | omega) hga0 hown0) rfl 0 (by decide) (hts (.fieldLink RX6 16 "SwornLists$Shelf" "texts" "[LSwornLists$Text;") w_82) (fun _ h9 => h9) rfl dX6_init_31 ?_
  refine lv_iload_n hx hb dX6_init_34 rfl (lv_at hl 0 rfl) ?_
  refine va_new (ci := 7) (fs := [.null, .null, .int 0, .int 0]) (C := RX8) (T := TX8) (N := 4) hx hb hts inlX8 tyX8 tyX8_ok hown (hts (.classLink RX6 7 RX8) w_78) (hts (.instantiable RX8 4) w_79) (hts (.initialized RX8) w_80) hG.1 hP hD hS hA rfl (fun j hj => by rcases (show j = 0 ∨ j = 1 ∨ j = 2 ∨ j = 3 by omega) with rfl | rfl | rfl | rfl <;> rfl) (Nat.le_of_ble_eq_true rfl) (Nat.le_of_ble_eq_true rfl) dX6_init_35 (fun q18 H hP hD hS => ?_)
  obtain ⟨g_51, f_51, hP, hD, hg_51, hf_51, og_51, of_51⟩ := n_ext hP hD
  have hf_51 : f_51 (k + 50) = eO 7 [.null, .null, .int 0, .int 0] := hf_51
  have hg_51 : gq (g_51 (k + 50)) q18 := hg_51
  have hP : va_P G.1 vwCl (wn (k + 51) g_51 f_51) H := hP
  have hD : va_D A (wn (k + 51) g_51 f_51) := hD
  refine W.widen (k := 50) (n := 1688) (by omega) (by omega) ?_
  refine lv_dup hx hb dX6_init_38 rfl ?_
  refine n_call (va_runIN (As := []) (rest := [.ref q18, .int 15, .ref q2]) ⟨hx, hb, hml, hown, hts⟩ (i_text l G g_51 f_51 H.size (k + 50) q18 hg_51 hf_51) (⟨my_cn hts ok_X8_init.1 (hG.2.1 (.methodLinkNest RX6 9 yX8_init RX10) (List.mem_of_getElem? (i := 23) rfl)) rfl rfl ⟨Nat.le_of_ble_eq_true rfl, Nat.le_of_ble_eq_true rfl⟩, rfl, hts _ ok_X8_init.2.2.1⟩) ⟨nP.blind, fun U hU hW => ⟨rfl, by rw [hU], by rw [hU]; exact hP, kG.warm hW hG, hD.weaken (fun _ _ _ _ => trivial)⟩⟩ rfl rfl hl.1 rfl (lv_room (Nat.le_of_ble_eq_true rfl)) dX6_init_39 ⟨Nat.le_of_ble_eq_true rfl, Nat.le_of_ble_eq_true rfl⟩) hD hS hA (fun g_52 f_52 H locs og_52 hq9 hP hD hS => ?_)
  obtain ⟨hq_52_0, hx_52_0, of_52⟩ := hq9
  have hfq_52_0 : f_52 (k + 50) = eO 7 [.ref (g_52 (k + 51)), .ref (g_52 (k + 52)), .int 0, .int 0] := hq_52_0
  have pk_52_0 : isT G g_52 f_52 (k + 50) 0 0 (fun _ => 0) (fun _ => 0) := hx_52_0
  have hP : va_P G.1 vwCl (wn (k + 53) g_52 f_52) H := hP
  have hD : va_D A (wn (k + 53) g_52 f_52) := hD
  refine W.widen (k := 52) (n := 1788) (by omega) (by omega) ?_
  replace hf_4 := ((of_52 (k + 4) (by first | exact lqB rfl | omega)).trans ((of_51 (k + 4) (by first | exact lqB rfl | omega)))).trans hf_4
  replace hg_4 := gq.tr ((og_52 (k + 4) (by first | exact lqB rfl | omega)).trans ((og_51 (k + 4) (by first | exact lqB rfl | omega)))) hg_4
  replace hg_51 := gq.tr ((og_52 (k + 50) (by first | exact lqB rfl | omega))) hg_51
  refine va_astq (r := (RX8, TX8, 4)) hx hb hG.1 hP hD hS (k + 4) 5 (k + 50) 7 (wn_at (by first | exact lqA rfl | exact lqB rfl | omega) hg_4 hf_4) rfl (wn_at (by first | exact lqA rfl | exact lqB rfl | omega) hg_51 hfq_52_0) rfl (by unfold vp_in; decide) dX6_init_42 (fun H locs hP hD hS => ?_)
  have ef : va_up (aL [q3, q4, q5, q6, q7, q8, q9, q10, q11, q12, q13, q14, q15, q16, q17]) (Int32.toNatClampNeg 15) (some q18) = aL [q3, q4, q5, q6, q7, q8, q9, q10, q11, q12, q13, q14, q15, q16, q17, q18] := aL_push [q3, q4, q5, q6, q7, q8, q9, q10, q11, q12, q13, q14, q15, q16, q17] q18
  have hP := (congrArg (fun z9 => va_P G.1 vwCl ((wn (k + 53) g_52 f_52).set (k + 4) (q2, eA G 5 20 z9)) H) ef).mp hP
  have hD := (congrArg (fun z9 => va_D A ((wn (k + 53) g_52 f_52).set (k + 4) (q2, eA G 5 20 z9))) ef).mp hD
  obtain ⟨f_53, hP, hD, e_53, o_53⟩ := n_put (by first | exact lqA rfl | exact lqB rfl | omega) hg_4 hP hD
  have hf_4 : f_53 (k + 4) = eA G 5 20 (aL [q3, q4, q5, q6, q7, q8, q9, q10, q11, q12, q13, q14, q15, q16, q17, q18]) := e_53
  have pk_52_0 : isT G g_52 f_53 (k + 50) 0 0 (fun _ => 0) (fun _ => 0) := isT_gf pk_52_0 (fun j _ => rfl) (fun j h1 h2 => o_53 j (by omega))
  have txA : ∀ z, z < 15 → isT G g_51 f_51 (k + 3 * z + 5) 0 0 (fun _ => 0) (fun _ => 0) := fun z hz => isT_gf (txA z hz) (fun j hj => og_51 j (by omega)) (fun j h1 h2 => of_51 j (by omega))
  have txA : ∀ z, z < 15 → isT G g_52 f_52 (k + 3 * z + 5) 0 0 (fun _ => 0) (fun _ => 0) := fun z hz => isT_gf (txA z hz) (fun j hj => og_52 j (by omega)) (fun j h1 h2 => of_52 j (by omega))
  have txA : ∀ z, z < 15 → isT G g_52 f_53 (k + 3 * z + 5) 0 0 (fun _ => 0) (fun _ => 0) := fun z hz => isT_gf (txA z hz) (fun j _ => rfl) (fun j h1 h2 => o_53 j (by omega))
  have taA : ∀ z, z < 15 → (aL [q3, q4, q5, q6, q7, q8, q9, q10, q11, q12, q13, q14, q15, q16, q17]) z = some (g_51 (k + 3 * z + 5)) := fun z hz => (taA z hz).trans (congrArg some (og_51 _ (by omega)).symm)
  have taA : ∀ z, z < 15 → (aL [q3, q4, q5, q6, q7, q8, q9, q10, q11, q12, q13, q14, q15, q16, q17]) z = some (g_52 (k + 3 * z + 5)) := fun z hz => (taA z hz).trans (congrArg some (og_52 _ (by omega)).symm)
  have taA : ∀ z, z < 15 → (aL [q3, q4, q5, q6, q7, q8, q9, q10, q11, q12, q13, q14, q15, q16, q17]) z = some (g_52 (k + 3 * z + 5)) := taA
  have txA : ∀ z, z < 16 → isT G g_52 f_53 (k + 3 * z + 5) 0 0 (fun _ => 0) (fun _ => 0) := tx_ext (P := fun z => isT G g_52 f_53 (k + 3 * z + 5) 0 0 (fun _ => 0) (fun _ => 0)) txA pk_52_0
  have taA : ∀ z, z < 16 → (aL [q3, q4, q5, q6, q7, q8, q9, q10, q11, q12, q13, q14, q15, q16, q17, q18]) z = some (g_52 (k + 3 * z + 5)) := ta_ext (L := [q3, q4, q5, q6, q7, q8, q9, q10, q11, q12, q13, q14, q15, q16, q17]) (s := 3) (c := 5) rfl taA hg_51
  refine lv_iinc (v := 16) (lv' := [(2, .int 16), (0, .ref a), (1, .int 20)]) hx hb dX6_init_43 hl (k := 0) rfl (by decide) (by decide) rfl (fun ls hl => ?_)
  refine lv_goto (tgt := 25) hx hb dX6_init_46 (by decide) ?_
  refine lv_iload_n hx hb dX6_init_25 rfl (lv_at hl 0 rfl) ?_
  refine lv_iload_n hx hb dX6_init_26 rfl (lv_at hl 2 rfl) ?_
  refine lv_icmp_ge (tgt := 49) hx hb dX6_init_27 (by decide) (fun c_27 => absurd c_27 (by decide)) (fun c_27 => ?_)
  refine lv_aload_n hx hb dX6_init_30 rfl (lv_at hl 1 rfl) ?_
  replace hown0 := ((o_53 k (by first | exact lqD rfl | omega)).trans ((of_52 k (by first | exact lqA rfl | omega)).trans ((of_51 k (by first | exact lqA rfl | omega))))).trans hown0
  replace hga0 := gq.tr ((og_52 k (by first | exact lqA rfl | omega)).trans ((og_51 k (by first | exact lqA rfl | omega)))) hga0
  refine va_get (D := G.1) (ci := 6) (v := .ref q2) (C := RX6) (T := TX6) (N := 2) hx hb hts inlX6 hown hG.1 hP k (wn_at (by first | exact lqA rfl | exact lqB rfl | omega) hga0 hown0) rfl 0 (by decide) (hts (.fieldLink RX6 16 "SwornLists$Shelf" "texts" "[LSwornLists$Text;") w_82) (fun _ h9 => h9) rfl dX6_init_31 ?_
  refine lv_iload_n hx hb dX6_init_34 rfl (lv_at hl 0 rfl) ?_
  refine va_new (ci := 7) (fs := [.null, .null, .int 0, .int 0]) (C := RX8) (T := TX8) (N := 4) hx hb hts inlX8 tyX8 tyX8_ok hown (hts (.classLink RX6 7 RX8) w_78) (hts (.instantiable RX8 4) w_79) (hts (.initialized RX8) w_80) hG.1 hP hD hS hA rfl (fun j hj => by rcases (show j = 0 ∨ j = 1 ∨ j = 2 ∨ j = 3 by omega) with rfl | rfl | rfl | rfl <;> rfl) (Nat.le_of_ble_eq_true rfl) (Nat.le_of_ble_eq_true rfl) dX6_init_35 (fun q19 H hP hD hS => ?_)
  obtain ⟨g_54, f_54, hP, hD, hg_54, hf_54, og_54, of_54⟩ := n_ext hP hD
  have hf_54 : f_54 (k + 53) = eO 7 [.null, .null, .int 0, .int 0] := hf_54
  have hg_54 : gq (g_54 (k + 53)) q19 := hg_54
  have hP : va_P G.1 vwCl (wn (k + 54) g_54 f_54) H := hP
  have hD : va_D A (wn (k + 54) g_54 f_54) := hD
  refine W.widen (k := 53) (n := 1792) (by omega) (by omega) ?_
  refine lv_dup hx hb dX6_init_38 rfl ?_
  refine n_call (va_runIN (As := []) (rest := [.ref q19, .int 16, .ref q2]) ⟨hx, hb, hml, hown, hts⟩ (i_text l G g_54 f_54 H.size (k + 53) q19 hg_54 hf_54) (⟨my_cn hts ok_X8_init.1 (hG.2.1 (.methodLinkNest RX6 9 yX8_init RX10) (List.mem_of_getElem? (i := 23) rfl)) rfl rfl ⟨Nat.le_of_ble_eq_true rfl, Nat.le_of_ble_eq_true rfl⟩, rfl, hts _ ok_X8_init.2.2.1⟩) ⟨nP.blind, fun U hU hW => ⟨rfl, by rw [hU], by rw [hU]; exact hP, kG.warm hW hG, hD.weaken (fun _ _ _ _ => trivial)⟩⟩ rfl rfl hl.1 rfl (lv_room (Nat.le_of_ble_eq_true rfl)) dX6_init_39 ⟨Nat.le_of_ble_eq_true rfl, Nat.le_of_ble_eq_true rfl⟩) hD hS hA (fun g_55 f_55 H locs og_55 hq9 hP hD hS => ?_)
  obtain ⟨hq_55_0, hx_55_0, of_55⟩ := hq9
  have hfq_55_0 : f_55 (k + 53) = eO 7 [.ref (g_55 (k + 54)), .ref (g_55 (k + 55)), .int 0, .int 0] := hq_55_0
  have pk_55_0 : isT G g_55 f_55 (k + 53) 0 0 (fun _ => 0) (fun _ => 0) := hx_55_0
  have hP : va_P G.1 vwCl (wn (k + 56) g_55 f_55) H := hP
  have hD : va_D A (wn (k + 56) g_55 f_55) := hD
  refine W.widen (k := 55) (n := 1892) (by omega) (by omega) ?_
  replace hf_4 := ((of_55 (k + 4) (by first | exact lqB rfl | omega)).trans ((of_54 (k + 4) (by first | exact lqB rfl | omega)))).trans hf_4
  replace hg_4 := gq.tr ((og_55 (k + 4) (by first | exact lqB rfl | omega)).trans ((og_54 (k + 4) (by first | exact lqB rfl | omega)))) hg_4
  replace hg_54 := gq.tr ((og_55 (k + 53) (by first | exact lqB rfl | omega))) hg_54
  refine va_astq (r := (RX8, TX8, 4)) hx hb hG.1 hP hD hS (k + 4) 5 (k + 53) 7 (wn_at (by first | exact lqA rfl | exact lqB rfl | omega) hg_4 hf_4) rfl (wn_at (by first | exact lqA rfl | exact lqB rfl | omega) hg_54 hfq_55_0) rfl (by unfold vp_in; decide) dX6_init_42 (fun H locs hP hD hS => ?_)
  have ef : va_up (aL [q3, q4, q5, q6, q7, q8, q9, q10, q11, q12, q13, q14, q15, q16, q17, q18]) (Int32.toNatClampNeg 16) (some q19) = aL [q3, q4, q5, q6, q7, q8, q9, q10, q11, q12, q13, q14, q15, q16, q17, q18, q19] := aL_push [q3, q4, q5, q6, q7, q8, q9, q10, q11, q12, q13, q14, q15, q16, q17, q18] q19
  have hP := (congrArg (fun z9 => va_P G.1 vwCl ((wn (k + 56) g_55 f_55).set (k + 4) (q2, eA G 5 20 z9)) H) ef).mp hP
  have hD := (congrArg (fun z9 => va_D A ((wn (k + 56) g_55 f_55).set (k + 4) (q2, eA G 5 20 z9))) ef).mp hD
  obtain ⟨f_56, hP, hD, e_56, o_56⟩ := n_put (by first | exact lqA rfl | exact lqB rfl | omega) hg_4 hP hD
  have hf_4 : f_56 (k + 4) = eA G 5 20 (aL [q3, q4, q5, q6, q7, q8, q9, q10, q11, q12, q13, q14, q15, q16, q17, q18, q19]) := e_56
  have pk_55_0 : isT G g_55 f_56 (k + 53) 0 0 (fun _ => 0) (fun _ => 0) := isT_gf pk_55_0 (fun j _ => rfl) (fun j h1 h2 => o_56 j (by omega))
  have txA : ∀ z, z < 16 → isT G g_54 f_54 (k + 3 * z + 5) 0 0 (fun _ => 0) (fun _ => 0) := fun z hz => isT_gf (txA z hz) (fun j hj => og_54 j (by omega)) (fun j h1 h2 => of_54 j (by omega))
  have txA : ∀ z, z < 16 → isT G g_55 f_55 (k + 3 * z + 5) 0 0 (fun _ => 0) (fun _ => 0) := fun z hz => isT_gf (txA z hz) (fun j hj => og_55 j (by omega)) (fun j h1 h2 => of_55 j (by omega))
  have txA : ∀ z, z < 16 → isT G g_55 f_56 (k + 3 * z + 5) 0 0 (fun _ => 0) (fun _ => 0) := fun z hz => isT_gf (txA z hz) (fun j _ => rfl) (fun j h1 h2 => o_56 j (by omega))
  have taA : ∀ z, z < 16 → (aL [q3, q4, q5, q6, q7, q8, q9, q10, q11, q12, q13, q14, q15, q16, q17, q18]) z = some (g_54 (k + 3 * z + 5)) := fun z hz => (taA z hz).trans (congrArg some (og_54 _ (by omega)).symm)
  have taA : ∀ z, z < 16 → (aL [q3, q4, q5, q6, q7, q8, q9, q10, q11, q12, q13, q14, q15, q16, q17, q18]) z = some (g_55 (k + 3 * z + 5)) := fun z hz => (taA z hz).trans (congrArg some (og_55 _ (by omega)).symm)
  have taA : ∀ z, z < 16 → (aL [q3, q4, q5, q6, q7, q8, q9, q10, q11, q12, q13, q14, q15, q16, q17, q18]) z = some (g_55 (k + 3 * z + 5)) := taA
  have txA : ∀ z, z < 17 → isT G g_55 f_56 (k + 3 * z + 5) 0 0 (fun _ => 0) (fun _ => 0) := tx_ext (P := fun z => isT G g_55 f_56 (k + 3 * z + 5) 0 0 (fun _ => 0) (fun _ => 0)) txA pk_55_0
  have taA : ∀ z, z < 17 → (aL [q3, q4, q5, q6, q7, q8, q9, q10, q11, q12, q13, q14, q15, q16, q17, q18, q19]) z = some (g_55 (k + 3 * z + 5)) := ta_ext (L := [q3, q4, q5, q6, q7, q8, q9, q10, q11, q12, q13, q14, q15, q16, q17, q18]) (s := 3) (c := 5) rfl taA hg_54
  refine lv_iinc (v := 17) (lv' := [(2, .int 17), (0, .ref a), (1, .int 20)]) hx hb dX6_init_43 hl (k := 0) rfl (by decide) (by decide) rfl (fun ls hl => ?_)
  refine lv_goto (tgt := 25) hx hb dX6_init_46 (by decide) ?_
  refine lv_iload_n hx hb dX6_init_25 rfl (lv_at hl 0 rfl) ?_
  refine lv_iload_n hx hb dX6_init_26 rfl (lv_at hl 2 rfl) ?_
  refine lv_icmp_ge (tgt := 49) hx hb dX6_init_27 (by decide) (fun c_27 => absurd c_27 (by decide)) (fun c_27 => ?_)
  refine lv_aload_n hx hb dX6_init_30 rfl (lv_at hl 1 rfl) ?_
  replace hown0 := ((o_56 k (by first | exact lqD rfl | omega)).trans ((of_55 k (by first | exact lqA rfl | omega)).trans ((of_54 k (by first | exact lqA rfl | omega))))).trans hown0
  replace hga0 := gq.tr ((og_55 k (by first | exact lqA rfl | omega)).trans ((og_54 k (by first | exact lqA rfl | omega)))) hga0
  refine va_get (D := G.1) (ci := 6) (v := .ref q2) (C := RX6) (T := TX6) (N := 2) hx hb hts inlX6 hown hG.1 hP k (wn_at (by first | exact lqA rfl | exact lqB rfl | omega) hga0 hown0) rfl 0 (by decide) (hts (.fieldLink RX6 16 "SwornLists$Shelf" "texts" "[LSwornLists$Text;") w_82) (fun _ h9 => h9) rfl dX6_init_31 ?_
  refine lv_iload_n hx hb dX6_init_34 rfl (lv_at hl 0 rfl) ?_
  refine va_new (ci := 7) (fs := [.null, .null, .int 0, .int 0]) (C := RX8) (T := TX8) (N := 4) hx hb hts inlX8 tyX8 tyX8_ok hown (hts (.classLink RX6 7 RX8) w_78) (hts (.instantiable RX8 4) w_79) (hts (.initialized RX8) w_80) hG.1 hP hD hS hA rfl (fun j hj => by rcases (show j = 0 ∨ j = 1 ∨ j = 2 ∨ j = 3 by omega) with rfl | rfl | rfl | rfl <;> rfl) (Nat.le_of_ble_eq_true rfl) (Nat.le_of_ble_eq_true rfl) dX6_init_35 (fun q20 H hP hD hS => ?_)
  obtain ⟨g_57, f_57, hP, hD, hg_57, hf_57, og_57, of_57⟩ := n_ext hP hD
  have hf_57 : f_57 (k + 56) = eO 7 [.null, .null, .int 0, .int 0] := hf_57
  have hg_57 : gq (g_57 (k + 56)) q20 := hg_57
  have hP : va_P G.1 vwCl (wn (k + 57) g_57 f_57) H := hP
  have hD : va_D A (wn (k + 57) g_57 f_57) := hD
  refine W.widen (k := 56) (n := 1896) (by omega) (by omega) ?_
  refine lv_dup hx hb dX6_init_38 rfl ?_
  refine n_call (va_runIN (As := []) (rest := [.ref q20, .int 17, .ref q2]) ⟨hx, hb, hml, hown, hts⟩ (i_text l G g_57 f_57 H.size (k + 56) q20 hg_57 hf_57) (⟨my_cn hts ok_X8_init.1 (hG.2.1 (.methodLinkNest RX6 9 yX8_init RX10) (List.mem_of_getElem? (i := 23) rfl)) rfl rfl ⟨Nat.le_of_ble_eq_true rfl, Nat.le_of_ble_eq_true rfl⟩, rfl, hts _ ok_X8_init.2.2.1⟩) ⟨nP.blind, fun U hU hW => ⟨rfl, by rw [hU], by rw [hU]; exact hP, kG.warm hW hG, hD.weaken (fun _ _ _ _ => trivial)⟩⟩ rfl rfl hl.1 rfl (lv_room (Nat.le_of_ble_eq_true rfl)) dX6_init_39 ⟨Nat.le_of_ble_eq_true rfl, Nat.le_of_ble_eq_true rfl⟩) hD hS hA (fun g_58 f_58 H locs og_58 hq9 hP hD hS => ?_)
  obtain ⟨hq_58_0, hx_58_0, of_58⟩ := hq9
  have hfq_58_0 : f_58 (k + 56) = eO 7 [.ref (g_58 (k + 57)), .ref (g_58 (k + 58)), .int 0, .int 0] := hq_58_0
  have pk_58_0 : isT G g_58 f_58 (k + 56) 0 0 (fun _ => 0) (fun _ => 0) := hx_58_0
  have hP : va_P G.1 vwCl (wn (k + 59) g_58 f_58) H := hP
  have hD : va_D A (wn (k + 59) g_58 f_58) := hD
  refine W.widen (k := 58) (n := 1996) (by omega) (by omega) ?_
  replace hf_4 := ((of_58 (k + 4) (by first | exact lqB rfl | omega)).trans ((of_57 (k + 4) (by first | exact lqB rfl | omega)))).trans hf_4
  replace hg_4 := gq.tr ((og_58 (k + 4) (by first | exact lqB rfl | omega)).trans ((og_57 (k + 4) (by first | exact lqB rfl | omega)))) hg_4
  replace hg_57 := gq.tr ((og_58 (k + 56) (by first | exact lqB rfl | omega))) hg_57
  refine va_astq (r := (RX8, TX8, 4)) hx hb hG.1 hP hD hS (k + 4) 5 (k + 56) 7 (wn_at (by first | exact lqA rfl | exact lqB rfl | omega) hg_4 hf_4) rfl (wn_at (by first | exact lqA rfl | exact lqB rfl | omega) hg_57 hfq_58_0) rfl (by unfold vp_in; decide) dX6_init_42 (fun H locs hP hD hS => ?_)
  have ef : va_up (aL [q3, q4, q5, q6, q7, q8, q9, q10, q11, q12, q13, q14, q15, q16, q17, q18, q19]) (Int32.toNatClampNeg 17) (some q20) = aL [q3, q4, q5, q6, q7, q8, q9, q10, q11, q12, q13, q14, q15, q16, q17, q18, q19, q20] := aL_push [q3, q4, q5, q6, q7, q8, q9, q10, q11, q12, q13, q14, q15, q16, q17, q18, q19] q20
  have hP := (congrArg (fun z9 => va_P G.1 vwCl ((wn (k + 59) g_58 f_58).set (k + 4) (q2, eA G 5 20 z9)) H) ef).mp hP
  have hD := (congrArg (fun z9 => va_D A ((wn (k + 59) g_58 f_58).set (k + 4) (q2, eA G 5 20 z9))) ef).mp hD
  obtain ⟨f_59, hP, hD, e_59, o_59⟩ := n_put (by first | exact lqA rfl | exact lqB rfl | omega) hg_4 hP hD
  have hf_4 : f_59 (k + 4) = eA G 5 20 (aL [q3, q4, q5, q6, q7, q8, q9, q10, q11, q12, q13, q14, q15, q16, q17, q18, q19, q20]) := e_59
  have pk_58_0 : isT G g_58 f_59 (k + 56) 0 0 (fun _ => 0) (fun _ => 0) := isT_gf pk_58_0 (fun j _ => rfl) (fun j h1 h2 => o_59 j (by omega))
  have txA : ∀ z, z < 17 → isT G g_57 f_57 (k + 3 * z + 5) 0 0 (fun _ => 0) (fun _ => 0) := fun z hz => isT_gf (txA z hz) (fun j hj => og_57 j (by omega)) (fun j h1 h2 => of_57 j (by omega))
  have txA : ∀ z, z < 17 → isT G g_58 f_58 (k + 3 * z + 5) 0 0 (fun _ => 0) (fun _ => 0) := fun z hz => isT_gf (txA z hz) (fun j hj => og_58 j (by omega)) (fun j h1 h2 => of_58 j (by omega))
  have txA : ∀ z, z < 17 → isT G g_58 f_59 (k + 3 * z + 5) 0 0 (fun _ => 0) (fun _ => 0) := fun z hz => isT_gf (txA z hz) (fun j _ => rfl) (fun j h1 h2 => o_59 j (by omega))
  have taA : ∀ z, z < 17 → (aL [q3, q4, q5, q6, q7, q8, q9, q10, q11, q12, q13, q14, q15, q16, q17, q18, q19]) z = some (g_57 (k + 3 * z + 5)) := fun z hz => (taA z hz).trans (congrArg some (og_57 _ (by omega)).symm)
  have taA : ∀ z, z < 17 → (aL [q3, q4, q5, q6, q7, q8, q9, q10, q11, q12, q13, q14, q15, q16, q17, q18, q19]) z = some (g_58 (k + 3 * z + 5)) := fun z hz => (taA z hz).trans (congrArg some (og_58 _ (by omega)).symm)
  have taA : ∀ z, z < 17 → (aL [q3, q4, q5, q6, q7, q8, q9, q10, q11, q12, q13, q14, q15, q16, q17, q18, q19]) z = some (g_58 (k + 3 * z + 5)) := taA
  have txA : ∀ z, z < 18 → isT G g_58 f_59 (k + 3 * z + 5) 0 0 (fun _ => 0) (fun _ => 0) := tx_ext (P := fun z => isT G g_58 f_59 (k + 3 * z + 5) 0 0 (fun _ => 0) (fun _ => 0)) txA pk_58_0
  have taA : ∀ z, z < 18 → (aL [q3, q4, q5, q6, q7, q8, q9, q10, q11, q12, q13, q14, q15, q16, q17, q18, q19, q20]) z = some (g_58 (k + 3 * z + 5)) := ta_ext (L := [q3, q4, q5, q6, q7, q8, q9, q10, q11, q12, q13, q14, q15, q16, q17, q18, q19]) (s := 3) (c := 5) rfl taA hg_57
  refine lv_iinc (v := 18) (lv' := [(2, .int 18), (0, .ref a), (1, .int 20)]) hx hb dX6_init_43 hl (k := 0) rfl (by decide) (by decide) rfl (fun ls hl => ?_)
  refine lv_goto (tgt := 25) hx hb dX6_init_46 (by decide) ?_
  refine lv_iload_n hx hb dX6_init_25 rfl (lv_at hl 0 rfl) ?_
  refine lv_iload_n hx hb dX6_init_26 rfl (lv_at hl 2 rfl) ?_
  refine lv_icmp_ge (tgt := 49) hx hb dX6_init_27 (by decide) (fun c_27 => absurd c_27 (by decide)) (fun c_27 => ?_)
  refine lv_aload_n hx hb dX6_init_30 rfl (lv_at hl 1 rfl) ?_
  replace hown0 := ((o_59 k (by first | exact lqD rfl | omega)).trans ((of_58 k (by first | exact lqA rfl | omega)).trans ((of_57 k (by first | exact lqA rfl | omega))))).trans hown0
  replace hga0 := gq.tr ((og_58 k (by first | exact lqA rfl | omega)).trans ((og_57 k (by first | exact lqA rfl | omega)))) hga0
  refine va_get (D := G.1) (ci := 6) (v := .ref q2) (C := RX6) (T := TX6) (N := 2) hx hb hts inlX6 hown hG.1 hP k (wn_at (by first | exact lqA rfl | exact lqB rfl | omega) hga0 hown0) rfl 0 (by decide) (hts (.fieldLink RX6 16 "SwornLists$Shelf" "texts" "[LSwornLists$Text;") w_82) (fun _ h9 => h9) rfl dX6_init_31 ?_
  refine lv_iload_n hx hb dX6_init_34 rfl (lv_at hl 0 rfl) ?_
  refine va_new (ci := 7) (fs := [.null, .null, .int 0, .int 0]) (C := RX8) (T := TX8) (N := 4) hx hb hts inlX8 tyX8 tyX8_ok hown (hts (.classLink RX6 7 RX8) w_78) (hts (.instantiable RX8 4) w_79) (hts (.initialized RX8) w_80) hG.1 hP hD hS hA rfl (fun j hj => by rcases (show j = 0 ∨ j = 1 ∨ j = 2 ∨ j = 3 by omega) with rfl | rfl | rfl | rfl <;> rfl) (Nat.le_of_ble_eq_true rfl) (Nat.le_of_ble_eq_true rfl) dX6_init_35 (fun q21 H hP hD hS => ?_)
  obtain ⟨g_60, f_60, hP, hD, hg_60, hf_60, og_60, of_60⟩ := n_ext hP hD
  have hf_60 : f_60 (k + 59) = eO 7 [.null, .null, .int 0, .int 0] := hf_60
  have hg_60 : gq (g_60 (k + 59)) q21 := hg_60
  have hP : va_P G.1 vwCl (wn (k + 60) g_60 f_60) H := hP
  have hD : va_D A (wn (k + 60) g_60 f_60) := hD
  refine W.widen (k := 59) (n := 2000) (by omega) (by omega) ?_
  refine lv_dup hx hb dX6_init_38 rfl ?_
  refine n_call (va_runIN (As := []) (rest := [.ref q21, .int 18, .ref q2]) ⟨hx, hb, hml, hown, hts⟩ (i_text l G g_60 f_60 H.size (k + 59) q21 hg_60 hf_60) (⟨my_cn hts ok_X8_init.1 (hG.2.1 (.methodLinkNest RX6 9 yX8_init RX10) (List.mem_of_getElem? (i := 23) rfl)) rfl rfl ⟨Nat.le_of_ble_eq_true rfl, Nat.le_of_ble_eq_true rfl⟩, rfl, hts _ ok_X8_init.2.2.1⟩) ⟨nP.blind, fun U hU hW => ⟨rfl, by rw [hU], by rw [hU]; exact hP, kG.warm hW hG, hD.weaken (fun _ _ _ _ => trivial)⟩⟩ rfl rfl hl.1 rfl (lv_room (Nat.le_of_ble_eq_true rfl)) dX6_init_39 ⟨Nat.le_of_ble_eq_true rfl, Nat.le_of_ble_eq_true rfl⟩) hD hS hA (fun g_61 f_61 H locs og_61 hq9 hP hD hS => ?_)
  obtain ⟨hq_61_0, hx_61_0, of_61⟩ := hq9
  have hfq_61_0 : f_61 (k + 59) = eO 7 [.ref (g_61 (k + 60)), .ref (g_61 (k + 61)), .int 0, .int 0] := hq_61_0
  have pk_61_0 : isT G g_61 f_61 (k + 59) 0 0 (fun _ => 0) (fun _ => 0) := hx_61_0
  have hP : va_P G.1 vwCl (wn (k + 62) g_61 f_61) H := hP
  have hD : va_D A (wn (k + 62) g_61 f_61) := hD
  refine W.widen (k := 61) (n := 2100) (by omega) (by omega) ?_
  replace hf_4 := ((of_61 (k + 4) (by first | exact lqB rfl | omega)).trans ((of_60 (k + 4) (by first | exact lqB rfl | omega)))).trans hf_4
  replace hg_4 := gq.tr ((og_61 (k + 4) (by first | exact lqB rfl | omega)).trans ((og_60 (k + 4) (by first | exact lqB rfl | omega)))) hg_4
  replace hg_60 := gq.tr ((og_61 (k + 59) (by first | exact lqB rfl | omega))) hg_60
  refine va_astq (r := (RX8, TX8, 4)) hx hb hG.1 hP hD hS (k + 4) 5 (k + 59) 7 (wn_at (by first | exact lqA rfl | exact lqB rfl | omega) hg_4 hf_4) rfl (wn_at (by first | exact lqA rfl | exact lqB rfl | omega) hg_60 hfq_61_0) rfl (by unfold vp_in; decide) dX6_init_42 (fun H locs hP hD hS => ?_)
  have ef : va_up (aL [q3, q4, q5, q6, q7, q8, q9, q10, q11, q12, q13, q14, q15, q16, q17, q18, q19, q20]) (Int32.toNatClampNeg 18) (some q21) = aL [q3, q4, q5, q6, q7, q8, q9, q10, q11, q12, q13, q14, q15, q16, q17, q18, q19, q20, q21] := aL_push [q3, q4, q5, q6, q7, q8, q9, q10, q11, q12, q13, q14, q15, q16, q17, q18, q19, q20] q21
  have hP := (congrArg (fun z9 => va_P G.1 vwCl ((wn (k + 62) g_61 f_61).set (k + 4) (q2, eA G 5 20 z9)) H) ef).mp hP
  have hD := (congrArg (fun z9 => va_D A ((wn (k + 62) g_61 f_61).set (k + 4) (q2, eA G 5 20 z9))) ef).mp hD
  obtain ⟨f_62, hP, hD, e_62, o_62⟩ := n_put (by first | exact lqA rfl | exact lqB rfl | omega) hg_4 hP hD
  have hf_4 : f_62 (k + 4) = eA G 5 20 (aL [q3, q4, q5, q6, q7, q8, q9, q10, q11, q12, q13, q14, q15, q16, q17, q18, q19, q20, q21]) := e_62
  have pk_61_0 : isT G g_61 f_62 (k + 59) 0 0 (fun _ => 0) (fun _ => 0) := isT_gf pk_61_0 (fun j _ => rfl) (fun j h1 h2 => o_62 j (by omega))
  have txA : ∀ z, z < 18 → isT G g_60 f_60 (k + 3 * z + 5) 0 0 (fun _ => 0) (fun _ => 0) := fun z hz => isT_gf (txA z hz) (fun j hj => og_60 j (by omega)) (fun j h1 h2 => of_60 j (by omega))
  have txA : ∀ z, z < 18 → isT G g_61 f_61 (k + 3 * z + 5) 0 0 (fun _ => 0) (fun _ => 0) := fun z hz => isT_gf (txA z hz) (fun j hj => og_61 j (by omega)) (fun j h1 h2 => of_61 j (by omega))
  have txA : ∀ z, z < 18 → isT G g_61 f_62 (k + 3 * z + 5) 0 0 (fun _ => 0) (fun _ => 0) := fun z hz => isT_gf (txA z hz) (fun j _ => rfl) (fun j h1 h2 => o_62 j (by omega))
  have taA : ∀ z, z < 18 → (aL [q3, q4, q5, q6, q7, q8, q9, q10, q11, q12, q13, q14, q15, q16, q17, q18, q19, q20]) z = some (g_60 (k + 3 * z + 5)) := fun z hz => (taA z hz).trans (congrArg some (og_60 _ (by omega)).symm)
  have taA : ∀ z, z < 18 → (aL [q3, q4, q5, q6, q7, q8, q9, q10, q11, q12, q13, q14, q15, q16, q17, q18, q19, q20]) z = some (g_61 (k + 3 * z + 5)) := fun z hz => (taA z hz).trans (congrArg some (og_61 _ (by omega)).symm)
  have taA : ∀ z, z < 18 → (aL [q3, q4, q5, q6, q7, q8, q9, q10, q11, q12, q13, q14, q15, q16, q17, q18, q19, q20]) z = some (g_61 (k + 3 * z + 5)) := taA
  have txA : ∀ z, z < 19 → isT G g_61 f_62 (k + 3 * z + 5) 0 0 (fun _ => 0) (fun _ => 0) := tx_ext (P := fun z => isT G g_61 f_62 (k + 3 * z + 5) 0 0 (fun _ => 0) (fun _ => 0)) txA pk_61_0
  have taA : ∀ z, z < 19 → (aL [q3, q4, q5, q6, q7, q8, q9, q10, q11, q12, q13, q14, q15, q16, q17, q18, q19, q20, q21]) z = some (g_61 (k + 3 * z + 5)) := ta_ext (L := [q3, q4, q5, q6, q7, q8, q9, q10, q11, q12, q13, q14, q15, q16, q17, q18, q19, q20]) (s := 3) (c := 5) rfl taA hg_60
  refine lv_iinc (v := 19) (lv' := [(2, .int 19), (0, .ref a), (1, .int 20)]) hx hb dX6_init_43 hl (k := 0) rfl (by decide) (by decide) rfl (fun ls hl => ?_)
  refine lv_goto (tgt := 25) hx hb dX6_init_46 (by decide) ?_
  refine lv_iload_n hx hb dX6_init_25 rfl (lv_at hl 0 rfl) ?_
  refine lv_iload_n hx hb dX6_init_26 rfl (lv_at hl 2 rfl) ?_
  refine lv_icmp_ge (tgt := 49) hx hb dX6_init_27 (by decide) (fun c_27 => absurd c_27 (by decide)) (fun c_27 => ?_)
  refine lv_aload_n hx hb dX6_init_30 rfl (lv_at hl 1 rfl) ?_
  replace hown0 := ((o_62 k (by first | exact lqD rfl | omega)).trans ((of_61 k (by first | exact lqA rfl | omega)).trans ((of_60 k (by first | exact lqA rfl | omega))))).trans hown0
  replace hga0 := gq.tr ((og_61 k (by first | exact lqA rfl | omega)).trans ((og_60 k (by first | exact lqA rfl | omega)))) hga0
  refine va_get (D := G.1) (ci := 6) (v := .ref q2) (C := RX6) (T := TX6) (N := 2) hx hb hts inlX6 hown hG.1 hP k (wn_at (by first | exact lqA rfl | exact lqB rfl | omega) hga0 hown0) rfl 0 (by decide) (hts (.fieldLink RX6 16 "SwornLists$Shelf" "texts" "[LSwornLists$Text;") w_82) (fun _ h9 => h9) rfl dX6_init_31 ?_
  refine lv_iload_n hx hb dX6_init_34 rfl (lv_at hl 0 rfl) ?_
  refine va_new (ci := 7) (fs := [.null, .null, .int 0, .int 0]) (C := RX8) (T := TX8) (N := 4) hx hb hts inlX8 tyX8 tyX8_ok hown (hts (.classLink RX6 7 RX8) w_78) (hts (.instantiable RX8 4) w_79) (hts (.initialized RX8) w_80) hG.1 hP hD hS hA rfl (fun j hj => by rcases (show j = 0 ∨ j = 1 ∨ j = 2 ∨ j = 3 by omega) with rfl | rfl | rfl | rfl <;> rfl) (Nat.le_of_ble_eq_true rfl) (Nat.le_of_ble_eq_true rfl) dX6_init_35 (fun q22 H hP hD hS => ?_)
  obtain ⟨g_63, f_63, hP, hD, hg_63, hf_63, og_63, of_63⟩ := n_ext hP hD
  have hf_63 : f_63 (k + 62) = eO 7 [.null, .null, .int 0, .int 0] := hf_63
  have hg_63 : gq (g_63 (k + 62)) q22 := hg_63
  have hP : va_P G.1 vwCl (wn (k + 63) g_63 f_63) H := hP
  have hD : va_D A (wn (k + 63) g_63 f_63) := hD
  refine W.widen (k := 62) (n := 2104) (by omega) (by omega) ?_
  refine lv_dup hx hb dX6_init_38 rfl ?_
  refine n_call (va_runIN (As := []) (rest := [.ref q22, .int 19, .ref q2]) ⟨hx, hb, hml, hown, hts⟩ (i_text l G g_63 f_63 H.size (k + 62) q22 hg_63 hf_63) (⟨my_cn hts ok_X8_init.1 (hG.2.1 (.methodLinkNest RX6 9 yX8_init RX10) (List.mem_of_getElem? (i := 23) rfl)) rfl rfl ⟨Nat.le_of_ble_eq_true rfl, Nat.le_of_ble_eq_true rfl⟩, rfl, hts _ ok_X8_init.2.2.1⟩) ⟨nP.blind, fun U hU hW => ⟨rfl, by rw [hU], by rw [hU]; exact hP, kG.warm hW hG, hD.weaken (fun _ _ _ _ => trivial)⟩⟩ rfl rfl hl.1 rfl (lv_room (Nat.le_of_ble_eq_true rfl)) dX6_init_39 ⟨Nat.le_of_ble_eq_true rfl, Nat.le_of_ble_eq_true rfl⟩) hD hS hA (fun g_64 f_64 H locs og_64 hq9 hP hD hS => ?_)
  obtain ⟨hq_64_0, hx_64_0, of_64⟩ := hq9
  have hfq_64_0 : f_64 (k + 62) = eO 7 [.ref (g_64 (k + 63)), .ref (g_64 (k + 64)), .int 0, .int 0] := hq_64_0
  have pk_64_0 : isT G g_64 f_64 (k + 62) 0 0 (fun _ => 0) (fun _ => 0) := hx_64_0
  have hP : va_P G.1 vwCl (wn (k + 65) g_64 f_64) H := hP
  have hD : va_D A (wn (k + 65) g_64 f_64) := hD
  refine W.widen (k := 64) (n := 2204) (by omega) (by omega) ?_
  replace hf_4 := ((of_64 (k + 4) (by first | exact lqB rfl | omega)).trans ((of_63 (k + 4) (by first | exact lqB rfl | omega)))).trans hf_4
  replace hg_4 := gq.tr ((og_64 (k + 4) (by first | exact lqB rfl | omega)).trans ((og_63 (k + 4) (by first | exact lqB rfl | omega)))) hg_4
  replace hg_63 := gq.tr ((og_64 (k + 62) (by first | exact lqB rfl | omega))) hg_63
  refine va_astq (r := (RX8, TX8, 4)) hx hb hG.1 hP hD hS (k + 4) 5 (k + 62) 7 (wn_at (by first | exact lqA rfl | exact lqB rfl | omega) hg_4 hf_4) rfl (wn_at (by first | exact lqA rfl | exact lqB rfl | omega) hg_63 hfq_64_0) rfl (by unfold vp_in; decide) dX6_init_42 (fun H locs hP hD hS => ?_)
  have ef : va_up (aL [q3, q4, q5, q6, q7, q8, q9, q10, q11, q12, q13, q14, q15, q16, q17, q18, q19, q20, q21]) (Int32.toNatClampNeg 19) (some q22) = aL [q3, q4, q5, q6, q7, q8, q9, q10, q11, q12, q13, q14, q15, q16, q17, q18, q19, q20, q21, q22] := aL_push [q3, q4, q5, q6, q7, q8, q9, q10, q11, q12, q13, q14, q15, q16, q17, q18, q19, q20, q21] q22
  have hP := (congrArg (fun z9 => va_P G.1 vwCl ((wn (k + 65) g_64 f_64).set (k + 4) (q2, eA G 5 20 z9)) H) ef).mp hP
  have hD := (congrArg (fun z9 => va_D A ((wn (k + 65) g_64 f_64).set (k + 4) (q2, eA G 5 20 z9))) ef).mp hD
  obtain ⟨f_65, hP, hD, e_65, o_65⟩ := n_put (by first | exact lqA rfl | exact lqB rfl | omega) hg_4 hP hD
  have hf_4 : f_65 (k + 4) = eA G 5 20 (aL [q3, q4, q5, q6, q7, q8, q9, q10, q11, q12, q13, q14, q15, q16, q17, q18, q19, q20, q21, q22]) := e_65
  have pk_64_0 : isT G g_64 f_65 (k + 62) 0 0 (fun _ => 0) (fun _ => 0) := isT_gf pk_64_0 (fun j _ => rfl) (fun j h1 h2 => o_65 j (by omega))
  have txA : ∀ z, z < 19 → isT G g_63 f_63 (k + 3 * z + 5) 0 0 (fun _ => 0) (fun _ => 0) := fun z hz => isT_gf (txA z hz) (fun j hj => og_63 j (by omega)) (fun j h1 h2 => of_63 j (by omega))
  have txA : ∀ z, z < 19 → isT G g_64 f_64 (k + 3 * z + 5) 0 0 (fun _ => 0) (fun _ => 0) := fun z hz => isT_gf (txA z hz) (fun j hj => og_64 j (by omega)) (fun j h1 h2 => of_64 j (by omega))
  have txA : ∀ z, z < 19 → isT G g_64 f_65 (k + 3 * z + 5) 0 0 (fun _ => 0) (fun _ => 0) := fun z hz => isT_gf (txA z hz) (fun j _ => rfl) (fun j h1 h2 => o_65 j (by omega))
  have taA : ∀ z, z < 19 → (aL [q3, q4, q5, q6, q7, q8, q9, q10, q11, q12, q13, q14, q15, q16, q17, q18, q19, q20, q21]) z = some (g_63 (k + 3 * z + 5)) := fun z hz => (taA z hz).trans (congrArg some (og_63 _ (by omega)).symm)
  have taA : ∀ z, z < 19 → (aL [q3, q4, q5, q6, q7, q8, q9, q10, q11, q12, q13, q14, q15, q16, q17, q18, q19, q20, q21]) z = some (g_64 (k + 3 * z + 5)) := fun z hz => (taA z hz).trans (congrArg some (og_64 _ (by omega)).symm)
  have taA : ∀ z, z < 19 → (aL [q3, q4, q5, q6, q7, q8, q9, q10, q11, q12, q13, q14, q15, q16, q17, q18, q19, q20, q21]) z = some (g_64 (k + 3 * z + 5)) := taA
  have txA : ∀ z, z < 20 → isT G g_64 f_65 (k + 3 * z + 5) 0 0 (fun _ => 0) (fun _ => 0) := tx_ext (P := fun z => isT G g_64 f_65 (k + 3 * z + 5) 0 0 (fun _ => 0) (fun _ => 0)) txA pk_64_0
  have taA : ∀ z, z < 20 → (aL [q3, q4, q5, q6, q7, q8, q9, q10, q11, q12, q13, q14, q15, q16, q17, q18, q19, q20, q21, q22]) z = some (g_64 (k + 3 * z + 5)) := ta_ext (L := [q3, q4, q5, q6, q7, q8, q9, q10, q11, q12, q13, q14, q15, q16, q17, q18, q19, q20, q21]) (s := 3) (c := 5) rfl taA hg_63
  refine lv_iinc (v := 20) (lv' := [(2, .int 20), (0, .ref a), (1, .int 20)]) hx hb dX6_init_43 hl (k := 0) rfl (by decide) (by decide) rfl (fun ls hl => ?_)
  refine lv_goto (tgt := 25) hx hb dX6_init_46 (by decide) ?_
  refine lv_iload_n hx hb dX6_init_25 rfl (lv_at hl 0 rfl) ?_
  refine lv_iload_n hx hb dX6_init_26 rfl (lv_at hl 2 rfl) ?_
  refine lv_icmp_ge (tgt := 49) hx hb dX6_init_27 (by decide) (fun c_27 => ?_) (fun c_27 => absurd (by decide) c_27)
  replace hown0 := ((o_65 k (by first | exact lqD rfl | omega)).trans ((of_64 k (by first | exact lqA rfl | omega)).trans ((of_63 k (by first | exact lqA rfl | omega))))).trans hown0
  replace hg_1 := gq.tr ((og_64 (k + 1) (by first | exact lqB rfl | omega)).trans ((og_63 (k + 1) (by first | exact lqB rfl | omega)).trans ((og_61 (k + 1) (by first | exact lqB rfl | omega)).trans ((og_60 (k + 1) (by first | exact lqB rfl | omega)).trans ((og_58 (k + 1) (by first | exact lqB rfl | omega)).trans ((og_57 (k + 1) (by first | exact lqB rfl | omega)).trans ((og_55 (k + 1) (by first | exact lqB rfl | omega)).trans ((og_54 (k + 1) (by first | exact lqB rfl | omega)).trans ((og_52 (k + 1) (by first | exact lqB rfl | omega)).trans ((og_51 (k + 1) (by first | exact lqB rfl | omega)).trans ((og_49 (k + 1) (by first | exact lqB rfl | omega)).trans ((og_48 (k + 1) (by first | exact lqB rfl | omega)).trans ((og_46 (k + 1) (by first | exact lqB rfl | omega)).trans ((og_45 (k + 1) (by first | exact lqB rfl | omega)).trans ((og_43 (k + 1) (by first | exact lqB rfl | omega)).trans ((og_42 (k + 1) (by first | exact lqB rfl | omega)).trans ((og_40 (k + 1) (by first | exact lqB rfl | omega)).trans ((og_39 (k + 1) (by first | exact lqB rfl | omega)).trans ((og_37 (k + 1) (by first | exact lqB rfl | omega)).trans ((og_36 (k + 1) (by first | exact lqB rfl | omega)).trans ((og_34 (k + 1) (by first | exact lqB rfl | omega)).trans ((og_33 (k + 1) (by first | exact lqB rfl | omega)).trans ((og_31 (k + 1) (by first | exact lqB rfl | omega)).trans ((og_30 (k + 1) (by first | exact lqB rfl | omega)).trans ((og_28 (k + 1) (by first | exact lqB rfl | omega)).trans ((og_27 (k + 1) (by first | exact lqB rfl | omega)).trans ((og_25 (k + 1) (by first | exact lqB rfl | omega)).trans ((og_24 (k + 1) (by first | exact lqB rfl | omega)).trans ((og_22 (k + 1) (by first | exact lqB rfl | omega)).trans ((og_21 (k + 1) (by first | exact lqB rfl | omega)).trans ((og_19 (k + 1) (by first | exact lqB rfl | omega)).trans ((og_18 (k + 1) (by first | exact lqB rfl | omega)).trans ((og_16 (k + 1) (by first | exact lqB rfl | omega)).trans ((og_15 (k + 1) (by first | exact lqB rfl | omega)).trans ((og_13 (k + 1) (by first | exact lqB rfl | omega)).trans ((og_12 (k + 1) (by first | exact lqB rfl | omega)).trans ((og_10 (k + 1) (by first | exact lqB rfl | omega)).trans ((og_9 (k + 1) (by first | exact lqB rfl | omega)).trans ((og_7 (k + 1) (by first | exact lqB rfl | omega)).trans ((og_6 (k + 1) (by first | exact lqB rfl | omega)).trans ((og_4 (k + 1) (by first | exact lqB rfl | omega)).trans ((og_2 (k + 1) (by first | exact lqB rfl | omega)))))))))))))))))))))))))))))))))))))))))))) hg_1
  exact W.vret hx hb hr (fun t ht hW => ⟨⟨g_64, f_65, rfl, fun j hj => (og_64 j (by omega)).trans ((og_63 j (by omega)).trans ((og_61 j (by omega)).trans ((og_60 j (by omega)).trans ((og_58 j (by omega)).trans ((og_57 j (by omega)).trans ((og_55 j (by omega)).trans ((og_54 j (by omega)).trans ((og_52 j (by omega)).trans ((og_51 j (by omega)).trans ((og_49 j (by omega)).trans ((og_48 j (by omega)).trans ((og_46 j (by omega)).trans ((og_45 j (by omega)).trans ((og_43 j (by omega)).trans ((og_42 j (by omega)).trans ((og_40 j (by omega)).trans ((og_39 j (by omega)).trans ((og_37 j (by omega)).trans ((og_36 j (by omega)).trans ((og_34 j (by omega)).trans ((og_33 j (by omega)).trans ((og_31 j (by omega)).trans ((og_30 j (by omega)).trans ((og_28 j (by omega)).trans ((og_27 j (by omega)).trans ((og_25 j (by omega)).trans ((og_24 j (by omega)).trans ((og_22 j (by omega)).trans ((og_21 j (by omega)).trans ((og_19 j (by omega)).trans ((og_18 j (by omega)).trans ((og_16 j (by omega)).trans ((og_15 j (by omega)).trans ((og_13 j (by omega)).trans ((og_12 j (by omega)).trans ((og_10 j (by omega)).trans ((og_9 j (by omega)).trans ((og_7 j (by omega)).trans ((og_6 j (by omega)).trans ((og_4 j (by omega)).trans ((og_2 j (by omega)).trans ((og_1 j (by omega)))))))))))))))))))))))))))))))))))))))))))), ⟨⟨(by rw [show g_64 (k + 4) = q2 from hg_4, show g_64 (k + 1) = q1 from hg_1]; exact hown0), ⟨_, hf_4, taA⟩, txA⟩, fun j hj => (o_65 j (by omega)).trans ((of_64 j (by omega)).trans ((of_63 j (by omega)).trans ((o_62 j (by omega)).trans ((of_61 j (by omega)).trans ((of_60 j (by omega)).trans ((o_59 j (by omega)).trans ((of_58 j (by omega)).trans ((of_57 j (by omega)).trans ((o_56 j (by omega)).trans ((of_55 j (by omega)).trans ((of_54 j (by omega)).trans ((o_53 j (by omega)).trans ((of_52 j (by omega)).trans ((of_51 j (by omega)).trans ((o_50 j (by omega)).trans ((of_49 j (by omega)).trans ((of_48 j (by omega)).trans ((o_47 j (by omega)).trans ((of_46 j (by omega)).trans ((of_45 j (by omega)).trans ((o_44 j (by omega)).trans ((of_43 j (by omega)).trans ((of_42 j (by omega)).trans ((o_41 j (by omega)).trans ((of_40 j (by omega)).trans ((of_39 j (by omega)).trans ((o_38 j (by omega)).trans ((of_37 j (by omega)).trans ((of_36 j (by omega)).trans ((o_35 j (by omega)).trans ((of_34 j (by omega)).trans ((of_33 j (by omega)).trans ((o_32 j (by omega)).trans ((of_31 j (by omega)).trans ((of_30 j (by omega)).trans ((o_29 j (by omega)).trans ((of_28 j (by omega)).trans ((of_27 j (by omega)).trans ((o_26 j (by omega)).trans ((of_25 j (by omega)).trans ((of_24 j (by omega)).trans ((o_23 j (by omega)).trans ((of_22 j (by omega)).trans ((of_21 j (by omega)).trans ((o_20 j (by omega)).trans ((of_19 j (by omega)).trans ((of_18 j (by omega)).trans ((o_17 j (by omega)).trans ((of_16 j (by omega)).trans ((of_15 j (by omega)).trans ((o_14 j (by omega)).trans ((of_13 j (by omega)).trans ((of_12 j (by omega)).trans ((o_11 j (by omega)).trans ((of_10 j (by omega)).trans ((of_9 j (by omega)).trans ((o_8 j (by omega)).trans ((of_7 j (by omega)).trans ((of_6 j (by omega)).trans ((o_5 j (by omega)).trans ((of_4 j (by omega)).trans ((o_3 j (by omega)).trans ((of_2 j (by omega)).trans ((of_1 j (by omega))))))))))))))))))))))))))))))))))))))))))))))))))))))))))))))))))⟩, by rw [ht]; exact hP, by rw [hAe]; exact hD⟩, by rw [hAe]; exact hS.F ht⟩) hS.2.2 dX6_init_49
set_option maxHeartbeats 4000000 in
set_option maxRecDepth 100000 in
theorem i_shelf_4 (l : Launch) (G : gW) (g : Nat → Nat) (f : Nat → va_E) (sz k a : Nat) (hga0 : gq (g k) a) (hown0 : f k = eO 6 [.null, .null]) : Met l yX6_init (wsT yX6_init cX6_init 3 none) ({ frames := 2, cells := 16, slots := 524, locals := 32 }) (nP G (k + 1) g f sz [.ref a, .int 4]) (nQ G (k + 1) (k + 17) g sz (fun (g' : Nat → Nat) (f' : Nat → va_E) => (nSh G g' f' k 4) ∧ ∀ j, j < k → f' j = f j)) 16 524 (nA (k + 1) g sz) := by
  refine Met.ofW (cc := cX6_init) (maxL := 3) (ret := none) (by decide) rfl ?_
  intro p e s m args below meth c s₁ B hml hv
  obtain ⟨rfl, hsz, hP, hG, hD0⟩ := hv
  have hx := B.exec
  have hb := B.bytes
  have hr := B.returns
  have hts := my_hts (atoms_spec (ws := wsT yX6_init cX6_init 3 none) B.pre)
  have hown : s.vm.findClass RX6 = some m.cls := findClass_of_methodNamed B.named
  have hlocks := B.notSynchronized
  have hin : meth.name = "<init>" := (name_of_methodNamed B.named B.method).1
  subst hsz
  have hD := nD_self (sz := s.heap.size) hD0
  generalize hAe : nA (k + 1) g s.heap.size = A at hD ⊢
  have hA : ∀ q : Nat, s.heap.size ≤ q → A q := fun q h => by rw [← hAe]; exact Or.inr h
  have hS : va_S A s.heap s.heap [] := va_S.rf
  have hl := lv_entry ([.ref a, .int 4]) (n := 3) (Nat.le_of_ble_eq_true rfl)
  rw [lg_entry_eq]
  generalize (lg_sl ([.ref a, .int 4]) ++ List.replicate (3 - (lg_sl ([.ref a, .int 4])).length) Slot.unset).toArray = ls at hl ⊢
  have hl : lv_has ls 3 [(0, .ref a), (1, .int 4)] := hl
  refine lv_aload_n hx hb dX6_init_0 rfl (lv_at hl 0 rfl) ?_
  refine W.objInit hx hb hown (hts (.methodLink RX6 1 objectInit) w_77) (hts (.instanceMethod objectInit) w_10) (hts (.code objectInit ⟨#[0xb1]⟩ 1 none) w_11) rfl (by rw [hml]; exact hl.1) rfl dX6_init_1 (Nat.le_of_ble_eq_true rfl) (Nat.le_of_ble_eq_true rfl) ?_
  refine W.eq (g2 := F0 m 4 ls []) rfl ?_
  refine lv_aload_n hx hb dX6_init_4 rfl (lv_at hl 0 rfl) ?_
  refine va_new (ci := 7) (fs := [.null, .null, .int 0, .int 0]) (C := RX8) (T := TX8) (N := 4) hx hb hts inlX8 tyX8 tyX8_ok hown (hts (.classLink RX6 7 RX8) w_78) (hts (.instantiable RX8 4) w_79) (hts (.initialized RX8) w_80) hG.1 hP hD hS hA rfl (fun j hj => by rcases (show j = 0 ∨ j = 1 ∨ j = 2 ∨ j = 3 by omega) with rfl | rfl | rfl | rfl <;> rfl) (Nat.le_of_ble_eq_true rfl) (Nat.le_of_ble_eq_true rfl) dX6_init_5 (fun q1 H hP hD hS => ?_)
  obtain ⟨g_1, f_1, hP, hD, hg_1, hf_1, og_1, of_1⟩ := n_ext hP hD
  have hf_1 : f_1 (k + 1) = eO 7 [.null, .null, .int 0, .int 0] := hf_1
  have hg_1 : gq (g_1 (k + 1)) q1 := hg_1
  have hP : va_P G.1 vwCl (wn (k + 2) g_1 f_1) H := hP
  have hD : va_D A (wn (k + 2) g_1 f_1) := hD
  refine W.widen (k := 1) (n := 4) (by omega) (by omega) ?_
  refine lv_dup hx hb dX6_init_8 rfl ?_
  refine n_call (va_runIN (As := []) (rest := [.ref q1, .ref a]) ⟨hx, hb, hml, hown, hts⟩ (i_text l G g_1 f_1 H.size (k + 1) q1 hg_1 hf_1) (⟨my_cn hts ok_X8_init.1 (hG.2.1 (.methodLinkNest RX6 9 yX8_init RX10) (List.mem_of_getElem? (i := 23) rfl)) rfl rfl ⟨Nat.le_of_ble_eq_true rfl, Nat.le_of_ble_eq_true rfl⟩, rfl, hts _ ok_X8_init.2.2.1⟩) ⟨nP.blind, fun U hU hW => ⟨rfl, by rw [hU], by rw [hU]; exact hP, kG.warm hW hG, hD.weaken (fun _ _ _ _ => trivial)⟩⟩ rfl rfl hl.1 rfl (lv_room (Nat.le_of_ble_eq_true rfl)) dX6_init_9 ⟨Nat.le_of_ble_eq_true rfl, Nat.le_of_ble_eq_true rfl⟩) hD hS hA (fun g_2 f_2 H locs og_2 hq9 hP hD hS => ?_)
  obtain ⟨hq_2_0, hx_2_0, of_2⟩ := hq9
  have hfq_2_0 : f_2 (k + 1) = eO 7 [.ref (g_2 (k + 2)), .ref (g_2 (k + 3)), .int 0, .int 0] := hq_2_0
  have pk_2_0 : isT G g_2 f_2 (k + 1) 0 0 (fun _ => 0) (fun _ => 0) := hx_2_0
  have hP : va_P G.1 vwCl (wn (k + 4) g_2 f_2) H := hP
  have hD : va_D A (wn (k + 4) g_2 f_2) := hD
  refine W.widen (k := 3) (n := 104) (by omega) (by omega) ?_
  replace hown0 := ((of_2 k (by first | exact lqA rfl | omega)).trans ((of_1 k (by first | exact lqA rfl | omega)))).trans hown0
  replace hga0 := gq.tr ((og_2 k (by first | exact lqA rfl | omega)).trans ((og_1 k (by first | exact lqA rfl | omega)))) hga0
  refine va_putF (D := G.1) (ci := 6) (v := .ref q1) (ty := .object "SwornLists$Text") (C := RX6) (T := TX6) (N := 2) hx hb hts inlX6 tyX6 tyX6_ok nmX6 hown hG.1 hP hD hS k (wn_at (by first | exact lqA rfl | exact lqB rfl | omega) hga0 hown0) rfl 1 (by decide) (hts (.fieldLink RX6 10 "SwornLists$Shelf" "blank" "LSwornLists$Text;") w_81) (fun _ h9 => h9) rfl hin rfl (by decide +kernel) rfl rfl (Nat.le_of_ble_eq_true rfl) dX6_init_12 (fun H locs hP hD hS => ?_)
  obtain ⟨f_3, hP, hD, e_3, o_3⟩ := n_put (by first | exact lqA rfl | exact lqB rfl | omega) hga0 hP hD
  have hown0 : f_3 k = eO 6 [.null, .ref q1] := e_3
  refine lv_aload_n hx hb dX6_init_15 rfl (lv_at hl 0 rfl) ?_
  refine lv_iload_n hx hb dX6_init_16 rfl (lv_at hl 1 rfl) ?_
  refine my_newq hx hb 5 hown (hts (.classLink RX6 7 RX8) w_78) hG.2.2.2.2 hG.1 rfl hP hD hS hA (N' := 4) (by decide) (by decide) (Nat.le_of_ble_eq_true rfl) (Nat.le_of_ble_eq_true rfl) (Nat.le_of_ble_eq_true rfl) dX6_init_17 (fun q2 H hP hD hS => ?_)
  obtain ⟨g_4, f_4, hP, hD, hg_4, hf_4, og_4, of_4⟩ := n_ext hP hD
  have hf_4 : f_4 (k + 4) = eA G 5 4 (aL []) := hf_4
  have hg_4 : gq (g_4 (k + 4)) q2 := hg_4
  have hP : va_P G.1 vwCl (wn (k + 5) g_4 f_4) H := hP
  have hD : va_D A (wn (k + 5) g_4 f_4) := hD
  refine W.widen (k := 4) (n := 108) (by omega) (by omega) ?_
  replace hown0 := ((of_4 k (by first | exact lqA rfl | omega))).trans hown0
  replace hga0 := gq.tr ((og_4 k (by first | exact lqA rfl | omega))) hga0
  refine va_putF (D := G.1) (ci := 6) (v := .ref q2) (ty := .array (.object "SwornLists$Text")) (C := RX6) (T := TX6) (N := 2) hx hb hts inlX6 tyX6 tyX6_ok nmX6 hown hG.1 hP hD hS k (wn_at (by first | exact lqA rfl | exact lqB rfl | omega) hga0 hown0) rfl 0 (by decide) (hts (.fieldLink RX6 16 "SwornLists$Shelf" "texts" "[LSwornLists$Text;") w_82) (fun _ h9 => h9) rfl hin rfl (by decide +kernel) rfl rfl (Nat.le_of_ble_eq_true rfl) dX6_init_20 (fun H locs hP hD hS => ?_)
  obtain ⟨f_5, hP, hD, e_5, o_5⟩ := n_put (by first | exact lqA rfl | exact lqB rfl | omega) hga0 hP hD
  have hown0 : f_5 k = eO 6 [.ref q2, .ref q1] := e_5
  refine lv_iconst (v := 0) hx hb dX6_init_23 (by decide) ?_
  refine lv_istore_n (lv' := [(2, .int 0), (0, .ref a), (1, .int 4)]) hx hb dX6_init_24 rfl hl (by decide) rfl (fun ls hl => ?_)
  refine lv_iload_n hx hb dX6_init_25 rfl (lv_at hl 0 rfl) ?_
  refine lv_iload_n hx hb dX6_init_26 rfl (lv_at hl 2 rfl) ?_
  refine lv_icmp_ge (tgt := 49) hx hb dX6_init_27 (by decide) (fun c_27 => absurd c_27 (by decide)) (fun c_27 => ?_)
  refine lv_aload_n hx hb dX6_init_30 rfl (lv_at hl 1 rfl) ?_
  refine va_get (D := G.1) (ci := 6) (v := .ref q2) (C := RX6) (T := TX6) (N := 2) hx hb hts inlX6 hown hG.1 hP k (wn_at (by first | exact lqA rfl | exact lqB rfl | omega) hga0 hown0) rfl 0 (by decide) (hts (.fieldLink RX6 16 "SwornLists$Shelf" "texts" "[LSwornLists$Text;") w_82) (fun _ h9 => h9) rfl dX6_init_31 ?_
  refine lv_iload_n hx hb dX6_init_34 rfl (lv_at hl 0 rfl) ?_
  refine va_new (ci := 7) (fs := [.null, .null, .int 0, .int 0]) (C := RX8) (T := TX8) (N := 4) hx hb hts inlX8 tyX8 tyX8_ok hown (hts (.classLink RX6 7 RX8) w_78) (hts (.instantiable RX8 4) w_79) (hts (.initialized RX8) w_80) hG.1 hP hD hS hA rfl (fun j hj => by rcases (show j = 0 ∨ j = 1 ∨ j = 2 ∨ j = 3 by omega) with rfl | rfl | rfl | rfl <;> rfl) (Nat.le_of_ble_eq_true rfl) (Nat.le_of_ble_eq_true rfl) dX6_init_35 (fun q3 H hP hD hS => ?_)
  obtain ⟨g_6, f_6, hP, hD, hg_6, hf_6, og_6, of_6⟩ := n_ext hP hD
  have hf_6 : f_6 (k + 5) = eO 7 [.null, .null, .int 0, .int 0] := hf_6
  have hg_6 : gq (g_6 (k + 5)) q3 := hg_6
  have hP : va_P G.1 vwCl (wn (k + 6) g_6 f_6) H := hP
  have hD : va_D A (wn (k + 6) g_6 f_6) := hD
  refine W.widen (k := 5) (n := 112) (by omega) (by omega) ?_
  refine lv_dup hx hb dX6_init_38 rfl ?_
  refine n_call (va_runIN (As := []) (rest := [.ref q3, .int 0, .ref q2]) ⟨hx, hb, hml, hown, hts⟩ (i_text l G g_6 f_6 H.size (k + 5) q3 hg_6 hf_6) (⟨my_cn hts ok_X8_init.1 (hG.2.1 (.methodLinkNest RX6 9 yX8_init RX10) (List.mem_of_getElem? (i := 23) rfl)) rfl rfl ⟨Nat.le_of_ble_eq_true rfl, Nat.le_of_ble_eq_true rfl⟩, rfl, hts _ ok_X8_init.2.2.1⟩) ⟨nP.blind, fun U hU hW => ⟨rfl, by rw [hU], by rw [hU]; exact hP, kG.warm hW hG, hD.weaken (fun _ _ _ _ => trivial)⟩⟩ rfl rfl hl.1 rfl (lv_room (Nat.le_of_ble_eq_true rfl)) dX6_init_39 ⟨Nat.le_of_ble_eq_true rfl, Nat.le_of_ble_eq_true rfl⟩) hD hS hA (fun g_7 f_7 H locs og_7 hq9 hP hD hS => ?_)
  obtain ⟨hq_7_0, hx_7_0, of_7⟩ := hq9
  have hfq_7_0 : f_7 (k + 5) = eO 7 [.ref (g_7 (k + 6)), .ref (g_7 (k + 7)), .int 0, .int 0] := hq_7_0
  have pk_7_0 : isT G g_7 f_7 (k + 5) 0 0 (fun _ => 0) (fun _ => 0) := hx_7_0
  have hP : va_P G.1 vwCl (wn (k + 8) g_7 f_7) H := hP
  have hD : va_D A (wn (k + 8) g_7 f_7) := hD
  refine W.widen (k := 7) (n := 212) (by omega) (by omega) ?_
  replace hf_4 := ((of_7 (k + 4) (by first | exact lqB rfl | omega)).trans ((of_6 (k + 4) (by first | exact lqB rfl | omega)).trans ((o_5 (k + 4) (by first | exact lqC rfl | exact lqE rfl | omega))))).trans hf_4
  replace hg_4 := gq.tr ((og_7 (k + 4) (by first | exact lqB rfl | omega)).trans ((og_6 (k + 4) (by first | exact lqB rfl | omega)))) hg_4
  replace hg_6 := gq.tr ((og_7 (k + 5) (by first | exact lqB rfl | omega))) hg_6
  refine va_astq (r := (RX8, TX8, 4)) hx hb hG.1 hP hD hS (k + 4) 5 (k + 5) 7 (wn_at (by first | exact lqA rfl | exact lqB rfl | omega) hg_4 hf_4) rfl (wn_at (by first | exact lqA rfl | exact lqB rfl | omega) hg_6 hfq_7_0) rfl (by unfold vp_in; decide) dX6_init_42 (fun H locs hP hD hS => ?_)
  have ef : va_up (aL []) (Int32.toNatClampNeg 0) (some q3) = aL [q3] := aL_push [] q3
  have hP := (congrArg (fun z9 => va_P G.1 vwCl ((wn (k + 8) g_7 f_7).set (k + 4) (q2, eA G 5 4 z9)) H) ef).mp hP
  have hD := (congrArg (fun z9 => va_D A ((wn (k + 8) g_7 f_7).set (k + 4) (q2, eA G 5 4 z9))) ef).mp hD
  obtain ⟨f_8, hP, hD, e_8, o_8⟩ := n_put (by first | exact lqA rfl | exact lqB rfl | omega) hg_4 hP hD
  have hf_4 : f_8 (k + 4) = eA G 5 4 (aL [q3]) := e_8
  have pk_7_0 : isT G g_7 f_8 (k + 5) 0 0 (fun _ => 0) (fun _ => 0) := isT_gf pk_7_0 (fun j _ => rfl) (fun j h1 h2 => o_8 j (by omega))
  have txA : ∀ z, z < 0 → isT G g_7 f_8 (k + 3 * z + 5) 0 0 (fun _ => 0) (fun _ => 0) := fun z hz => absurd hz (Nat.not_lt_zero _)
  have taA : ∀ z, z < 0 → (aL []) z = some (g_7 (k + 3 * z + 5)) := fun z hz => absurd hz (Nat.not_lt_zero _)
  have txA : ∀ z, z < 1 → isT G g_7 f_8 (k + 3 * z + 5) 0 0 (fun _ => 0) (fun _ => 0) := tx_ext (P := fun z => isT G g_7 f_8 (k + 3 * z + 5) 0 0 (fun _ => 0) (fun _ => 0)) txA pk_7_0
  have taA : ∀ z, z < 1 → (aL [q3]) z = some (g_7 (k + 3 * z + 5)) := ta_ext (L := []) (s := 3) (c := 5) rfl taA hg_6
  refine lv_iinc (v := 1) (lv' := [(2, .int 1), (0, .ref a), (1, .int 4)]) hx hb dX6_init_43 hl (k := 0) rfl (by decide) (by decide) rfl (fun ls hl => ?_)
  refine lv_goto (tgt := 25) hx hb dX6_init_46 (by decide) ?_
  refine lv_iload_n hx hb dX6_init_25 rfl (lv_at hl 0 rfl) ?_
  refine lv_iload_n hx hb dX6_init_26 rfl (lv_at hl 2 rfl) ?_
  refine lv_icmp_ge (tgt := 49) hx hb dX6_init_27 (by decide) (fun c_27 => absurd c_27 (by decide)) (fun c_27 => ?_)
  refine lv_aload_n hx hb dX6_init_30 rfl (lv_at hl 1 rfl) ?_
  replace hown0 := ((o_8 k (by first | exact lqD rfl | omega)).trans ((of_7 k (by first | exact lqA rfl | omega)).trans ((of_6 k (by first | exact lqA rfl | omega))))).trans hown0
  replace hga0 := gq.tr ((og_7 k (by first | exact lqA rfl | omega)).trans ((og_6 k (by first | exact lqA rfl | omega)))) hga0
  refine va_get (D := G.1) (ci := 6) (v := .ref q2) (C := RX6) (T := TX6) (N := 2) hx hb hts inlX6 hown hG.1 hP k (wn_at (by first | exact lqA rfl | exact lqB rfl | omega) hga0 hown0) rfl 0 (by decide) (hts (.fieldLink RX6 16 "SwornLists$Shelf" "texts" "[LSwornLists$Text;") w_82) (fun _ h9 => h9) rfl dX6_init_31 ?_
  refine lv_iload_n hx hb dX6_init_34 rfl (lv_at hl 0 rfl) ?_
  refine va_new (ci := 7) (fs := [.null, .null, .int 0, .int 0]) (C := RX8) (T := TX8) (N := 4) hx hb hts inlX8 tyX8 tyX8_ok hown (hts (.classLink RX6 7 RX8) w_78) (hts (.instantiable RX8 4) w_79) (hts (.initialized RX8) w_80) hG.1 hP hD hS hA rfl (fun j hj => by rcases (show j = 0 ∨ j = 1 ∨ j = 2 ∨ j = 3 by omega) with rfl | rfl | rfl | rfl <;> rfl) (Nat.le_of_ble_eq_true rfl) (Nat.le_of_ble_eq_true rfl) dX6_init_35 (fun q4 H hP hD hS => ?_)
  obtain ⟨g_9, f_9, hP, hD, hg_9, hf_9, og_9, of_9⟩ := n_ext hP hD
  have hf_9 : f_9 (k + 8) = eO 7 [.null, .null, .int 0, .int 0] := hf_9
  have hg_9 : gq (g_9 (k + 8)) q4 := hg_9
  have hP : va_P G.1 vwCl (wn (k + 9) g_9 f_9) H := hP
  have hD : va_D A (wn (k + 9) g_9 f_9) := hD
  refine W.widen (k := 8) (n := 216) (by omega) (by omega) ?_
  refine lv_dup hx hb dX6_init_38 rfl ?_
  refine n_call (va_runIN (As := []) (rest := [.ref q4, .int 1, .ref q2]) ⟨hx, hb, hml, hown, hts⟩ (i_text l G g_9 f_9 H.size (k + 8) q4 hg_9 hf_9) (⟨my_cn hts ok_X8_init.1 (hG.2.1 (.methodLinkNest RX6 9 yX8_init RX10) (List.mem_of_getElem? (i := 23) rfl)) rfl rfl ⟨Nat.le_of_ble_eq_true rfl, Nat.le_of_ble_eq_true rfl⟩, rfl, hts _ ok_X8_init.2.2.1⟩) ⟨nP.blind, fun U hU hW => ⟨rfl, by rw [hU], by rw [hU]; exact hP, kG.warm hW hG, hD.weaken (fun _ _ _ _ => trivial)⟩⟩ rfl rfl hl.1 rfl (lv_room (Nat.le_of_ble_eq_true rfl)) dX6_init_39 ⟨Nat.le_of_ble_eq_true rfl, Nat.le_of_ble_eq_true rfl⟩) hD hS hA (fun g_10 f_10 H locs og_10 hq9 hP hD hS => ?_)
  obtain ⟨hq_10_0, hx_10_0, of_10⟩ := hq9
  have hfq_10_0 : f_10 (k + 8) = eO 7 [.ref (g_10 (k + 9)), .ref (g_10 (k + 10)), .int 0, .int 0] := hq_10_0
  have pk_10_0 : isT G g_10 f_10 (k + 8) 0 0 (fun _ => 0) (fun _ => 0) := hx_10_0
  have hP : va_P G.1 vwCl (wn (k + 11) g_10 f_10) H := hP
  have hD : va_D A (wn (k + 11) g_10 f_10) := hD
  refine W.widen (k := 10) (n := 316) (by omega) (by omega) ?_
  replace hf_4 := ((of_10 (k + 4) (by first | exact lqB rfl | omega)).trans ((of_9 (k + 4) (by first | exact lqB rfl | omega)))).trans hf_4
  replace hg_4 := gq.tr ((og_10 (k + 4) (by first | exact lqB rfl | omega)).trans ((og_9 (k + 4) (by first | exact lqB rfl | omega)))) hg_4
  replace hg_9 := gq.tr ((og_10 (k + 8) (by first | exact lqB rfl | omega))) hg_9
  refine va_astq (r := (RX8, TX8, 4)) hx hb hG.1 hP hD hS (k + 4) 5 (k + 8) 7 (wn_at (by first | exact lqA rfl | exact lqB rfl | omega) hg_4 hf_4) rfl (wn_at (by first | exact lqA rfl | exact lqB rfl | omega) hg_9 hfq_10_0) rfl (by unfold vp_in; decide) dX6_init_42 (fun H locs hP hD hS => ?_)
  have ef : va_up (aL [q3]) (Int32.toNatClampNeg 1) (some q4) = aL [q3, q4] := aL_push [q3] q4
  have hP := (congrArg (fun z9 => va_P G.1 vwCl ((wn (k + 11) g_10 f_10).set (k + 4) (q2, eA G 5 4 z9)) H) ef).mp hP
  have hD := (congrArg (fun z9 => va_D A ((wn (k + 11) g_10 f_10).set (k + 4) (q2, eA G 5 4 z9))) ef).mp hD
  obtain ⟨f_11, hP, hD, e_11, o_11⟩ := n_put (by first | exact lqA rfl | exact lqB rfl | omega) hg_4 hP hD
  have hf_4 : f_11 (k + 4) = eA G 5 4 (aL [q3, q4]) := e_11
  have pk_10_0 : isT G g_10 f_11 (k + 8) 0 0 (fun _ => 0) (fun _ => 0) := isT_gf pk_10_0 (fun j _ => rfl) (fun j h1 h2 => o_11 j (by omega))
  have txA : ∀ z, z < 1 → isT G g_9 f_9 (k + 3 * z + 5) 0 0 (fun _ => 0) (fun _ => 0) := fun z hz => isT_gf (txA z hz) (fun j hj => og_9 j (by omega)) (fun j h1 h2 => of_9 j (by omega))
  have txA : ∀ z, z < 1 → isT G g_10 f_10 (k + 3 * z + 5) 0 0 (fun _ => 0) (fun _ => 0) := fun z hz => isT_gf (txA z hz) (fun j hj => og_10 j (by omega)) (fun j h1 h2 => of_10 j (by omega))
  have txA : ∀ z, z < 1 → isT G g_10 f_11 (k + 3 * z + 5) 0 0 (fun _ => 0) (fun _ => 0) := fun z hz => isT_gf (txA z hz) (fun j _ => rfl) (fun j h1 h2 => o_11 j (by omega))
  have taA : ∀ z, z < 1 → (aL [q3]) z = some (g_9 (k + 3 * z + 5)) := fun z hz => (taA z hz).trans (congrArg some (og_9 _ (by omega)).symm)
  have taA : ∀ z, z < 1 → (aL [q3]) z = some (g_10 (k + 3 * z + 5)) := fun z hz => (taA z hz).trans (congrArg some (og_10 _ (by omega)).symm)
  have taA : ∀ z, z < 1 → (aL [q3]) z = some (g_10 (k + 3 * z + 5)) := taA
  have txA : ∀ z, z < 2 → isT G g_10 f_11 (k + 3 * z + 5) 0 0 (fun _ => 0) (fun _ => 0) := tx_ext (P := fun z => isT G g_10 f_11 (k + 3 * z + 5) 0 0 (fun _ => 0) (fun _ => 0)) txA pk_10_0
  have taA : ∀ z, z < 2 → (aL [q3, q4]) z = some (g_10 (k + 3 * z + 5)) := ta_ext (L := [q3]) (s := 3) (c := 5) rfl taA hg_9
  refine lv_iinc (v := 2) (lv' := [(2, .int 2), (0, .ref a), (1, .int 4)]) hx hb dX6_init_43 hl (k := 0) rfl (by decide) (by decide) rfl (fun ls hl => ?_)
  refine lv_goto (tgt := 25) hx hb dX6_init_46 (by decide) ?_
  refine lv_iload_n hx hb dX6_init_25 rfl (lv_at hl 0 rfl) ?_
  refine lv_iload_n hx hb dX6_init_26 rfl (lv_at hl 2 rfl) ?_
  refine lv_icmp_ge (tgt := 49) hx hb dX6_init_27 (by decide) (fun c_27 => absurd c_27 (by decide)) (fun c_27 => ?_)
  refine lv_aload_n hx hb dX6_init_30 rfl (lv_at hl 1 rfl) ?_
  replace hown0 := ((o_11 k (by first | exact lqD rfl | omega)).trans ((of_10 k (by first | exact lqA rfl | omega)).trans ((of_9 k (by first | exact lqA rfl | omega))))).trans hown0
  replace hga0 := gq.tr ((og_10 k (by first | exact lqA rfl | omega)).trans ((og_9 k (by first | exact lqA rfl | omega)))) hga0
  refine va_get (D := G.1) (ci := 6) (v := .ref q2) (C := RX6) (T := TX6) (N := 2) hx hb hts inlX6 hown hG.1 hP k (wn_at (by first | exact lqA rfl | exact lqB rfl | omega) hga0 hown0) rfl 0 (by decide) (hts (.fieldLink RX6 16 "SwornLists$Shelf" "texts" "[LSwornLists$Text;") w_82) (fun _ h9 => h9) rfl dX6_init_31 ?_
  refine lv_iload_n hx hb dX6_init_34 rfl (lv_at hl 0 rfl) ?_
  refine va_new (ci := 7) (fs := [.null, .null, .int 0, .int 0]) (C := RX8) (T := TX8) (N := 4) hx hb hts inlX8 tyX8 tyX8_ok hown (hts (.classLink RX6 7 RX8) w_78) (hts (.instantiable RX8 4) w_79) (hts (.initialized RX8) w_80) hG.1 hP hD hS hA rfl (fun j hj => by rcases (show j = 0 ∨ j = 1 ∨ j = 2 ∨ j = 3 by omega) with rfl | rfl | rfl | rfl <;> rfl) (Nat.le_of_ble_eq_true rfl) (Nat.le_of_ble_eq_true rfl) dX6_init_35 (fun q5 H hP hD hS => ?_)
  obtain ⟨g_12, f_12, hP, hD, hg_12, hf_12, og_12, of_12⟩ := n_ext hP hD
  have hf_12 : f_12 (k + 11) = eO 7 [.null, .null, .int 0, .int 0] := hf_12
  have hg_12 : gq (g_12 (k + 11)) q5 := hg_12
  have hP : va_P G.1 vwCl (wn (k + 12) g_12 f_12) H := hP
  have hD : va_D A (wn (k + 12) g_12 f_12) := hD
  refine W.widen (k := 11) (n := 320) (by omega) (by omega) ?_
  refine lv_dup hx hb dX6_init_38 rfl ?_
  refine n_call (va_runIN (As := []) (rest := [.ref q5, .int 2, .ref q2]) ⟨hx, hb, hml, hown, hts⟩ (i_text l G g_12 f_12 H.size (k + 11) q5 hg_12 hf_12) (⟨my_cn hts ok_X8_init.1 (hG.2.1 (.methodLinkNest RX6 9 yX8_init RX10) (List.mem_of_getElem? (i := 23) rfl)) rfl rfl ⟨Nat.le_of_ble_eq_true rfl, Nat.le_of_ble_eq_true rfl⟩, rfl, hts _ ok_X8_init.2.2.1⟩) ⟨nP.blind, fun U hU hW => ⟨rfl, by rw [hU], by rw [hU]; exact hP, kG.warm hW hG, hD.weaken (fun _ _ _ _ => trivial)⟩⟩ rfl rfl hl.1 rfl (lv_room (Nat.le_of_ble_eq_true rfl)) dX6_init_39 ⟨Nat.le_of_ble_eq_true rfl, Nat.le_of_ble_eq_true rfl⟩) hD hS hA (fun g_13 f_13 H locs og_13 hq9 hP hD hS => ?_)
  obtain ⟨hq_13_0, hx_13_0, of_13⟩ := hq9
  have hfq_13_0 : f_13 (k + 11) = eO 7 [.ref (g_13 (k + 12)), .ref (g_13 (k + 13)), .int 0, .int 0] := hq_13_0
  have pk_13_0 : isT G g_13 f_13 (k + 11) 0 0 (fun _ => 0) (fun _ => 0) := hx_13_0
  have hP : va_P G.1 vwCl (wn (k + 14) g_13 f_13) H := hP
  have hD : va_D A (wn (k + 14) g_13 f_13) := hD
  refine W.widen (k := 13) (n := 420) (by omega) (by omega) ?_
  replace hf_4 := ((of_13 (k + 4) (by first | exact lqB rfl | omega)).trans ((of_12 (k + 4) (by first | exact lqB rfl | omega)))).trans hf_4
  replace hg_4 := gq.tr ((og_13 (k + 4) (by first | exact lqB rfl | omega)).trans ((og_12 (k + 4) (by first | exact lqB rfl | omega)))) hg_4
  replace hg_12 := gq.tr ((og_13 (k + 11) (by first | exact lqB rfl | omega))) hg_12
  refine va_astq (r := (RX8, TX8, 4)) hx hb hG.1 hP hD hS (k + 4) 5 (k + 11) 7 (wn_at (by first | exact lqA rfl | exact lqB rfl | omega) hg_4 hf_4) rfl (wn_at (by first | exact lqA rfl | exact lqB rfl | omega) hg_12 hfq_13_0) rfl (by unfold vp_in; decide) dX6_init_42 (fun H locs hP hD hS => ?_)
  have ef : va_up (aL [q3, q4]) (Int32.toNatClampNeg 2) (some q5) = aL [q3, q4, q5] := aL_push [q3, q4] q5
  have hP := (congrArg (fun z9 => va_P G.1 vwCl ((wn (k + 14) g_13 f_13).set (k + 4) (q2, eA G 5 4 z9)) H) ef).mp hP
  have hD := (congrArg (fun z9 => va_D A ((wn (k + 14) g_13 f_13).set (k + 4) (q2, eA G 5 4 z9))) ef).mp hD
  obtain ⟨f_14, hP, hD, e_14, o_14⟩ := n_put (by first | exact lqA rfl | exact lqB rfl | omega) hg_4 hP hD
  have hf_4 : f_14 (k + 4) = eA G 5 4 (aL [q3, q4, q5]) := e_14
  have pk_13_0 : isT G g_13 f_14 (k + 11) 0 0 (fun _ => 0) (fun _ => 0) := isT_gf pk_13_0 (fun j _ => rfl) (fun j h1 h2 => o_14 j (by omega))
  have txA : ∀ z, z < 2 → isT G g_12 f_12 (k + 3 * z + 5) 0 0 (fun _ => 0) (fun _ => 0) := fun z hz => isT_gf (txA z hz) (fun j hj => og_12 j (by omega)) (fun j h1 h2 => of_12 j (by omega))
  have txA : ∀ z, z < 2 → isT G g_13 f_13 (k + 3 * z + 5) 0 0 (fun _ => 0) (fun _ => 0) := fun z hz => isT_gf (txA z hz) (fun j hj => og_13 j (by omega)) (fun j h1 h2 => of_13 j (by omega))
  have txA : ∀ z, z < 2 → isT G g_13 f_14 (k + 3 * z + 5) 0 0 (fun _ => 0) (fun _ => 0) := fun z hz => isT_gf (txA z hz) (fun j _ => rfl) (fun j h1 h2 => o_14 j (by omega))
  have taA : ∀ z, z < 2 → (aL [q3, q4]) z = some (g_12 (k + 3 * z + 5)) := fun z hz => (taA z hz).trans (congrArg some (og_12 _ (by omega)).symm)
  have taA : ∀ z, z < 2 → (aL [q3, q4]) z = some (g_13 (k + 3 * z + 5)) := fun z hz => (taA z hz).trans (congrArg some (og_13 _ (by omega)).symm)
  have taA : ∀ z, z < 2 → (aL [q3, q4]) z = some (g_13 (k + 3 * z + 5)) := taA
  have txA : ∀ z, z < 3 → isT G g_13 f_14 (k + 3 * z + 5) 0 0 (fun _ => 0) (fun _ => 0) := tx_ext (P := fun z => isT G g_13 f_14 (k + 3 * z + 5) 0 0 (fun _ => 0) (fun _ => 0)) txA pk_13_0
  have taA : ∀ z, z < 3 → (aL [q3, q4, q5]) z = some (g_13 (k + 3 * z + 5)) := ta_ext (L := [q3, q4]) (s := 3) (c := 5) rfl taA hg_12
  refine lv_iinc (v := 3) (lv' := [(2, .int 3), (0, .ref a), (1, .int 4)]) hx hb dX6_init_43 hl (k := 0) rfl (by decide) (by decide) rfl (fun ls hl => ?_)
  refine lv_goto (tgt := 25) hx hb dX6_init_46 (by decide) ?_
  refine lv_iload_n hx hb dX6_init_25 rfl (lv_at hl 0 rfl) ?_
  refine lv_iload_n hx hb dX6_init_26 rfl (lv_at hl 2 rfl) ?_
  refine lv_icmp_ge (tgt := 49) hx hb dX6_init_27 (by decide) (fun c_27 => absurd c_27 (by decide)) (fun c_27 => ?_)
  refine lv_aload_n hx hb dX6_init_30 rfl (lv_at hl 1 rfl) ?_
  replace hown0 := ((o_14 k (by first | exact lqD rfl | omega)).trans ((of_13 k (by first | exact lqA rfl | omega)).trans ((of_12 k (by first | exact lqA rfl | omega))))).trans hown0
  replace hga0 := gq.tr ((og_13 k (by first | exact lqA rfl | omega)).trans ((og_12 k (by first | exact lqA rfl | omega)))) hga0
  refine va_get (D := G.1) (ci := 6) (v := .ref q2) (C := RX6) (T := TX6) (N := 2) hx hb hts inlX6 hown hG.1 hP k (wn_at (by first | exact lqA rfl | exact lqB rfl | omega) hga0 hown0) rfl 0 (by decide) (hts (.fieldLink RX6 16 "SwornLists$Shelf" "texts" "[LSwornLists$Text;") w_82) (fun _ h9 => h9) rfl dX6_init_31 ?_
  refine lv_iload_n hx hb dX6_init_34 rfl (lv_at hl 0 rfl) ?_
  refine va_new (ci := 7) (fs := [.null, .null, .int 0, .int 0]) (C := RX8) (T := TX8) (N := 4) hx hb hts inlX8 tyX8 tyX8_ok hown (hts (.classLink RX6 7 RX8) w_78) (hts (.instantiable RX8 4) w_79) (hts (.initialized RX8) w_80) hG.1 hP hD hS hA rfl (fun j hj => by rcases (show j = 0 ∨ j = 1 ∨ j = 2 ∨ j = 3 by omega) with rfl | rfl | rfl | rfl <;> rfl) (Nat.le_of_ble_eq_true rfl) (Nat.le_of_ble_eq_true rfl) dX6_init_35 (fun q6 H hP hD hS => ?_)
  obtain ⟨g_15, f_15, hP, hD, hg_15, hf_15, og_15, of_15⟩ := n_ext hP hD
  have hf_15 : f_15 (k + 14) = eO 7 [.null, .null, .int 0, .int 0] := hf_15
  have hg_15 : gq (g_15 (k + 14)) q6 := hg_15
  have hP : va_P G.1 vwCl (wn (k + 15) g_15 f_15) H := hP
  have hD : va_D A (wn (k + 15) g_15 f_15) := hD
  refine W.widen (k := 14) (n := 424) (by omega) (by omega) ?_
  refine lv_dup hx hb dX6_init_38 rfl ?_
  refine n_call (va_runIN (As := []) (rest := [.ref q6, .int 3, .ref q2]) ⟨hx, hb, hml, hown, hts⟩ (i_text l G g_15 f_15 H.size (k + 14) q6 hg_15 hf_15) (⟨my_cn hts ok_X8_init.1 (hG.2.1 (.methodLinkNest RX6 9 yX8_init RX10) (List.mem_of_getElem? (i := 23) rfl)) rfl rfl ⟨Nat.le_of_ble_eq_true rfl, Nat.le_of_ble_eq_true rfl⟩, rfl, hts _ ok_X8_init.2.2.1⟩) ⟨nP.blind, fun U hU hW => ⟨rfl, by rw [hU], by rw [hU]; exact hP, kG.warm hW hG, hD.weaken (fun _ _ _ _ => trivial)⟩⟩ rfl rfl hl.1 rfl (lv_room (Nat.le_of_ble_eq_true rfl)) dX6_init_39 ⟨Nat.le_of_ble_eq_true rfl, Nat.le_of_ble_eq_true rfl⟩) hD hS hA (fun g_16 f_16 H locs og_16 hq9 hP hD hS => ?_)
  obtain ⟨hq_16_0, hx_16_0, of_16⟩ := hq9
  have hfq_16_0 : f_16 (k + 14) = eO 7 [.ref (g_16 (k + 15)), .ref (g_16 (k + 16)), .int 0, .int 0] := hq_16_0
  have pk_16_0 : isT G g_16 f_16 (k + 14) 0 0 (fun _ => 0) (fun _ => 0) := hx_16_0
  have hP : va_P G.1 vwCl (wn (k + 17) g_16 f_16) H := hP
  have hD : va_D A (wn (k + 17) g_16 f_16) := hD
  refine W.widen (k := 16) (n := 524) (by omega) (by omega) ?_
  replace hf_4 := ((of_16 (k + 4) (by first | exact lqB rfl | omega)).trans ((of_15 (k + 4) (by first | exact lqB rfl | omega)))).trans hf_4
  replace hg_4 := gq.tr ((og_16 (k + 4) (by first | exact lqB rfl | omega)).trans ((og_15 (k + 4) (by first | exact lqB rfl | omega)))) hg_4
  replace hg_15 := gq.tr ((og_16 (k + 14) (by first | exact lqB rfl | omega))) hg_15
  refine va_astq (r := (RX8, TX8, 4)) hx hb hG.1 hP hD hS (k + 4) 5 (k + 14) 7 (wn_at (by first | exact lqA rfl | exact lqB rfl | omega) hg_4 hf_4) rfl (wn_at (by first | exact lqA rfl | exact lqB rfl | omega) hg_15 hfq_16_0) rfl (by unfold vp_in; decide) dX6_init_42 (fun H locs hP hD hS => ?_)
  have ef : va_up (aL [q3, q4, q5]) (Int32.toNatClampNeg 3) (some q6) = aL [q3, q4, q5, q6] := aL_push [q3, q4, q5] q6
  have hP := (congrArg (fun z9 => va_P G.1 vwCl ((wn (k + 17) g_16 f_16).set (k + 4) (q2, eA G 5 4 z9)) H) ef).mp hP
  have hD := (congrArg (fun z9 => va_D A ((wn (k + 17) g_16 f_16).set (k + 4) (q2, eA G 5 4 z9))) ef).mp hD
  obtain ⟨f_17, hP, hD, e_17, o_17⟩ := n_put (by first | exact lqA rfl | exact lqB rfl | omega) hg_4 hP hD
  have hf_4 : f_17 (k + 4) = eA G 5 4 (aL [q3, q4, q5, q6]) := e_17
  have pk_16_0 : isT G g_16 f_17 (k + 14) 0 0 (fun _ => 0) (fun _ => 0) := isT_gf pk_16_0 (fun j _ => rfl) (fun j h1 h2 => o_17 j (by omega))
  have txA : ∀ z, z < 3 → isT G g_15 f_15 (k + 3 * z + 5) 0 0 (fun _ => 0) (fun _ => 0) := fun z hz => isT_gf (txA z hz) (fun j hj => og_15 j (by omega)) (fun j h1 h2 => of_15 j (by omega))
  have txA : ∀ z, z < 3 → isT G g_16 f_16 (k + 3 * z + 5) 0 0 (fun _ => 0) (fun _ => 0) := fun z hz => isT_gf (txA z hz) (fun j hj => og_16 j (by omega)) (fun j h1 h2 => of_16 j (by omega))
  have txA : ∀ z, z < 3 → isT G g_16 f_17 (k + 3 * z + 5) 0 0 (fun _ => 0) (fun _ => 0) := fun z hz => isT_gf (txA z hz) (fun j _ => rfl) (fun j h1 h2 => o_17 j (by omega))
  have taA : ∀ z, z < 3 → (aL [q3, q4, q5]) z = some (g_15 (k + 3 * z + 5)) := fun z hz => (taA z hz).trans (congrArg some (og_15 _ (by omega)).symm)
  have taA : ∀ z, z < 3 → (aL [q3, q4, q5]) z = some (g_16 (k + 3 * z + 5)) := fun z hz => (taA z hz).trans (congrArg some (og_16 _ (by omega)).symm)
  have taA : ∀ z, z < 3 → (aL [q3, q4, q5]) z = some (g_16 (k + 3 * z + 5)) := taA
  have txA : ∀ z, z < 4 → isT G g_16 f_17 (k + 3 * z + 5) 0 0 (fun _ => 0) (fun _ => 0) := tx_ext (P := fun z => isT G g_16 f_17 (k + 3 * z + 5) 0 0 (fun _ => 0) (fun _ => 0)) txA pk_16_0
  have taA : ∀ z, z < 4 → (aL [q3, q4, q5, q6]) z = some (g_16 (k + 3 * z + 5)) := ta_ext (L := [q3, q4, q5]) (s := 3) (c := 5) rfl taA hg_15
  refine lv_iinc (v := 4) (lv' := [(2, .int 4), (0, .ref a), (1, .int 4)]) hx hb dX6_init_43 hl (k := 0) rfl (by decide) (by decide) rfl (fun ls hl => ?_)
  refine lv_goto (tgt := 25) hx hb dX6_init_46 (by decide) ?_
  refine lv_iload_n hx hb dX6_init_25 rfl (lv_at hl 0 rfl) ?_
  refine lv_iload_n hx hb dX6_init_26 rfl (lv_at hl 2 rfl) ?_
  refine lv_icmp_ge (tgt := 49) hx hb dX6_init_27 (by decide) (fun c_27 => ?_) (fun c_27 => absurd (by decide) c_27)
  replace hown0 := ((o_17 k (by first | exact lqD rfl | omega)).trans ((of_16 k (by first | exact lqA rfl | omega)).trans ((of_15 k (by first | exact lqA rfl | omega))))).trans hown0
  replace hg_1 := gq.tr ((og_16 (k + 1) (by first | exact lqB rfl | omega)).trans ((og_15 (k + 1) (by first | exact lqB rfl | omega)).trans ((og_13 (k + 1) (by first | exact lqB rfl | omega)).trans ((og_12 (k + 1) (by first | exact lqB rfl | omega)).trans ((og_10 (k + 1) (by first | exact lqB rfl | omega)).trans ((og_9 (k + 1) (by first | exact lqB rfl | omega)).trans ((og_7 (k + 1) (by first | exact lqB rfl | omega)).trans ((og_6 (k + 1) (by first | exact lqB rfl | omega)).trans ((og_4 (k + 1) (by first | exact lqB rfl | omega)).trans ((og_2 (k + 1) (by first | exact lqB rfl | omega)))))))))))) hg_1
  exact W.vret hx hb hr (fun t ht hW => ⟨⟨g_16, f_17, rfl, fun j hj => (og_16 j (by omega)).trans ((og_15 j (by omega)).trans ((og_13 j (by omega)).trans ((og_12 j (by omega)).trans ((og_10 j (by omega)).trans ((og_9 j (by omega)).trans ((og_7 j (by omega)).trans ((og_6 j (by omega)).trans ((og_4 j (by omega)).trans ((og_2 j (by omega)).trans ((og_1 j (by omega)))))))))))), ⟨⟨(by rw [show g_16 (k + 4) = q2 from hg_4, show g_16 (k + 1) = q1 from hg_1]; exact hown0), ⟨_, hf_4, taA⟩, txA⟩, fun j hj => (o_17 j (by omega)).trans ((of_16 j (by omega)).trans ((of_15 j (by omega)).trans ((o_14 j (by omega)).trans ((of_13 j (by omega)).trans ((of_12 j (by omega)).trans ((o_11 j (by omega)).trans ((of_10 j (by omega)).trans ((of_9 j (by omega)).trans ((o_8 j (by omega)).trans ((of_7 j (by omega)).trans ((of_6 j (by omega)).trans ((o_5 j (by omega)).trans ((of_4 j (by omega)).trans ((o_3 j (by omega)).trans ((of_2 j (by omega)).trans ((of_1 j (by omega))))))))))))))))))⟩, by rw [ht]; exact hP, by rw [hAe]; exact hD⟩, by rw [hAe]; exact hS.F ht⟩) hS.2.2 dX6_init_49


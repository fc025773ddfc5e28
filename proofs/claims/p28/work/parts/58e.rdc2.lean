set_option maxHeartbeats 4000000 in
set_option maxRecDepth 100000 in
theorem e_closesE (l : Launch) (G : gW) (g : Nat → Nat) (hg : gOK g) (f : Nat → va_E) (k : Nat) (ln : Nat) (sc : Nat) (sp : Nat → Int32) (mc : Nat) (op : Nat) (cm : Int32) (wu : Bool) (mk : Nat → Int32) (hrd : f 4 = eO 4 [.ref (g 5), .int (nI mc), .int (nI op), .int cm, .int (b2 (wu = true))]) (hmk : f 5 = eI G 50 mk) (htx : f k = eO 7 [.ref (g (k + 1)), .ref (g (k + 2)), .int (nI ln), .int (nI sc)]) (hpx : f (k + 2) = eI G 50 sp) (hk3 : k + 2 < 333) (hln : ln ≤ 50) (hsc : sc ≤ 50) (hkt : 36 ≤ k) (hms : mc + sc ≤ 49) (hop8 : op ≤ 8) : Met l yX4_closes (wsT yX4_closes cX4_closes 2 (some .boolean)) ({ frames := 2, cells := 0, slots := 0, locals := 43 }) (bP G g f [.ref (g 4), .ref (g k)]) (bQi G g (fun (z9 : Int32) (f' : Nat → va_E) => ∃ bz : Bool, ∃ mc9 : Nat, ∃ op9 : Nat, ∃ sc9 : Nat, ∃ sp9 : Nat → Int32, z9 = b2 (bz = true) ∧ f' 4 = eO 4 [.ref (g 5), .int (nI mc9), .int (nI op9), .int cm, .int (b2 (wu = true))] ∧ f' k = eO 7 [.ref (g (k + 1)), .ref (g (k + 2)), .int (nI ln), .int (nI sc9)] ∧ f' (k + 2) = eI G 50 sp9 ∧ ((op = 0 ∧ bz = false ∧ mc9 = mc ∧ op9 = op ∧ sc9 = sc ∧ sp9 = sp) ∨ (0 < op ∧ bz = true ∧ op9 = op - 1 ∧ ∃ mc1, mc9 = mc1 - 1 ∧ stk mk mc1 = popC 1 (stk mk mc) ∧ stk sp9 sc9 = poC 1 (stk mk mc) (stk sp sc) ∧ mc1 + sc9 = mc + sc)) ∧ ∀ j, (j ≠ 4 ∧ j ≠ k ∧ j ≠ k + 2) → f' j = f j)) 0 0 (gA g) := by
  refine Met.ofW (cc := cX4_closes) (maxL := 2) (ret := (some .boolean)) (by decide) rfl ?_
  intro p e s m args below meth c s₁ B hml hv
  obtain ⟨rfl, hP, hG⟩ := hv
  have hx := B.exec
  have hb := B.bytes
  have hr := B.returns
  have hts := my_hts (atoms_spec (ws := wsT yX4_closes cX4_closes 2 (some .boolean)) B.pre)
  have hown : s.vm.findClass RX4 = some m.cls := findClass_of_methodNamed B.named
  have hlocks := B.notSynchronized
  have hS : va_S (gA g) s.heap s.heap [] := va_S.rf
  have hl := lv_entry ([.ref (g 4), .ref (g k)]) (n := 2) (Nat.le_of_ble_eq_true rfl)
  rw [lg_entry_eq]
  generalize (lg_sl ([.ref (g 4), .ref (g k)]) ++ List.replicate (2 - (lg_sl ([.ref (g 4), .ref (g k)])).length) Slot.unset).toArray = ls at hl ⊢
  have hl : lv_has ls 2 [(0, .ref (g 4)), (1, .ref (g k))] := hl
  refine W_q8 (fun Q9 hQ9 => ?_)
  refine lv_aload_n hx hb dX4_closes_0 rfl (lv_at hl 0 rfl) ?_
  refine va_get (D := G.1) (ci := 4) (v := .int (nI op)) (C := RX4) (T := TX4) (N := 5) hx hb hts inlX4 hown hG.1 hP 4 (wl_at (by decide) hrd) rfl 2 (by decide) (hts (.fieldLink RX4 24 "SwornLists$Reader" "open" "I") w_283) (fun _ h9 => h9) rfl dX4_closes_1 ?_
  refine lv_if_ne (tgt := 9) hx hb dX4_closes_4 (by decide) (fun c_4 => ?_) (fun c_4 => ?_)
  · have k_4 : ¬ op = 0 := fun z9 => c_4 ((nI_eq (a := op) (b := 0) (by omega) (by omega)).mpr z9)
    refine lv_aload_n hx hb dX4_closes_9 rfl (lv_at hl 0 rfl) ?_
    refine lv_dup hx hb dX4_closes_10 rfl ?_
    refine va_get (D := G.1) (ci := 4) (v := .int (nI op)) (C := RX4) (T := TX4) (N := 5) hx hb hts inlX4 hown hG.1 hP 4 (wl_at (by decide) hrd) rfl 2 (by decide) (hts (.fieldLink RX4 24 "SwornLists$Reader" "open" "I") w_283) (fun _ h9 => h9) rfl dX4_closes_11 ?_
    refine lv_iconst (v := 1) hx hb dX4_closes_14 (by decide) ?_
    refine lv_isub hx hb dX4_closes_15 ?_
    refine my_bei (v := nI (op - 1)) (pk_sub (a := op) (b := 1) (by omega)) ?_
    refine va_put (D := G.1) (ci := 4) (v := .int (nI (op - 1))) (ty := .int) (C := RX4) (T := TX4) (N := 5) hx hb hts inlX4 tyX4 tyX4_ok nmX4 hown hG.1 hP (wl_D hg f) hS 4 (wl_at (by decide) hrd) rfl 2 (by decide) (hts (.fieldLink RX4 24 "SwornLists$Reader" "open" "I") w_283) (fun _ h9 => h9) rfl (by decide +kernel) rfl rfl (Nat.le_of_ble_eq_true rfl) dX4_closes_16 (fun H locs hP _ hS => ?_)
    obtain ⟨f_1, hP, e_1, o_1⟩ := b_put (by decide) hP
    have hrd : f_1 4 = eO 4 [.ref (g 5), .int (nI mc), .int (nI (op - 1)), .int cm, .int (b2 (wu = true))] := e_1
    refine lv_aload_n hx hb dX4_closes_19 rfl (lv_at hl 0 rfl) ?_
    refine lv_aload_n hx hb dX4_closes_20 rfl (lv_at hl 1 rfl) ?_
    refine lv_iconst (v := 1) hx hb dX4_closes_21 (by decide) ?_
    replace hmk := ((o_1 5 (by decide))).trans hmk
    replace htx : f_1 k = eO 7 [.ref (g (k + 1)), .ref (g (k + 2)), .int (nI ln), .int (nI sc)] := ((o_1 k (by omega))).trans htx
    replace hpx : f_1 (k + 2) = eI G 50 sp := ((o_1 (k + 2) (by omega))).trans hpx
    refine b_callv (va_runV (As := [.ref (g k), .int 1]) (rest := []) ⟨hx, hb, hml, hown, hts⟩ (e_releaseE l G g hg f_1 k ln sc sp mc (op - 1) cm wu mk 1 hrd hmk htx hpx (by first | assumption | omega | decide) (by first | assumption | omega | decide) (by first | assumption | omega | decide) (by first | assumption | omega | decide) (by first | assumption | omega | decide)) (my_cwV hts ok_X4_release w_331 rfl rfl ⟨Nat.le_of_ble_eq_true rfl, Nat.le_of_ble_eq_true rfl⟩) ⟨bP.blind, va_recv hG.1 hP (ci := 4) (q0 := 4) rfl (wl_at (by decide) hrd), fun U hU hW => ⟨rfl, by rw [hU]; exact hP, kG.warm hW hG⟩⟩ rfl rfl hl.1 rfl (lv_room (Nat.le_of_ble_eq_true rfl)) dX4_closes_22 ⟨Nat.le_of_ble_eq_true rfl, Nat.le_of_ble_eq_true rfl⟩) hS (fun f_2 H locs hq9 hP hS => ?_)
    obtain ⟨mc91, sc92, sp93, hq_2_0, hq_2_1, hq_2_2, hx_2_0, hx_2_1, hx_2_2, o_2⟩ := hq9
    have hrd : f_2 4 = eO 4 [.ref (g 5), .int (nI mc91), .int (nI (op - 1)), .int cm, .int (b2 (wu = true))] := hq_2_0
    have htx : f_2 k = eO 7 [.ref (g (k + 1)), .ref (g (k + 2)), .int (nI ln), .int (nI sc92)] := hq_2_1
    have hpx : f_2 (k + 2) = eI G 50 sp93 := hq_2_2
    refine lv_aload_n hx hb dX4_closes_25 rfl (lv_at hl 0 rfl) ?_
    refine lv_iconst (v := 0) hx hb dX4_closes_26 (by decide) ?_
    refine lv_aload_n hx hb dX4_closes_27 rfl (lv_at hl 0 rfl) ?_
    refine va_get (D := G.1) (ci := 4) (v := .int (nI mc91)) (C := RX4) (T := TX4) (N := 5) hx hb hts inlX4 hown hG.1 hP 4 (wl_at (by decide) hrd) rfl 1 (by decide) (hts (.fieldLink RX4 20 "SwornLists$Reader" "markCount" "I") w_282) (fun _ h9 => h9) rfl dX4_closes_28 ?_
    refine lv_iconst (v := 1) hx hb dX4_closes_31 (by decide) ?_
    refine lv_isub hx hb dX4_closes_32 ?_
    refine va_mmax hx hb (by rw [hml]; exact hl.1.symm) hown (hts (.methodLink RX4 58 Lib.Math.max.name) w_286) (hts (.static Lib.Math.max.name) w_287) (hts (.initialized "java/lang/Math") w_153) (hts (.code Lib.Math.max.name Lib.Math.max.code 2 (some .int)) w_288) (Nat.le_of_ble_eq_true rfl) (Nat.le_of_ble_eq_true rfl) (Nat.le_of_ble_eq_true rfl) (Nat.le_of_ble_eq_true rfl) dX4_closes_33 ?_
    refine my_bei (v := nI (mc91 - 1)) (max_p (by omega)) ?_
    refine va_put (D := G.1) (ci := 4) (v := .int (nI (mc91 - 1))) (ty := .int) (C := RX4) (T := TX4) (N := 5) hx hb hts inlX4 tyX4 tyX4_ok nmX4 hown hG.1 hP (wl_D hg f_2) hS 4 (wl_at (by decide) hrd) rfl 1 (by decide) (hts (.fieldLink RX4 20 "SwornLists$Reader" "markCount" "I") w_282) (fun _ h9 => h9) rfl (by decide +kernel) rfl rfl (Nat.le_of_ble_eq_true rfl) dX4_closes_36 (fun H locs hP _ hS => ?_)
    obtain ⟨f_3, hP, e_3, o_3⟩ := b_put (by decide) hP
    have hrd : f_3 4 = eO 4 [.ref (g 5), .int (nI (mc91 - 1)), .int (nI (op - 1)), .int cm, .int (b2 (wu = true))] := e_3
    refine lv_iconst (v := 1) hx hb dX4_closes_39 (by decide) ?_
    replace htx : f_3 k = eO 7 [.ref (g (k + 1)), .ref (g (k + 2)), .int (nI ln), .int (nI sc92)] := ((o_3 k (by omega))).trans htx
    replace hpx : f_3 (k + 2) = eI G 50 sp93 := ((o_3 (k + 2) (by omega))).trans hpx
    refine W_q9 hQ9 ?_
    exact W.zret (v := 1) hx hb hr (rfl) (fun _ hT9 _ => ⟨⟨_, f_3, rfl, (⟨true, (mc91 - 1), (op - 1), sc92, sp93, (b2_t rfl).symm, hrd, htx, hpx, Or.inr ⟨by omega, rfl, rfl, mc91, rfl, hx_2_1, hx_2_2, hx_2_0⟩, fun j hj => (((o_3 j (by omega))).trans (o_2 j (by omega))).trans (o_1 j (by omega))⟩), by rw [hT9]; exact hP⟩, hS.F hT9⟩) hS.2.2 dX4_closes_40
  · have k_4 : op = 0 := (nI_eq (a := op) (b := 0) (by omega) (by omega)).mp c_4
    refine lv_iconst (v := 0) hx hb dX4_closes_7 (by decide) ?_
    refine W_q9 hQ9 ?_
    exact W.zret (v := 0) hx hb hr (rfl) (fun _ hT9 _ => ⟨⟨_, f, rfl, (⟨false, mc, op, sc, sp, (b2_f (by decide)).symm, hrd, htx, hpx, Or.inl ⟨k_4, rfl, rfl, rfl, rfl, rfl⟩, fun j hj => rfl⟩), by rw [hT9]; exact hP⟩, hS.F hT9⟩) hS.2.2 dX4_closes_8
set_option maxHeartbeats 4000000 in
set_option maxRecDepth 100000 in
theorem e_startsUnitE (l : Launch) (G : gW) (g : Nat → Nat) (hg : gOK g) (f : Nat → va_E) (k : Nat) (ln : Nat) (sc : Nat) (sp : Nat → Int32) (mc : Nat) (op : Nat) (cm : Int32) (wu : Bool) (mk : Nat → Int32) (n : Int32) (hrd : f 4 = eO 4 [.ref (g 5), .int (nI mc), .int (nI op), .int cm, .int (b2 (wu = true))]) (hmk : f 5 = eI G 50 mk) (htx : f k = eO 7 [.ref (g (k + 1)), .ref (g (k + 2)), .int (nI ln), .int (nI sc)]) (hpx : f (k + 2) = eI G 50 sp) (hk3 : k + 2 < 333) (hln : ln ≤ 50) (hsc : sc ≤ 50) (hkt : 36 ≤ k) (hms : mc + sc ≤ 49) (hop8 : op ≤ 8) : Met l yX4_startsUnit (wsT yX4_startsUnit cX4_startsUnit 3 (some .boolean)) ({ frames := 1, cells := 0, slots := 0, locals := 21 }) (bP G g f [.ref (g 4), .ref (g k), .int n]) (bQi G g (fun (z9 : Int32) (f' : Nat → va_E) => ∃ bz : Bool, ∃ mc9 : Nat, ∃ op9 : Nat, ∃ cm9 : Int32, ∃ wu9 : Bool, ∃ mk9 : Nat → Int32, ∃ sc9 : Nat, ∃ sp9 : Nat → Int32, z9 = b2 (bz = true) ∧ f' 4 = eO 4 [.ref (g 5), .int (nI mc9), .int (nI op9), .int cm9, .int (b2 (wu9 = true))] ∧ f' 5 = eI G 50 mk9 ∧ f' k = eO 7 [.ref (g (k + 1)), .ref (g (k + 2)), .int (nI ln), .int (nI sc9)] ∧ f' (k + 2) = eI G 50 sp9 ∧ ((¬ nam n = -1 ∧ bz = true ∧ mc9 = mc ∧ mk9 = mk ∧ op9 = op ∧ cm9 = cm ∧ wu9 = false ∧ sc9 = sc + 1 ∧ sp9 = upd sp sc (-n)) ∨ (n = 40 ∧ bz = true ∧ mc9 = mc + 1 ∧ mk9 = upd mk mc 40 ∧ op9 = op + 1 ∧ cm9 = cm &&& (((1 : Int32) <<< (nI (op + 1) &&& 31)) ^^^ (-1)) ∧ wu9 = wu ∧ sc9 = sc ∧ sp9 = sp) ∨ (n = 33 ∧ bz = true ∧ mc9 = mc + 1 ∧ mk9 = upd mk mc 33 ∧ op9 = op ∧ cm9 = cm ∧ wu9 = wu ∧ sc9 = sc ∧ sp9 = sp) ∨ (n = 45 ∧ bz = true ∧ mc9 = mc + 1 ∧ mk9 = upd mk mc 126 ∧ op9 = op ∧ cm9 = cm ∧ wu9 = wu ∧ sc9 = sc ∧ sp9 = sp) ∨ (nam n = -1 ∧ ¬ n = 40 ∧ ¬ n = 33 ∧ ¬ n = 45 ∧ bz = false ∧ mc9 = mc ∧ mk9 = mk ∧ op9 = op ∧ cm9 = cm ∧ wu9 = wu ∧ sc9 = sc ∧ sp9 = sp)) ∧ ∀ j, (j ≠ 4 ∧ j ≠ 5 ∧ j ≠ k ∧ j ≠ k + 2) → f' j = f j)) 0 0 (gA g) := by
  refine Met.ofW (cc := cX4_startsUnit) (maxL := 3) (ret := (some .boolean)) (by decide) rfl ?_
  intro p e s m args below meth c s₁ B hml hv
  obtain ⟨rfl, hP, hG⟩ := hv
  have hx := B.exec
  have hb := B.bytes
  have hr := B.returns
  have hts := my_hts (atoms_spec (ws := wsT yX4_startsUnit cX4_startsUnit 3 (some .boolean)) B.pre)
  have hown : s.vm.findClass RX4 = some m.cls := findClass_of_methodNamed B.named
  have hlocks := B.notSynchronized
  have hS : va_S (gA g) s.heap s.heap [] := va_S.rf
  have hl := lv_entry ([.ref (g 4), .ref (g k), .int n]) (n := 3) (Nat.le_of_ble_eq_true rfl)
  rw [lg_entry_eq]
  generalize (lg_sl ([.ref (g 4), .ref (g k), .int n]) ++ List.replicate (3 - (lg_sl ([.ref (g 4), .ref (g k), .int n])).length) Slot.unset).toArray = ls at hl ⊢
  have hl : lv_has ls 3 [(0, .ref (g 4)), (1, .ref (g k)), (2, .int n)] := hl
  refine W_q8 (fun Q9 hQ9 => ?_)
  refine lv_iload_n hx hb dX4_startsUnit_0 rfl (lv_at hl 2 rfl) ?_
  by_cases e_33 : n = 33
  · refine my_bei e_33 ?_
    refine lv_lookup (off := 130) (tgt := 131) hx hb dX4_startsUnit_1 (by decide) (by decide) (by decide) ?_
    refine lv_aload_n hx hb dX4_startsUnit_131 rfl (lv_at hl 0 rfl) ?_
    refine lv_iload_n hx hb dX4_startsUnit_132 rfl (lv_at hl 2 rfl) ?_
    refine b_callv (va_runV (As := [.int n]) (rest := []) ⟨hx, hb, hml, hown, hts⟩ (e_holdE l G g hg f mc op cm wu mk n hrd hmk (by first | assumption | omega | decide)) (my_cwV hts ok_X4_hold w_319 rfl rfl ⟨Nat.le_of_ble_eq_true rfl, Nat.le_of_ble_eq_true rfl⟩) ⟨bP.blind, va_recv hG.1 hP (ci := 4) (q0 := 4) rfl (wl_at (by decide) hrd), fun U hU hW => ⟨rfl, by rw [hU]; exact hP, kG.warm hW hG⟩⟩ rfl rfl hl.1 rfl (lv_room (Nat.le_of_ble_eq_true rfl)) dX4_startsUnit_133 ⟨Nat.le_of_ble_eq_true rfl, Nat.le_of_ble_eq_true rfl⟩) hS (fun f_1 H locs hq9 hP hS => ?_)
    obtain ⟨hq_1_0, hq_1_1, o_1⟩ := hq9
    have hrd : f_1 4 = eO 4 [.ref (g 5), .int (nI (mc + 1)), .int (nI op), .int cm, .int (b2 (wu = true))] := hq_1_0
    have hmk : f_1 5 = eI G 50 (upd mk mc n) := hq_1_1
    refine lv_iconst (v := 1) hx hb dX4_startsUnit_136 (by decide) ?_
    replace htx : f_1 k = eO 7 [.ref (g (k + 1)), .ref (g (k + 2)), .int (nI ln), .int (nI sc)] := ((o_1 k (by omega))).trans htx
    replace hpx : f_1 (k + 2) = eI G 50 sp := ((o_1 (k + 2) (by omega))).trans hpx
    refine W_q9 hQ9 ?_
    exact W.zret (v := 1) hx hb hr (rfl) (fun _ hT9 _ => ⟨⟨_, f_1, rfl, (⟨true, (mc + 1), op, cm, wu, (upd mk mc n), sc, sp, (b2_t rfl).symm, hrd, hmk, htx, hpx, Or.inr (Or.inr (Or.inl ⟨e_33, rfl, rfl, by rw [e_33], rfl, rfl, rfl, rfl, rfl⟩)), fun j hj => (o_1 j (by omega))⟩), by rw [hT9]; exact hP⟩, hS.F hT9⟩) hS.2.2 dX4_startsUnit_137
  by_cases e_40 : n = 40
  · refine my_bei e_40 ?_
    refine lv_lookup (off := 96) (tgt := 97) hx hb dX4_startsUnit_1 (by decide) (by decide) (by decide) ?_
    refine lv_aload_n hx hb dX4_startsUnit_97 rfl (lv_at hl 0 rfl) ?_
    refine lv_dup hx hb dX4_startsUnit_98 rfl ?_
    refine va_get (D := G.1) (ci := 4) (v := .int (nI op)) (C := RX4) (T := TX4) (N := 5) hx hb hts inlX4 hown hG.1 hP 4 (wl_at (by decide) hrd) rfl 2 (by decide) (hts (.fieldLink RX4 24 "SwornLists$Reader" "open" "I") w_283) (fun _ h9 => h9) rfl dX4_startsUnit_99 ?_
    refine lv_iconst (v := 1) hx hb dX4_startsUnit_102 (by decide) ?_
    refine lv_iadd hx hb dX4_startsUnit_103 ?_
    refine my_bei (v := nI (op + 1)) (nI_add op 1) ?_
    refine va_put (D := G.1) (ci := 4) (v := .int (nI (op + 1))) (ty := .int) (C := RX4) (T := TX4) (N := 5) hx hb hts inlX4 tyX4 tyX4_ok nmX4 hown hG.1 hP (wl_D hg f) hS 4 (wl_at (by decide) hrd) rfl 2 (by decide) (hts (.fieldLink RX4 24 "SwornLists$Reader" "open" "I") w_283) (fun _ h9 => h9) rfl (by decide +kernel) rfl rfl (Nat.le_of_ble_eq_true rfl) dX4_startsUnit_104 (fun H locs hP _ hS => ?_)
    obtain ⟨f_2, hP, e_2, o_2⟩ := b_put (by decide) hP
    have hrd : f_2 4 = eO 4 [.ref (g 5), .int (nI mc), .int (nI (op + 1)), .int cm, .int (b2 (wu = true))] := e_2
    refine lv_aload_n hx hb dX4_startsUnit_107 rfl (lv_at hl 0 rfl) ?_
    refine lv_dup hx hb dX4_startsUnit_108 rfl ?_
    refine va_get (D := G.1) (ci := 4) (v := .int cm) (C := RX4) (T := TX4) (N := 5) hx hb hts inlX4 hown hG.1 hP 4 (wl_at (by decide) hrd) rfl 3 (by decide) (hts (.fieldLink RX4 27 "SwornLists$Reader" "compared" "I") w_284) (fun _ h9 => h9) rfl dX4_startsUnit_109 ?_
    refine lv_iconst (v := 1) hx hb dX4_startsUnit_112 (by decide) ?_
    refine lv_aload_n hx hb dX4_startsUnit_113 rfl (lv_at hl 0 rfl) ?_
    refine va_get (D := G.1) (ci := 4) (v := .int (nI (op + 1))) (C := RX4) (T := TX4) (N := 5) hx hb hts inlX4 hown hG.1 hP 4 (wl_at (by decide) hrd) rfl 2 (by decide) (hts (.fieldLink RX4 24 "SwornLists$Reader" "open" "I") w_283) (fun _ h9 => h9) rfl dX4_startsUnit_114 ?_
    refine lv_ishl hx hb dX4_startsUnit_117 ?_
    refine lv_iconst (v := (-1)) hx hb dX4_startsUnit_118 (by decide) ?_
    refine lv_ixor hx hb dX4_startsUnit_119 ?_
    refine lv_iand hx hb dX4_startsUnit_120 ?_
    refine va_put (D := G.1) (ci := 4) (v := .int (cm &&& ((1 <<< ((nI (op + 1)) &&& 31)) ^^^ (-1)))) (ty := .int) (C := RX4) (T := TX4) (N := 5) hx hb hts inlX4 tyX4 tyX4_ok nmX4 hown hG.1 hP (wl_D hg f_2) hS 4 (wl_at (by decide) hrd) rfl 3 (by decide) (hts (.fieldLink RX4 27 "SwornLists$Reader" "compared" "I") w_284) (fun _ h9 => h9) rfl (by decide +kernel) rfl rfl (Nat.le_of_ble_eq_true rfl) dX4_startsUnit_121 (fun H locs hP _ hS => ?_)
    obtain ⟨f_3, hP, e_3, o_3⟩ := b_put (by decide) hP
    have hrd : f_3 4 = eO 4 [.ref (g 5), .int (nI mc), .int (nI (op + 1)), .int (cm &&& ((1 <<< ((nI (op + 1)) &&& 31)) ^^^ (-1))), .int (b2 (wu = true))] := e_3
    refine lv_aload_n hx hb dX4_startsUnit_124 rfl (lv_at hl 0 rfl) ?_
    refine lv_iload_n hx hb dX4_startsUnit_125 rfl (lv_at hl 2 rfl) ?_
    replace hmk := ((o_3 5 (by decide)).trans ((o_2 5 (by decide)))).trans hmk
    refine b_callv (va_runV (As := [.int n]) (rest := []) ⟨hx, hb, hml, hown, hts⟩ (e_holdE l G g hg f_3 mc (op + 1) (cm &&& ((1 <<< ((nI (op + 1)) &&& 31)) ^^^ (-1))) wu mk n hrd hmk (by first | assumption | omega | decide)) (my_cwV hts ok_X4_hold w_319 rfl rfl ⟨Nat.le_of_ble_eq_true rfl, Nat.le_of_ble_eq_true rfl⟩) ⟨bP.blind, va_recv hG.1 hP (ci := 4) (q0 := 4) rfl (wl_at (by decide) hrd), fun U hU hW => ⟨rfl, by rw [hU]; exact hP, kG.warm hW hG⟩⟩ rfl rfl hl.1 rfl (lv_room (Nat.le_of_ble_eq_true rfl)) dX4_startsUnit_126 ⟨Nat.le_of_ble_eq_true rfl, Nat.le_of_ble_eq_true rfl⟩) hS (fun f_4 H locs hq9 hP hS => ?_)
    obtain ⟨hq_4_0, hq_4_1, o_4⟩ := hq9
    have hrd : f_4 4 = eO 4 [.ref (g 5), .int (nI (mc + 1)), .int (nI (op + 1)), .int (cm &&& ((1 <<< ((nI (op + 1)) &&& 31)) ^^^ (-1))), .int (b2 (wu = true))] := hq_4_0
    have hmk : f_4 5 = eI G 50 (upd mk mc n) := hq_4_1
    refine lv_iconst (v := 1) hx hb dX4_startsUnit_129 (by decide) ?_
    replace htx : f_4 k = eO 7 [.ref (g (k + 1)), .ref (g (k + 2)), .int (nI ln), .int (nI sc)] := ((o_4 k (by omega)).trans ((o_3 k (by omega)).trans ((o_2 k (by omega))))).trans htx
    replace hpx : f_4 (k + 2) = eI G 50 sp := ((o_4 (k + 2) (by omega)).trans ((o_3 (k + 2) (by omega)).trans ((o_2 (k + 2) (by omega))))).trans hpx
    refine W_q9 hQ9 ?_
    exact W.zret (v := 1) hx hb hr (rfl) (fun _ hT9 _ => ⟨⟨_, f_4, rfl, (⟨true, (mc + 1), (op + 1), (cm &&& ((1 <<< ((nI (op + 1)) &&& 31)) ^^^ (-1))), wu, (upd mk mc n), sc, sp, (b2_t rfl).symm, hrd, hmk, htx, hpx, Or.inr (Or.inl ⟨e_40, rfl, rfl, by rw [e_40], rfl, rfl, rfl, rfl, rfl⟩), fun j hj => (((o_4 j (by omega))).trans (o_3 j (by omega))).trans (o_2 j (by omega))⟩), by rw [hT9]; exact hP⟩, hS.F hT9⟩) hS.2.2 dX4_startsUnit_130
  by_cases e_45 : n = 45
  · refine my_bei e_45 ?_
    refine lv_lookup (off := 137) (tgt := 138) hx hb dX4_startsUnit_1 (by decide) (by decide) (by decide) ?_
    refine lv_aload_n hx hb dX4_startsUnit_138 rfl (lv_at hl 0 rfl) ?_
    refine lv_bipush (v := 126) hx hb dX4_startsUnit_139 (by decide) ?_
    refine b_callv (va_runV (As := [.int 126]) (rest := []) ⟨hx, hb, hml, hown, hts⟩ (e_holdE l G g hg f mc op cm wu mk 126 hrd hmk (by first | assumption | omega | decide)) (my_cwV hts ok_X4_hold w_319 rfl rfl ⟨Nat.le_of_ble_eq_true rfl, Nat.le_of_ble_eq_true rfl⟩) ⟨bP.blind, va_recv hG.1 hP (ci := 4) (q0 := 4) rfl (wl_at (by decide) hrd), fun U hU hW => ⟨rfl, by rw [hU]; exact hP, kG.warm hW hG⟩⟩ rfl rfl hl.1 rfl (lv_room (Nat.le_of_ble_eq_true rfl)) dX4_startsUnit_141 ⟨Nat.le_of_ble_eq_true rfl, Nat.le_of_ble_eq_true rfl⟩) hS (fun f_5 H locs hq9 hP hS => ?_)
    obtain ⟨hq_5_0, hq_5_1, o_5⟩ := hq9
    have hrd : f_5 4 = eO 4 [.ref (g 5), .int (nI (mc + 1)), .int (nI op), .int cm, .int (b2 (wu = true))] := hq_5_0
    have hmk : f_5 5 = eI G 50 (upd mk mc 126) := hq_5_1
    refine lv_iconst (v := 1) hx hb dX4_startsUnit_144 (by decide) ?_
    replace htx : f_5 k = eO 7 [.ref (g (k + 1)), .ref (g (k + 2)), .int (nI ln), .int (nI sc)] := ((o_5 k (by omega))).trans htx
    replace hpx : f_5 (k + 2) = eI G 50 sp := ((o_5 (k + 2) (by omega))).trans hpx
    refine W_q9 hQ9 ?_
    exact W.zret (v := 1) hx hb hr (rfl) (fun _ hT9 _ => ⟨⟨_, f_5, rfl, (⟨true, (mc + 1), op, cm, wu, (upd mk mc 126), sc, sp, (b2_t rfl).symm, hrd, hmk, htx, hpx, Or.inr (Or.inr (Or.inr (Or.inl ⟨e_45, rfl, rfl, rfl, rfl, rfl, rfl, rfl, rfl⟩))), fun j hj => (o_5 j (by omega))⟩), by rw [hT9]; exact hP⟩, hS.F hT9⟩) hS.2.2 dX4_startsUnit_145
  by_cases e_97 : n = 97
  · refine my_bei e_97 ?_
    refine lv_lookup (off := 83) (tgt := 84) hx hb dX4_startsUnit_1 (by decide) (by decide) (by decide) ?_
    refine lv_aload_n hx hb dX4_startsUnit_84 rfl (lv_at hl 1 rfl) ?_
    refine lv_iload_n hx hb dX4_startsUnit_85 rfl (lv_at hl 2 rfl) ?_
    refine lv_ineg hx hb dX4_startsUnit_86 ?_
    refine b_callv (va_runV (As := [.int (-n)]) (rest := []) ⟨hx, hb, hml, hown, hts⟩ (t_addStepE l G g hg f k ln sc sp (-n) htx hpx (by first | assumption | omega | decide) (by first | assumption | omega | decide) (by first | assumption | omega | decide) (by first | assumption | omega | decide)) (my_cwV hts ok_X8_addStep w_311 rfl rfl ⟨Nat.le_of_ble_eq_true rfl, Nat.le_of_ble_eq_true rfl⟩) ⟨bP.blind, va_recv hG.1 hP (ci := 7) (q0 := k) rfl (wl_at (by omega) htx), fun U hU hW => ⟨rfl, by rw [hU]; exact hP, kG.warm hW hG⟩⟩ rfl rfl hl.1 rfl (lv_room (Nat.le_of_ble_eq_true rfl)) dX4_startsUnit_87 ⟨Nat.le_of_ble_eq_true rfl, Nat.le_of_ble_eq_true rfl⟩) hS (fun f_6 H locs hq9 hP hS => ?_)
    obtain ⟨hq_6_0, hq_6_1, o_6⟩ := hq9
    have htx : f_6 k = eO 7 [.ref (g (k + 1)), .ref (g (k + 2)), .int (nI ln), .int (nI (sc + 1))] := hq_6_0
    have hpx : f_6 (k + 2) = eI G 50 (upd sp sc (-n)) := hq_6_1
    refine lv_aload_n hx hb dX4_startsUnit_90 rfl (lv_at hl 0 rfl) ?_
    refine lv_iconst (v := 0) hx hb dX4_startsUnit_91 (by decide) ?_
    replace hrd := ((o_6 4 (by first | decide | omega))).trans hrd
    refine va_put (D := G.1) (ci := 4) (v := .int 0) (ty := .boolean) (C := RX4) (T := TX4) (N := 5) hx hb hts inlX4 tyX4 tyX4_ok nmX4 hown hG.1 hP (wl_D hg f_6) hS 4 (wl_at (by decide) hrd) rfl 4 (by decide) (hts (.fieldLink RX4 30 "SwornLists$Reader" "wantsUnit" "Z") w_285) (fun _ h9 => h9) rfl (by decide +kernel) rfl rfl (Nat.le_of_ble_eq_true rfl) dX4_startsUnit_92 (fun H locs hP _ hS => ?_)
    obtain ⟨f_7, hP, e_7, o_7⟩ := b_put (by decide) hP
    have hrd : f_7 4 = eO 4 [.ref (g 5), .int (nI mc), .int (nI op), .int cm, .int 0] := e_7
    refine lv_iconst (v := 1) hx hb dX4_startsUnit_95 (by decide) ?_
    replace hmk := ((o_7 5 (by decide)).trans ((o_6 5 (by first | decide | omega)))).trans hmk
    replace htx : f_7 k = eO 7 [.ref (g (k + 1)), .ref (g (k + 2)), .int (nI ln), .int (nI (sc + 1))] := ((o_7 k (by omega))).trans htx
    replace hpx : f_7 (k + 2) = eI G 50 (upd sp sc (-n)) := ((o_7 (k + 2) (by omega))).trans hpx
    refine W_q9 hQ9 ?_
    exact W.zret (v := 1) hx hb hr (rfl) (fun _ hT9 _ => ⟨⟨_, f_7, rfl, (⟨true, mc, op, cm, false, mk, (sc + 1), (upd sp sc (-n)), (b2_t rfl).symm, (hrd.trans (by rw [show b2 (false = true) = 0 from b2_f (by decide)] <;> rfl)), hmk, htx, hpx, Or.inl ⟨by rw [e_97]; decide, rfl, rfl, rfl, rfl, rfl, rfl, rfl, rfl⟩, fun j hj => ((o_7 j (by omega))).trans (o_6 j (by omega))⟩), by rw [hT9]; exact hP⟩, hS.F hT9⟩) hS.2.2 dX4_startsUnit_96
  by_cases e_108 : n = 108
  · refine my_bei e_108 ?_
    refine lv_lookup (off := 83) (tgt := 84) hx hb dX4_startsUnit_1 (by decide) (by decide) (by decide) ?_
    refine lv_aload_n hx hb dX4_startsUnit_84 rfl (lv_at hl 1 rfl) ?_
    refine lv_iload_n hx hb dX4_startsUnit_85 rfl (lv_at hl 2 rfl) ?_
    refine lv_ineg hx hb dX4_startsUnit_86 ?_
    refine b_callv (va_runV (As := [.int (-n)]) (rest := []) ⟨hx, hb, hml, hown, hts⟩ (t_addStepE l G g hg f k ln sc sp (-n) htx hpx (by first | assumption | omega | decide) (by first | assumption | omega | decide) (by first | assumption | omega | decide) (by first | assumption | omega | decide)) (my_cwV hts ok_X8_addStep w_311 rfl rfl ⟨Nat.le_of_ble_eq_true rfl, Nat.le_of_ble_eq_true rfl⟩) ⟨bP.blind, va_recv hG.1 hP (ci := 7) (q0 := k) rfl (wl_at (by omega) htx), fun U hU hW => ⟨rfl, by rw [hU]; exact hP, kG.warm hW hG⟩⟩ rfl rfl hl.1 rfl (lv_room (Nat.le_of_ble_eq_true rfl)) dX4_startsUnit_87 ⟨Nat.le_of_ble_eq_true rfl, Nat.le_of_ble_eq_true rfl⟩) hS (fun f_8 H locs hq9 hP hS => ?_)
    obtain ⟨hq_8_0, hq_8_1, o_8⟩ := hq9
    have htx : f_8 k = eO 7 [.ref (g (k + 1)), .ref (g (k + 2)), .int (nI ln), .int (nI (sc + 1))] := hq_8_0
    have hpx : f_8 (k + 2) = eI G 50 (upd sp sc (-n)) := hq_8_1
    refine lv_aload_n hx hb dX4_startsUnit_90 rfl (lv_at hl 0 rfl) ?_
    refine lv_iconst (v := 0) hx hb dX4_startsUnit_91 (by decide) ?_
    replace hrd := ((o_8 4 (by first | decide | omega))).trans hrd
    refine va_put (D := G.1) (ci := 4) (v := .int 0) (ty := .boolean) (C := RX4) (T := TX4) (N := 5) hx hb hts inlX4 tyX4 tyX4_ok nmX4 hown hG.1 hP (wl_D hg f_8) hS 4 (wl_at (by decide) hrd) rfl 4 (by decide) (hts (.fieldLink RX4 30 "SwornLists$Reader" "wantsUnit" "Z") w_285) (fun _ h9 => h9) rfl (by decide +kernel) rfl rfl (Nat.le_of_ble_eq_true rfl) dX4_startsUnit_92 (fun H locs hP _ hS => ?_)
    obtain ⟨f_9, hP, e_9, o_9⟩ := b_put (by decide) hP
    have hrd : f_9 4 = eO 4 [.ref (g 5), .int (nI mc), .int (nI op), .int cm, .int 0] := e_9
    refine lv_iconst (v := 1) hx hb dX4_startsUnit_95 (by decide) ?_
    replace hmk := ((o_9 5 (by decide)).trans ((o_8 5 (by first | decide | omega)))).trans hmk
    replace htx : f_9 k = eO 7 [.ref (g (k + 1)), .ref (g (k + 2)), .int (nI ln), .int (nI (sc + 1))] := ((o_9 k (by omega))).trans htx
    replace hpx : f_9 (k + 2) = eI G 50 (upd sp sc (-n)) := ((o_9 (k + 2) (by omega))).trans hpx
    refine W_q9 hQ9 ?_
    exact W.zret (v := 1) hx hb hr (rfl) (fun _ hT9 _ => ⟨⟨_, f_9, rfl, (⟨true, mc, op, cm, false, mk, (sc + 1), (upd sp sc (-n)), (b2_t rfl).symm, (hrd.trans (by rw [show b2 (false = true) = 0 from b2_f (by decide)] <;> rfl)), hmk, htx, hpx, Or.inl ⟨by rw [e_108]; decide, rfl, rfl, rfl, rfl, rfl, rfl, rfl, rfl⟩, fun j hj => ((o_9 j (by omega))).trans (o_8 j (by omega))⟩), by rw [hT9]; exact hP⟩, hS.F hT9⟩) hS.2.2 dX4_startsUnit_96
  by_cases e_112 : n = 112
  · refine my_bei e_112 ?_
    refine lv_lookup (off := 83) (tgt := 84) hx hb dX4_startsUnit_1 (by decide) (by decide) (by decide) ?_
    refine lv_aload_n hx hb dX4_startsUnit_84 rfl (lv_at hl 1 rfl) ?_
    refine lv_iload_n hx hb dX4_startsUnit_85 rfl (lv_at hl 2 rfl) ?_
    refine lv_ineg hx hb dX4_startsUnit_86 ?_
    refine b_callv (va_runV (As := [.int (-n)]) (rest := []) ⟨hx, hb, hml, hown, hts⟩ (t_addStepE l G g hg f k ln sc sp (-n) htx hpx (by first | assumption | omega | decide) (by first | assumption | omega | decide) (by first | assumption | omega | decide) (by first | assumption | omega | decide)) (my_cwV hts ok_X8_addStep w_311 rfl rfl ⟨Nat.le_of_ble_eq_true rfl, Nat.le_of_ble_eq_true rfl⟩) ⟨bP.blind, va_recv hG.1 hP (ci := 7) (q0 := k) rfl (wl_at (by omega) htx), fun U hU hW => ⟨rfl, by rw [hU]; exact hP, kG.warm hW hG⟩⟩ rfl rfl hl.1 rfl (lv_room (Nat.le_of_ble_eq_true rfl)) dX4_startsUnit_87 ⟨Nat.le_of_ble_eq_true rfl, Nat.le_of_ble_eq_true rfl⟩) hS (fun f_10 H locs hq9 hP hS => ?_)
    obtain ⟨hq_10_0, hq_10_1, o_10⟩ := hq9
    have htx : f_10 k = eO 7 [.ref (g (k + 1)), .ref (g (k + 2)), .int (nI ln), .int (nI (sc + 1))] := hq_10_0
    have hpx : f_10 (k + 2) = eI G 50 (upd sp sc (-n)) := hq_10_1
    refine lv_aload_n hx hb dX4_startsUnit_90 rfl (lv_at hl 0 rfl) ?_
    refine lv_iconst (v := 0) hx hb dX4_startsUnit_91 (by decide) ?_
    replace hrd := ((o_10 4 (by first | decide | omega))).trans hrd
    refine va_put (D := G.1) (ci := 4) (v := .int 0) (ty := .boolean) (C := RX4) (T := TX4) (N := 5) hx hb hts inlX4 tyX4 tyX4_ok nmX4 hown hG.1 hP (wl_D hg f_10) hS 4 (wl_at (by decide) hrd) rfl 4 (by decide) (hts (.fieldLink RX4 30 "SwornLists$Reader" "wantsUnit" "Z") w_285) (fun _ h9 => h9) rfl (by decide +kernel) rfl rfl (Nat.le_of_ble_eq_true rfl) dX4_startsUnit_92 (fun H locs hP _ hS => ?_)
    obtain ⟨f_11, hP, e_11, o_11⟩ := b_put (by decide) hP
    have hrd : f_11 4 = eO 4 [.ref (g 5), .int (nI mc), .int (nI op), .int cm, .int 0] := e_11
    refine lv_iconst (v := 1) hx hb dX4_startsUnit_95 (by decide) ?_
    replace hmk := ((o_11 5 (by decide)).trans ((o_10 5 (by first | decide | omega)))).trans hmk
    replace htx : f_11 k = eO 7 [.ref (g (k + 1)), .ref (g (k + 2)), .int (nI ln), .int (nI (sc + 1))] := ((o_11 k (by omega))).trans htx
    replace hpx : f_11 (k + 2) = eI G 50 (upd sp sc (-n)) := ((o_11 (k + 2) (by omega))).trans hpx
    refine W_q9 hQ9 ?_
    exact W.zret (v := 1) hx hb hr (rfl) (fun _ hT9 _ => ⟨⟨_, f_11, rfl, (⟨true, mc, op, cm, false, mk, (sc + 1), (upd sp sc (-n)), (b2_t rfl).symm, (hrd.trans (by rw [show b2 (false = true) = 0 from b2_f (by decide)] <;> rfl)), hmk, htx, hpx, Or.inl ⟨by rw [e_112]; decide, rfl, rfl, rfl, rfl, rfl, rfl, rfl, rfl⟩, fun j hj => ((o_11 j (by omega))).trans (o_10 j (by omega))⟩), by rw [hT9]; exact hP⟩, hS.F hT9⟩) hS.2.2 dX4_startsUnit_96
  by_cases e_115 : n = 115
  · refine my_bei e_115 ?_
    refine lv_lookup (off := 83) (tgt := 84) hx hb dX4_startsUnit_1 (by decide) (by decide) (by decide) ?_
    refine lv_aload_n hx hb dX4_startsUnit_84 rfl (lv_at hl 1 rfl) ?_
    refine lv_iload_n hx hb dX4_startsUnit_85 rfl (lv_at hl 2 rfl) ?_
    refine lv_ineg hx hb dX4_startsUnit_86 ?_
    refine b_callv (va_runV (As := [.int (-n)]) (rest := []) ⟨hx, hb, hml, hown, hts⟩ (t_addStepE l G g hg f k ln sc sp (-n) htx hpx (by first | assumption | omega | decide) (by first | assumption | omega | decide) (by first | assumption | omega | decide) (by first | assumption | omega | decide)) (my_cwV hts ok_X8_addStep w_311 rfl rfl ⟨Nat.le_of_ble_eq_true rfl, Nat.le_of_ble_eq_true rfl⟩) ⟨bP.blind, va_recv hG.1 hP (ci := 7) (q0 := k) rfl (wl_at (by omega) htx), fun U hU hW => ⟨rfl, by rw [hU]; exact hP, kG.warm hW hG⟩⟩ rfl rfl hl.1 rfl (lv_room (Nat.le_of_ble_eq_true rfl)) dX4_startsUnit_87 ⟨Nat.le_of_ble_eq_true rfl, Nat.le_of_ble_eq_true rfl⟩) hS (fun f_12 H locs hq9 hP hS => ?_)
    obtain ⟨hq_12_0, hq_12_1, o_12⟩ := hq9
    have htx : f_12 k = eO 7 [.ref (g (k + 1)), .ref (g (k + 2)), .int (nI ln), .int (nI (sc + 1))] := hq_12_0
    have hpx : f_12 (k + 2) = eI G 50 (upd sp sc (-n)) := hq_12_1
    refine lv_aload_n hx hb dX4_startsUnit_90 rfl (lv_at hl 0 rfl) ?_
    refine lv_iconst (v := 0) hx hb dX4_startsUnit_91 (by decide) ?_
    replace hrd := ((o_12 4 (by first | decide | omega))).trans hrd
    refine va_put (D := G.1) (ci := 4) (v := .int 0) (ty := .boolean) (C := RX4) (T := TX4) (N := 5) hx hb hts inlX4 tyX4 tyX4_ok nmX4 hown hG.1 hP (wl_D hg f_12) hS 4 (wl_at (by decide) hrd) rfl 4 (by decide) (hts (.fieldLink RX4 30 "SwornLists$Reader" "wantsUnit" "Z") w_285) (fun _ h9 => h9) rfl (by decide +kernel) rfl rfl (Nat.le_of_ble_eq_true rfl) dX4_startsUnit_92 (fun H locs hP _ hS => ?_)
    obtain ⟨f_13, hP, e_13, o_13⟩ := b_put (by decide) hP
    have hrd : f_13 4 = eO 4 [.ref (g 5), .int (nI mc), .int (nI op), .int cm, .int 0] := e_13
    refine lv_iconst (v := 1) hx hb dX4_startsUnit_95 (by decide) ?_
    replace hmk := ((o_13 5 (by decide)).trans ((o_12 5 (by first | decide | omega)))).trans hmk
    replace htx : f_13 k = eO 7 [.ref (g (k + 1)), .ref (g (k + 2)), .int (nI ln), .int (nI (sc + 1))] := ((o_13 k (by omega))).trans htx
    replace hpx : f_13 (k + 2) = eI G 50 (upd sp sc (-n)) := ((o_13 (k + 2) (by omega))).trans hpx
    refine W_q9 hQ9 ?_
    exact W.zret (v := 1) hx hb hr (rfl) (fun _ hT9 _ => ⟨⟨_, f_13, rfl, (⟨true, mc, op, cm, false, mk, (sc + 1), (upd sp sc (-n)), (b2_t rfl).symm, (hrd.trans (by rw [show b2 (false = true) = 0 from b2_f (by decide)] <;> rfl)), hmk, htx, hpx, Or.inl ⟨by rw [e_115]; decide, rfl, rfl, rfl, rfl, rfl, rfl, rfl, rfl⟩, fun j hj => ((o_13 j (by omega))).trans (o_12 j (by omega))⟩), by rw [hT9]; exact hP⟩, hS.F hT9⟩) hS.2.2 dX4_startsUnit_96
  by_cases e_116 : n = 116
  · refine my_bei e_116 ?_
    refine lv_lookup (off := 83) (tgt := 84) hx hb dX4_startsUnit_1 (by decide) (by decide) (by decide) ?_
    refine lv_aload_n hx hb dX4_startsUnit_84 rfl (lv_at hl 1 rfl) ?_
    refine lv_iload_n hx hb dX4_startsUnit_85 rfl (lv_at hl 2 rfl) ?_
    refine lv_ineg hx hb dX4_startsUnit_86 ?_
    refine b_callv (va_runV (As := [.int (-n)]) (rest := []) ⟨hx, hb, hml, hown, hts⟩ (t_addStepE l G g hg f k ln sc sp (-n) htx hpx (by first | assumption | omega | decide) (by first | assumption | omega | decide) (by first | assumption | omega | decide) (by first | assumption | omega | decide)) (my_cwV hts ok_X8_addStep w_311 rfl rfl ⟨Nat.le_of_ble_eq_true rfl, Nat.le_of_ble_eq_true rfl⟩) ⟨bP.blind, va_recv hG.1 hP (ci := 7) (q0 := k) rfl (wl_at (by omega) htx), fun U hU hW => ⟨rfl, by rw [hU]; exact hP, kG.warm hW hG⟩⟩ rfl rfl hl.1 rfl (lv_room (Nat.le_of_ble_eq_true rfl)) dX4_startsUnit_87 ⟨Nat.le_of_ble_eq_true rfl, Nat.le_of_ble_eq_true rfl⟩) hS (fun f_14 H locs hq9 hP hS => ?_)
    obtain ⟨hq_14_0, hq_14_1, o_14⟩ := hq9
    have htx : f_14 k = eO 7 [.ref (g (k + 1)), .ref (g (k + 2)), .int (nI ln), .int (nI (sc + 1))] := hq_14_0
    have hpx : f_14 (k + 2) = eI G 50 (upd sp sc (-n)) := hq_14_1
    refine lv_aload_n hx hb dX4_startsUnit_90 rfl (lv_at hl 0 rfl) ?_
    refine lv_iconst (v := 0) hx hb dX4_startsUnit_91 (by decide) ?_
    replace hrd := ((o_14 4 (by first | decide | omega))).trans hrd
    refine va_put (D := G.1) (ci := 4) (v := .int 0) (ty := .boolean) (C := RX4) (T := TX4) (N := 5) hx hb hts inlX4 tyX4 tyX4_ok nmX4 hown hG.1 hP (wl_D hg f_14) hS 4 (wl_at (by decide) hrd) rfl 4 (by decide) (hts (.fieldLink RX4 30 "SwornLists$Reader" "wantsUnit" "Z") w_285) (fun _ h9 => h9) rfl (by decide +kernel) rfl rfl (Nat.le_of_ble_eq_true rfl) dX4_startsUnit_92 (fun H locs hP _ hS => ?_)
    obtain ⟨f_15, hP, e_15, o_15⟩ := b_put (by decide) hP
    have hrd : f_15 4 = eO 4 [.ref (g 5), .int (nI mc), .int (nI op), .int cm, .int 0] := e_15
    refine lv_iconst (v := 1) hx hb dX4_startsUnit_95 (by decide) ?_
    replace hmk := ((o_15 5 (by decide)).trans ((o_14 5 (by first | decide | omega)))).trans hmk
    replace htx : f_15 k = eO 7 [.ref (g (k + 1)), .ref (g (k + 2)), .int (nI ln), .int (nI (sc + 1))] := ((o_15 k (by omega))).trans htx
    replace hpx : f_15 (k + 2) = eI G 50 (upd sp sc (-n)) := ((o_15 (k + 2) (by omega))).trans hpx
    refine W_q9 hQ9 ?_
    exact W.zret (v := 1) hx hb hr (rfl) (fun _ hT9 _ => ⟨⟨_, f_15, rfl, (⟨true, mc, op, cm, false, mk, (sc + 1), (upd sp sc (-n)), (b2_t rfl).symm, (hrd.trans (by rw [show b2 (false = true) = 0 from b2_f (by decide)] <;> rfl)), hmk, htx, hpx, Or.inl ⟨by rw [e_116]; decide, rfl, rfl, rfl, rfl, rfl, rfl, rfl, rfl⟩, fun j hj => ((o_15 j (by omega))).trans (o_14 j (by omega))⟩), by rw [hT9]; exact hP⟩, hS.F hT9⟩) hS.2.2 dX4_startsUnit_96
  by_cases e_121 : n = 121
  · refine my_bei e_121 ?_
    refine lv_lookup (off := 83) (tgt := 84) hx hb dX4_startsUnit_1 (by decide) (by decide) (by decide) ?_
    refine lv_aload_n hx hb dX4_startsUnit_84 rfl (lv_at hl 1 rfl) ?_
    refine lv_iload_n hx hb dX4_startsUnit_85 rfl (lv_at hl 2 rfl) ?_
    refine lv_ineg hx hb dX4_startsUnit_86 ?_
    refine b_callv (va_runV (As := [.int (-n)]) (rest := []) ⟨hx, hb, hml, hown, hts⟩ (t_addStepE l G g hg f k ln sc sp (-n) htx hpx (by first | assumption | omega | decide) (by first | assumption | omega | decide) (by first | assumption | omega | decide) (by first | assumption | omega | decide)) (my_cwV hts ok_X8_addStep w_311 rfl rfl ⟨Nat.le_of_ble_eq_true rfl, Nat.le_of_ble_eq_true rfl⟩) ⟨bP.blind, va_recv hG.1 hP (ci := 7) (q0 := k) rfl (wl_at (by omega) htx), fun U hU hW => ⟨rfl, by rw [hU]; exact hP, kG.warm hW hG⟩⟩ rfl rfl hl.1 rfl (lv_room (Nat.le_of_ble_eq_true rfl)) dX4_startsUnit_87 ⟨Nat.le_of_ble_eq_true rfl, Nat.le_of_ble_eq_true rfl⟩) hS (fun f_16 H locs hq9 hP hS => ?_)
    obtain ⟨hq_16_0, hq_16_1, o_16⟩ := hq9
    have htx : f_16 k = eO 7 [.ref (g (k + 1)), .ref (g (k + 2)), .int (nI ln), .int (nI (sc + 1))] := hq_16_0
    have hpx : f_16 (k + 2) = eI G 50 (upd sp sc (-n)) := hq_16_1
    refine lv_aload_n hx hb dX4_startsUnit_90 rfl (lv_at hl 0 rfl) ?_
    refine lv_iconst (v := 0) hx hb dX4_startsUnit_91 (by decide) ?_
    replace hrd := ((o_16 4 (by first | decide | omega))).trans hrd
    refine va_put (D := G.1) (ci := 4) (v := .int 0) (ty := .boolean) (C := RX4) (T := TX4) (N := 5) hx hb hts inlX4 tyX4 tyX4_ok nmX4 hown hG.1 hP (wl_D hg f_16) hS 4 (wl_at (by decide) hrd) rfl 4 (by decide) (hts (.fieldLink RX4 30 "SwornLists$Reader" "wantsUnit" "Z") w_285) (fun _ h9 => h9) rfl (by decide +kernel) rfl rfl (Nat.le_of_ble_eq_true rfl) dX4_startsUnit_92 (fun H locs hP _ hS => ?_)
    obtain ⟨f_17, hP, e_17, o_17⟩ := b_put (by decide) hP
    have hrd : f_17 4 = eO 4 [.ref (g 5), .int (nI mc), .int (nI op), .int cm, .int 0] := e_17
    refine lv_iconst (v := 1) hx hb dX4_startsUnit_95 (by decide) ?_
    replace hmk := ((o_17 5 (by decide)).trans ((o_16 5 (by first | decide | omega)))).trans hmk
    replace htx : f_17 k = eO 7 [.ref (g (k + 1)), .ref (g (k + 2)), .int (nI ln), .int (nI (sc + 1))] := ((o_17 k (by omega))).trans htx
    replace hpx : f_17 (k + 2) = eI G 50 (upd sp sc (-n)) := ((o_17 (k + 2) (by omega))).trans hpx
    refine W_q9 hQ9 ?_
    exact W.zret (v := 1) hx hb hr (rfl) (fun _ hT9 _ => ⟨⟨_, f_17, rfl, (⟨true, mc, op, cm, false, mk, (sc + 1), (upd sp sc (-n)), (b2_t rfl).symm, (hrd.trans (by rw [show b2 (false = true) = 0 from b2_f (by decide)] <;> rfl)), hmk, htx, hpx, Or.inl ⟨by rw [e_121]; decide, rfl, rfl, rfl, rfl, rfl, rfl, rfl, rfl⟩, fun j hj => ((o_17 j (by omega))).trans (o_16 j (by omega))⟩), by rw [hT9]; exact hP⟩, hS.F hT9⟩) hS.2.2 dX4_startsUnit_96
  refine lv_lookup (off := 145) (tgt := 146) hx hb dX4_startsUnit_1 (by decide) (by show Op.lookupswitch.offset [(33, 130), (40, 96), (45, 137), (97, 83), (108, 83), (112, 83), (115, 83), (116, 83), (121, 83)] 145 _ = 145; rw [lv_osw (a := 33) e_33 (by decide), lv_osw (a := 40) e_40 (by decide), lv_osw (a := 45) e_45 (by decide), lv_osw (a := 97) e_97 (by decide), lv_osw (a := 108) e_108 (by decide), lv_osw (a := 112) e_112 (by decide), lv_osw (a := 115) e_115 (by decide), lv_osw (a := 116) e_116 (by decide), lv_osw (a := 121) e_121 (by decide)]; rfl) (by decide) ?_
  refine lv_iconst (v := 0) hx hb dX4_startsUnit_146 (by decide) ?_
  refine W_q9 hQ9 ?_
  exact W.zret (v := 0) hx hb hr (rfl) (fun _ hT9 _ => ⟨⟨_, f, rfl, (⟨false, mc, op, cm, wu, mk, sc, sp, (b2_f (by decide)).symm, hrd, hmk, htx, hpx, Or.inr (Or.inr (Or.inr (Or.inr ⟨by unfold nam; rw [if_neg e_97, if_neg e_108, if_neg e_112, if_neg e_115, if_neg e_116, if_neg e_121], e_40, e_33, e_45, rfl, rfl, rfl, rfl, rfl, rfl, rfl, rfl⟩))), fun j hj => rfl⟩), by rw [hT9]; exact hP⟩, hS.F hT9⟩) hS.2.2 dX4_startsUnit_147
set_option maxHeartbeats 4000000 in
set_option maxRecDepth 100000 in
theorem e_goesOnE (l : Launch) (G : gW) (g : Nat → Nat) (hg : gOK g) (f : Nat → va_E) (k : Nat) (ln : Nat) (sc : Nat) (sp : Nat → Int32) (mc : Nat) (op : Nat) (cm : Int32) (wu : Bool) (mk : Nat → Int32) (n : Int32) (hrd : f 4 = eO 4 [.ref (g 5), .int (nI mc), .int (nI op), .int cm, .int (b2 (wu = true))]) (hmk : f 5 = eI G 50 mk) (htx : f k = eO 7 [.ref (g (k + 1)), .ref (g (k + 2)), .int (nI ln), .int (nI sc)]) (hpx : f (k + 2) = eI G 50 sp) (hk3 : k + 2 < 333) (hln : ln ≤ 50) (hsc : sc ≤ 50) (hkt : 36 ≤ k) (hms : mc + sc ≤ 49) (hop8 : op ≤ 8) : Met l yX4_goesOn (wsT yX4_goesOn cX4_goesOn 5 (some .boolean)) ({ frames := 3, cells := 0, slots := 0, locals := 64 }) (bP G g f [.ref (g 4), .ref (g k), .int n]) (bQi G g (fun (z9 : Int32) (f' : Nat → va_E) => ∃ bz : Bool, ∃ mc9 : Nat, ∃ op9 : Nat, ∃ cm9 : Int32, ∃ wu9 : Bool, ∃ mk9 : Nat → Int32, ∃ sc9 : Nat, ∃ sp9 : Nat → Int32, z9 = b2 (bz = true) ∧ f' 4 = eO 4 [.ref (g 5), .int (nI mc9), .int (nI op9), .int cm9, .int (b2 (wu9 = true))] ∧ f' 5 = eI G 50 mk9 ∧ f' k = eO 7 [.ref (g (k + 1)), .ref (g (k + 2)), .int (nI ln), .int (nI sc9)] ∧ f' (k + 2) = eI G 50 sp9 ∧ ((n = 41 ∧ op = 0 ∧ bz = false ∧ mc9 = mc ∧ mk9 = mk ∧ op9 = op ∧ cm9 = cm ∧ wu9 = wu ∧ sc9 = sc ∧ sp9 = sp) ∨ (n = 41 ∧ 0 < op ∧ bz = true ∧ mk9 = mk ∧ op9 = op - 1 ∧ cm9 = cm ∧ wu9 = wu ∧ ∃ mc1, mc9 = mc1 - 1 ∧ stk mk mc1 = popC 1 (stk mk mc) ∧ stk sp9 sc9 = poC 1 (stk mk mc) (stk sp sc) ∧ mc1 + sc9 = mc + sc) ∨ (¬ n = 41 ∧ (rnk n = 0 ∨ rnk n = 6 ∨ (rnk n = 3 ∧ hbt cm (nI op) = true)) ∧ bz = false ∧ mc9 = mc ∧ mk9 = mk ∧ op9 = op ∧ cm9 = cm ∧ wu9 = wu ∧ sc9 = sc ∧ sp9 = sp) ∨ (¬ n = 41 ∧ ¬ rnk n = 0 ∧ ¬ rnk n = 6 ∧ ¬ (rnk n = 3 ∧ hbt cm (nI op) = true) ∧ bz = true ∧ op9 = op ∧ wu9 = true ∧ ∃ mc1, mc9 = mc1 + 1 ∧ mk9 = upd mk mc1 n ∧ stk mk mc1 = popC (rnk n) (stk mk mc) ∧ stk sp9 sc9 = poC (rnk n) (stk mk mc) (stk sp sc) ∧ mc1 + sc9 = mc + sc ∧ ((rnk n = 3 ∧ cm9 = cm ||| ((1 : Int32) <<< (nI op &&& 31))) ∨ (rnk n < 3 ∧ cm9 = cm &&& (((1 : Int32) <<< (nI op &&& 31)) ^^^ (-1))) ∨ (¬ rnk n = 3 ∧ ¬ rnk n < 3 ∧ cm9 = cm)))) ∧ ∀ j, (j ≠ 4 ∧ j ≠ 5 ∧ j ≠ k ∧ j ≠ k + 2) → f' j = f j)) 0 0 (gA g) := by
  refine Met.ofW (cc := cX4_goesOn) (maxL := 5) (ret := (some .boolean)) (by decide) rfl ?_
  intro p e s m args below meth c s₁ B hml hv
  obtain ⟨rfl, hP, hG⟩ := hv
  have hx := B.exec
  have hb := B.bytes
  have hr := B.returns
  have hts := my_hts (atoms_spec (ws := wsT yX4_goesOn cX4_goesOn 5 (some .boolean)) B.pre)
  have hown : s.vm.findClass RX4 = some m.cls := findClass_of_methodNamed B.named
  have hlocks := B.notSynchronized
  have hS : va_S (gA g) s.heap s.heap [] := va_S.rf
  have hl := lv_entry ([.ref (g 4), .ref (g k), .int n]) (n := 5) (Nat.le_of_ble_eq_true rfl)
  rw [lg_entry_eq]
  generalize (lg_sl ([.ref (g 4), .ref (g k), .int n]) ++ List.replicate (5 - (lg_sl ([.ref (g 4), .ref (g k), .int n])).length) Slot.unset).toArray = ls at hl ⊢
  have hl : lv_has ls 5 [(0, .ref (g 4)), (1, .ref (g k)), (2, .int n)] := hl
  refine W_q8 (fun Q9 hQ9 => ?_)
  refine lv_iload_n hx hb dX4_goesOn_0 rfl (lv_at hl 2 rfl) ?_
  refine lv_bipush (v := 41) hx hb dX4_goesOn_1 (by decide) ?_
  refine lv_icmp_ne (tgt := 12) hx hb dX4_goesOn_3 (by decide) (fun c_3 => ?_) (fun c_3 => ?_)
  · refine lv_iload_n hx hb dX4_goesOn_12 rfl (lv_at hl 2 rfl) ?_
    refine rd_calli (va_runS (As := [.int n]) (rest := []) ⟨hx, hb, hml, hown, hts⟩ (g_rankE l G g hg f n  ) (my_cwS hts ok_X7_rank w_335 rfl rfl ⟨Nat.le_of_ble_eq_true rfl, Nat.le_of_ble_eq_true rfl⟩) ⟨bP.blind, fun U hU hW => ⟨rfl, by rw [hU]; exact hP, kG.warm hW hG⟩⟩ rfl rfl hl.1 rfl (lv_room (Nat.le_of_ble_eq_true rfl)) dX4_goesOn_13 ⟨Nat.le_of_ble_eq_true rfl, Nat.le_of_ble_eq_true rfl⟩) (fun r hr9 => ?_)
    subst hr9
    refine lv_istore_n (lv' := [(3, .int (rnk n)), (0, .ref (g 4)), (1, .ref (g k)), (2, .int n)]) hx hb dX4_goesOn_16 rfl hl (by decide) rfl (fun ls hl => ?_)
    refine lv_iload_n hx hb dX4_goesOn_17 rfl (lv_at hl 0 rfl) ?_
    refine lv_iconst (v := 3) hx hb dX4_goesOn_18 (by decide) ?_
    refine lv_icmp_ne (tgt := 40) hx hb dX4_goesOn_19 (by decide) (fun c_19 => ?_) (fun c_19 => ?_)
    · refine lv_iconst (v := 0) hx hb dX4_goesOn_40 (by decide) ?_
      refine lv_istore (lv' := [(4, .int 0), (3, .int (rnk n)), (0, .ref (g 4)), (1, .ref (g k)), (2, .int n)]) hx hb dX4_goesOn_41 hl (by decide) rfl (fun ls hl => ?_)
      refine lv_iload_n hx hb dX4_goesOn_43 rfl (lv_at hl 1 rfl) ?_
      refine lv_if_eq (tgt := 58) hx hb dX4_goesOn_44 (by decide) (fun c_44 => ?_) (fun c_44 => ?_)
      · refine lv_iconst (v := 0) hx hb dX4_goesOn_58 (by decide) ?_
        refine W_q9 hQ9 ?_
        exact W.zret (v := 0) hx hb hr (rfl) (fun _ hT9 _ => ⟨⟨_, f, rfl, (⟨false, mc, op, cm, wu, mk, sc, sp, (b2_f (by decide)).symm, hrd, hmk, htx, hpx, Or.inr (Or.inr (Or.inl ⟨c_3, Or.inl c_44, rfl, rfl, rfl, rfl, rfl, rfl, rfl, rfl⟩)), fun j hj => rfl⟩), by rw [hT9]; exact hP⟩, hS.F hT9⟩) hS.2.2 dX4_goesOn_59
      · refine lv_iload_n hx hb dX4_goesOn_47 rfl (lv_at hl 1 rfl) ?_
        refine lv_bipush (v := 6) hx hb dX4_goesOn_48 (by decide) ?_
        refine lv_icmp_eq (tgt := 58) hx hb dX4_goesOn_50 (by decide) (fun c_50 => ?_) (fun c_50 => ?_)
        · refine lv_iconst (v := 0) hx hb dX4_goesOn_58 (by decide) ?_
          refine W_q9 hQ9 ?_
          exact W.zret (v := 0) hx hb hr (rfl) (fun _ hT9 _ => ⟨⟨_, f, rfl, (⟨false, mc, op, cm, wu, mk, sc, sp, (b2_f (by decide)).symm, hrd, hmk, htx, hpx, Or.inr (Or.inr (Or.inl ⟨c_3, Or.inr (Or.inl c_50), rfl, rfl, rfl, rfl, rfl, rfl, rfl, rfl⟩)), fun j hj => rfl⟩), by rw [hT9]; exact hP⟩, hS.F hT9⟩) hS.2.2 dX4_goesOn_59
        · refine lv_iload hx hb dX4_goesOn_53 (lv_at hl 0 rfl) ?_
          refine lv_if_eq (tgt := 60) hx hb dX4_goesOn_55 (by decide) (fun c_55 => ?_) (fun c_55 => absurd (by decide) c_55)
          refine lv_iload_n hx hb dX4_goesOn_60 rfl (lv_at hl 1 rfl) ?_
          refine lv_iconst (v := 3) hx hb dX4_goesOn_61 (by decide) ?_
          refine lv_icmp_ne (tgt := 83) hx hb dX4_goesOn_62 (by decide) (fun c_62 => ?_) (fun c_62 => absurd c_62 (c_19))
          refine lv_iload_n hx hb dX4_goesOn_83 rfl (lv_at hl 1 rfl) ?_
          refine lv_iconst (v := 3) hx hb dX4_goesOn_84 (by decide) ?_
          refine lv_icmp_ge (tgt := 105) hx hb dX4_goesOn_85 (by decide) (fun c_85 => ?_) (fun c_85 => ?_)
          · refine lv_aload_n hx hb dX4_goesOn_105 rfl (lv_at hl 2 rfl) ?_
            refine lv_aload_n hx hb dX4_goesOn_106 rfl (lv_at hl 3 rfl) ?_
            refine lv_iload_n hx hb dX4_goesOn_107 rfl (lv_at hl 1 rfl) ?_
            refine b_callv (va_runV (As := [.ref (g k), .int (rnk n)]) (rest := []) ⟨hx, hb, hml, hown, hts⟩ (e_releaseE l G g hg f k ln sc sp mc op cm wu mk (rnk n) hrd hmk htx hpx (by first | assumption | omega | decide) (by first | assumption | omega | decide) (by first | assumption | omega | decide) (by first | assumption | omega | decide) (by first | assumption | omega | decide)) (my_cwV hts ok_X4_release w_331 rfl rfl ⟨Nat.le_of_ble_eq_true rfl, Nat.le_of_ble_eq_true rfl⟩) ⟨bP.blind, va_recv hG.1 hP (ci := 4) (q0 := 4) rfl (wl_at (by decide) hrd), fun U hU hW => ⟨rfl, by rw [hU]; exact hP, kG.warm hW hG⟩⟩ rfl rfl hl.1 rfl (lv_room (Nat.le_of_ble_eq_true rfl)) dX4_goesOn_108 ⟨Nat.le_of_ble_eq_true rfl, Nat.le_of_ble_eq_true rfl⟩) hS (fun f_1 H locs hq9 hP hS => ?_)
            obtain ⟨mc91, sc92, sp93, hq_1_0, hq_1_1, hq_1_2, hx_1_0, hx_1_1, hx_1_2, o_1⟩ := hq9
            have hrd : f_1 4 = eO 4 [.ref (g 5), .int (nI mc91), .int (nI op), .int cm, .int (b2 (wu = true))] := hq_1_0
            have htx : f_1 k = eO 7 [.ref (g (k + 1)), .ref (g (k + 2)), .int (nI ln), .int (nI sc92)] := hq_1_1
            have hpx : f_1 (k + 2) = eI G 50 sp93 := hq_1_2
            refine lv_aload_n hx hb dX4_goesOn_111 rfl (lv_at hl 2 rfl) ?_
            refine lv_iload_n hx hb dX4_goesOn_112 rfl (lv_at hl 4 rfl) ?_
            replace hmk := ((o_1 5 (by first | decide | omega))).trans hmk
            refine b_callv (va_runV (As := [.int n]) (rest := []) ⟨hx, hb, hml, hown, hts⟩ (e_holdE l G g hg f_1 mc91 op cm wu mk n hrd hmk (by first | assumption | omega | decide)) (my_cwV hts ok_X4_hold w_319 rfl rfl ⟨Nat.le_of_ble_eq_true rfl, Nat.le_of_ble_eq_true rfl⟩) ⟨bP.blind, va_recv hG.1 hP (ci := 4) (q0 := 4) rfl (wl_at (by decide) hrd), fun U hU hW => ⟨rfl, by rw [hU]; exact hP, kG.warm hW hG⟩⟩ rfl rfl hl.1 rfl (lv_room (Nat.le_of_ble_eq_true rfl)) dX4_goesOn_113 ⟨Nat.le_of_ble_eq_true rfl, Nat.le_of_ble_eq_true rfl⟩) hS (fun f_2 H locs hq9 hP hS => ?_)
            obtain ⟨hq_2_0, hq_2_1, o_2⟩ := hq9
            have hrd : f_2 4 = eO 4 [.ref (g 5), .int (nI (mc91 + 1)), .int (nI op), .int cm, .int (b2 (wu = true))] := hq_2_0
            have hmk : f_2 5 = eI G 50 (upd mk mc91 n) := hq_2_1
            refine lv_aload_n hx hb dX4_goesOn_116 rfl (lv_at hl 2 rfl) ?_
            refine lv_iconst (v := 1) hx hb dX4_goesOn_117 (by decide) ?_
            refine va_put (D := G.1) (ci := 4) (v := .int 1) (ty := .boolean) (C := RX4) (T := TX4) (N := 5) hx hb hts inlX4 tyX4 tyX4_ok nmX4 hown hG.1 hP (wl_D hg f_2) hS 4 (wl_at (by decide) hrd) rfl 4 (by decide) (hts (.fieldLink RX4 30 "SwornLists$Reader" "wantsUnit" "Z") w_285) (fun _ h9 => h9) rfl (by decide +kernel) rfl rfl (Nat.le_of_ble_eq_true rfl) dX4_goesOn_118 (fun H locs hP _ hS => ?_)
            obtain ⟨f_3, hP, e_3, o_3⟩ := b_put (by decide) hP
            have hrd : f_3 4 = eO 4 [.ref (g 5), .int (nI (mc91 + 1)), .int (nI op), .int cm, .int 1] := e_3
            refine lv_iconst (v := 1) hx hb dX4_goesOn_121 (by decide) ?_
            replace hmk := ((o_3 5 (by decide))).trans hmk
            replace htx : f_3 k = eO 7 [.ref (g (k + 1)), .ref (g (k + 2)), .int (nI ln), .int (nI sc92)] := ((o_3 k (by omega)).trans ((o_2 k (by omega)))).trans htx
            replace hpx : f_3 (k + 2) = eI G 50 sp93 := ((o_3 (k + 2) (by omega)).trans ((o_2 (k + 2) (by omega)))).trans hpx
            refine W_q9 hQ9 ?_
            exact W.zret (v := 1) hx hb hr (rfl) (fun _ hT9 _ => ⟨⟨_, f_3, rfl, (⟨true, (mc91 + 1), op, cm, true, (upd mk mc91 n), sc92, sp93, (b2_t rfl).symm, (hrd.trans (by rw [show b2 (true = true) = 1 from b2_t rfl] <;> rfl)), hmk, htx, hpx, Or.inr (Or.inr (Or.inr ⟨c_3, c_44, c_50, fun z => c_19 z.1, rfl, rfl, rfl, mc91, rfl, rfl, hx_1_1, hx_1_2, hx_1_0, Or.inr (Or.inr ⟨c_19, Int32.not_lt.mpr c_85, rfl⟩)⟩)), fun j hj => (((o_3 j (by omega))).trans (o_2 j (by omega))).trans (o_1 j (by omega))⟩), by rw [hT9]; exact hP⟩, hS.F hT9⟩) hS.2.2 dX4_goesOn_122
          · refine lv_aload_n hx hb dX4_goesOn_88 rfl (lv_at hl 2 rfl) ?_
            refine lv_dup hx hb dX4_goesOn_89 rfl ?_
            refine va_get (D := G.1) (ci := 4) (v := .int cm) (C := RX4) (T := TX4) (N := 5) hx hb hts inlX4 hown hG.1 hP 4 (wl_at (by decide) hrd) rfl 3 (by decide) (hts (.fieldLink RX4 27 "SwornLists$Reader" "compared" "I") w_284) (fun _ h9 => h9) rfl dX4_goesOn_90 ?_
            refine lv_iconst (v := 1) hx hb dX4_goesOn_93 (by decide) ?_
            refine lv_aload_n hx hb dX4_goesOn_94 rfl (lv_at hl 2 rfl) ?_
            refine va_get (D := G.1) (ci := 4) (v := .int (nI op)) (C := RX4) (T := TX4) (N := 5) hx hb hts inlX4 hown hG.1 hP 4 (wl_at (by decide) hrd) rfl 2 (by decide) (hts (.fieldLink RX4 24 "SwornLists$Reader" "open" "I") w_283) (fun _ h9 => h9) rfl dX4_goesOn_95 ?_
            refine lv_ishl hx hb dX4_goesOn_98 ?_
            refine lv_iconst (v := (-1)) hx hb dX4_goesOn_99 (by decide) ?_
            refine lv_ixor hx hb dX4_goesOn_100 ?_
            refine lv_iand hx hb dX4_goesOn_101 ?_
            refine va_put (D := G.1) (ci := 4) (v := .int (cm &&& ((1 <<< ((nI op) &&& 31)) ^^^ (-1)))) (ty := .int) (C := RX4) (T := TX4) (N := 5) hx hb hts inlX4 tyX4 tyX4_ok nmX4 hown hG.1 hP (wl_D hg f) hS 4 (wl_at (by decide) hrd) rfl 3 (by decide) (hts (.fieldLink RX4 27 "SwornLists$Reader" "compared" "I") w_284) (fun _ h9 => h9) rfl (by decide +kernel) rfl rfl (Nat.le_of_ble_eq_true rfl) dX4_goesOn_102 (fun H locs hP _ hS => ?_)
            obtain ⟨f_4, hP, e_4, o_4⟩ := b_put (by decide) hP
            have hrd : f_4 4 = eO 4 [.ref (g 5), .int (nI mc), .int (nI op), .int (cm &&& ((1 <<< ((nI op) &&& 31)) ^^^ (-1))), .int (b2 (wu = true))] := e_4
            refine lv_aload_n hx hb dX4_goesOn_105 rfl (lv_at hl 2 rfl) ?_
            refine lv_aload_n hx hb dX4_goesOn_106 rfl (lv_at hl 3 rfl) ?_
            refine lv_iload_n hx hb dX4_goesOn_107 rfl (lv_at hl 1 rfl) ?_
            replace hmk := ((o_4 5 (by decide))).trans hmk
            replace htx : f_4 k = eO 7 [.ref (g (k + 1)), .ref (g (k + 2)), .int (nI ln), .int (nI sc)] := ((o_4 k (by omega))).trans htx
            replace hpx : f_4 (k + 2) = eI G 50 sp := ((o_4 (k + 2) (by omega))).trans hpx
            refine b_callv (va_runV (As := [.ref (g k), .int (rnk n)]) (rest := []) ⟨hx, hb, hml, hown, hts⟩ (e_releaseE l G g hg f_4 k ln sc sp mc op (cm &&& ((1 <<< ((nI op) &&& 31)) ^^^ (-1))) wu mk (rnk n) hrd hmk htx hpx (by first | assumption | omega | decide) (by first | assumption | omega | decide) (by first | assumption | omega | decide) (by first | assumption | omega | decide) (by first | assumption | omega | decide)) (my_cwV hts ok_X4_release w_331 rfl rfl ⟨Nat.le_of_ble_eq_true rfl, Nat.le_of_ble_eq_true rfl⟩) ⟨bP.blind, va_recv hG.1 hP (ci := 4) (q0 := 4) rfl (wl_at (by decide) hrd), fun U hU hW => ⟨rfl, by rw [hU]; exact hP, kG.warm hW hG⟩⟩ rfl rfl hl.1 rfl (lv_room (Nat.le_of_ble_eq_true rfl)) dX4_goesOn_108 ⟨Nat.le_of_ble_eq_true rfl, Nat.le_of_ble_eq_true rfl⟩) hS (fun f_5 H locs hq9 hP hS => ?_)
            obtain ⟨mc94, sc95, sp96, hq_5_0, hq_5_1, hq_5_2, hx_5_0, hx_5_1, hx_5_2, o_5⟩ := hq9
            have hrd : f_5 4 = eO 4 [.ref (g 5), .int (nI mc94), .int (nI op), .int (cm &&& ((1 <<< ((nI op) &&& 31)) ^^^ (-1))), .int (b2 (wu = true))] := hq_5_0
            have htx : f_5 k = eO 7 [.ref (g (k + 1)), .ref (g (k + 2)), .int (nI ln), .int (nI sc95)] := hq_5_1
            have hpx : f_5 (k + 2) = eI G 50 sp96 := hq_5_2
            refine lv_aload_n hx hb dX4_goesOn_111 rfl (lv_at hl 2 rfl) ?_
            refine lv_iload_n hx hb dX4_goesOn_112 rfl (lv_at hl 4 rfl) ?_
            replace hmk := ((o_5 5 (by first | decide | omega))).trans hmk
            refine b_callv (va_runV (As := [.int n]) (rest := []) ⟨hx, hb, hml, hown, hts⟩ (e_holdE l G g hg f_5 mc94 op (cm &&& ((1 <<< ((nI op) &&& 31)) ^^^ (-1))) wu mk n hrd hmk (by first | assumption | omega | decide)) (my_cwV hts ok_X4_hold w_319 rfl rfl ⟨Nat.le_of_ble_eq_true rfl, Nat.le_of_ble_eq_true rfl⟩) ⟨bP.blind, va_recv hG.1 hP (ci := 4) (q0 := 4) rfl (wl_at (by decide) hrd), fun U hU hW => ⟨rfl, by rw [hU]; exact hP, kG.warm hW hG⟩⟩ rfl rfl hl.1 rfl (lv_room (Nat.le_of_ble_eq_true rfl)) dX4_goesOn_113 ⟨Nat.le_of_ble_eq_true rfl, Nat.le_of_ble_eq_true rfl⟩) hS (fun f_6 H locs hq9 hP hS => ?_)
            obtain ⟨hq_6_0, hq_6_1, o_6⟩ := hq9
            have hrd : f_6 4 = eO 4 [.ref (g 5), .int (nI (mc94 + 1)), .int (nI op), .int (cm &&& ((1 <<< ((nI op) &&& 31)) ^^^ (-1))), .int (b2 (wu = true))] := hq_6_0
            have hmk : f_6 5 = eI G 50 (upd mk mc94 n) := hq_6_1
            refine lv_aload_n hx hb dX4_goesOn_116 rfl (lv_at hl 2 rfl) ?_
            refine lv_iconst (v := 1) hx hb dX4_goesOn_117 (by decide) ?_
            refine va_put (D := G.1) (ci := 4) (v := .int 1) (ty := .boolean) (C := RX4) (T := TX4) (N := 5) hx hb hts inlX4 tyX4 tyX4_ok nmX4 hown hG.1 hP (wl_D hg f_6) hS 4 (wl_at (by decide) hrd) rfl 4 (by decide) (hts (.fieldLink RX4 30 "SwornLists$Reader" "wantsUnit" "Z") w_285) (fun _ h9 => h9) rfl (by decide +kernel) rfl rfl (Nat.le_of_ble_eq_true rfl) dX4_goesOn_118 (fun H locs hP _ hS => ?_)
            obtain ⟨f_7, hP, e_7, o_7⟩ := b_put (by decide) hP
            have hrd : f_7 4 = eO 4 [.ref (g 5), .int (nI (mc94 + 1)), .int (nI op), .int (cm &&& ((1 <<< ((nI op) &&& 31)) ^^^ (-1))), .int 1] := e_7
            refine lv_iconst (v := 1) hx hb dX4_goesOn_121 (by decide) ?_
            replace hmk := ((o_7 5 (by decide))).trans hmk
            replace htx : f_7 k = eO 7 [.ref (g (k + 1)), .ref (g (k + 2)), .int (nI ln), .int (nI sc95)] := ((o_7 k (by omega)).trans ((o_6 k (by omega)))).trans htx
            replace hpx : f_7 (k + 2) = eI G 50 sp96 := ((o_7 (k + 2) (by omega)).trans ((o_6 (k + 2) (by omega)))).trans hpx
            refine W_q9 hQ9 ?_
            exact W.zret (v := 1) hx hb hr (rfl) (fun _ hT9 _ => ⟨⟨_, f_7, rfl, (⟨true, (mc94 + 1), op, (cm &&& ((1 <<< ((nI op) &&& 31)) ^^^ (-1))), true, (upd mk mc94 n), sc95, sp96, (b2_t rfl).symm, (hrd.trans (by rw [show b2 (true = true) = 1 from b2_t rfl] <;> rfl)), hmk, htx, hpx, Or.inr (Or.inr (Or.inr ⟨c_3, c_44, c_50, fun z => c_19 z.1, rfl, rfl, rfl, mc94, rfl, rfl, hx_5_1, hx_5_2, hx_5_0, Or.inr (Or.inl ⟨Int32.not_le.mp c_85, rfl⟩)⟩)), fun j hj => ((((o_7 j (by omega))).trans (o_6 j (by omega))).trans (o_5 j (by omega))).trans (o_4 j (by omega))⟩), by rw [hT9]; exact hP⟩, hS.F hT9⟩) hS.2.2 dX4_goesOn_122
    · refine lv_aload_n hx hb dX4_goesOn_22 rfl (lv_at hl 1 rfl) ?_
      refine va_get (D := G.1) (ci := 4) (v := .int cm) (C := RX4) (T := TX4) (N := 5) hx hb hts inlX4 hown hG.1 hP 4 (wl_at (by decide) hrd) rfl 3 (by decide) (hts (.fieldLink RX4 27 "SwornLists$Reader" "compared" "I") w_284) (fun _ h9 => h9) rfl dX4_goesOn_23 ?_
      refine lv_aload_n hx hb dX4_goesOn_26 rfl (lv_at hl 1 rfl) ?_
      refine va_get (D := G.1) (ci := 4) (v := .int (nI op)) (C := RX4) (T := TX4) (N := 5) hx hb hts inlX4 hown hG.1 hP 4 (wl_at (by decide) hrd) rfl 2 (by decide) (hts (.fieldLink RX4 24 "SwornLists$Reader" "open" "I") w_283) (fun _ h9 => h9) rfl dX4_goesOn_27 ?_
      refine rd_calli (va_runSN (As := [.int cm, .int (nI op)]) (rest := []) ⟨hx, hb, hml, hown, hts⟩ (s_hasBit l G g hg f cm (nI op)  ) (⟨my_cn hts ok_X10_hasBit.1 (hG.2.1 (.methodLinkNest RX4 87 yX10_hasBit RX10) (List.mem_of_getElem? (i := 30) rfl)) rfl rfl ⟨Nat.le_of_ble_eq_true rfl, Nat.le_of_ble_eq_true rfl⟩, hts _ ok_X10_hasBit.2.2.1, trivial⟩) ⟨bP.blind, fun U hU hW => ⟨rfl, by rw [hU]; exact hP, kG.warm hW hG⟩⟩ rfl rfl hl.1 rfl (lv_room (Nat.le_of_ble_eq_true rfl)) dX4_goesOn_30 ⟨Nat.le_of_ble_eq_true rfl, Nat.le_of_ble_eq_true rfl⟩) (fun r hr9 => ?_)
      subst hr9
      refine my_ifeq (tgt := 40) hx hb dX4_goesOn_33 (by decide) (fun c_33 => ?_) (fun c_33 => ?_)
      · refine lv_iconst (v := 0) hx hb dX4_goesOn_40 (by decide) ?_
        refine lv_istore (lv' := [(4, .int 0), (3, .int (rnk n)), (0, .ref (g 4)), (1, .ref (g k)), (2, .int n)]) hx hb dX4_goesOn_41 hl (by decide) rfl (fun ls hl => ?_)
        refine lv_iload_n hx hb dX4_goesOn_43 rfl (lv_at hl 1 rfl) ?_
        refine lv_if_eq (tgt := 58) hx hb dX4_goesOn_44 (by decide) (fun c_44 => ?_) (fun c_44 => ?_)
        · refine lv_iconst (v := 0) hx hb dX4_goesOn_58 (by decide) ?_
          refine W_q9 hQ9 ?_
          exact W.zret (v := 0) hx hb hr (rfl) (fun _ hT9 _ => ⟨⟨_, f, rfl, (⟨false, mc, op, cm, wu, mk, sc, sp, (b2_f (by decide)).symm, hrd, hmk, htx, hpx, Or.inr (Or.inr (Or.inl ⟨c_3, Or.inl c_44, rfl, rfl, rfl, rfl, rfl, rfl, rfl, rfl⟩)), fun j hj => rfl⟩), by rw [hT9]; exact hP⟩, hS.F hT9⟩) hS.2.2 dX4_goesOn_59
        · refine lv_iload_n hx hb dX4_goesOn_47 rfl (lv_at hl 1 rfl) ?_
          refine lv_bipush (v := 6) hx hb dX4_goesOn_48 (by decide) ?_
          refine lv_icmp_eq (tgt := 58) hx hb dX4_goesOn_50 (by decide) (fun c_50 => ?_) (fun c_50 => ?_)
          · refine lv_iconst (v := 0) hx hb dX4_goesOn_58 (by decide) ?_
            refine W_q9 hQ9 ?_
            exact W.zret (v := 0) hx hb hr (rfl) (fun _ hT9 _ => ⟨⟨_, f, rfl, (⟨false, mc, op, cm, wu, mk, sc, sp, (b2_f (by decide)).symm, hrd, hmk, htx, hpx, Or.inr (Or.inr (Or.inl ⟨c_3, Or.inr (Or.inl c_50), rfl, rfl, rfl, rfl, rfl, rfl, rfl, rfl⟩)), fun j hj => rfl⟩), by rw [hT9]; exact hP⟩, hS.F hT9⟩) hS.2.2 dX4_goesOn_59
          · refine lv_iload hx hb dX4_goesOn_53 (lv_at hl 0 rfl) ?_
            refine lv_if_eq (tgt := 60) hx hb dX4_goesOn_55 (by decide) (fun c_55 => ?_) (fun c_55 => absurd (by decide) c_55)
            refine lv_iload_n hx hb dX4_goesOn_60 rfl (lv_at hl 1 rfl) ?_
            refine lv_iconst (v := 3) hx hb dX4_goesOn_61 (by decide) ?_
            refine lv_icmp_ne (tgt := 83) hx hb dX4_goesOn_62 (by decide) (fun c_62 => absurd (c_19) c_62) (fun c_62 => ?_)
            refine lv_aload_n hx hb dX4_goesOn_65 rfl (lv_at hl 2 rfl) ?_
            refine lv_dup hx hb dX4_goesOn_66 rfl ?_
            refine va_get (D := G.1) (ci := 4) (v := .int cm) (C := RX4) (T := TX4) (N := 5) hx hb hts inlX4 hown hG.1 hP 4 (wl_at (by decide) hrd) rfl 3 (by decide) (hts (.fieldLink RX4 27 "SwornLists$Reader" "compared" "I") w_284) (fun _ h9 => h9) rfl dX4_goesOn_67 ?_
            refine lv_iconst (v := 1) hx hb dX4_goesOn_70 (by decide) ?_
            refine lv_aload_n hx hb dX4_goesOn_71 rfl (lv_at hl 2 rfl) ?_
            refine va_get (D := G.1) (ci := 4) (v := .int (nI op)) (C := RX4) (T := TX4) (N := 5) hx hb hts inlX4 hown hG.1 hP 4 (wl_at (by decide) hrd) rfl 2 (by decide) (hts (.fieldLink RX4 24 "SwornLists$Reader" "open" "I") w_283) (fun _ h9 => h9) rfl dX4_goesOn_72 ?_
            refine lv_ishl hx hb dX4_goesOn_75 ?_
            refine lv_ior hx hb dX4_goesOn_76 ?_
            refine va_put (D := G.1) (ci := 4) (v := .int (cm ||| (1 <<< ((nI op) &&& 31)))) (ty := .int) (C := RX4) (T := TX4) (N := 5) hx hb hts inlX4 tyX4 tyX4_ok nmX4 hown hG.1 hP (wl_D hg f) hS 4 (wl_at (by decide) hrd) rfl 3 (by decide) (hts (.fieldLink RX4 27 "SwornLists$Reader" "compared" "I") w_284) (fun _ h9 => h9) rfl (by decide +kernel) rfl rfl (Nat.le_of_ble_eq_true rfl) dX4_goesOn_77 (fun H locs hP _ hS => ?_)
            obtain ⟨f_8, hP, e_8, o_8⟩ := b_put (by decide) hP
            have hrd : f_8 4 = eO 4 [.ref (g 5), .int (nI mc), .int (nI op), .int (cm ||| (1 <<< ((nI op) &&& 31))), .int (b2 (wu = true))] := e_8
            refine lv_goto (tgt := 105) hx hb dX4_goesOn_80 (by decide) ?_
            refine lv_aload_n hx hb dX4_goesOn_105 rfl (lv_at hl 2 rfl) ?_
            refine lv_aload_n hx hb dX4_goesOn_106 rfl (lv_at hl 3 rfl) ?_
            refine lv_iload_n hx hb dX4_goesOn_107 rfl (lv_at hl 1 rfl) ?_
            replace hmk := ((o_8 5 (by decide))).trans hmk
            replace htx : f_8 k = eO 7 [.ref (g (k + 1)), .ref (g (k + 2)), .int (nI ln), .int (nI sc)] := ((o_8 k (by omega))).trans htx
            replace hpx : f_8 (k + 2) = eI G 50 sp := ((o_8 (k + 2) (by omega))).trans hpx
            refine b_callv (va_runV (As := [.ref (g k), .int (rnk n)]) (rest := []) ⟨hx, hb, hml, hown, hts⟩ (e_releaseE l G g hg f_8 k ln sc sp mc op (cm ||| (1 <<< ((nI op) &&& 31))) wu mk (rnk n) hrd hmk htx hpx (by first | assumption | omega | decide) (by first | assumption | omega | decide) (by first | assumption | omega | decide) (by first | assumption | omega | decide) (by first | assumption | omega | decide)) (my_cwV hts ok_X4_release w_331 rfl rfl ⟨Nat.le_of_ble_eq_true rfl, Nat.le_of_ble_eq_true rfl⟩) ⟨bP.blind, va_recv hG.1 hP (ci := 4) (q0 := 4) rfl (wl_at (by decide) hrd), fun U hU hW => ⟨rfl, by rw [hU]; exact hP, kG.warm hW hG⟩⟩ rfl rfl hl.1 rfl (lv_room (Nat.le_of_ble_eq_true rfl)) dX4_goesOn_108 ⟨Nat.le_of_ble_eq_true rfl, Nat.le_of_ble_eq_true rfl⟩) hS (fun f_9 H locs hq9 hP hS => ?_)
            obtain ⟨mc97, sc98, sp99, hq_9_0, hq_9_1, hq_9_2, hx_9_0, hx_9_1, hx_9_2, o_9⟩ := hq9
            have hrd : f_9 4 = eO 4 [.ref (g 5), .int (nI mc97), .int (nI op), .int (cm ||| (1 <<< ((nI op) &&& 31))), .int (b2 (wu = true))] := hq_9_0
            have htx : f_9 k = eO 7 [.ref (g (k + 1)), .ref (g (k + 2)), .int (nI ln), .int (nI sc98)] := hq_9_1
            have hpx : f_9 (k + 2) = eI G 50 sp99 := hq_9_2
            refine lv_aload_n hx hb dX4_goesOn_111 rfl (lv_at hl 2 rfl) ?_
            refine lv_iload_n hx hb dX4_goesOn_112 rfl (lv_at hl 4 rfl) ?_
            replace hmk := ((o_9 5 (by first | decide | omega))).trans hmk
            refine b_callv (va_runV (As := [.int n]) (rest := []) ⟨hx, hb, hml, hown, hts⟩ (e_holdE l G g hg f_9 mc97 op (cm ||| (1 <<< ((nI op) &&& 31))) wu mk n hrd hmk (by first | assumption | omega | decide)) (my_cwV hts ok_X4_hold w_319 rfl rfl ⟨Nat.le_of_ble_eq_true rfl, Nat.le_of_ble_eq_true rfl⟩) ⟨bP.blind, va_recv hG.1 hP (ci := 4) (q0 := 4) rfl (wl_at (by decide) hrd), fun U hU hW => ⟨rfl, by rw [hU]; exact hP, kG.warm hW hG⟩⟩ rfl rfl hl.1 rfl (lv_room (Nat.le_of_ble_eq_true rfl)) dX4_goesOn_113 ⟨Nat.le_of_ble_eq_true rfl, Nat.le_of_ble_eq_true rfl⟩) hS (fun f_10 H locs hq9 hP hS => ?_)
            obtain ⟨hq_10_0, hq_10_1, o_10⟩ := hq9
            have hrd : f_10 4 = eO 4 [.ref (g 5), .int (nI (mc97 + 1)), .int (nI op), .int (cm ||| (1 <<< ((nI op) &&& 31))), .int (b2 (wu = true))] := hq_10_0
            have hmk : f_10 5 = eI G 50 (upd mk mc97 n) := hq_10_1
            refine lv_aload_n hx hb dX4_goesOn_116 rfl (lv_at hl 2 rfl) ?_
            refine lv_iconst (v := 1) hx hb dX4_goesOn_117 (by decide) ?_
            refine va_put (D := G.1) (ci := 4) (v := .int 1) (ty := .boolean) (C := RX4) (T := TX4) (N := 5) hx hb hts inlX4 tyX4 tyX4_ok nmX4 hown hG.1 hP (wl_D hg f_10) hS 4 (wl_at (by decide) hrd) rfl 4 (by decide) (hts (.fieldLink RX4 30 "SwornLists$Reader" "wantsUnit" "Z") w_285) (fun _ h9 => h9) rfl (by decide +kernel) rfl rfl (Nat.le_of_ble_eq_true rfl) dX4_goesOn_118 (fun H locs hP _ hS => ?_)
            obtain ⟨f_11, hP, e_11, o_11⟩ := b_put (by decide) hP
            have hrd : f_11 4 = eO 4 [.ref (g 5), .int (nI (mc97 + 1)), .int (nI op), .int (cm ||| (1 <<< ((nI op) &&& 31))), .int 1] := e_11
            refine lv_iconst (v := 1) hx hb dX4_goesOn_121 (by decide) ?_
            replace hmk := ((o_11 5 (by decide))).trans hmk
            replace htx : f_11 k = eO 7 [.ref (g (k + 1)), .ref (g (k + 2)), .int (nI ln), .int (nI sc98)] := ((o_11 k (by omega)).trans ((o_10 k (by omega)))).trans htx
            replace hpx : f_11 (k + 2) = eI G 50 sp99 := ((o_11 (k + 2) (by omega)).trans ((o_10 (k + 2) (by omega)))).trans hpx
            refine W_q9 hQ9 ?_
            exact W.zret (v := 1) hx hb hr (rfl) (fun _ hT9 _ => ⟨⟨_, f_11, rfl, (⟨true, (mc97 + 1), op, (cm ||| (1 <<< ((nI op) &&& 31))), true, (upd mk mc97 n), sc98, sp99, (b2_t rfl).symm, (hrd.trans (by rw [show b2 (true = true) = 1 from b2_t rfl] <;> rfl)), hmk, htx, hpx, Or.inr (Or.inr (Or.inr ⟨c_3, c_44, c_50, fun z => c_33 z.2, rfl, rfl, rfl, mc97, rfl, rfl, hx_9_1, hx_9_2, hx_9_0, Or.inl ⟨c_19, rfl⟩⟩)), fun j hj => ((((o_11 j (by omega))).trans (o_10 j (by omega))).trans (o_9 j (by omega))).trans (o_8 j (by omega))⟩), by rw [hT9]; exact hP⟩, hS.F hT9⟩) hS.2.2 dX4_goesOn_122
      · refine lv_iconst (v := 1) hx hb dX4_goesOn_36 (by decide) ?_
        refine lv_goto (tgt := 41) hx hb dX4_goesOn_37 (by decide) ?_
        refine lv_istore (lv' := [(4, .int 1), (3, .int (rnk n)), (0, .ref (g 4)), (1, .ref (g k)), (2, .int n)]) hx hb dX4_goesOn_41 hl (by decide) rfl (fun ls hl => ?_)
        refine lv_iload_n hx hb dX4_goesOn_43 rfl (lv_at hl 1 rfl) ?_
        refine lv_if_eq (tgt := 58) hx hb dX4_goesOn_44 (by decide) (fun c_44 => ?_) (fun c_44 => ?_)
        · refine lv_iconst (v := 0) hx hb dX4_goesOn_58 (by decide) ?_
          refine W_q9 hQ9 ?_
          exact W.zret (v := 0) hx hb hr (rfl) (fun _ hT9 _ => ⟨⟨_, f, rfl, (⟨false, mc, op, cm, wu, mk, sc, sp, (b2_f (by decide)).symm, hrd, hmk, htx, hpx, Or.inr (Or.inr (Or.inl ⟨c_3, Or.inl c_44, rfl, rfl, rfl, rfl, rfl, rfl, rfl, rfl⟩)), fun j hj => rfl⟩), by rw [hT9]; exact hP⟩, hS.F hT9⟩) hS.2.2 dX4_goesOn_59
        · refine lv_iload_n hx hb dX4_goesOn_47 rfl (lv_at hl 1 rfl) ?_
          refine lv_bipush (v := 6) hx hb dX4_goesOn_48 (by decide) ?_
          refine lv_icmp_eq (tgt := 58) hx hb dX4_goesOn_50 (by decide) (fun c_50 => ?_) (fun c_50 => ?_)
          · refine lv_iconst (v := 0) hx hb dX4_goesOn_58 (by decide) ?_
            refine W_q9 hQ9 ?_
            exact W.zret (v := 0) hx hb hr (rfl) (fun _ hT9 _ => ⟨⟨_, f, rfl, (⟨false, mc, op, cm, wu, mk, sc, sp, (b2_f (by decide)).symm, hrd, hmk, htx, hpx, Or.inr (Or.inr (Or.inl ⟨c_3, Or.inr (Or.inl c_50), rfl, rfl, rfl, rfl, rfl, rfl, rfl, rfl⟩)), fun j hj => rfl⟩), by rw [hT9]; exact hP⟩, hS.F hT9⟩) hS.2.2 dX4_goesOn_59
          · refine lv_iload hx hb dX4_goesOn_53 (lv_at hl 0 rfl) ?_
            refine lv_if_eq (tgt := 60) hx hb dX4_goesOn_55 (by decide) (fun c_55 => absurd c_55 (by decide)) (fun c_55 => ?_)
            refine lv_iconst (v := 0) hx hb dX4_goesOn_58 (by decide) ?_
            refine W_q9 hQ9 ?_
            exact W.zret (v := 0) hx hb hr (rfl) (fun _ hT9 _ => ⟨⟨_, f, rfl, (⟨false, mc, op, cm, wu, mk, sc, sp, (b2_f (by decide)).symm, hrd, hmk, htx, hpx, Or.inr (Or.inr (Or.inl ⟨c_3, Or.inr (Or.inr ⟨c_19, c_33⟩), rfl, rfl, rfl, rfl, rfl, rfl, rfl, rfl⟩)), fun j hj => rfl⟩), by rw [hT9]; exact hP⟩, hS.F hT9⟩) hS.2.2 dX4_goesOn_59
  · refine lv_aload_n hx hb dX4_goesOn_6 rfl (lv_at hl 0 rfl) ?_
    refine lv_aload_n hx hb dX4_goesOn_7 rfl (lv_at hl 1 rfl) ?_
    refine b_calli (va_runV (As := [.ref (g k)]) (rest := []) ⟨hx, hb, hml, hown, hts⟩ (e_closesE l G g hg f k ln sc sp mc op cm wu mk hrd hmk htx hpx (by first | assumption | omega | decide) (by first | assumption | omega | decide) (by first | assumption | omega | decide) (by first | assumption | omega | decide) (by first | assumption | omega | decide) (by first | assumption | omega | decide)) (my_cwV hts ok_X4_closes w_327 rfl rfl ⟨Nat.le_of_ble_eq_true rfl, Nat.le_of_ble_eq_true rfl⟩) ⟨bP.blind, va_recv hG.1 hP (ci := 4) (q0 := 4) rfl (wl_at (by decide) hrd), fun U hU hW => ⟨rfl, by rw [hU]; exact hP, kG.warm hW hG⟩⟩ rfl rfl hl.1 rfl (lv_room (Nat.le_of_ble_eq_true rfl)) dX4_goesOn_8 ⟨Nat.le_of_ble_eq_true rfl, Nat.le_of_ble_eq_true rfl⟩) hS (fun v10 f_12 H locs hq9 hP hS => ?_)
    obtain ⟨bz11, mc912, op913, sc914, sp915, rfl, hq_12_0, hq_12_1, hq_12_2, hx_12_0, o_12⟩ := hq9
    have hrd : f_12 4 = eO 4 [.ref (g 5), .int (nI mc912), .int (nI op913), .int cm, .int (b2 (wu = true))] := hq_12_0
    have htx : f_12 k = eO 7 [.ref (g (k + 1)), .ref (g (k + 2)), .int (nI ln), .int (nI sc914)] := hq_12_1
    have hpx : f_12 (k + 2) = eI G 50 sp915 := hq_12_2
    replace hmk := ((o_12 5 (by first | decide | omega))).trans hmk
    refine W_q9 hQ9 ?_
    exact W.zret (v := b2 (bz11 = true)) hx hb hr (b2_nar) (fun _ hT9 _ => ⟨⟨_, f_12, rfl, (⟨bz11, mc912, op913, cm, wu, mk, sc914, sp915, rfl, hrd, hmk, htx, hpx, (hx_12_0.elim (fun y => Or.inl ⟨c_3, y.1, y.2.1, y.2.2.1, rfl, y.2.2.2.1, rfl, rfl, y.2.2.2.2.1, y.2.2.2.2.2⟩) (fun y => Or.inr (Or.inl ⟨c_3, y.1, y.2.1, rfl, y.2.2.1, rfl, rfl, y.2.2.2⟩))), fun j hj => (o_12 j (by omega))⟩), by rw [hT9]; exact hP⟩, hS.F hT9⟩) hS.2.2 dX4_goesOn_11


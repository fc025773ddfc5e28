theorem max_p {m : Nat} (hm : m ≤ 50) : (if (0 : Int32) < nI m - 1 then nI m - 1 else 0) = nI (m - 1) := by
  rcases Nat.eq_zero_or_pos m with h | h
  · subst h; rfl
  · have e : nI m - 1 = nI (m - 1) := pk_sub (b := 1) h
    rw [e]
    split
    · rfl
    · rename_i q
      have h2 : ¬ 0 < m - 1 := fun z => q (nI_lt (a := 0) z (by omega))
      rw [show m - 1 = 0 by omega]; rfl
set_option maxHeartbeats 4000000 in
set_option maxRecDepth 100000 in
theorem e_release (l : Launch) (G : gW) (g : Nat → Nat) (hg : gOK g) (f : Nat → va_E) (k : Nat) (ln : Nat) (sc : Nat) (sp : Nat → Int32) (mc : Nat) (op : Int32) (cm : Int32) (wu : Int32) (mk : Nat → Int32) (r : Int32) (hrd : f 4 = eO 4 [.ref (g 5), .int (nI mc), .int op, .int cm, .int wu]) (hmk : f 5 = eI G 50 mk) (htx : f k = eO 7 [.ref (g (k + 1)), .ref (g (k + 2)), .int (nI ln), .int (nI sc)]) (hpx : f (k + 2) = eI G 50 sp) (hk3 : k + 2 < 333) (hln : ln ≤ 50) (hsc : sc ≤ 50) (hmc : mc ≤ 50) (hkt : 36 ≤ k) : Met l yX4_release (wsT yX4_release cX4_release 3 none) ({ frames := 1, cells := 0, slots := 0, locals := 21 }) (bP G g f [.ref (g 4), .ref (g k), .int r]) (bQv G g (fun (f' : Nat → va_E) => ∃ mc9 : Nat, ∃ sc9 : Nat, ∃ sp9 : Nat → Int32, f' 4 = eO 4 [.ref (g 5), .int (nI mc9), .int op, .int cm, .int wu] ∧ f' k = eO 7 [.ref (g (k + 1)), .ref (g (k + 2)), .int (nI ln), .int (nI sc9)] ∧ f' (k + 2) = eI G 50 sp9 ∧ (mc9 ≤ 50) ∧ (sc9 ≤ 50) ∧ ∀ j, (j ≠ 4 ∧ j ≠ k ∧ j ≠ k + 2) → f' j = f j)) 0 0 (gA g) := by
  refine Met.ofW (cc := cX4_release) (maxL := 3) (ret := none) (by decide) rfl ?_
  intro p e s m args below meth c s₁ B hml hv
  obtain ⟨rfl, hP, hG⟩ := hv
  have hx := B.exec
  have hb := B.bytes
  have hr := B.returns
  have hts := my_hts (atoms_spec (ws := wsT yX4_release cX4_release 3 none) B.pre)
  have hown : s.vm.findClass RX4 = some m.cls := findClass_of_methodNamed B.named
  have hlocks := B.notSynchronized
  have hS : va_S (gA g) s.heap s.heap [] := va_S.rf
  have hl := lv_entry ([.ref (g 4), .ref (g k), .int r]) (n := 3) (Nat.le_of_ble_eq_true rfl)
  rw [lg_entry_eq]
  generalize (lg_sl ([.ref (g 4), .ref (g k), .int r]) ++ List.replicate (3 - (lg_sl ([.ref (g 4), .ref (g k), .int r])).length) Slot.unset).toArray = ls at hl ⊢
  have hl : lv_has ls 3 [(0, .ref (g 4)), (1, .ref (g k)), (2, .int r)] := hl
  have key1 : ∀ (n9 : Nat) (mc1 : Nat) (sc1 : Nat) (sp1 : Nat → Int32) (f_1 : Nat → va_E) (H : Heap) (locs : List Loc) (ls : Array Slot), (mc1 ≤ 50) → (sc1 ≤ 50) → mc1 < n9 → f_1 4 = eO 4 [.ref (g 5), .int (nI mc1), .int op, .int cm, .int wu] → f_1 5 = eI G 50 mk → f_1 k = eO 7 [.ref (g (k + 1)), .ref (g (k + 2)), .int (nI ln), .int (nI sc1)] → f_1 (k + 2) = eI G 50 sp1 → (∀ j, (j ≠ 4 ∧ j ≠ k ∧ j ≠ k + 2) → f_1 j = f j) → va_P G.1 vwCl (wl g f_1) H → va_S (gA g) s.heap H locs → lv_has ls 3 [(0, .ref (g 4)), (1, .ref (g k)), (2, .int r)] → W p l e (headSpec (wsT yX4_release cX4_release 3 none) ({ frames := 1, cells := 0, slots := 0, locals := 21 })).room s m ([.ref (g 4), .ref (g k), .int r] : List Value).toArray below meth c H locs 0 0 (MQ below (bQv G g (fun (f' : Nat → va_E) => ∃ mc9 : Nat, ∃ sc9 : Nat, ∃ sp9 : Nat → Int32, f' 4 = eO 4 [.ref (g 5), .int (nI mc9), .int op, .int cm, .int wu] ∧ f' k = eO 7 [.ref (g (k + 1)), .ref (g (k + 2)), .int (nI ln), .int (nI sc9)] ∧ f' (k + 2) = eI G 50 sp9 ∧ (mc9 ≤ 50) ∧ (sc9 ≤ 50) ∧ ∀ j, (j ≠ 4 ∧ j ≠ k ∧ j ≠ k + 2) → f' j = f j)) ([.ref (g 4), .ref (g k), .int r] : List Value).toArray s 0 0 (gA g)) (F0 m 0 ls []) := by
    intro n9
    induction n9 with
    | zero => intro mc1 sc1 sp1 f_1 H locs ls hm1 hs1 hn9; exact absurd hn9 (Nat.not_lt_zero _)
    | succ n9 ih =>
      intro mc1 sc1 sp1 f_1 H locs ls hm1 hs1 hn9 hrd hmk htx hpx o_1 hP hS hl
      refine lv_aload_n hx hb dX4_release_0 rfl (lv_at hl 0 rfl) ?_
      refine va_get (D := G.1) (ci := 4) (v := .int (nI mc1)) (C := RX4) (T := TX4) (N := 5) hx hb hts inlX4 hown hG.1 hP 4 (wl_at (by decide) hrd) rfl 1 (by decide) (hts (.fieldLink RX4 20 "SwornLists$Reader" "markCount" "I") w_282) (fun _ h9 => h9) rfl dX4_release_1 ?_
      refine lv_if_le (tgt := 52) hx hb dX4_release_4 (by decide) (fun c_4 => ?_) (fun c_4 => ?_)
      · exact W.vret hx hb hr (fun t ht hW => ⟨⟨f_1, rfl, (⟨mc1, sc1, sp1, hrd, htx, hpx, by omega, by omega, fun j hj => (o_1 j (by omega))⟩), by rw [ht]; exact hP⟩, hS.F ht⟩) hS.2.2 dX4_release_52
      · have hm0 : 1 ≤ mc1 := Nat.pos_of_ne_zero (fun z => c_4 (by rw [z]; decide))
        refine lv_aload_n hx hb dX4_release_7 rfl (lv_at hl 0 rfl) ?_
        refine va_get (D := G.1) (ci := 4) (v := .ref (g 5)) (C := RX4) (T := TX4) (N := 5) hx hb hts inlX4 hown hG.1 hP 4 (wl_at (by decide) hrd) rfl 0 (by decide) (hts (.fieldLink RX4 9 "SwornLists$Reader" "marks" "[I") w_95) (fun _ h9 => h9) rfl dX4_release_8 ?_
        refine lv_aload_n hx hb dX4_release_11 rfl (lv_at hl 0 rfl) ?_
        refine va_get (D := G.1) (ci := 4) (v := .int (nI mc1)) (C := RX4) (T := TX4) (N := 5) hx hb hts inlX4 hown hG.1 hP 4 (wl_at (by decide) hrd) rfl 1 (by decide) (hts (.fieldLink RX4 20 "SwornLists$Reader" "markCount" "I") w_282) (fun _ h9 => h9) rfl dX4_release_12 ?_
        refine lv_iconst (v := 1) hx hb dX4_release_15 (by decide) ?_
        refine lv_isub hx hb dX4_release_16 ?_
        refine my_bei (v := nI (mc1 - 1)) (pk_sub (b := 1) hm0) ?_
        refine va_iald hx hb hG.1 hP 5 0 (wl_at (by decide) hmk) rfl (vp_in_nI (by omega) (by decide)) dX4_release_17 ?_
        refine rd_calli (va_runS (As := [.int (mk (Int32.toNatClampNeg (nI (mc1 - 1))))]) (rest := []) ⟨hx, hb, hml, hown, hts⟩ (g_rank l G g hg f_1 (mk (Int32.toNatClampNeg (nI (mc1 - 1))))  ) (my_cwS hts ok_X7_rank w_335 rfl rfl ⟨Nat.le_of_ble_eq_true rfl, Nat.le_of_ble_eq_true rfl⟩) ⟨bP.blind, fun U hU hW => ⟨rfl, by rw [hU]; exact hP, kG.warm hW hG⟩⟩ rfl rfl hl.1 rfl (lv_room (Nat.le_of_ble_eq_true rfl)) dX4_release_18 ⟨Nat.le_of_ble_eq_true rfl, Nat.le_of_ble_eq_true rfl⟩) (fun v2 _ => ?_)
        refine lv_iload_n hx hb dX4_release_21 rfl (lv_at hl 2 rfl) ?_
        refine lv_icmp_lt (tgt := 52) hx hb dX4_release_22 (by decide) (fun c_22 => ?_) (fun c_22 => ?_)
        · exact W.vret hx hb hr (fun t ht hW => ⟨⟨f_1, rfl, (⟨mc1, sc1, sp1, hrd, htx, hpx, by omega, by omega, fun j hj => (o_1 j (by omega))⟩), by rw [ht]; exact hP⟩, hS.F ht⟩) hS.2.2 dX4_release_52
        · refine lv_aload_n hx hb dX4_release_25 rfl (lv_at hl 0 rfl) ?_
          refine lv_dup hx hb dX4_release_26 rfl ?_
          refine va_get (D := G.1) (ci := 4) (v := .int (nI mc1)) (C := RX4) (T := TX4) (N := 5) hx hb hts inlX4 hown hG.1 hP 4 (wl_at (by decide) hrd) rfl 1 (by decide) (hts (.fieldLink RX4 20 "SwornLists$Reader" "markCount" "I") w_282) (fun _ h9 => h9) rfl dX4_release_27 ?_
          refine lv_iconst (v := 1) hx hb dX4_release_30 (by decide) ?_
          refine lv_isub hx hb dX4_release_31 ?_
          refine my_bei (v := nI (mc1 - 1)) (pk_sub (b := 1) hm0) ?_
          refine va_put (D := G.1) (ci := 4) (v := .int (nI (mc1 - 1))) (ty := .int) (C := RX4) (T := TX4) (N := 5) hx hb hts inlX4 tyX4 tyX4_ok nmX4 hown hG.1 hP (wl_D hg f_1) hS 4 (wl_at (by decide) hrd) rfl 1 (by decide) (hts (.fieldLink RX4 20 "SwornLists$Reader" "markCount" "I") w_282) (fun _ h9 => h9) rfl (by decide +kernel) rfl rfl (Nat.le_of_ble_eq_true rfl) dX4_release_32 (fun H locs hP _ hS => ?_)
          obtain ⟨f_2, hP, e_2, o_2⟩ := b_put (by decide) hP
          have hrd : f_2 4 = eO 4 [.ref (g 5), .int (nI (mc1 - 1)), .int op, .int cm, .int wu] := e_2
          replace hmk := (o_2 5 (by decide)).trans hmk
          replace htx : f_2 k = eO 7 [.ref (g (k + 1)), .ref (g (k + 2)), .int (nI ln), .int (nI sc1)] := (o_2 k (by omega)).trans htx
          replace hpx : f_2 (k + 2) = eI G 50 sp1 := (o_2 (k + 2) (by omega)).trans hpx
          refine lv_aload_n hx hb dX4_release_35 rfl (lv_at hl 1 rfl) ?_
          refine lv_aload_n hx hb dX4_release_36 rfl (lv_at hl 0 rfl) ?_
          refine va_get (D := G.1) (ci := 4) (v := .ref (g 5)) (C := RX4) (T := TX4) (N := 5) hx hb hts inlX4 hown hG.1 hP 4 (wl_at (by decide) hrd) rfl 0 (by decide) (hts (.fieldLink RX4 9 "SwornLists$Reader" "marks" "[I") w_95) (fun _ h9 => h9) rfl dX4_release_37 ?_
          refine lv_aload_n hx hb dX4_release_40 rfl (lv_at hl 0 rfl) ?_
          refine va_get (D := G.1) (ci := 4) (v := .int (nI (mc1 - 1))) (C := RX4) (T := TX4) (N := 5) hx hb hts inlX4 hown hG.1 hP 4 (wl_at (by decide) hrd) rfl 1 (by decide) (hts (.fieldLink RX4 20 "SwornLists$Reader" "markCount" "I") w_282) (fun _ h9 => h9) rfl dX4_release_41 ?_
          refine va_iald hx hb hG.1 hP 5 0 (wl_at (by decide) hmk) rfl (vp_in_nI (by omega) (by decide)) dX4_release_44 ?_
          refine lv_ineg hx hb dX4_release_45 ?_
          refine b_callv (va_runV (As := [.int (-(mk (Int32.toNatClampNeg (nI (mc1 - 1)))))]) (rest := []) ⟨hx, hb, hml, hown, hts⟩ (t_addStepS l G g hg f_2 k ln sc1 sp1 (-(mk (Int32.toNatClampNeg (nI (mc1 - 1))))) htx hpx (by first | assumption | omega | decide) (by first | assumption | omega | decide) (by first | assumption | omega | decide)) (my_cwV hts ok_X8_addStep w_311 rfl rfl ⟨Nat.le_of_ble_eq_true rfl, Nat.le_of_ble_eq_true rfl⟩) ⟨bP.blind, va_recv hG.1 hP (ci := 7) (q0 := k) rfl (wl_at (by omega) htx), fun U hU hW => ⟨rfl, by rw [hU]; exact hP, kG.warm hW hG⟩⟩ rfl rfl hl.1 rfl (lv_room (Nat.le_of_ble_eq_true rfl)) dX4_release_46 ⟨Nat.le_of_ble_eq_true rfl, Nat.le_of_ble_eq_true rfl⟩) hS (fun f_3 H locs hq9 hP hS => ?_)
          obtain ⟨sc93, sp94, hq_3_0, hq_3_1, hx_3_0, o_3⟩ := hq9
          replace hrd := (o_3 4 (by first | decide | omega)).trans hrd
          replace hmk := (o_3 5 (by first | decide | omega)).trans hmk
          have htx : f_3 k = eO 7 [.ref (g (k + 1)), .ref (g (k + 2)), .int (nI ln), .int (nI sc93)] := hq_3_0
          have hpx : f_3 (k + 2) = eI G 50 sp94 := hq_3_1
          refine lv_goto (tgt := 0) hx hb dX4_release_49 (by decide) ?_
          exact ih (mc1 - 1) sc93 sp94 f_3 _ _ _ (by omega) (by omega) (by omega) (hrd) (hmk) (htx) (hpx) (fun j hj => (((o_3 j (by omega))).trans (o_2 j (by omega))).trans (o_1 j (by omega))) hP hS (lv_sub hl [0, 1, 2] rfl)
  exact key1 (mc + 1) mc sc sp f _ _ _ (hmc) (hsc) (by omega) (hrd) (hmk) (htx) (hpx) (fun j _ => rfl) hP hS (lv_sub hl [0, 1, 2] rfl)
set_option maxHeartbeats 4000000 in
set_option maxRecDepth 100000 in
theorem e_closes (l : Launch) (G : gW) (g : Nat → Nat) (hg : gOK g) (f : Nat → va_E) (k : Nat) (ln : Nat) (sc : Nat) (sp : Nat → Int32) (mc : Nat) (op : Int32) (cm : Int32) (wu : Int32) (mk : Nat → Int32) (hrd : f 4 = eO 4 [.ref (g 5), .int (nI mc), .int op, .int cm, .int wu]) (hmk : f 5 = eI G 50 mk) (htx : f k = eO 7 [.ref (g (k + 1)), .ref (g (k + 2)), .int (nI ln), .int (nI sc)]) (hpx : f (k + 2) = eI G 50 sp) (hk3 : k + 2 < 333) (hln : ln ≤ 50) (hsc : sc ≤ 50) (hmc : mc ≤ 50) (hkt : 36 ≤ k) : Met l yX4_closes (wsT yX4_closes cX4_closes 2 (some .boolean)) ({ frames := 2, cells := 0, slots := 0, locals := 43 }) (bP G g f [.ref (g 4), .ref (g k)]) (bQi G g (fun (z9 : Int32) (f' : Nat → va_E) => ∃ bz : Bool, ∃ mc9 : Nat, ∃ op9 : Int32, ∃ cm9 : Int32, ∃ wu9 : Int32, ∃ mk9 : Nat → Int32, ∃ sc9 : Nat, ∃ sp9 : Nat → Int32, z9 = b2 (bz = true) ∧ f' 4 = eO 4 [.ref (g 5), .int (nI mc9), .int op9, .int cm9, .int wu9] ∧ f' 5 = eI G 50 mk9 ∧ f' k = eO 7 [.ref (g (k + 1)), .ref (g (k + 2)), .int (nI ln), .int (nI sc9)] ∧ f' (k + 2) = eI G 50 sp9 ∧ (mc9 ≤ 50) ∧ (sc9 ≤ 50) ∧ ∀ j, (j ≠ 4 ∧ j ≠ 5 ∧ j ≠ k ∧ j ≠ k + 2) → f' j = f j)) 0 0 (gA g) := by
  refine Met.ofW (cc := cX4_closes) (maxL := 2) (ret := (some .boolean)) (by decide) rfl ?_
  intro p e s m args below meth c s₁ B hml hv
  obtain ⟨rfl, hP, hG⟩ := hv
  have hx := B.exec
  have hb := B.bytes
  have hr := B.returns
  have hts := my_hts (atoms_spec (ws := wsT yX4_closes cX4_closes 2 (some .boolean)) B.pre)
  have hown : s.vm.findClass RX4 = some m.cls := findClass_of_methodNamed B.named
  have hlocks := B.notSynchronized
  have hS : va_S (gA g) s.heap s.heap [] := va_S.rf
  have hl := lv_entry ([.ref (g 4), .ref (g k)]) (n := 2) (Nat.le_of_ble_eq_true rfl)
  rw [lg_entry_eq]
  generalize (lg_sl ([.ref (g 4), .ref (g k)]) ++ List.replicate (2 - (lg_sl ([.ref (g 4), .ref (g k)])).length) Slot.unset).toArray = ls at hl ⊢
  have hl : lv_has ls 2 [(0, .ref (g 4)), (1, .ref (g k))] := hl
  refine lv_aload_n hx hb dX4_closes_0 rfl (lv_at hl 0 rfl) ?_
  refine va_get (D := G.1) (ci := 4) (v := .int op) (C := RX4) (T := TX4) (N := 5) hx hb hts inlX4 hown hG.1 hP 4 (wl_at (by decide) hrd) rfl 2 (by decide) (hts (.fieldLink RX4 24 "SwornLists$Reader" "open" "I") w_283) (fun _ h9 => h9) rfl dX4_closes_1 ?_
  refine lv_if_ne (tgt := 9) hx hb dX4_closes_4 (by decide) (fun c_4 => ?_) (fun c_4 => ?_)
  · refine lv_aload_n hx hb dX4_closes_9 rfl (lv_at hl 0 rfl) ?_
    refine lv_dup hx hb dX4_closes_10 rfl ?_
    refine va_get (D := G.1) (ci := 4) (v := .int op) (C := RX4) (T := TX4) (N := 5) hx hb hts inlX4 hown hG.1 hP 4 (wl_at (by decide) hrd) rfl 2 (by decide) (hts (.fieldLink RX4 24 "SwornLists$Reader" "open" "I") w_283) (fun _ h9 => h9) rfl dX4_closes_11 ?_
    refine lv_iconst (v := 1) hx hb dX4_closes_14 (by decide) ?_
    refine lv_isub hx hb dX4_closes_15 ?_
    refine va_put (D := G.1) (ci := 4) (v := .int (op - 1)) (ty := .int) (C := RX4) (T := TX4) (N := 5) hx hb hts inlX4 tyX4 tyX4_ok nmX4 hown hG.1 hP (wl_D hg f) hS 4 (wl_at (by decide) hrd) rfl 2 (by decide) (hts (.fieldLink RX4 24 "SwornLists$Reader" "open" "I") w_283) (fun _ h9 => h9) rfl (by decide +kernel) rfl rfl (Nat.le_of_ble_eq_true rfl) dX4_closes_16 (fun H locs hP _ hS => ?_)
    obtain ⟨f_1, hP, e_1, o_1⟩ := b_put (by decide) hP
    have hrd : f_1 4 = eO 4 [.ref (g 5), .int (nI mc), .int (op - 1), .int cm, .int wu] := e_1
    replace hmk := (o_1 5 (by decide)).trans hmk
    replace htx : f_1 k = eO 7 [.ref (g (k + 1)), .ref (g (k + 2)), .int (nI ln), .int (nI sc)] := (o_1 k (by omega)).trans htx
    replace hpx : f_1 (k + 2) = eI G 50 sp := (o_1 (k + 2) (by omega)).trans hpx
    refine lv_aload_n hx hb dX4_closes_19 rfl (lv_at hl 0 rfl) ?_
    refine lv_aload_n hx hb dX4_closes_20 rfl (lv_at hl 1 rfl) ?_
    refine lv_iconst (v := 1) hx hb dX4_closes_21 (by decide) ?_
    refine b_callv (va_runV (As := [.ref (g k), .int 1]) (rest := []) ⟨hx, hb, hml, hown, hts⟩ (e_release l G g hg f_1 k ln sc sp mc (op - 1) cm wu mk 1 hrd hmk htx hpx (by first | assumption | omega | decide) (by first | assumption | omega | decide) (by first | assumption | omega | decide) (by first | assumption | omega | decide) (by first | assumption | omega | decide)) (my_cwV hts ok_X4_release w_331 rfl rfl ⟨Nat.le_of_ble_eq_true rfl, Nat.le_of_ble_eq_true rfl⟩) ⟨bP.blind, va_recv hG.1 hP (ci := 4) (q0 := 4) rfl (wl_at (by decide) hrd), fun U hU hW => ⟨rfl, by rw [hU]; exact hP, kG.warm hW hG⟩⟩ rfl rfl hl.1 rfl (lv_room (Nat.le_of_ble_eq_true rfl)) dX4_closes_22 ⟨Nat.le_of_ble_eq_true rfl, Nat.le_of_ble_eq_true rfl⟩) hS (fun f_2 H locs hq9 hP hS => ?_)
    obtain ⟨mc91, sc92, sp93, hq_2_0, hq_2_1, hq_2_2, hx_2_0, hx_2_1, o_2⟩ := hq9
    replace hmk := (o_2 5 (by first | decide | omega)).trans hmk
    have hrd : f_2 4 = eO 4 [.ref (g 5), .int (nI mc91), .int (op - 1), .int cm, .int wu] := hq_2_0
    have htx : f_2 k = eO 7 [.ref (g (k + 1)), .ref (g (k + 2)), .int (nI ln), .int (nI sc92)] := hq_2_1
    have hpx : f_2 (k + 2) = eI G 50 sp93 := hq_2_2
    refine lv_aload_n hx hb dX4_closes_25 rfl (lv_at hl 0 rfl) ?_
    refine lv_iconst (v := 0) hx hb dX4_closes_26 (by decide) ?_
    refine lv_aload_n hx hb dX4_closes_27 rfl (lv_at hl 0 rfl) ?_
    refine va_get (D := G.1) (ci := 4) (v := .int (nI mc91)) (C := RX4) (T := TX4) (N := 5) hx hb hts inlX4 hown hG.1 hP 4 (wl_at (by decide) hrd) rfl 1 (by decide) (hts (.fieldLink RX4 20 "SwornLists$Reader" "markCount" "I") w_282) (fun _ h9 => h9) rfl dX4_closes_28 ?_
    refine lv_iconst (v := 1) hx hb dX4_closes_31 (by decide) ?_
    refine lv_isub hx hb dX4_closes_32 ?_
    refine va_mmax hx hb (by rw [hml]; exact hl.1.symm) hown (hts (.methodLink RX4 58 Lib.Math.max.name) w_286) (hts (.static Lib.Math.max.name) w_287) (hts (.initialized "java/lang/Math") w_153) (hts (.code Lib.Math.max.name Lib.Math.max.code 2 (some .int)) w_288) (Nat.le_of_ble_eq_true rfl) (Nat.le_of_ble_eq_true rfl) (Nat.le_of_ble_eq_true rfl) (Nat.le_of_ble_eq_true rfl) dX4_closes_33 ?_
    refine my_bei (v := nI (mc91 - 1)) (max_p (by omega)) ?_
    refine va_put (D := G.1) (ci := 4) (v := .int (nI (mc91 - 1))) (ty := .int) (C := RX4) (T := TX4) (N := 5) hx hb hts inlX4 tyX4 tyX4_ok nmX4 hown hG.1 hP (wl_D hg f_2) hS 4 (wl_at (by decide) hrd) rfl 1 (by decide) (hts (.fieldLink RX4 20 "SwornLists$Reader" "markCount" "I") w_282) (fun _ h9 => h9) rfl (by decide +kernel) rfl rfl (Nat.le_of_ble_eq_true rfl) dX4_closes_36 (fun H locs hP _ hS => ?_)
    obtain ⟨f_3, hP, e_3, o_3⟩ := b_put (by decide) hP
    have hrd : f_3 4 = eO 4 [.ref (g 5), .int (nI (mc91 - 1)), .int (op - 1), .int cm, .int wu] := e_3
    replace hmk := (o_3 5 (by decide)).trans hmk
    replace htx : f_3 k = eO 7 [.ref (g (k + 1)), .ref (g (k + 2)), .int (nI ln), .int (nI sc92)] := (o_3 k (by omega)).trans htx
    replace hpx : f_3 (k + 2) = eI G 50 sp93 := (o_3 (k + 2) (by omega)).trans hpx
    refine lv_iconst (v := 1) hx hb dX4_closes_39 (by decide) ?_
    exact W.zret (v := 1) hx hb hr (rfl) (fun t ht hW => ⟨⟨_, f_3, rfl, (⟨true, (mc91 - 1), (op - 1), cm, wu, mk, sc92, sp93, (b2_t rfl).symm, hrd, hmk, htx, hpx, by omega, by omega, fun j hj => (((o_3 j (by omega))).trans (o_2 j (by omega))).trans (o_1 j (by omega))⟩), by rw [ht]; exact hP⟩, hS.F ht⟩) hS.2.2 dX4_closes_40
  · refine lv_iconst (v := 0) hx hb dX4_closes_7 (by decide) ?_
    exact W.zret (v := 0) hx hb hr (rfl) (fun t ht hW => ⟨⟨_, f, rfl, (⟨false, mc, op, cm, wu, mk, sc, sp, (b2_f (by decide)).symm, hrd, hmk, htx, hpx, by omega, by omega, fun j hj => rfl⟩), by rw [ht]; exact hP⟩, hS.F ht⟩) hS.2.2 dX4_closes_8
set_option maxHeartbeats 4000000 in
set_option maxRecDepth 100000 in
theorem e_startsUnit (l : Launch) (G : gW) (g : Nat → Nat) (hg : gOK g) (f : Nat → va_E) (k : Nat) (ln : Nat) (sc : Nat) (sp : Nat → Int32) (mc : Nat) (op : Int32) (cm : Int32) (wu : Int32) (mk : Nat → Int32) (n : Int32) (hrd : f 4 = eO 4 [.ref (g 5), .int (nI mc), .int op, .int cm, .int wu]) (hmk : f 5 = eI G 50 mk) (htx : f k = eO 7 [.ref (g (k + 1)), .ref (g (k + 2)), .int (nI ln), .int (nI sc)]) (hpx : f (k + 2) = eI G 50 sp) (hk3 : k + 2 < 333) (hln : ln ≤ 50) (hsc : sc ≤ 50) (hmc : mc ≤ 50) (hkt : 36 ≤ k) : Met l yX4_startsUnit (wsT yX4_startsUnit cX4_startsUnit 3 (some .boolean)) ({ frames := 1, cells := 0, slots := 0, locals := 21 }) (bP G g f [.ref (g 4), .ref (g k), .int n]) (bQi G g (fun (z9 : Int32) (f' : Nat → va_E) => ∃ bz : Bool, ∃ mc9 : Nat, ∃ op9 : Int32, ∃ cm9 : Int32, ∃ wu9 : Int32, ∃ mk9 : Nat → Int32, ∃ sc9 : Nat, ∃ sp9 : Nat → Int32, z9 = b2 (bz = true) ∧ f' 4 = eO 4 [.ref (g 5), .int (nI mc9), .int op9, .int cm9, .int wu9] ∧ f' 5 = eI G 50 mk9 ∧ f' k = eO 7 [.ref (g (k + 1)), .ref (g (k + 2)), .int (nI ln), .int (nI sc9)] ∧ f' (k + 2) = eI G 50 sp9 ∧ (mc9 ≤ 50) ∧ (sc9 ≤ 50) ∧ ∀ j, (j ≠ 4 ∧ j ≠ 5 ∧ j ≠ k ∧ j ≠ k + 2) → f' j = f j)) 0 0 (gA g) := by
  refine Met.ofW (cc := cX4_startsUnit) (maxL := 3) (ret := (some .boolean)) (by decide) rfl ?_
  intro p e s m args below meth c s₁ B hml hv
  obtain ⟨rfl, hP, hG⟩ := hv
  have hx := B.exec
  have hb := B.bytes
  have hr := B.returns
  have hts := my_hts (atoms_spec (ws := wsT yX4_startsUnit cX4_startsUnit 3 (some .boolean)) B.pre)
  have hown : s.vm.findClass RX4 = some m.cls := findClass_of_methodNamed B.named
  have hlocks := B.notSynchronized
  have hS : va_S (gA g) s.heap s.heap [] := va_S.rf
  have hl := lv_entry ([.ref (g 4), .ref (g k), .int n]) (n := 3) (Nat.le_of_ble_eq_true rfl)
  rw [lg_entry_eq]
  generalize (lg_sl ([.ref (g 4), .ref (g k), .int n]) ++ List.replicate (3 - (lg_sl ([.ref (g 4), .ref (g k), .int n])).length) Slot.unset).toArray = ls at hl ⊢
  have hl : lv_has ls 3 [(0, .ref (g 4)), (1, .ref (g k)), (2, .int n)] := hl
  refine lv_iload_n hx hb dX4_startsUnit_0 rfl (lv_at hl 2 rfl) ?_
  by_cases e_33 : n = 33
  · refine my_bei e_33 ?_
    refine lv_lookup (off := 130) (tgt := 131) hx hb dX4_startsUnit_1 (by decide) (by decide) (by decide) ?_
    refine lv_aload_n hx hb dX4_startsUnit_131 rfl (lv_at hl 0 rfl) ?_
    refine lv_iload_n hx hb dX4_startsUnit_132 rfl (lv_at hl 2 rfl) ?_
    refine b_callv (va_runV (As := [.int n]) (rest := []) ⟨hx, hb, hml, hown, hts⟩ (e_hold l G g hg f mc op cm wu mk n hrd hmk (by first | assumption | omega | decide)) (my_cwV hts ok_X4_hold w_319 rfl rfl ⟨Nat.le_of_ble_eq_true rfl, Nat.le_of_ble_eq_true rfl⟩) ⟨bP.blind, va_recv hG.1 hP (ci := 4) (q0 := 4) rfl (wl_at (by decide) hrd), fun U hU hW => ⟨rfl, by rw [hU]; exact hP, kG.warm hW hG⟩⟩ rfl rfl hl.1 rfl (lv_room (Nat.le_of_ble_eq_true rfl)) dX4_startsUnit_133 ⟨Nat.le_of_ble_eq_true rfl, Nat.le_of_ble_eq_true rfl⟩) hS (fun f_1 H locs hq9 hP hS => ?_)
    obtain ⟨mc91, mk92, hq_1_0, hq_1_1, hx_1_0, o_1⟩ := hq9
    replace htx : f_1 k = eO 7 [.ref (g (k + 1)), .ref (g (k + 2)), .int (nI ln), .int (nI sc)] := (o_1 k (by omega)).trans htx
    replace hpx : f_1 (k + 2) = eI G 50 sp := (o_1 (k + 2) (by omega)).trans hpx
    have hrd : f_1 4 = eO 4 [.ref (g 5), .int (nI mc91), .int op, .int cm, .int wu] := hq_1_0
    have hmk : f_1 5 = eI G 50 mk92 := hq_1_1
    refine lv_iconst (v := 1) hx hb dX4_startsUnit_136 (by decide) ?_
    exact W.zret (v := 1) hx hb hr (rfl) (fun t ht hW => ⟨⟨_, f_1, rfl, (⟨true, mc91, op, cm, wu, mk92, sc, sp, (b2_t rfl).symm, hrd, hmk, htx, hpx, by omega, by omega, fun j hj => (o_1 j (by omega))⟩), by rw [ht]; exact hP⟩, hS.F ht⟩) hS.2.2 dX4_startsUnit_137
  by_cases e_40 : n = 40
  · refine my_bei e_40 ?_
    refine lv_lookup (off := 96) (tgt := 97) hx hb dX4_startsUnit_1 (by decide) (by decide) (by decide) ?_
    refine lv_aload_n hx hb dX4_startsUnit_97 rfl (lv_at hl 0 rfl) ?_
    refine lv_dup hx hb dX4_startsUnit_98 rfl ?_
    refine va_get (D := G.1) (ci := 4) (v := .int op) (C := RX4) (T := TX4) (N := 5) hx hb hts inlX4 hown hG.1 hP 4 (wl_at (by decide) hrd) rfl 2 (by decide) (hts (.fieldLink RX4 24 "SwornLists$Reader" "open" "I") w_283) (fun _ h9 => h9) rfl dX4_startsUnit_99 ?_
    refine lv_iconst (v := 1) hx hb dX4_startsUnit_102 (by decide) ?_
    refine lv_iadd hx hb dX4_startsUnit_103 ?_
    refine va_put (D := G.1) (ci := 4) (v := .int (op + 1)) (ty := .int) (C := RX4) (T := TX4) (N := 5) hx hb hts inlX4 tyX4 tyX4_ok nmX4 hown hG.1 hP (wl_D hg f) hS 4 (wl_at (by decide) hrd) rfl 2 (by decide) (hts (.fieldLink RX4 24 "SwornLists$Reader" "open" "I") w_283) (fun _ h9 => h9) rfl (by decide +kernel) rfl rfl (Nat.le_of_ble_eq_true rfl) dX4_startsUnit_104 (fun H locs hP _ hS => ?_)
    obtain ⟨f_2, hP, e_2, o_2⟩ := b_put (by decide) hP
    have hrd : f_2 4 = eO 4 [.ref (g 5), .int (nI mc), .int (op + 1), .int cm, .int wu] := e_2
    replace hmk := (o_2 5 (by decide)).trans hmk
    replace htx : f_2 k = eO 7 [.ref (g (k + 1)), .ref (g (k + 2)), .int (nI ln), .int (nI sc)] := (o_2 k (by omega)).trans htx
    replace hpx : f_2 (k + 2) = eI G 50 sp := (o_2 (k + 2) (by omega)).trans hpx
    refine lv_aload_n hx hb dX4_startsUnit_107 rfl (lv_at hl 0 rfl) ?_
    refine lv_dup hx hb dX4_startsUnit_108 rfl ?_
    refine va_get (D := G.1) (ci := 4) (v := .int cm) (C := RX4) (T := TX4) (N := 5) hx hb hts inlX4 hown hG.1 hP 4 (wl_at (by decide) hrd) rfl 3 (by decide) (hts (.fieldLink RX4 27 "SwornLists$Reader" "compared" "I") w_284) (fun _ h9 => h9) rfl dX4_startsUnit_109 ?_
    refine lv_iconst (v := 1) hx hb dX4_startsUnit_112 (by decide) ?_
    refine lv_aload_n hx hb dX4_startsUnit_113 rfl (lv_at hl 0 rfl) ?_
    refine va_get (D := G.1) (ci := 4) (v := .int (op + 1)) (C := RX4) (T := TX4) (N := 5) hx hb hts inlX4 hown hG.1 hP 4 (wl_at (by decide) hrd) rfl 2 (by decide) (hts (.fieldLink RX4 24 "SwornLists$Reader" "open" "I") w_283) (fun _ h9 => h9) rfl dX4_startsUnit_114 ?_
    refine lv_ishl hx hb dX4_startsUnit_117 ?_
    refine lv_iconst (v := (-1)) hx hb dX4_startsUnit_118 (by decide) ?_
    refine lv_ixor hx hb dX4_startsUnit_119 ?_
    refine lv_iand hx hb dX4_startsUnit_120 ?_
    refine va_put (D := G.1) (ci := 4) (v := .int (cm &&& ((1 <<< ((op + 1) &&& 31)) ^^^ (-1)))) (ty := .int) (C := RX4) (T := TX4) (N := 5) hx hb hts inlX4 tyX4 tyX4_ok nmX4 hown hG.1 hP (wl_D hg f_2) hS 4 (wl_at (by decide) hrd) rfl 3 (by decide) (hts (.fieldLink RX4 27 "SwornLists$Reader" "compared" "I") w_284) (fun _ h9 => h9) rfl (by decide +kernel) rfl rfl (Nat.le_of_ble_eq_true rfl) dX4_startsUnit_121 (fun H locs hP _ hS => ?_)
    obtain ⟨f_3, hP, e_3, o_3⟩ := b_put (by decide) hP
    have hrd : f_3 4 = eO 4 [.ref (g 5), .int (nI mc), .int (op + 1), .int (cm &&& ((1 <<< ((op + 1) &&& 31)) ^^^ (-1))), .int wu] := e_3
    replace hmk := (o_3 5 (by decide)).trans hmk
    replace htx : f_3 k = eO 7 [.ref (g (k + 1)), .ref (g (k + 2)), .int (nI ln), .int (nI sc)] := (o_3 k (by omega)).trans htx
    replace hpx : f_3 (k + 2) = eI G 50 sp := (o_3 (k + 2) (by omega)).trans hpx
    refine lv_aload_n hx hb dX4_startsUnit_124 rfl (lv_at hl 0 rfl) ?_
    refine lv_iload_n hx hb dX4_startsUnit_125 rfl (lv_at hl 2 rfl) ?_
    refine b_callv (va_runV (As := [.int n]) (rest := []) ⟨hx, hb, hml, hown, hts⟩ (e_hold l G g hg f_3 mc (op + 1) (cm &&& ((1 <<< ((op + 1) &&& 31)) ^^^ (-1))) wu mk n hrd hmk (by first | assumption | omega | decide)) (my_cwV hts ok_X4_hold w_319 rfl rfl ⟨Nat.le_of_ble_eq_true rfl, Nat.le_of_ble_eq_true rfl⟩) ⟨bP.blind, va_recv hG.1 hP (ci := 4) (q0 := 4) rfl (wl_at (by decide) hrd), fun U hU hW => ⟨rfl, by rw [hU]; exact hP, kG.warm hW hG⟩⟩ rfl rfl hl.1 rfl (lv_room (Nat.le_of_ble_eq_true rfl)) dX4_startsUnit_126 ⟨Nat.le_of_ble_eq_true rfl, Nat.le_of_ble_eq_true rfl⟩) hS (fun f_4 H locs hq9 hP hS => ?_)
    obtain ⟨mc93, mk94, hq_4_0, hq_4_1, hx_4_0, o_4⟩ := hq9
    replace htx : f_4 k = eO 7 [.ref (g (k + 1)), .ref (g (k + 2)), .int (nI ln), .int (nI sc)] := (o_4 k (by omega)).trans htx
    replace hpx : f_4 (k + 2) = eI G 50 sp := (o_4 (k + 2) (by omega)).trans hpx
    have hrd : f_4 4 = eO 4 [.ref (g 5), .int (nI mc93), .int (op + 1), .int (cm &&& ((1 <<< ((op + 1) &&& 31)) ^^^ (-1))), .int wu] := hq_4_0
    have hmk : f_4 5 = eI G 50 mk94 := hq_4_1
    refine lv_iconst (v := 1) hx hb dX4_startsUnit_129 (by decide) ?_
    exact W.zret (v := 1) hx hb hr (rfl) (fun t ht hW => ⟨⟨_, f_4, rfl, (⟨true, mc93, (op + 1), (cm &&& ((1 <<< ((op + 1) &&& 31)) ^^^ (-1))), wu, mk94, sc, sp, (b2_t rfl).symm, hrd, hmk, htx, hpx, by omega, by omega, fun j hj => (((o_4 j (by omega))).trans (o_3 j (by omega))).trans (o_2 j (by omega))⟩), by rw [ht]; exact hP⟩, hS.F ht⟩) hS.2.2 dX4_startsUnit_130
  by_cases e_45 : n = 45
  · refine my_bei e_45 ?_
    refine lv_lookup (off := 137) (tgt := 138) hx hb dX4_startsUnit_1 (by decide) (by decide) (by decide) ?_
    refine lv_aload_n hx hb dX4_startsUnit_138 rfl (lv_at hl 0 rfl) ?_
    refine lv_bipush (v := 126) hx hb dX4_startsUnit_139 (by decide) ?_
    refine b_callv (va_runV (As := [.int 126]) (rest := []) ⟨hx, hb, hml, hown, hts⟩ (e_hold l G g hg f mc op cm wu mk 126 hrd hmk (by first | assumption | omega | decide)) (my_cwV hts ok_X4_hold w_319 rfl rfl ⟨Nat.le_of_ble_eq_true rfl, Nat.le_of_ble_eq_true rfl⟩) ⟨bP.blind, va_recv hG.1 hP (ci := 4) (q0 := 4) rfl (wl_at (by decide) hrd), fun U hU hW => ⟨rfl, by rw [hU]; exact hP, kG.warm hW hG⟩⟩ rfl rfl hl.1 rfl (lv_room (Nat.le_of_ble_eq_true rfl)) dX4_startsUnit_141 ⟨Nat.le_of_ble_eq_true rfl, Nat.le_of_ble_eq_true rfl⟩) hS (fun f_5 H locs hq9 hP hS => ?_)
    obtain ⟨mc95, mk96, hq_5_0, hq_5_1, hx_5_0, o_5⟩ := hq9
    replace htx : f_5 k = eO 7 [.ref (g (k + 1)), .ref (g (k + 2)), .int (nI ln), .int (nI sc)] := (o_5 k (by omega)).trans htx
    replace hpx : f_5 (k + 2) = eI G 50 sp := (o_5 (k + 2) (by omega)).trans hpx
    have hrd : f_5 4 = eO 4 [.ref (g 5), .int (nI mc95), .int op, .int cm, .int wu] := hq_5_0
    have hmk : f_5 5 = eI G 50 mk96 := hq_5_1
    refine lv_iconst (v := 1) hx hb dX4_startsUnit_144 (by decide) ?_
    exact W.zret (v := 1) hx hb hr (rfl) (fun t ht hW => ⟨⟨_, f_5, rfl, (⟨true, mc95, op, cm, wu, mk96, sc, sp, (b2_t rfl).symm, hrd, hmk, htx, hpx, by omega, by omega, fun j hj => (o_5 j (by omega))⟩), by rw [ht]; exact hP⟩, hS.F ht⟩) hS.2.2 dX4_startsUnit_145
  by_cases e_97 : n = 97
  · refine my_bei e_97 ?_
    refine lv_lookup (off := 83) (tgt := 84) hx hb dX4_startsUnit_1 (by decide) (by decide) (by decide) ?_
    refine lv_aload_n hx hb dX4_startsUnit_84 rfl (lv_at hl 1 rfl) ?_
    refine lv_iload_n hx hb dX4_startsUnit_85 rfl (lv_at hl 2 rfl) ?_
    refine lv_ineg hx hb dX4_startsUnit_86 ?_
    refine b_callv (va_runV (As := [.int (-n)]) (rest := []) ⟨hx, hb, hml, hown, hts⟩ (t_addStepS l G g hg f k ln sc sp (-n) htx hpx (by first | assumption | omega | decide) (by first | assumption | omega | decide) (by first | assumption | omega | decide)) (my_cwV hts ok_X8_addStep w_311 rfl rfl ⟨Nat.le_of_ble_eq_true rfl, Nat.le_of_ble_eq_true rfl⟩) ⟨bP.blind, va_recv hG.1 hP (ci := 7) (q0 := k) rfl (wl_at (by omega) htx), fun U hU hW => ⟨rfl, by rw [hU]; exact hP, kG.warm hW hG⟩⟩ rfl rfl hl.1 rfl (lv_room (Nat.le_of_ble_eq_true rfl)) dX4_startsUnit_87 ⟨Nat.le_of_ble_eq_true rfl, Nat.le_of_ble_eq_true rfl⟩) hS (fun f_6 H locs hq9 hP hS => ?_)
    obtain ⟨sc97, sp98, hq_6_0, hq_6_1, hx_6_0, o_6⟩ := hq9
    replace hrd := (o_6 4 (by first | decide | omega)).trans hrd
    replace hmk := (o_6 5 (by first | decide | omega)).trans hmk
    have htx : f_6 k = eO 7 [.ref (g (k + 1)), .ref (g (k + 2)), .int (nI ln), .int (nI sc97)] := hq_6_0
    have hpx : f_6 (k + 2) = eI G 50 sp98 := hq_6_1
    refine lv_aload_n hx hb dX4_startsUnit_90 rfl (lv_at hl 0 rfl) ?_
    refine lv_iconst (v := 0) hx hb dX4_startsUnit_91 (by decide) ?_
    refine va_put (D := G.1) (ci := 4) (v := .int 0) (ty := .boolean) (C := RX4) (T := TX4) (N := 5) hx hb hts inlX4 tyX4 tyX4_ok nmX4 hown hG.1 hP (wl_D hg f_6) hS 4 (wl_at (by decide) hrd) rfl 4 (by decide) (hts (.fieldLink RX4 30 "SwornLists$Reader" "wantsUnit" "Z") w_285) (fun _ h9 => h9) rfl (by decide +kernel) rfl rfl (Nat.le_of_ble_eq_true rfl) dX4_startsUnit_92 (fun H locs hP _ hS => ?_)
    obtain ⟨f_7, hP, e_7, o_7⟩ := b_put (by decide) hP
    have hrd : f_7 4 = eO 4 [.ref (g 5), .int (nI mc), .int op, .int cm, .int 0] := e_7
    replace hmk := (o_7 5 (by decide)).trans hmk
    replace htx : f_7 k = eO 7 [.ref (g (k + 1)), .ref (g (k + 2)), .int (nI ln), .int (nI sc97)] := (o_7 k (by omega)).trans htx
    replace hpx : f_7 (k + 2) = eI G 50 sp98 := (o_7 (k + 2) (by omega)).trans hpx
    refine lv_iconst (v := 1) hx hb dX4_startsUnit_95 (by decide) ?_
    exact W.zret (v := 1) hx hb hr (rfl) (fun t ht hW => ⟨⟨_, f_7, rfl, (⟨true, mc, op, cm, 0, mk, sc97, sp98, (b2_t rfl).symm, hrd, hmk, htx, hpx, by omega, by omega, fun j hj => ((o_7 j (by omega))).trans (o_6 j (by omega))⟩), by rw [ht]; exact hP⟩, hS.F ht⟩) hS.2.2 dX4_startsUnit_96
  by_cases e_108 : n = 108
  · refine my_bei e_108 ?_
    refine lv_lookup (off := 83) (tgt := 84) hx hb dX4_startsUnit_1 (by decide) (by decide) (by decide) ?_
    refine lv_aload_n hx hb dX4_startsUnit_84 rfl (lv_at hl 1 rfl) ?_
    refine lv_iload_n hx hb dX4_startsUnit_85 rfl (lv_at hl 2 rfl) ?_
    refine lv_ineg hx hb dX4_startsUnit_86 ?_
    refine b_callv (va_runV (As := [.int (-n)]) (rest := []) ⟨hx, hb, hml, hown, hts⟩ (t_addStepS l G g hg f k ln sc sp (-n) htx hpx (by first | assumption | omega | decide) (by first | assumption | omega | decide) (by first | assumption | omega | decide)) (my_cwV hts ok_X8_addStep w_311 rfl rfl ⟨Nat.le_of_ble_eq_true rfl, Nat.le_of_ble_eq_true rfl⟩) ⟨bP.blind, va_recv hG.1 hP (ci := 7) (q0 := k) rfl (wl_at (by omega) htx), fun U hU hW => ⟨rfl, by rw [hU]; exact hP, kG.warm hW hG⟩⟩ rfl rfl hl.1 rfl (lv_room (Nat.le_of_ble_eq_true rfl)) dX4_startsUnit_87 ⟨Nat.le_of_ble_eq_true rfl, Nat.le_of_ble_eq_true rfl⟩) hS (fun f_8 H locs hq9 hP hS => ?_)
    obtain ⟨sc99, sp910, hq_8_0, hq_8_1, hx_8_0, o_8⟩ := hq9
    replace hrd := (o_8 4 (by first | decide | omega)).trans hrd
    replace hmk := (o_8 5 (by first | decide | omega)).trans hmk
    have htx : f_8 k = eO 7 [.ref (g (k + 1)), .ref (g (k + 2)), .int (nI ln), .int (nI sc99)] := hq_8_0
    have hpx : f_8 (k + 2) = eI G 50 sp910 := hq_8_1
    refine lv_aload_n hx hb dX4_startsUnit_90 rfl (lv_at hl 0 rfl) ?_
    refine lv_iconst (v := 0) hx hb dX4_startsUnit_91 (by decide) ?_
    refine va_put (D := G.1) (ci := 4) (v := .int 0) (ty := .boolean) (C := RX4) (T := TX4) (N := 5) hx hb hts inlX4 tyX4 tyX4_ok nmX4 hown hG.1 hP (wl_D hg f_8) hS 4 (wl_at (by decide) hrd) rfl 4 (by decide) (hts (.fieldLink RX4 30 "SwornLists$Reader" "wantsUnit" "Z") w_285) (fun _ h9 => h9) rfl (by decide +kernel) rfl rfl (Nat.le_of_ble_eq_true rfl) dX4_startsUnit_92 (fun H locs hP _ hS => ?_)
    obtain ⟨f_9, hP, e_9, o_9⟩ := b_put (by decide) hP
    have hrd : f_9 4 = eO 4 [.ref (g 5), .int (nI mc), .int op, .int cm, .int 0] := e_9
    replace hmk := (o_9 5 (by decide)).trans hmk
    replace htx : f_9 k = eO 7 [.ref (g (k + 1)), .ref (g (k + 2)), .int (nI ln), .int (nI sc99)] := (o_9 k (by omega)).trans htx
    replace hpx : f_9 (k + 2) = eI G 50 sp910 := (o_9 (k + 2) (by omega)).trans hpx
    refine lv_iconst (v := 1) hx hb dX4_startsUnit_95 (by decide) ?_
    exact W.zret (v := 1) hx hb hr (rfl) (fun t ht hW => ⟨⟨_, f_9, rfl, (⟨true, mc, op, cm, 0, mk, sc99, sp910, (b2_t rfl).symm, hrd, hmk, htx, hpx, by omega, by omega, fun j hj => ((o_9 j (by omega))).trans (o_8 j (by omega))⟩), by rw [ht]; exact hP⟩, hS.F ht⟩) hS.2.2 dX4_startsUnit_96
  by_cases e_112 : n = 112
  · refine my_bei e_112 ?_
    refine lv_lookup (off := 83) (tgt := 84) hx hb dX4_startsUnit_1 (by decide) (by decide) (by decide) ?_
    refine lv_aload_n hx hb dX4_startsUnit_84 rfl (lv_at hl 1 rfl) ?_
    refine lv_iload_n hx hb dX4_startsUnit_85 rfl (lv_at hl 2 rfl) ?_
    refine lv_ineg hx hb dX4_startsUnit_86 ?_
    refine b_callv (va_runV (As := [.int (-n)]) (rest := []) ⟨hx, hb, hml, hown, hts⟩ (t_addStepS l G g hg f k ln sc sp (-n) htx hpx (by first | assumption | omega | decide) (by first | assumption | omega | decide) (by first | assumption | omega | decide)) (my_cwV hts ok_X8_addStep w_311 rfl rfl ⟨Nat.le_of_ble_eq_true rfl, Nat.le_of_ble_eq_true rfl⟩) ⟨bP.blind, va_recv hG.1 hP (ci := 7) (q0 := k) rfl (wl_at (by omega) htx), fun U hU hW => ⟨rfl, by rw [hU]; exact hP, kG.warm hW hG⟩⟩ rfl rfl hl.1 rfl (lv_room (Nat.le_of_ble_eq_true rfl)) dX4_startsUnit_87 ⟨Nat.le_of_ble_eq_true rfl, Nat.le_of_ble_eq_true rfl⟩) hS (fun f_10 H locs hq9 hP hS => ?_)
    obtain ⟨sc911, sp912, hq_10_0, hq_10_1, hx_10_0, o_10⟩ := hq9
    replace hrd := (o_10 4 (by first | decide | omega)).trans hrd
    replace hmk := (o_10 5 (by first | decide | omega)).trans hmk
    have htx : f_10 k = eO 7 [.ref (g (k + 1)), .ref (g (k + 2)), .int (nI ln), .int (nI sc911)] := hq_10_0
    have hpx : f_10 (k + 2) = eI G 50 sp912 := hq_10_1
    refine lv_aload_n hx hb dX4_startsUnit_90 rfl (lv_at hl 0 rfl) ?_
    refine lv_iconst (v := 0) hx hb dX4_startsUnit_91 (by decide) ?_
    refine va_put (D := G.1) (ci := 4) (v := .int 0) (ty := .boolean) (C := RX4) (T := TX4) (N := 5) hx hb hts inlX4 tyX4 tyX4_ok nmX4 hown hG.1 hP (wl_D hg f_10) hS 4 (wl_at (by decide) hrd) rfl 4 (by decide) (hts (.fieldLink RX4 30 "SwornLists$Reader" "wantsUnit" "Z") w_285) (fun _ h9 => h9) rfl (by decide +kernel) rfl rfl (Nat.le_of_ble_eq_true rfl) dX4_startsUnit_92 (fun H locs hP _ hS => ?_)
    obtain ⟨f_11, hP, e_11, o_11⟩ := b_put (by decide) hP
    have hrd : f_11 4 = eO 4 [.ref (g 5), .int (nI mc), .int op, .int cm, .int 0] := e_11
    replace hmk := (o_11 5 (by decide)).trans hmk
    replace htx : f_11 k = eO 7 [.ref (g (k + 1)), .ref (g (k + 2)), .int (nI ln), .int (nI sc911)] := (o_11 k (by omega)).trans htx
    replace hpx : f_11 (k + 2) = eI G 50 sp912 := (o_11 (k + 2) (by omega)).trans hpx
    refine lv_iconst (v := 1) hx hb dX4_startsUnit_95 (by decide) ?_
    exact W.zret (v := 1) hx hb hr (rfl) (fun t ht hW => ⟨⟨_, f_11, rfl, (⟨true, mc, op, cm, 0, mk, sc911, sp912, (b2_t rfl).symm, hrd, hmk, htx, hpx, by omega, by omega, fun j hj => ((o_11 j (by omega))).trans (o_10 j (by omega))⟩), by rw [ht]; exact hP⟩, hS.F ht⟩) hS.2.2 dX4_startsUnit_96
  by_cases e_115 : n = 115
  · refine my_bei e_115 ?_
    refine lv_lookup (off := 83) (tgt := 84) hx hb dX4_startsUnit_1 (by decide) (by decide) (by decide) ?_
    refine lv_aload_n hx hb dX4_startsUnit_84 rfl (lv_at hl 1 rfl) ?_
    refine lv_iload_n hx hb dX4_startsUnit_85 rfl (lv_at hl 2 rfl) ?_
    refine lv_ineg hx hb dX4_startsUnit_86 ?_
    refine b_callv (va_runV (As := [.int (-n)]) (rest := []) ⟨hx, hb, hml, hown, hts⟩ (t_addStepS l G g hg f k ln sc sp (-n) htx hpx (by first | assumption | omega | decide) (by first | assumption | omega | decide) (by first | assumption | omega | decide)) (my_cwV hts ok_X8_addStep w_311 rfl rfl ⟨Nat.le_of_ble_eq_true rfl, Nat.le_of_ble_eq_true rfl⟩) ⟨bP.blind, va_recv hG.1 hP (ci := 7) (q0 := k) rfl (wl_at (by omega) htx), fun U hU hW => ⟨rfl, by rw [hU]; exact hP, kG.warm hW hG⟩⟩ rfl rfl hl.1 rfl (lv_room (Nat.le_of_ble_eq_true rfl)) dX4_startsUnit_87 ⟨Nat.le_of_ble_eq_true rfl, Nat.le_of_ble_eq_true rfl⟩) hS (fun f_12 H locs hq9 hP hS => ?_)
    obtain ⟨sc913, sp914, hq_12_0, hq_12_1, hx_12_0, o_12⟩ := hq9
    replace hrd := (o_12 4 (by first | decide | omega)).trans hrd
    replace hmk := (o_12 5 (by first | decide | omega)).trans hmk
    have htx : f_12 k = eO 7 [.ref (g (k + 1)), .ref (g (k + 2)), .int (nI ln), .int (nI sc913)] := hq_12_0
    have hpx : f_12 (k + 2) = eI G 50 sp914 := hq_12_1
    refine lv_aload_n hx hb dX4_startsUnit_90 rfl (lv_at hl 0 rfl) ?_
    refine lv_iconst (v := 0) hx hb dX4_startsUnit_91 (by decide) ?_
    refine va_put (D := G.1) (ci := 4) (v := .int 0) (ty := .boolean) (C := RX4) (T := TX4) (N := 5) hx hb hts inlX4 tyX4 tyX4_ok nmX4 hown hG.1 hP (wl_D hg f_12) hS 4 (wl_at (by decide) hrd) rfl 4 (by decide) (hts (.fieldLink RX4 30 "SwornLists$Reader" "wantsUnit" "Z") w_285) (fun _ h9 => h9) rfl (by decide +kernel) rfl rfl (Nat.le_of_ble_eq_true rfl) dX4_startsUnit_92 (fun H locs hP _ hS => ?_)
    obtain ⟨f_13, hP, e_13, o_13⟩ := b_put (by decide) hP
    have hrd : f_13 4 = eO 4 [.ref (g 5), .int (nI mc), .int op, .int cm, .int 0] := e_13
    replace hmk := (o_13 5 (by decide)).trans hmk
    replace htx : f_13 k = eO 7 [.ref (g (k + 1)), .ref (g (k + 2)), .int (nI ln), .int (nI sc913)] := (o_13 k (by omega)).trans htx
    replace hpx : f_13 (k + 2) = eI G 50 sp914 := (o_13 (k + 2) (by omega)).trans hpx
    refine lv_iconst (v := 1) hx hb dX4_startsUnit_95 (by decide) ?_
    exact W.zret (v := 1) hx hb hr (rfl) (fun t ht hW => ⟨⟨_, f_13, rfl, (⟨true, mc, op, cm, 0, mk, sc913, sp914, (b2_t rfl).symm, hrd, hmk, htx, hpx, by omega, by omega, fun j hj => ((o_13 j (by omega))).trans (o_12 j (by omega))⟩), by rw [ht]; exact hP⟩, hS.F ht⟩) hS.2.2 dX4_startsUnit_96
  by_cases e_116 : n = 116
  · refine my_bei e_116 ?_
    refine lv_lookup (off := 83) (tgt := 84) hx hb dX4_startsUnit_1 (by decide) (by decide) (by decide) ?_
    refine lv_aload_n hx hb dX4_startsUnit_84 rfl (lv_at hl 1 rfl) ?_
    refine lv_iload_n hx hb dX4_startsUnit_85 rfl (lv_at hl 2 rfl) ?_
    refine lv_ineg hx hb dX4_startsUnit_86 ?_
    refine b_callv (va_runV (As := [.int (-n)]) (rest := []) ⟨hx, hb, hml, hown, hts⟩ (t_addStepS l G g hg f k ln sc sp (-n) htx hpx (by first | assumption | omega | decide) (by first | assumption | omega | decide) (by first | assumption | omega | decide)) (my_cwV hts ok_X8_addStep w_311 rfl rfl ⟨Nat.le_of_ble_eq_true rfl, Nat.le_of_ble_eq_true rfl⟩) ⟨bP.blind, va_recv hG.1 hP (ci := 7) (q0 := k) rfl (wl_at (by omega) htx), fun U hU hW => ⟨rfl, by rw [hU]; exact hP, kG.warm hW hG⟩⟩ rfl rfl hl.1 rfl (lv_room (Nat.le_of_ble_eq_true rfl)) dX4_startsUnit_87 ⟨Nat.le_of_ble_eq_true rfl, Nat.le_of_ble_eq_true rfl⟩) hS (fun f_14 H locs hq9 hP hS => ?_)
    obtain ⟨sc915, sp916, hq_14_0, hq_14_1, hx_14_0, o_14⟩ := hq9
    replace hrd := (o_14 4 (by first | decide | omega)).trans hrd
    replace hmk := (o_14 5 (by first | decide | omega)).trans hmk
    have htx : f_14 k = eO 7 [.ref (g (k + 1)), .ref (g (k + 2)), .int (nI ln), .int (nI sc915)] := hq_14_0
    have hpx : f_14 (k + 2) = eI G 50 sp916 := hq_14_1
    refine lv_aload_n hx hb dX4_startsUnit_90 rfl (lv_at hl 0 rfl) ?_
    refine lv_iconst (v := 0) hx hb dX4_startsUnit_91 (by decide) ?_
    refine va_put (D := G.1) (ci := 4) (v := .int 0) (ty := .boolean) (C := RX4) (T := TX4) (N := 5) hx hb hts inlX4 tyX4 tyX4_ok nmX4 hown hG.1 hP (wl_D hg f_14) hS 4 (wl_at (by decide) hrd) rfl 4 (by decide) (hts (.fieldLink RX4 30 "SwornLists$Reader" "wantsUnit" "Z") w_285) (fun _ h9 => h9) rfl (by decide +kernel) rfl rfl (Nat.le_of_ble_eq_true rfl) dX4_startsUnit_92 (fun H locs hP _ hS => ?_)
    obtain ⟨f_15, hP, e_15, o_15⟩ := b_put (by decide) hP
    have hrd : f_15 4 = eO 4 [.ref (g 5), .int (nI mc), .int op, .int cm, .int 0] := e_15
    replace hmk := (o_15 5 (by decide)).trans hmk
    replace htx : f_15 k = eO 7 [.ref (g (k + 1)), .ref (g (k + 2)), .int (nI ln), .int (nI sc915)] := (o_15 k (by omega)).trans htx
    replace hpx : f_15 (k + 2) = eI G 50 sp916 := (o_15 (k + 2) (by omega)).trans hpx
    refine lv_iconst (v := 1) hx hb dX4_startsUnit_95 (by decide) ?_
    exact W.zret (v := 1) hx hb hr (rfl) (fun t ht hW => ⟨⟨_, f_15, rfl, (⟨true, mc, op, cm, 0, mk, sc915, sp916, (b2_t rfl).symm, hrd, hmk, htx, hpx, by omega, by omega, fun j hj => ((o_15 j (by omega))).trans (o_14 j (by omega))⟩), by rw [ht]; exact hP⟩, hS.F ht⟩) hS.2.2 dX4_startsUnit_96
  by_cases e_121 : n = 121
  · refine my_bei e_121 ?_
    refine lv_lookup (off := 83) (tgt := 84) hx hb dX4_startsUnit_1 (by decide) (by decide) (by decide) ?_
    refine lv_aload_n hx hb dX4_startsUnit_84 rfl (lv_at hl 1 rfl) ?_
    refine lv_iload_n hx hb dX4_startsUnit_85 rfl (lv_at hl 2 rfl) ?_
    refine lv_ineg hx hb dX4_startsUnit_86 ?_
    refine b_callv (va_runV (As := [.int (-n)]) (rest := []) ⟨hx, hb, hml, hown, hts⟩ (t_addStepS l G g hg f k ln sc sp (-n) htx hpx (by first | assumption | omega | decide) (by first | assumption | omega | decide) (by first | assumption | omega | decide)) (my_cwV hts ok_X8_addStep w_311 rfl rfl ⟨Nat.le_of_ble_eq_true rfl, Nat.le_of_ble_eq_true rfl⟩) ⟨bP.blind, va_recv hG.1 hP (ci := 7) (q0 := k) rfl (wl_at (by omega) htx), fun U hU hW => ⟨rfl, by rw [hU]; exact hP, kG.warm hW hG⟩⟩ rfl rfl hl.1 rfl (lv_room (Nat.le_of_ble_eq_true rfl)) dX4_startsUnit_87 ⟨Nat.le_of_ble_eq_true rfl, Nat.le_of_ble_eq_true rfl⟩) hS (fun f_16 H locs hq9 hP hS => ?_)
    obtain ⟨sc917, sp918, hq_16_0, hq_16_1, hx_16_0, o_16⟩ := hq9
    replace hrd := (o_16 4 (by first | decide | omega)).trans hrd
    replace hmk := (o_16 5 (by first | decide | omega)).trans hmk
    have htx : f_16 k = eO 7 [.ref (g (k + 1)), .ref (g (k + 2)), .int (nI ln), .int (nI sc917)] := hq_16_0
    have hpx : f_16 (k + 2) = eI G 50 sp918 := hq_16_1
    refine lv_aload_n hx hb dX4_startsUnit_90 rfl (lv_at hl 0 rfl) ?_
    refine lv_iconst (v := 0) hx hb dX4_startsUnit_91 (by decide) ?_
    refine va_put (D := G.1) (ci := 4) (v := .int 0) (ty := .boolean) (C := RX4) (T := TX4) (N := 5) hx hb hts inlX4 tyX4 tyX4_ok nmX4 hown hG.1 hP (wl_D hg f_16) hS 4 (wl_at (by decide) hrd) rfl 4 (by decide) (hts (.fieldLink RX4 30 "SwornLists$Reader" "wantsUnit" "Z") w_285) (fun _ h9 => h9) rfl (by decide +kernel) rfl rfl (Nat.le_of_ble_eq_true rfl) dX4_startsUnit_92 (fun H locs hP _ hS => ?_)
    obtain ⟨f_17, hP, e_17, o_17⟩ := b_put (by decide) hP
    have hrd : f_17 4 = eO 4 [.ref (g 5), .int (nI mc), .int op, .int cm, .int 0] := e_17
    replace hmk := (o_17 5 (by decide)).trans hmk
    replace htx : f_17 k = eO 7 [.ref (g (k + 1)), .ref (g (k + 2)), .int (nI ln), .int (nI sc917)] := (o_17 k (by omega)).trans htx
    replace hpx : f_17 (k + 2) = eI G 50 sp918 := (o_17 (k + 2) (by omega)).trans hpx
    refine lv_iconst (v := 1) hx hb dX4_startsUnit_95 (by decide) ?_
    exact W.zret (v := 1) hx hb hr (rfl) (fun t ht hW => ⟨⟨_, f_17, rfl, (⟨true, mc, op, cm, 0, mk, sc917, sp918, (b2_t rfl).symm, hrd, hmk, htx, hpx, by omega, by omega, fun j hj => ((o_17 j (by omega))).trans (o_16 j (by omega))⟩), by rw [ht]; exact hP⟩, hS.F ht⟩) hS.2.2 dX4_startsUnit_96
  refine lv_lookup (off := 145) (tgt := 146) hx hb dX4_startsUnit_1 (by decide) (by show Op.lookupswitch.offset [(33, 130), (40, 96), (45, 137), (97, 83), (108, 83), (112, 83), (115, 83), (116, 83), (121, 83)] 145 _ = 145; rw [lv_osw (a := 33) e_33 (by decide), lv_osw (a := 40) e_40 (by decide), lv_osw (a := 45) e_45 (by decide), lv_osw (a := 97) e_97 (by decide), lv_osw (a := 108) e_108 (by decide), lv_osw (a := 112) e_112 (by decide), lv_osw (a := 115) e_115 (by decide), lv_osw (a := 116) e_116 (by decide), lv_osw (a := 121) e_121 (by decide)]; rfl) (by decide) ?_
  refine lv_iconst (v := 0) hx hb dX4_startsUnit_146 (by decide) ?_
  exact W.zret (v := 0) hx hb hr (rfl) (fun t ht hW => ⟨⟨_, f, rfl, (⟨false, mc, op, cm, wu, mk, sc, sp, (b2_f (by decide)).symm, hrd, hmk, htx, hpx, by omega, by omega, fun j hj => rfl⟩), by rw [ht]; exact hP⟩, hS.F ht⟩) hS.2.2 dX4_startsUnit_147
set_option maxHeartbeats 4000000 in
set_option maxRecDepth 100000 in
theorem e_goesOn (l : Launch) (G : gW) (g : Nat → Nat) (hg : gOK g) (f : Nat → va_E) (k : Nat) (ln : Nat) (sc : Nat) (sp : Nat → Int32) (mc : Nat) (op : Int32) (cm : Int32) (wu : Int32) (mk : Nat → Int32) (n : Int32) (hrd : f 4 = eO 4 [.ref (g 5), .int (nI mc), .int op, .int cm, .int wu]) (hmk : f 5 = eI G 50 mk) (htx : f k = eO 7 [.ref (g (k + 1)), .ref (g (k + 2)), .int (nI ln), .int (nI sc)]) (hpx : f (k + 2) = eI G 50 sp) (hk3 : k + 2 < 333) (hln : ln ≤ 50) (hsc : sc ≤ 50) (hmc : mc ≤ 50) (hkt : 36 ≤ k) : Met l yX4_goesOn (wsT yX4_goesOn cX4_goesOn 5 (some .boolean)) ({ frames := 3, cells := 0, slots := 0, locals := 64 }) (bP G g f [.ref (g 4), .ref (g k), .int n]) (bQi G g (fun (z9 : Int32) (f' : Nat → va_E) => ∃ bz : Bool, ∃ mc9 : Nat, ∃ op9 : Int32, ∃ cm9 : Int32, ∃ wu9 : Int32, ∃ mk9 : Nat → Int32, ∃ sc9 : Nat, ∃ sp9 : Nat → Int32, z9 = b2 (bz = true) ∧ f' 4 = eO 4 [.ref (g 5), .int (nI mc9), .int op9, .int cm9, .int wu9] ∧ f' 5 = eI G 50 mk9 ∧ f' k = eO 7 [.ref (g (k + 1)), .ref (g (k + 2)), .int (nI ln), .int (nI sc9)] ∧ f' (k + 2) = eI G 50 sp9 ∧ (mc9 ≤ 50) ∧ (sc9 ≤ 50) ∧ ∀ j, (j ≠ 4 ∧ j ≠ 5 ∧ j ≠ k ∧ j ≠ k + 2) → f' j = f j)) 0 0 (gA g) := by
  refine Met.ofW (cc := cX4_goesOn) (maxL := 5) (ret := (some .boolean)) (by decide) rfl ?_
  intro p e s m args below meth c s₁ B hml hv
  obtain ⟨rfl, hP, hG⟩ := hv
  have hx := B.exec
  have hb := B.bytes
  have hr := B.returns
  have hts := my_hts (atoms_spec (ws := wsT yX4_goesOn cX4_goesOn 5 (some .boolean)) B.pre)
  have hown : s.vm.findClass RX4 = some m.cls := findClass_of_methodNamed B.named
  have hlocks := B.notSynchronized
  have hS : va_S (gA g) s.heap s.heap [] := va_S.rf
  have hl := lv_entry ([.ref (g 4), .ref (g k), .int n]) (n := 5) (Nat.le_of_ble_eq_true rfl)
  rw [lg_entry_eq]
  generalize (lg_sl ([.ref (g 4), .ref (g k), .int n]) ++ List.replicate (5 - (lg_sl ([.ref (g 4), .ref (g k), .int n])).length) Slot.unset).toArray = ls at hl ⊢
  have hl : lv_has ls 5 [(0, .ref (g 4)), (1, .ref (g k)), (2, .int n)] := hl
  refine lv_iload_n hx hb dX4_goesOn_0 rfl (lv_at hl 2 rfl) ?_
  refine lv_bipush (v := 41) hx hb dX4_goesOn_1 (by decide) ?_
  refine lv_icmp_ne (tgt := 12) hx hb dX4_goesOn_3 (by decide) (fun c_3 => ?_) (fun c_3 => ?_)
  · refine lv_iload_n hx hb dX4_goesOn_12 rfl (lv_at hl 2 rfl) ?_
    refine rd_calli (va_runS (As := [.int n]) (rest := []) ⟨hx, hb, hml, hown, hts⟩ (g_rank l G g hg f n  ) (my_cwS hts ok_X7_rank w_335 rfl rfl ⟨Nat.le_of_ble_eq_true rfl, Nat.le_of_ble_eq_true rfl⟩) ⟨bP.blind, fun U hU hW => ⟨rfl, by rw [hU]; exact hP, kG.warm hW hG⟩⟩ rfl rfl hl.1 rfl (lv_room (Nat.le_of_ble_eq_true rfl)) dX4_goesOn_13 ⟨Nat.le_of_ble_eq_true rfl, Nat.le_of_ble_eq_true rfl⟩) (fun v1 _ => ?_)
    refine lv_istore_n (lv' := [(3, .int v1), (0, .ref (g 4)), (1, .ref (g k)), (2, .int n)]) hx hb dX4_goesOn_16 rfl hl (by decide) rfl (fun ls hl => ?_)
    refine lv_iload_n hx hb dX4_goesOn_17 rfl (lv_at hl 0 rfl) ?_
    refine lv_iconst (v := 3) hx hb dX4_goesOn_18 (by decide) ?_
    refine lv_icmp_ne (tgt := 40) hx hb dX4_goesOn_19 (by decide) (fun c_19 => ?_) (fun c_19 => ?_)
    · refine lv_iconst (v := 0) hx hb dX4_goesOn_40 (by decide) ?_
      refine lv_istore (lv' := [(4, .int 0), (3, .int v1), (0, .ref (g 4)), (1, .ref (g k)), (2, .int n)]) hx hb dX4_goesOn_41 hl (by decide) rfl (fun ls hl => ?_)
      refine lv_iload_n hx hb dX4_goesOn_43 rfl (lv_at hl 1 rfl) ?_
      refine lv_if_eq (tgt := 58) hx hb dX4_goesOn_44 (by decide) (fun c_44 => ?_) (fun c_44 => ?_)
      · refine lv_iconst (v := 0) hx hb dX4_goesOn_58 (by decide) ?_
        exact W.zret (v := 0) hx hb hr (rfl) (fun t ht hW => ⟨⟨_, f, rfl, (⟨false, mc, op, cm, wu, mk, sc, sp, (b2_f (by decide)).symm, hrd, hmk, htx, hpx, by omega, by omega, fun j hj => rfl⟩), by rw [ht]; exact hP⟩, hS.F ht⟩) hS.2.2 dX4_goesOn_59
      · refine lv_iload_n hx hb dX4_goesOn_47 rfl (lv_at hl 1 rfl) ?_
        refine lv_bipush (v := 6) hx hb dX4_goesOn_48 (by decide) ?_
        refine lv_icmp_eq (tgt := 58) hx hb dX4_goesOn_50 (by decide) (fun c_50 => ?_) (fun c_50 => ?_)
        · refine lv_iconst (v := 0) hx hb dX4_goesOn_58 (by decide) ?_
          exact W.zret (v := 0) hx hb hr (rfl) (fun t ht hW => ⟨⟨_, f, rfl, (⟨false, mc, op, cm, wu, mk, sc, sp, (b2_f (by decide)).symm, hrd, hmk, htx, hpx, by omega, by omega, fun j hj => rfl⟩), by rw [ht]; exact hP⟩, hS.F ht⟩) hS.2.2 dX4_goesOn_59
        · refine lv_iload hx hb dX4_goesOn_53 (lv_at hl 0 rfl) ?_
          refine lv_if_eq (tgt := 60) hx hb dX4_goesOn_55 (by decide) (fun c_55 => ?_) (fun c_55 => absurd (by decide) c_55)
          refine lv_iload_n hx hb dX4_goesOn_60 rfl (lv_at hl 1 rfl) ?_
          refine lv_iconst (v := 3) hx hb dX4_goesOn_61 (by decide) ?_
          refine lv_icmp_ne (tgt := 83) hx hb dX4_goesOn_62 (by decide) (fun c_62 => ?_) (fun c_62 => ?_)
          · refine lv_iload_n hx hb dX4_goesOn_83 rfl (lv_at hl 1 rfl) ?_
            refine lv_iconst (v := 3) hx hb dX4_goesOn_84 (by decide) ?_
            refine lv_icmp_ge (tgt := 105) hx hb dX4_goesOn_85 (by decide) (fun c_85 => ?_) (fun c_85 => ?_)
            · refine lv_aload_n hx hb dX4_goesOn_105 rfl (lv_at hl 2 rfl) ?_
              refine lv_aload_n hx hb dX4_goesOn_106 rfl (lv_at hl 3 rfl) ?_
              refine lv_iload_n hx hb dX4_goesOn_107 rfl (lv_at hl 1 rfl) ?_
              refine b_callv (va_runV (As := [.ref (g k), .int v1]) (rest := []) ⟨hx, hb, hml, hown, hts⟩ (e_release l G g hg f k ln sc sp mc op cm wu mk v1 hrd hmk htx hpx (by first | assumption | omega | decide) (by first | assumption | omega | decide) (by first | assumption | omega | decide) (by first | assumption | omega | decide) (by first | assumption | omega | decide)) (my_cwV hts ok_X4_release w_331 rfl rfl ⟨Nat.le_of_ble_eq_true rfl, Nat.le_of_ble_eq_true rfl⟩) ⟨bP.blind, va_recv hG.1 hP (ci := 4) (q0 := 4) rfl (wl_at (by decide) hrd), fun U hU hW => ⟨rfl, by rw [hU]; exact hP, kG.warm hW hG⟩⟩ rfl rfl hl.1 rfl (lv_room (Nat.le_of_ble_eq_true rfl)) dX4_goesOn_108 ⟨Nat.le_of_ble_eq_true rfl, Nat.le_of_ble_eq_true rfl⟩) hS (fun f_1 H locs hq9 hP hS => ?_)
              obtain ⟨mc92, sc93, sp94, hq_1_0, hq_1_1, hq_1_2, hx_1_0, hx_1_1, o_1⟩ := hq9
              replace hmk := (o_1 5 (by first | decide | omega)).trans hmk
              have hrd : f_1 4 = eO 4 [.ref (g 5), .int (nI mc92), .int op, .int cm, .int wu] := hq_1_0
              have htx : f_1 k = eO 7 [.ref (g (k + 1)), .ref (g (k + 2)), .int (nI ln), .int (nI sc93)] := hq_1_1
              have hpx : f_1 (k + 2) = eI G 50 sp94 := hq_1_2
              refine lv_aload_n hx hb dX4_goesOn_111 rfl (lv_at hl 2 rfl) ?_
              refine lv_iload_n hx hb dX4_goesOn_112 rfl (lv_at hl 4 rfl) ?_
              refine b_callv (va_runV (As := [.int n]) (rest := []) ⟨hx, hb, hml, hown, hts⟩ (e_hold l G g hg f_1 mc92 op cm wu mk n hrd hmk (by first | assumption | omega | decide)) (my_cwV hts ok_X4_hold w_319 rfl rfl ⟨Nat.le_of_ble_eq_true rfl, Nat.le_of_ble_eq_true rfl⟩) ⟨bP.blind, va_recv hG.1 hP (ci := 4) (q0 := 4) rfl (wl_at (by decide) hrd), fun U hU hW => ⟨rfl, by rw [hU]; exact hP, kG.warm hW hG⟩⟩ rfl rfl hl.1 rfl (lv_room (Nat.le_of_ble_eq_true rfl)) dX4_goesOn_113 ⟨Nat.le_of_ble_eq_true rfl, Nat.le_of_ble_eq_true rfl⟩) hS (fun f_2 H locs hq9 hP hS => ?_)
              obtain ⟨mc95, mk96, hq_2_0, hq_2_1, hx_2_0, o_2⟩ := hq9
              replace htx : f_2 k = eO 7 [.ref (g (k + 1)), .ref (g (k + 2)), .int (nI ln), .int (nI sc93)] := (o_2 k (by omega)).trans htx
              replace hpx : f_2 (k + 2) = eI G 50 sp94 := (o_2 (k + 2) (by omega)).trans hpx
              have hrd : f_2 4 = eO 4 [.ref (g 5), .int (nI mc95), .int op, .int cm, .int wu] := hq_2_0
              have hmk : f_2 5 = eI G 50 mk96 := hq_2_1
              refine lv_aload_n hx hb dX4_goesOn_116 rfl (lv_at hl 2 rfl) ?_
              refine lv_iconst (v := 1) hx hb dX4_goesOn_117 (by decide) ?_
              refine va_put (D := G.1) (ci := 4) (v := .int 1) (ty := .boolean) (C := RX4) (T := TX4) (N := 5) hx hb hts inlX4 tyX4 tyX4_ok nmX4 hown hG.1 hP (wl_D hg f_2) hS 4 (wl_at (by decide) hrd) rfl 4 (by decide) (hts (.fieldLink RX4 30 "SwornLists$Reader" "wantsUnit" "Z") w_285) (fun _ h9 => h9) rfl (by decide +kernel) rfl rfl (Nat.le_of_ble_eq_true rfl) dX4_goesOn_118 (fun H locs hP _ hS => ?_)
              obtain ⟨f_3, hP, e_3, o_3⟩ := b_put (by decide) hP
              have hrd : f_3 4 = eO 4 [.ref (g 5), .int (nI mc95), .int op, .int cm, .int 1] := e_3
              replace hmk := (o_3 5 (by decide)).trans hmk
              replace htx : f_3 k = eO 7 [.ref (g (k + 1)), .ref (g (k + 2)), .int (nI ln), .int (nI sc93)] := (o_3 k (by omega)).trans htx
              replace hpx : f_3 (k + 2) = eI G 50 sp94 := (o_3 (k + 2) (by omega)).trans hpx
              refine lv_iconst (v := 1) hx hb dX4_goesOn_121 (by decide) ?_
              exact W.zret (v := 1) hx hb hr (rfl) (fun t ht hW => ⟨⟨_, f_3, rfl, (⟨true, mc95, op, cm, 1, mk96, sc93, sp94, (b2_t rfl).symm, hrd, hmk, htx, hpx, by omega, by omega, fun j hj => (((o_3 j (by omega))).trans (o_2 j (by omega))).trans (o_1 j (by omega))⟩), by rw [ht]; exact hP⟩, hS.F ht⟩) hS.2.2 dX4_goesOn_122
            · refine lv_aload_n hx hb dX4_goesOn_88 rfl (lv_at hl 2 rfl) ?_
              refine lv_dup hx hb dX4_goesOn_89 rfl ?_
              refine va_get (D := G.1) (ci := 4) (v := .int cm) (C := RX4) (T := TX4) (N := 5) hx hb hts inlX4 hown hG.1 hP 4 (wl_at (by decide) hrd) rfl 3 (by decide) (hts (.fieldLink RX4 27 "SwornLists$Reader" "compared" "I") w_284) (fun _ h9 => h9) rfl dX4_goesOn_90 ?_
              refine lv_iconst (v := 1) hx hb dX4_goesOn_93 (by decide) ?_
              refine lv_aload_n hx hb dX4_goesOn_94 rfl (lv_at hl 2 rfl) ?_
              refine va_get (D := G.1) (ci := 4) (v := .int op) (C := RX4) (T := TX4) (N := 5) hx hb hts inlX4 hown hG.1 hP 4 (wl_at (by decide) hrd) rfl 2 (by decide) (hts (.fieldLink RX4 24 "SwornLists$Reader" "open" "I") w_283) (fun _ h9 => h9) rfl dX4_goesOn_95 ?_
              refine lv_ishl hx hb dX4_goesOn_98 ?_
              refine lv_iconst (v := (-1)) hx hb dX4_goesOn_99 (by decide) ?_
              refine lv_ixor hx hb dX4_goesOn_100 ?_
              refine lv_iand hx hb dX4_goesOn_101 ?_
              refine va_put (D := G.1) (ci := 4) (v := .int (cm &&& ((1 <<< (op &&& 31)) ^^^ (-1)))) (ty := .int) (C := RX4) (T := TX4) (N := 5) hx hb hts inlX4 tyX4 tyX4_ok nmX4 hown hG.1 hP (wl_D hg f) hS 4 (wl_at (by decide) hrd) rfl 3 (by decide) (hts (.fieldLink RX4 27 "SwornLists$Reader" "compared" "I") w_284) (fun _ h9 => h9) rfl (by decide +kernel) rfl rfl (Nat.le_of_ble_eq_true rfl) dX4_goesOn_102 (fun H locs hP _ hS => ?_)
              obtain ⟨f_4, hP, e_4, o_4⟩ := b_put (by decide) hP
              have hrd : f_4 4 = eO 4 [.ref (g 5), .int (nI mc), .int op, .int (cm &&& ((1 <<< (op &&& 31)) ^^^ (-1))), .int wu] := e_4
              replace hmk := (o_4 5 (by decide)).trans hmk
              replace htx : f_4 k = eO 7 [.ref (g (k + 1)), .ref (g (k + 2)), .int (nI ln), .int (nI sc)] := (o_4 k (by omega)).trans htx
              replace hpx : f_4 (k + 2) = eI G 50 sp := (o_4 (k + 2) (by omega)).trans hpx
              refine lv_aload_n hx hb dX4_goesOn_105 rfl (lv_at hl 2 rfl) ?_
              refine lv_aload_n hx hb dX4_goesOn_106 rfl (lv_at hl 3 rfl) ?_
              refine lv_iload_n hx hb dX4_goesOn_107 rfl (lv_at hl 1 rfl) ?_
              refine b_callv (va_runV (As := [.ref (g k), .int v1]) (rest := []) ⟨hx, hb, hml, hown, hts⟩ (e_release l G g hg f_4 k ln sc sp mc op (cm &&& ((1 <<< (op &&& 31)) ^^^ (-1))) wu mk v1 hrd hmk htx hpx (by first | assumption | omega | decide) (by first | assumption | omega | decide) (by first | assumption | omega | decide) (by first | assumption | omega | decide) (by first | assumption | omega | decide)) (my_cwV hts ok_X4_release w_331 rfl rfl ⟨Nat.le_of_ble_eq_true rfl, Nat.le_of_ble_eq_true rfl⟩) ⟨bP.blind, va_recv hG.1 hP (ci := 4) (q0 := 4) rfl (wl_at (by decide) hrd), fun U hU hW => ⟨rfl, by rw [hU]; exact hP, kG.warm hW hG⟩⟩ rfl rfl hl.1 rfl (lv_room (Nat.le_of_ble_eq_true rfl)) dX4_goesOn_108 ⟨Nat.le_of_ble_eq_true rfl, Nat.le_of_ble_eq_true rfl⟩) hS (fun f_5 H locs hq9 hP hS => ?_)
              obtain ⟨mc97, sc98, sp99, hq_5_0, hq_5_1, hq_5_2, hx_5_0, hx_5_1, o_5⟩ := hq9
              replace hmk := (o_5 5 (by first | decide | omega)).trans hmk
              have hrd : f_5 4 = eO 4 [.ref (g 5), .int (nI mc97), .int op, .int (cm &&& ((1 <<< (op &&& 31)) ^^^ (-1))), .int wu] := hq_5_0
              have htx : f_5 k = eO 7 [.ref (g (k + 1)), .ref (g (k + 2)), .int (nI ln), .int (nI sc98)] := hq_5_1
              have hpx : f_5 (k + 2) = eI G 50 sp99 := hq_5_2
              refine lv_aload_n hx hb dX4_goesOn_111 rfl (lv_at hl 2 rfl) ?_
              refine lv_iload_n hx hb dX4_goesOn_112 rfl (lv_at hl 4 rfl) ?_
              refine b_callv (va_runV (As := [.int n]) (rest := []) ⟨hx, hb, hml, hown, hts⟩ (e_hold l G g hg f_5 mc97 op (cm &&& ((1 <<< (op &&& 31)) ^^^ (-1))) wu mk n hrd hmk (by first | assumption | omega | decide)) (my_cwV hts ok_X4_hold w_319 rfl rfl ⟨Nat.le_of_ble_eq_true rfl, Nat.le_of_ble_eq_true rfl⟩) ⟨bP.blind, va_recv hG.1 hP (ci := 4) (q0 := 4) rfl (wl_at (by decide) hrd), fun U hU hW => ⟨rfl, by rw [hU]; exact hP, kG.warm hW hG⟩⟩ rfl rfl hl.1 rfl (lv_room (Nat.le_of_ble_eq_true rfl)) dX4_goesOn_113 ⟨Nat.le_of_ble_eq_true rfl, Nat.le_of_ble_eq_true rfl⟩) hS (fun f_6 H locs hq9 hP hS => ?_)
              obtain ⟨mc910, mk911, hq_6_0, hq_6_1, hx_6_0, o_6⟩ := hq9
              replace htx : f_6 k = eO 7 [.ref (g (k + 1)), .ref (g (k + 2)), .int (nI ln), .int (nI sc98)] := (o_6 k (by omega)).trans htx
              replace hpx : f_6 (k + 2) = eI G 50 sp99 := (o_6 (k + 2) (by omega)).trans hpx
              have hrd : f_6 4 = eO 4 [.ref (g 5), .int (nI mc910), .int op, .int (cm &&& ((1 <<< (op &&& 31)) ^^^ (-1))), .int wu] := hq_6_0
              have hmk : f_6 5 = eI G 50 mk911 := hq_6_1
              refine lv_aload_n hx hb dX4_goesOn_116 rfl (lv_at hl 2 rfl) ?_
              refine lv_iconst (v := 1) hx hb dX4_goesOn_117 (by decide) ?_
              refine va_put (D := G.1) (ci := 4) (v := .int 1) (ty := .boolean) (C := RX4) (T := TX4) (N := 5) hx hb hts inlX4 tyX4 tyX4_ok nmX4 hown hG.1 hP (wl_D hg f_6) hS 4 (wl_at (by decide) hrd) rfl 4 (by decide) (hts (.fieldLink RX4 30 "SwornLists$Reader" "wantsUnit" "Z") w_285) (fun _ h9 => h9) rfl (by decide +kernel) rfl rfl (Nat.le_of_ble_eq_true rfl) dX4_goesOn_118 (fun H locs hP _ hS => ?_)
              obtain ⟨f_7, hP, e_7, o_7⟩ := b_put (by decide) hP
              have hrd : f_7 4 = eO 4 [.ref (g 5), .int (nI mc910), .int op, .int (cm &&& ((1 <<< (op &&& 31)) ^^^ (-1))), .int 1] := e_7
              replace hmk := (o_7 5 (by decide)).trans hmk
              replace htx : f_7 k = eO 7 [.ref (g (k + 1)), .ref (g (k + 2)), .int (nI ln), .int (nI sc98)] := (o_7 k (by omega)).trans htx
              replace hpx : f_7 (k + 2) = eI G 50 sp99 := (o_7 (k + 2) (by omega)).trans hpx
              refine lv_iconst (v := 1) hx hb dX4_goesOn_121 (by decide) ?_
              exact W.zret (v := 1) hx hb hr (rfl) (fun t ht hW => ⟨⟨_, f_7, rfl, (⟨true, mc910, op, (cm &&& ((1 <<< (op &&& 31)) ^^^ (-1))), 1, mk911, sc98, sp99, (b2_t rfl).symm, hrd, hmk, htx, hpx, by omega, by omega, fun j hj => ((((o_7 j (by omega))).trans (o_6 j (by omega))).trans (o_5 j (by omega))).trans (o_4 j (by omega))⟩), by rw [ht]; exact hP⟩, hS.F ht⟩) hS.2.2 dX4_goesOn_122
          · refine lv_aload_n hx hb dX4_goesOn_65 rfl (lv_at hl 2 rfl) ?_
            refine lv_dup hx hb dX4_goesOn_66 rfl ?_
            refine va_get (D := G.1) (ci := 4) (v := .int cm) (C := RX4) (T := TX4) (N := 5) hx hb hts inlX4 hown hG.1 hP 4 (wl_at (by decide) hrd) rfl 3 (by decide) (hts (.fieldLink RX4 27 "SwornLists$Reader" "compared" "I") w_284) (fun _ h9 => h9) rfl dX4_goesOn_67 ?_
            refine lv_iconst (v := 1) hx hb dX4_goesOn_70 (by decide) ?_
            refine lv_aload_n hx hb dX4_goesOn_71 rfl (lv_at hl 2 rfl) ?_
            refine va_get (D := G.1) (ci := 4) (v := .int op) (C := RX4) (T := TX4) (N := 5) hx hb hts inlX4 hown hG.1 hP 4 (wl_at (by decide) hrd) rfl 2 (by decide) (hts (.fieldLink RX4 24 "SwornLists$Reader" "open" "I") w_283) (fun _ h9 => h9) rfl dX4_goesOn_72 ?_
            refine lv_ishl hx hb dX4_goesOn_75 ?_
            refine lv_ior hx hb dX4_goesOn_76 ?_
            refine va_put (D := G.1) (ci := 4) (v := .int (cm ||| (1 <<< (op &&& 31)))) (ty := .int) (C := RX4) (T := TX4) (N := 5) hx hb hts inlX4 tyX4 tyX4_ok nmX4 hown hG.1 hP (wl_D hg f) hS 4 (wl_at (by decide) hrd) rfl 3 (by decide) (hts (.fieldLink RX4 27 "SwornLists$Reader" "compared" "I") w_284) (fun _ h9 => h9) rfl (by decide +kernel) rfl rfl (Nat.le_of_ble_eq_true rfl) dX4_goesOn_77 (fun H locs hP _ hS => ?_)
            obtain ⟨f_8, hP, e_8, o_8⟩ := b_put (by decide) hP
            have hrd : f_8 4 = eO 4 [.ref (g 5), .int (nI mc), .int op, .int (cm ||| (1 <<< (op &&& 31))), .int wu] := e_8
            replace hmk := (o_8 5 (by decide)).trans hmk
            replace htx : f_8 k = eO 7 [.ref (g (k + 1)), .ref (g (k + 2)), .int (nI ln), .int (nI sc)] := (o_8 k (by omega)).trans htx
            replace hpx : f_8 (k + 2) = eI G 50 sp := (o_8 (k + 2) (by omega)).trans hpx
            refine lv_goto (tgt := 105) hx hb dX4_goesOn_80 (by decide) ?_
            refine lv_aload_n hx hb dX4_goesOn_105 rfl (lv_at hl 2 rfl) ?_
            refine lv_aload_n hx hb dX4_goesOn_106 rfl (lv_at hl 3 rfl) ?_
            refine lv_iload_n hx hb dX4_goesOn_107 rfl (lv_at hl 1 rfl) ?_
            refine b_callv (va_runV (As := [.ref (g k), .int v1]) (rest := []) ⟨hx, hb, hml, hown, hts⟩ (e_release l G g hg f_8 k ln sc sp mc op (cm ||| (1 <<< (op &&& 31))) wu mk v1 hrd hmk htx hpx (by first | assumption | omega | decide) (by first | assumption | omega | decide) (by first | assumption | omega | decide) (by first | assumption | omega | decide) (by first | assumption | omega | decide)) (my_cwV hts ok_X4_release w_331 rfl rfl ⟨Nat.le_of_ble_eq_true rfl, Nat.le_of_ble_eq_true rfl⟩) ⟨bP.blind, va_recv hG.1 hP (ci := 4) (q0 := 4) rfl (wl_at (by decide) hrd), fun U hU hW => ⟨rfl, by rw [hU]; exact hP, kG.warm hW hG⟩⟩ rfl rfl hl.1 rfl (lv_room (Nat.le_of_ble_eq_true rfl)) dX4_goesOn_108 ⟨Nat.le_of_ble_eq_true rfl, Nat.le_of_ble_eq_true rfl⟩) hS (fun f_9 H locs hq9 hP hS => ?_)
            obtain ⟨mc912, sc913, sp914, hq_9_0, hq_9_1, hq_9_2, hx_9_0, hx_9_1, o_9⟩ := hq9
            replace hmk := (o_9 5 (by first | decide | omega)).trans hmk
            have hrd : f_9 4 = eO 4 [.ref (g 5), .int (nI mc912), .int op, .int (cm ||| (1 <<< (op &&& 31))), .int wu] := hq_9_0
            have htx : f_9 k = eO 7 [.ref (g (k + 1)), .ref (g (k + 2)), .int (nI ln), .int (nI sc913)] := hq_9_1
            have hpx : f_9 (k + 2) = eI G 50 sp914 := hq_9_2
            refine lv_aload_n hx hb dX4_goesOn_111 rfl (lv_at hl 2 rfl) ?_
            refine lv_iload_n hx hb dX4_goesOn_112 rfl (lv_at hl 4 rfl) ?_
            refine b_callv (va_runV (As := [.int n]) (rest := []) ⟨hx, hb, hml, hown, hts⟩ (e_hold l G g hg f_9 mc912 op (cm ||| (1 <<< (op &&& 31))) wu mk n hrd hmk (by first | assumption | omega | decide)) (my_cwV hts ok_X4_hold w_319 rfl rfl ⟨Nat.le_of_ble_eq_true rfl, Nat.le_of_ble_eq_true rfl⟩) ⟨bP.blind, va_recv hG.1 hP (ci := 4) (q0 := 4) rfl (wl_at (by decide) hrd), fun U hU hW => ⟨rfl, by rw [hU]; exact hP, kG.warm hW hG⟩⟩ rfl rfl hl.1 rfl (lv_room (Nat.le_of_ble_eq_true rfl)) dX4_goesOn_113 ⟨Nat.le_of_ble_eq_true rfl, Nat.le_of_ble_eq_true rfl⟩) hS (fun f_10 H locs hq9 hP hS => ?_)
            obtain ⟨mc915, mk916, hq_10_0, hq_10_1, hx_10_0, o_10⟩ := hq9
            replace htx : f_10 k = eO 7 [.ref (g (k + 1)), .ref (g (k + 2)), .int (nI ln), .int (nI sc913)] := (o_10 k (by omega)).trans htx
            replace hpx : f_10 (k + 2) = eI G 50 sp914 := (o_10 (k + 2) (by omega)).trans hpx
            have hrd : f_10 4 = eO 4 [.ref (g 5), .int (nI mc915), .int op, .int (cm ||| (1 <<< (op &&& 31))), .int wu] := hq_10_0
            have hmk : f_10 5 = eI G 50 mk916 := hq_10_1
            refine lv_aload_n hx hb dX4_goesOn_116 rfl (lv_at hl 2 rfl) ?_
            refine lv_iconst (v := 1) hx hb dX4_goesOn_117 (by decide) ?_
            refine va_put (D := G.1) (ci := 4) (v := .int 1) (ty := .boolean) (C := RX4) (T := TX4) (N := 5) hx hb hts inlX4 tyX4 tyX4_ok nmX4 hown hG.1 hP (wl_D hg f_10) hS 4 (wl_at (by decide) hrd) rfl 4 (by decide) (hts (.fieldLink RX4 30 "SwornLists$Reader" "wantsUnit" "Z") w_285) (fun _ h9 => h9) rfl (by decide +kernel) rfl rfl (Nat.le_of_ble_eq_true rfl) dX4_goesOn_118 (fun H locs hP _ hS => ?_)
            obtain ⟨f_11, hP, e_11, o_11⟩ := b_put (by decide) hP
            have hrd : f_11 4 = eO 4 [.ref (g 5), .int (nI mc915), .int op, .int (cm ||| (1 <<< (op &&& 31))), .int 1] := e_11
            replace hmk := (o_11 5 (by decide)).trans hmk
            replace htx : f_11 k = eO 7 [.ref (g (k + 1)), .ref (g (k + 2)), .int (nI ln), .int (nI sc913)] := (o_11 k (by omega)).trans htx
            replace hpx : f_11 (k + 2) = eI G 50 sp914 := (o_11 (k + 2) (by omega)).trans hpx
            refine lv_iconst (v := 1) hx hb dX4_goesOn_121 (by decide) ?_
            exact W.zret (v := 1) hx hb hr (rfl) (fun t ht hW => ⟨⟨_, f_11, rfl, (⟨true, mc915, op, (cm ||| (1 <<< (op &&& 31))), 1, mk916, sc913, sp914, (b2_t rfl).symm, hrd, hmk, htx, hpx, by omega, by omega, fun j hj => ((((o_11 j (by omega))).trans (o_10 j (by omega))).trans (o_9 j (by omega))).trans (o_8 j (by omega))⟩), by rw [ht]; exact hP⟩, hS.F ht⟩) hS.2.2 dX4_goesOn_122
    · refine lv_aload_n hx hb dX4_goesOn_22 rfl (lv_at hl 1 rfl) ?_
      refine va_get (D := G.1) (ci := 4) (v := .int cm) (C := RX4) (T := TX4) (N := 5) hx hb hts inlX4 hown hG.1 hP 4 (wl_at (by decide) hrd) rfl 3 (by decide) (hts (.fieldLink RX4 27 "SwornLists$Reader" "compared" "I") w_284) (fun _ h9 => h9) rfl dX4_goesOn_23 ?_
      refine lv_aload_n hx hb dX4_goesOn_26 rfl (lv_at hl 1 rfl) ?_
      refine va_get (D := G.1) (ci := 4) (v := .int op) (C := RX4) (T := TX4) (N := 5) hx hb hts inlX4 hown hG.1 hP 4 (wl_at (by decide) hrd) rfl 2 (by decide) (hts (.fieldLink RX4 24 "SwornLists$Reader" "open" "I") w_283) (fun _ h9 => h9) rfl dX4_goesOn_27 ?_
      refine rd_calli (va_runSN (As := [.int cm, .int op]) (rest := []) ⟨hx, hb, hml, hown, hts⟩ (s_hasBit l G g hg f cm op  ) (⟨my_cn hts ok_X10_hasBit.1 (hG.2.1 (.methodLinkNest RX4 87 yX10_hasBit RX10) (List.mem_of_getElem? (i := 30) rfl)) rfl rfl ⟨Nat.le_of_ble_eq_true rfl, Nat.le_of_ble_eq_true rfl⟩, hts _ ok_X10_hasBit.2.2.1, trivial⟩) ⟨bP.blind, fun U hU hW => ⟨rfl, by rw [hU]; exact hP, kG.warm hW hG⟩⟩ rfl rfl hl.1 rfl (lv_room (Nat.le_of_ble_eq_true rfl)) dX4_goesOn_30 ⟨Nat.le_of_ble_eq_true rfl, Nat.le_of_ble_eq_true rfl⟩) (fun r hr9 => ?_)
      subst hr9
      refine my_ifeq (tgt := 40) hx hb dX4_goesOn_33 (by decide) (fun c_33 => ?_) (fun c_33 => ?_)
      · refine lv_iconst (v := 0) hx hb dX4_goesOn_40 (by decide) ?_
        refine lv_istore (lv' := [(4, .int 0), (3, .int v1), (0, .ref (g 4)), (1, .ref (g k)), (2, .int n)]) hx hb dX4_goesOn_41 hl (by decide) rfl (fun ls hl => ?_)
        refine lv_iload_n hx hb dX4_goesOn_43 rfl (lv_at hl 1 rfl) ?_
        refine lv_if_eq (tgt := 58) hx hb dX4_goesOn_44 (by decide) (fun c_44 => ?_) (fun c_44 => ?_)
        · refine lv_iconst (v := 0) hx hb dX4_goesOn_58 (by decide) ?_
          exact W.zret (v := 0) hx hb hr (rfl) (fun t ht hW => ⟨⟨_, f, rfl, (⟨false, mc, op, cm, wu, mk, sc, sp, (b2_f (by decide)).symm, hrd, hmk, htx, hpx, by omega, by omega, fun j hj => rfl⟩), by rw [ht]; exact hP⟩, hS.F ht⟩) hS.2.2 dX4_goesOn_59
        · refine lv_iload_n hx hb dX4_goesOn_47 rfl (lv_at hl 1 rfl) ?_
          refine lv_bipush (v := 6) hx hb dX4_goesOn_48 (by decide) ?_
          refine lv_icmp_eq (tgt := 58) hx hb dX4_goesOn_50 (by decide) (fun c_50 => ?_) (fun c_50 => ?_)
          · refine lv_iconst (v := 0) hx hb dX4_goesOn_58 (by decide) ?_
            exact W.zret (v := 0) hx hb hr (rfl) (fun t ht hW => ⟨⟨_, f, rfl, (⟨false, mc, op, cm, wu, mk, sc, sp, (b2_f (by decide)).symm, hrd, hmk, htx, hpx, by omega, by omega, fun j hj => rfl⟩), by rw [ht]; exact hP⟩, hS.F ht⟩) hS.2.2 dX4_goesOn_59
          · refine lv_iload hx hb dX4_goesOn_53 (lv_at hl 0 rfl) ?_
            refine lv_if_eq (tgt := 60) hx hb dX4_goesOn_55 (by decide) (fun c_55 => ?_) (fun c_55 => absurd (by decide) c_55)
            refine lv_iload_n hx hb dX4_goesOn_60 rfl (lv_at hl 1 rfl) ?_
            refine lv_iconst (v := 3) hx hb dX4_goesOn_61 (by decide) ?_
            refine lv_icmp_ne (tgt := 83) hx hb dX4_goesOn_62 (by decide) (fun c_62 => ?_) (fun c_62 => ?_)
            · refine lv_iload_n hx hb dX4_goesOn_83 rfl (lv_at hl 1 rfl) ?_
              refine lv_iconst (v := 3) hx hb dX4_goesOn_84 (by decide) ?_
              refine lv_icmp_ge (tgt := 105) hx hb dX4_goesOn_85 (by decide) (fun c_85 => ?_) (fun c_85 => ?_)
              · refine lv_aload_n hx hb dX4_goesOn_105 rfl (lv_at hl 2 rfl) ?_
                refine lv_aload_n hx hb dX4_goesOn_106 rfl (lv_at hl 3 rfl) ?_
                refine lv_iload_n hx hb dX4_goesOn_107 rfl (lv_at hl 1 rfl) ?_
                refine b_callv (va_runV (As := [.ref (g k), .int v1]) (rest := []) ⟨hx, hb, hml, hown, hts⟩ (e_release l G g hg f k ln sc sp mc op cm wu mk v1 hrd hmk htx hpx (by first | assumption | omega | decide) (by first | assumption | omega | decide) (by first | assumption | omega | decide) (by first | assumption | omega | decide) (by first | assumption | omega | decide)) (my_cwV hts ok_X4_release w_331 rfl rfl ⟨Nat.le_of_ble_eq_true rfl, Nat.le_of_ble_eq_true rfl⟩) ⟨bP.blind, va_recv hG.1 hP (ci := 4) (q0 := 4) rfl (wl_at (by decide) hrd), fun U hU hW => ⟨rfl, by rw [hU]; exact hP, kG.warm hW hG⟩⟩ rfl rfl hl.1 rfl (lv_room (Nat.le_of_ble_eq_true rfl)) dX4_goesOn_108 ⟨Nat.le_of_ble_eq_true rfl, Nat.le_of_ble_eq_true rfl⟩) hS (fun f_12 H locs hq9 hP hS => ?_)
                obtain ⟨mc917, sc918, sp919, hq_12_0, hq_12_1, hq_12_2, hx_12_0, hx_12_1, o_12⟩ := hq9
                replace hmk := (o_12 5 (by first | decide | omega)).trans hmk
                have hrd : f_12 4 = eO 4 [.ref (g 5), .int (nI mc917), .int op, .int cm, .int wu] := hq_12_0
                have htx : f_12 k = eO 7 [.ref (g (k + 1)), .ref (g (k + 2)), .int (nI ln), .int (nI sc918)] := hq_12_1
                have hpx : f_12 (k + 2) = eI G 50 sp919 := hq_12_2
                refine lv_aload_n hx hb dX4_goesOn_111 rfl (lv_at hl 2 rfl) ?_
                refine lv_iload_n hx hb dX4_goesOn_112 rfl (lv_at hl 4 rfl) ?_
                refine b_callv (va_runV (As := [.int n]) (rest := []) ⟨hx, hb, hml, hown, hts⟩ (e_hold l G g hg f_12 mc917 op cm wu mk n hrd hmk (by first | assumption | omega | decide)) (my_cwV hts ok_X4_hold w_319 rfl rfl ⟨Nat.le_of_ble_eq_true rfl, Nat.le_of_ble_eq_true rfl⟩) ⟨bP.blind, va_recv hG.1 hP (ci := 4) (q0 := 4) rfl (wl_at (by decide) hrd), fun U hU hW => ⟨rfl, by rw [hU]; exact hP, kG.warm hW hG⟩⟩ rfl rfl hl.1 rfl (lv_room (Nat.le_of_ble_eq_true rfl)) dX4_goesOn_113 ⟨Nat.le_of_ble_eq_true rfl, Nat.le_of_ble_eq_true rfl⟩) hS (fun f_13 H locs hq9 hP hS => ?_)
                obtain ⟨mc920, mk921, hq_13_0, hq_13_1, hx_13_0, o_13⟩ := hq9
                replace htx : f_13 k = eO 7 [.ref (g (k + 1)), .ref (g (k + 2)), .int (nI ln), .int (nI sc918)] := (o_13 k (by omega)).trans htx
                replace hpx : f_13 (k + 2) = eI G 50 sp919 := (o_13 (k + 2) (by omega)).trans hpx
                have hrd : f_13 4 = eO 4 [.ref (g 5), .int (nI mc920), .int op, .int cm, .int wu] := hq_13_0
                have hmk : f_13 5 = eI G 50 mk921 := hq_13_1
                refine lv_aload_n hx hb dX4_goesOn_116 rfl (lv_at hl 2 rfl) ?_
                refine lv_iconst (v := 1) hx hb dX4_goesOn_117 (by decide) ?_
                refine va_put (D := G.1) (ci := 4) (v := .int 1) (ty := .boolean) (C := RX4) (T := TX4) (N := 5) hx hb hts inlX4 tyX4 tyX4_ok nmX4 hown hG.1 hP (wl_D hg f_13) hS 4 (wl_at (by decide) hrd) rfl 4 (by decide) (hts (.fieldLink RX4 30 "SwornLists$Reader" "wantsUnit" "Z") w_285) (fun _ h9 => h9) rfl (by decide +kernel) rfl rfl (Nat.le_of_ble_eq_true rfl) dX4_goesOn_118 (fun H locs hP _ hS => ?_)
                obtain ⟨f_14, hP, e_14, o_14⟩ := b_put (by decide) hP
                have hrd : f_14 4 = eO 4 [.ref (g 5), .int (nI mc920), .int op, .int cm, .int 1] := e_14
                replace hmk := (o_14 5 (by decide)).trans hmk
                replace htx : f_14 k = eO 7 [.ref (g (k + 1)), .ref (g (k + 2)), .int (nI ln), .int (nI sc918)] := (o_14 k (by omega)).trans htx
                replace hpx : f_14 (k + 2) = eI G 50 sp919 := (o_14 (k + 2) (by omega)).trans hpx
                refine lv_iconst (v := 1) hx hb dX4_goesOn_121 (by decide) ?_
                exact W.zret (v := 1) hx hb hr (rfl) (fun t ht hW => ⟨⟨_, f_14, rfl, (⟨true, mc920, op, cm, 1, mk921, sc918, sp919, (b2_t rfl).symm, hrd, hmk, htx, hpx, by omega, by omega, fun j hj => (((o_14 j (by omega))).trans (o_13 j (by omega))).trans (o_12 j (by omega))⟩), by rw [ht]; exact hP⟩, hS.F ht⟩) hS.2.2 dX4_goesOn_122
              · refine lv_aload_n hx hb dX4_goesOn_88 rfl (lv_at hl 2 rfl) ?_
                refine lv_dup hx hb dX4_goesOn_89 rfl ?_
                refine va_get (D := G.1) (ci := 4) (v := .int cm) (C := RX4) (T := TX4) (N := 5) hx hb hts inlX4 hown hG.1 hP 4 (wl_at (by decide) hrd) rfl 3 (by decide) (hts (.fieldLink RX4 27 "SwornLists$Reader" "compared" "I") w_284) (fun _ h9 => h9) rfl dX4_goesOn_90 ?_
                refine lv_iconst (v := 1) hx hb dX4_goesOn_93 (by decide) ?_
                refine lv_aload_n hx hb dX4_goesOn_94 rfl (lv_at hl 2 rfl) ?_
                refine va_get (D := G.1) (ci := 4) (v := .int op) (C := RX4) (T := TX4) (N := 5) hx hb hts inlX4 hown hG.1 hP 4 (wl_at (by decide) hrd) rfl 2 (by decide) (hts (.fieldLink RX4 24 "SwornLists$Reader" "open" "I") w_283) (fun _ h9 => h9) rfl dX4_goesOn_95 ?_
                refine lv_ishl hx hb dX4_goesOn_98 ?_
                refine lv_iconst (v := (-1)) hx hb dX4_goesOn_99 (by decide) ?_
                refine lv_ixor hx hb dX4_goesOn_100 ?_
                refine lv_iand hx hb dX4_goesOn_101 ?_
                refine va_put (D := G.1) (ci := 4) (v := .int (cm &&& ((1 <<< (op &&& 31)) ^^^ (-1)))) (ty := .int) (C := RX4) (T := TX4) (N := 5) hx hb hts inlX4 tyX4 tyX4_ok nmX4 hown hG.1 hP (wl_D hg f) hS 4 (wl_at (by decide) hrd) rfl 3 (by decide) (hts (.fieldLink RX4 27 "SwornLists$Reader" "compared" "I") w_284) (fun _ h9 => h9) rfl (by decide +kernel) rfl rfl (Nat.le_of_ble_eq_true rfl) dX4_goesOn_102 (fun H locs hP _ hS => ?_)
                obtain ⟨f_15, hP, e_15, o_15⟩ := b_put (by decide) hP
                have hrd : f_15 4 = eO 4 [.ref (g 5), .int (nI mc), .int op, .int (cm &&& ((1 <<< (op &&& 31)) ^^^ (-1))), .int wu] := e_15
                replace hmk := (o_15 5 (by decide)).trans hmk
                replace htx : f_15 k = eO 7 [.ref (g (k + 1)), .ref (g (k + 2)), .int (nI ln), .int (nI sc)] := (o_15 k (by omega)).trans htx
                replace hpx : f_15 (k + 2) = eI G 50 sp := (o_15 (k + 2) (by omega)).trans hpx
                refine lv_aload_n hx hb dX4_goesOn_105 rfl (lv_at hl 2 rfl) ?_
                refine lv_aload_n hx hb dX4_goesOn_106 rfl (lv_at hl 3 rfl) ?_
                refine lv_iload_n hx hb dX4_goesOn_107 rfl (lv_at hl 1 rfl) ?_
                refine b_callv (va_runV (As := [.ref (g k), .int v1]) (rest := []) ⟨hx, hb, hml, hown, hts⟩ (e_release l G g hg f_15 k ln sc sp mc op (cm &&& ((1 <<< (op &&& 31)) ^^^ (-1))) wu mk v1 hrd hmk htx hpx (by first | assumption | omega | decide) (by first | assumption | omega | decide) (by first | assumption | omega | decide) (by first | assumption | omega | decide) (by first | assumption | omega | decide)) (my_cwV hts ok_X4_release w_331 rfl rfl ⟨Nat.le_of_ble_eq_true rfl, Nat.le_of_ble_eq_true rfl⟩) ⟨bP.blind, va_recv hG.1 hP (ci := 4) (q0 := 4) rfl (wl_at (by decide) hrd), fun U hU hW => ⟨rfl, by rw [hU]; exact hP, kG.warm hW hG⟩⟩ rfl rfl hl.1 rfl (lv_room (Nat.le_of_ble_eq_true rfl)) dX4_goesOn_108 ⟨Nat.le_of_ble_eq_true rfl, Nat.le_of_ble_eq_true rfl⟩) hS (fun f_16 H locs hq9 hP hS => ?_)
                obtain ⟨mc922, sc923, sp924, hq_16_0, hq_16_1, hq_16_2, hx_16_0, hx_16_1, o_16⟩ := hq9
                replace hmk := (o_16 5 (by first | decide | omega)).trans hmk
                have hrd : f_16 4 = eO 4 [.ref (g 5), .int (nI mc922), .int op, .int (cm &&& ((1 <<< (op &&& 31)) ^^^ (-1))), .int wu] := hq_16_0
                have htx : f_16 k = eO 7 [.ref (g (k + 1)), .ref (g (k + 2)), .int (nI ln), .int (nI sc923)] := hq_16_1
                have hpx : f_16 (k + 2) = eI G 50 sp924 := hq_16_2
                refine lv_aload_n hx hb dX4_goesOn_111 rfl (lv_at hl 2 rfl) ?_
                refine lv_iload_n hx hb dX4_goesOn_112 rfl (lv_at hl 4 rfl) ?_
                refine b_callv (va_runV (As := [.int n]) (rest := []) ⟨hx, hb, hml, hown, hts⟩ (e_hold l G g hg f_16 mc922 op (cm &&& ((1 <<< (op &&& 31)) ^^^ (-1))) wu mk n hrd hmk (by first | assumption | omega | decide)) (my_cwV hts ok_X4_hold w_319 rfl rfl ⟨Nat.le_of_ble_eq_true rfl, Nat.le_of_ble_eq_true rfl⟩) ⟨bP.blind, va_recv hG.1 hP (ci := 4) (q0 := 4) rfl (wl_at (by decide) hrd), fun U hU hW => ⟨rfl, by rw [hU]; exact hP, kG.warm hW hG⟩⟩ rfl rfl hl.1 rfl (lv_room (Nat.le_of_ble_eq_true rfl)) dX4_goesOn_113 ⟨Nat.le_of_ble_eq_true rfl, Nat.le_of_ble_eq_true rfl⟩) hS (fun f_17 H locs hq9 hP hS => ?_)
                obtain ⟨mc925, mk926, hq_17_0, hq_17_1, hx_17_0, o_17⟩ := hq9
                replace htx : f_17 k = eO 7 [.ref (g (k + 1)), .ref (g (k + 2)), .int (nI ln), .int (nI sc923)] := (o_17 k (by omega)).trans htx
                replace hpx : f_17 (k + 2) = eI G 50 sp924 := (o_17 (k + 2) (by omega)).trans hpx
                have hrd : f_17 4 = eO 4 [.ref (g 5), .int (nI mc925), .int op, .int (cm &&& ((1 <<< (op &&& 31)) ^^^ (-1))), .int wu] := hq_17_0
                have hmk : f_17 5 = eI G 50 mk926 := hq_17_1
                refine lv_aload_n hx hb dX4_goesOn_116 rfl (lv_at hl 2 rfl) ?_
                refine lv_iconst (v := 1) hx hb dX4_goesOn_117 (by decide) ?_
                refine va_put (D := G.1) (ci := 4) (v := .int 1) (ty := .boolean) (C := RX4) (T := TX4) (N := 5) hx hb hts inlX4 tyX4 tyX4_ok nmX4 hown hG.1 hP (wl_D hg f_17) hS 4 (wl_at (by decide) hrd) rfl 4 (by decide) (hts (.fieldLink RX4 30 "SwornLists$Reader" "wantsUnit" "Z") w_285) (fun _ h9 => h9) rfl (by decide +kernel) rfl rfl (Nat.le_of_ble_eq_true rfl) dX4_goesOn_118 (fun H locs hP _ hS => ?_)
                obtain ⟨f_18, hP, e_18, o_18⟩ := b_put (by decide) hP
                have hrd : f_18 4 = eO 4 [.ref (g 5), .int (nI mc925), .int op, .int (cm &&& ((1 <<< (op &&& 31)) ^^^ (-1))), .int 1] := e_18
                replace hmk := (o_18 5 (by decide)).trans hmk
                replace htx : f_18 k = eO 7 [.ref (g (k + 1)), .ref (g (k + 2)), .int (nI ln), .int (nI sc923)] := (o_18 k (by omega)).trans htx
                replace hpx : f_18 (k + 2) = eI G 50 sp924 := (o_18 (k + 2) (by omega)).trans hpx
                refine lv_iconst (v := 1) hx hb dX4_goesOn_121 (by decide) ?_
                exact W.zret (v := 1) hx hb hr (rfl) (fun t ht hW => ⟨⟨_, f_18, rfl, (⟨true, mc925, op, (cm &&& ((1 <<< (op &&& 31)) ^^^ (-1))), 1, mk926, sc923, sp924, (b2_t rfl).symm, hrd, hmk, htx, hpx, by omega, by omega, fun j hj => ((((o_18 j (by omega))).trans (o_17 j (by omega))).trans (o_16 j (by omega))).trans (o_15 j (by omega))⟩), by rw [ht]; exact hP⟩, hS.F ht⟩) hS.2.2 dX4_goesOn_122
            · refine lv_aload_n hx hb dX4_goesOn_65 rfl (lv_at hl 2 rfl) ?_
              refine lv_dup hx hb dX4_goesOn_66 rfl ?_
              refine va_get (D := G.1) (ci := 4) (v := .int cm) (C := RX4) (T := TX4) (N := 5) hx hb hts inlX4 hown hG.1 hP 4 (wl_at (by decide) hrd) rfl 3 (by decide) (hts (.fieldLink RX4 27 "SwornLists$Reader" "compared" "I") w_284) (fun _ h9 => h9) rfl dX4_goesOn_67 ?_
              refine lv_iconst (v := 1) hx hb dX4_goesOn_70 (by decide) ?_
              refine lv_aload_n hx hb dX4_goesOn_71 rfl (lv_at hl 2 rfl) ?_
              refine va_get (D := G.1) (ci := 4) (v := .int op) (C := RX4) (T := TX4) (N := 5) hx hb hts inlX4 hown hG.1 hP 4 (wl_at (by decide) hrd) rfl 2 (by decide) (hts (.fieldLink RX4 24 "SwornLists$Reader" "open" "I") w_283) (fun _ h9 => h9) rfl dX4_goesOn_72 ?_
              refine lv_ishl hx hb dX4_goesOn_75 ?_
              refine lv_ior hx hb dX4_goesOn_76 ?_
              refine va_put (D := G.1) (ci := 4) (v := .int (cm ||| (1 <<< (op &&& 31)))) (ty := .int) (C := RX4) (T := TX4) (N := 5) hx hb hts inlX4 tyX4 tyX4_ok nmX4 hown hG.1 hP (wl_D hg f) hS 4 (wl_at (by decide) hrd) rfl 3 (by decide) (hts (.fieldLink RX4 27 "SwornLists$Reader" "compared" "I") w_284) (fun _ h9 => h9) rfl (by decide +kernel) rfl rfl (Nat.le_of_ble_eq_true rfl) dX4_goesOn_77 (fun H locs hP _ hS => ?_)
              obtain ⟨f_19, hP, e_19, o_19⟩ := b_put (by decide) hP
              have hrd : f_19 4 = eO 4 [.ref (g 5), .int (nI mc), .int op, .int (cm ||| (1 <<< (op &&& 31))), .int wu] := e_19
              replace hmk := (o_19 5 (by decide)).trans hmk
              replace htx : f_19 k = eO 7 [.ref (g (k + 1)), .ref (g (k + 2)), .int (nI ln), .int (nI sc)] := (o_19 k (by omega)).trans htx
              replace hpx : f_19 (k + 2) = eI G 50 sp := (o_19 (k + 2) (by omega)).trans hpx
              refine lv_goto (tgt := 105) hx hb dX4_goesOn_80 (by decide) ?_
              refine lv_aload_n hx hb dX4_goesOn_105 rfl (lv_at hl 2 rfl) ?_
              refine lv_aload_n hx hb dX4_goesOn_106 rfl (lv_at hl 3 rfl) ?_
              refine lv_iload_n hx hb dX4_goesOn_107 rfl (lv_at hl 1 rfl) ?_
              refine b_callv (va_runV (As := [.ref (g k), .int v1]) (rest := []) ⟨hx, hb, hml, hown, hts⟩ (e_release l G g hg f_19 k ln sc sp mc op (cm ||| (1 <<< (op &&& 31))) wu mk v1 hrd hmk htx hpx (by first | assumption | omega | decide) (by first | assumption | omega | decide) (by first | assumption | omega | decide) (by first | assumption | omega | decide) (by first | assumption | omega | decide)) (my_cwV hts ok_X4_release w_331 rfl rfl ⟨Nat.le_of_ble_eq_true rfl, Nat.le_of_ble_eq_true rfl⟩) ⟨bP.blind, va_recv hG.1 hP (ci := 4) (q0 := 4) rfl (wl_at (by decide) hrd), fun U hU hW => ⟨rfl, by rw [hU]; exact hP, kG.warm hW hG⟩⟩ rfl rfl hl.1 rfl (lv_room (Nat.le_of_ble_eq_true rfl)) dX4_goesOn_108 ⟨Nat.le_of_ble_eq_true rfl, Nat.le_of_ble_eq_true rfl⟩) hS (fun f_20 H locs hq9 hP hS => ?_)
              obtain ⟨mc927, sc928, sp929, hq_20_0, hq_20_1, hq_20_2, hx_20_0, hx_20_1, o_20⟩ := hq9
              replace hmk := (o_20 5 (by first | decide | omega)).trans hmk
              have hrd : f_20 4 = eO 4 [.ref (g 5), .int (nI mc927), .int op, .int (cm ||| (1 <<< (op &&& 31))), .int wu] := hq_20_0
              have htx : f_20 k = eO 7 [.ref (g (k + 1)), .ref (g (k + 2)), .int (nI ln), .int (nI sc928)] := hq_20_1
              have hpx : f_20 (k + 2) = eI G 50 sp929 := hq_20_2
              refine lv_aload_n hx hb dX4_goesOn_111 rfl (lv_at hl 2 rfl) ?_
              refine lv_iload_n hx hb dX4_goesOn_112 rfl (lv_at hl 4 rfl) ?_
              refine b_callv (va_runV (As := [.int n]) (rest := []) ⟨hx, hb, hml, hown, hts⟩ (e_hold l G g hg f_20 mc927 op (cm ||| (1 <<< (op &&& 31))) wu mk n hrd hmk (by first | assumption | omega | decide)) (my_cwV hts ok_X4_hold w_319 rfl rfl ⟨Nat.le_of_ble_eq_true rfl, Nat.le_of_ble_eq_true rfl⟩) ⟨bP.blind, va_recv hG.1 hP (ci := 4) (q0 := 4) rfl (wl_at (by decide) hrd), fun U hU hW => ⟨rfl, by rw [hU]; exact hP, kG.warm hW hG⟩⟩ rfl rfl hl.1 rfl (lv_room (Nat.le_of_ble_eq_true rfl)) dX4_goesOn_113 ⟨Nat.le_of_ble_eq_true rfl, Nat.le_of_ble_eq_true rfl⟩) hS (fun f_21 H locs hq9 hP hS => ?_)
              obtain ⟨mc930, mk931, hq_21_0, hq_21_1, hx_21_0, o_21⟩ := hq9
              replace htx : f_21 k = eO 7 [.ref (g (k + 1)), .ref (g (k + 2)), .int (nI ln), .int (nI sc928)] := (o_21 k (by omega)).trans htx
              replace hpx : f_21 (k + 2) = eI G 50 sp929 := (o_21 (k + 2) (by omega)).trans hpx
              have hrd : f_21 4 = eO 4 [.ref (g 5), .int (nI mc930), .int op, .int (cm ||| (1 <<< (op &&& 31))), .int wu] := hq_21_0
              have hmk : f_21 5 = eI G 50 mk931 := hq_21_1
              refine lv_aload_n hx hb dX4_goesOn_116 rfl (lv_at hl 2 rfl) ?_
              refine lv_iconst (v := 1) hx hb dX4_goesOn_117 (by decide) ?_
              refine va_put (D := G.1) (ci := 4) (v := .int 1) (ty := .boolean) (C := RX4) (T := TX4) (N := 5) hx hb hts inlX4 tyX4 tyX4_ok nmX4 hown hG.1 hP (wl_D hg f_21) hS 4 (wl_at (by decide) hrd) rfl 4 (by decide) (hts (.fieldLink RX4 30 "SwornLists$Reader" "wantsUnit" "Z") w_285) (fun _ h9 => h9) rfl (by decide +kernel) rfl rfl (Nat.le_of_ble_eq_true rfl) dX4_goesOn_118 (fun H locs hP _ hS => ?_)
              obtain ⟨f_22, hP, e_22, o_22⟩ := b_put (by decide) hP
              have hrd : f_22 4 = eO 4 [.ref (g 5), .int (nI mc930), .int op, .int (cm ||| (1 <<< (op &&& 31))), .int 1] := e_22
              replace hmk := (o_22 5 (by decide)).trans hmk
              replace htx : f_22 k = eO 7 [.ref (g (k + 1)), .ref (g (k + 2)), .int (nI ln), .int (nI sc928)] := (o_22 k (by omega)).trans htx
              replace hpx : f_22 (k + 2) = eI G 50 sp929 := (o_22 (k + 2) (by omega)).trans hpx
              refine lv_iconst (v := 1) hx hb dX4_goesOn_121 (by decide) ?_
              exact W.zret (v := 1) hx hb hr (rfl) (fun t ht hW => ⟨⟨_, f_22, rfl, (⟨true, mc930, op, (cm ||| (1 <<< (op &&& 31))), 1, mk931, sc928, sp929, (b2_t rfl).symm, hrd, hmk, htx, hpx, by omega, by omega, fun j hj => ((((o_22 j (by omega))).trans (o_21 j (by omega))).trans (o_20 j (by omega))).trans (o_19 j (by omega))⟩), by rw [ht]; exact hP⟩, hS.F ht⟩) hS.2.2 dX4_goesOn_122
      · refine lv_iconst (v := 1) hx hb dX4_goesOn_36 (by decide) ?_
        refine lv_goto (tgt := 41) hx hb dX4_goesOn_37 (by decide) ?_
        refine lv_istore (lv' := [(4, .int 1), (3, .int v1), (0, .ref (g 4)), (1, .ref (g k)), (2, .int n)]) hx hb dX4_goesOn_41 hl (by decide) rfl (fun ls hl => ?_)
        refine lv_iload_n hx hb dX4_goesOn_43 rfl (lv_at hl 1 rfl) ?_
        refine lv_if_eq (tgt := 58) hx hb dX4_goesOn_44 (by decide) (fun c_44 => ?_) (fun c_44 => ?_)
        · refine lv_iconst (v := 0) hx hb dX4_goesOn_58 (by decide) ?_
          exact W.zret (v := 0) hx hb hr (rfl) (fun t ht hW => ⟨⟨_, f, rfl, (⟨false, mc, op, cm, wu, mk, sc, sp, (b2_f (by decide)).symm, hrd, hmk, htx, hpx, by omega, by omega, fun j hj => rfl⟩), by rw [ht]; exact hP⟩, hS.F ht⟩) hS.2.2 dX4_goesOn_59
        · refine lv_iload_n hx hb dX4_goesOn_47 rfl (lv_at hl 1 rfl) ?_
          refine lv_bipush (v := 6) hx hb dX4_goesOn_48 (by decide) ?_
          refine lv_icmp_eq (tgt := 58) hx hb dX4_goesOn_50 (by decide) (fun c_50 => ?_) (fun c_50 => ?_)
          · refine lv_iconst (v := 0) hx hb dX4_goesOn_58 (by decide) ?_
            exact W.zret (v := 0) hx hb hr (rfl) (fun t ht hW => ⟨⟨_, f, rfl, (⟨false, mc, op, cm, wu, mk, sc, sp, (b2_f (by decide)).symm, hrd, hmk, htx, hpx, by omega, by omega, fun j hj => rfl⟩), by rw [ht]; exact hP⟩, hS.F ht⟩) hS.2.2 dX4_goesOn_59
          · refine lv_iload hx hb dX4_goesOn_53 (lv_at hl 0 rfl) ?_
            refine lv_if_eq (tgt := 60) hx hb dX4_goesOn_55 (by decide) (fun c_55 => absurd c_55 (by decide)) (fun c_55 => ?_)
            refine lv_iconst (v := 0) hx hb dX4_goesOn_58 (by decide) ?_
            exact W.zret (v := 0) hx hb hr (rfl) (fun t ht hW => ⟨⟨_, f, rfl, (⟨false, mc, op, cm, wu, mk, sc, sp, (b2_f (by decide)).symm, hrd, hmk, htx, hpx, by omega, by omega, fun j hj => rfl⟩), by rw [ht]; exact hP⟩, hS.F ht⟩) hS.2.2 dX4_goesOn_59
  · refine lv_aload_n hx hb dX4_goesOn_6 rfl (lv_at hl 0 rfl) ?_
    refine lv_aload_n hx hb dX4_goesOn_7 rfl (lv_at hl 1 rfl) ?_
    refine b_calli (va_runV (As := [.ref (g k)]) (rest := []) ⟨hx, hb, hml, hown, hts⟩ (e_closes l G g hg f k ln sc sp mc op cm wu mk hrd hmk htx hpx (by first | assumption | omega | decide) (by first | assumption | omega | decide) (by first | assumption | omega | decide) (by first | assumption | omega | decide) (by first | assumption | omega | decide)) (my_cwV hts ok_X4_closes w_327 rfl rfl ⟨Nat.le_of_ble_eq_true rfl, Nat.le_of_ble_eq_true rfl⟩) ⟨bP.blind, va_recv hG.1 hP (ci := 4) (q0 := 4) rfl (wl_at (by decide) hrd), fun U hU hW => ⟨rfl, by rw [hU]; exact hP, kG.warm hW hG⟩⟩ rfl rfl hl.1 rfl (lv_room (Nat.le_of_ble_eq_true rfl)) dX4_goesOn_8 ⟨Nat.le_of_ble_eq_true rfl, Nat.le_of_ble_eq_true rfl⟩) hS (fun v32 f_23 H locs hq9 hP hS => ?_)
    obtain ⟨bz33, mc934, op935, cm936, wu937, mk938, sc939, sp940, rfl, hq_23_0, hq_23_1, hq_23_2, hq_23_3, hx_23_0, hx_23_1, o_23⟩ := hq9
    have hrd : f_23 4 = eO 4 [.ref (g 5), .int (nI mc934), .int op935, .int cm936, .int wu937] := hq_23_0
    have hmk : f_23 5 = eI G 50 mk938 := hq_23_1
    have htx : f_23 k = eO 7 [.ref (g (k + 1)), .ref (g (k + 2)), .int (nI ln), .int (nI sc939)] := hq_23_2
    have hpx : f_23 (k + 2) = eI G 50 sp940 := hq_23_3
    exact W.zret (v := b2 (bz33 = true)) hx hb hr (b2_nar) (fun t ht hW => ⟨⟨_, f_23, rfl, (⟨bz33, mc934, op935, cm936, wu937, mk938, sc939, sp940, rfl, hrd, hmk, htx, hpx, by omega, by omega, fun j hj => (o_23 j (by omega))⟩), by rw [ht]; exact hP⟩, hS.F ht⟩) hS.2.2 dX4_goesOn_11


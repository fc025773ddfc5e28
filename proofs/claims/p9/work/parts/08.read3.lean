theorem max_q {p e : Nat} (hp : p ≤ 50) (he : e ≤ 50) : (if nI p < nI e - 1 then nI e - 1 else nI p) = nI (max p (e - 1)) := by
  rcases Nat.eq_zero_or_pos e with h | h
  · subst h
    rw [if_neg (fun z => by
      have h1 := Int32.lt_iff_toInt_lt.mp z
      rw [nI_toInt (by omega)] at h1
      have h2 : (nI 0 - 1 : Int32).toInt = -1 := by decide
      omega)]
    rw [show max p (0 - 1) = p by omega]
  · have e1 : nI e - 1 = nI (e - 1) := pk_sub (b := 1) h
    rw [e1]
    by_cases q : p < e - 1
    · rw [if_pos (nI_lt q (by omega)), show max p (e - 1) = e - 1 by omega]
    · rw [if_neg (fun z => q ((nI_ltI (by omega) (by omega)).mp z)), show max p (e - 1) = p by omega]
set_option maxHeartbeats 4000000 in
set_option maxRecDepth 100000 in
theorem e_digitsEnd (l : Launch) (G : gW) (g : Nat → Nat) (hg : gOK g) (f : Nat → va_E) (k : Nat) (ln : Nat) (sc : Nat) (sg : Nat → Int32) (q : Nat) (htx : f k = eO 7 [.ref (g (k + 1)), .ref (g (k + 2)), .int (nI ln), .int (nI sc)]) (hsx : f (k + 1) = eI G 50 sg) (hk3 : k + 2 < 333) (hln : ln ≤ 50) (hsc : sc ≤ 50) (hq : q ≤ ln) : Met l yX4_digitsEnd (wsT yX4_digitsEnd cX4_digitsEnd 3 (some .int)) ({ frames := 1, cells := 0, slots := 0, locals := 21 }) (bP G g f [.ref (g k), .int (nI q)]) (rQi (fun z9 => ∃ e9 : Nat, z9 = nI e9 ∧ (q ≤ e9) ∧ (e9 ≤ ln))) 0 0 fr0 := by
  refine Met.ofW (cc := cX4_digitsEnd) (maxL := 3) (ret := (some .int)) (by decide) rfl ?_
  intro p e s m args below meth c s₁ B hml hv
  obtain ⟨rfl, hP, hG⟩ := hv
  have hx := B.exec
  have hb := B.bytes
  have hr := B.returns
  have hts := my_hts (atoms_spec (ws := wsT yX4_digitsEnd cX4_digitsEnd 3 (some .int)) B.pre)
  have hown : s.vm.findClass RX4 = some m.cls := findClass_of_methodNamed B.named
  have hlocks := B.notSynchronized
  have hl := lv_entry ([.ref (g k), .int (nI q)]) (n := 3) (Nat.le_of_ble_eq_true rfl)
  rw [lg_entry_eq]
  generalize (lg_sl ([.ref (g k), .int (nI q)]) ++ List.replicate (3 - (lg_sl ([.ref (g k), .int (nI q)])).length) Slot.unset).toArray = ls at hl ⊢
  have hl : lv_has ls 3 [(0, .ref (g k)), (1, .int (nI q))] := hl
  refine lv_iload_n hx hb dX4_digitsEnd_0 rfl (lv_at hl 1 rfl) ?_
  refine lv_istore_n (lv' := [(2, .int (nI q)), (0, .ref (g k)), (1, .int (nI q))]) hx hb dX4_digitsEnd_1 rfl hl (by decide) rfl (fun ls hl => ?_)
  have key1 : ∀ (n9 : Nat) (e1 : Nat) (ls : Array Slot), (q ≤ e1) → (e1 ≤ ln) → ln - e1 < n9 → lv_has ls 3 [(0, .ref (g k)), (2, .int (nI e1))] → W p l e (headSpec (wsT yX4_digitsEnd cX4_digitsEnd 3 (some .int)) ({ frames := 1, cells := 0, slots := 0, locals := 21 })).room s m ([.ref (g k), .int (nI q)] : List Value).toArray below meth c s.heap [] 0 0 (MQ below (rQi (fun z9 => ∃ e9 : Nat, z9 = nI e9 ∧ (q ≤ e9) ∧ (e9 ≤ ln))) ([.ref (g k), .int (nI q)] : List Value).toArray s 0 0 fr0) (F0 m 2 ls []) := by
    intro n9
    induction n9 with
    | zero => intro e1 ls h1 h2 hn9; exact absurd hn9 (Nat.not_lt_zero _)
    | succ n9 ih =>
      intro e1 ls h1 h2 hn9 hl
      refine lv_iload_n hx hb dX4_digitsEnd_2 rfl (lv_at hl 1 rfl) ?_
      refine lv_aload_n hx hb dX4_digitsEnd_3 rfl (lv_at hl 0 rfl) ?_
      refine rd_calli (va_runV (As := []) (rest := [.int (nI e1)]) ⟨hx, hb, hml, hown, hts⟩ (t_length l G g hg f k ln sc htx (by first | assumption | omega | decide) (by first | assumption | omega | decide) (by first | assumption | omega | decide)) (my_cwV hts ok_X8_length w_294 rfl rfl ⟨Nat.le_of_ble_eq_true rfl, Nat.le_of_ble_eq_true rfl⟩) ⟨bP.blind, va_recv hG.1 hP (ci := 7) (q0 := k) rfl (wl_at (by omega) htx), fun U hU hW => ⟨rfl, by rw [hU]; exact hP, kG.warm hW hG⟩⟩ rfl rfl hl.1 rfl (lv_room (Nat.le_of_ble_eq_true rfl)) dX4_digitsEnd_4 ⟨Nat.le_of_ble_eq_true rfl, Nat.le_of_ble_eq_true rfl⟩) (fun r hr9 => ?_)
      subst hr9
      refine lv_icmp_ge (tgt := 27) hx hb dX4_digitsEnd_7 (by decide) (fun c_7 => ?_) (fun c_7 => ?_)
      · refine lv_iload_n hx hb dX4_digitsEnd_27 rfl (lv_at hl 1 rfl) ?_
        exact W.iret (v := nI e1) hx hb hr (fun t ht hW => ⟨_, rfl, (⟨e1, rfl, h1, h2⟩), ht⟩) (fun _ h => absurd h List.not_mem_nil) dX4_digitsEnd_28
      · have hlt : e1 < ln := Nat.not_le.mp (fun z => c_7 (nI_le z (by omega)))
        refine lv_aload_n hx hb dX4_digitsEnd_10 rfl (lv_at hl 0 rfl) ?_
        refine lv_iload_n hx hb dX4_digitsEnd_11 rfl (lv_at hl 1 rfl) ?_
        refine rd_calli (va_runV (As := [.int (nI e1)]) (rest := []) ⟨hx, hb, hml, hown, hts⟩ (t_signAt l G g hg f k ln sc sg (nI e1) htx hsx (by first | assumption | omega | decide) (by first | assumption | omega | decide) (by first | assumption | omega | decide)) (my_cwV hts ok_X8_signAt w_298 rfl rfl ⟨Nat.le_of_ble_eq_true rfl, Nat.le_of_ble_eq_true rfl⟩) ⟨bP.blind, va_recv hG.1 hP (ci := 7) (q0 := k) rfl (wl_at (by omega) htx), fun U hU hW => ⟨rfl, by rw [hU]; exact hP, kG.warm hW hG⟩⟩ rfl rfl hl.1 rfl (lv_room (Nat.le_of_ble_eq_true rfl)) dX4_digitsEnd_12 ⟨Nat.le_of_ble_eq_true rfl, Nat.le_of_ble_eq_true rfl⟩) (fun r hr9 => ?_)
        subst hr9
        refine rd_calli (va_runS (As := [.int (if inN (nI e1) ln = true then sg (Int32.toNatClampNeg (nI e1)) else 0)]) (rest := []) ⟨hx, hb, hml, hown, hts⟩ (g_isDigit l G g hg f (if inN (nI e1) ln = true then sg (Int32.toNatClampNeg (nI e1)) else 0)  ) (my_cwS hts ok_X4_isDigit w_302 rfl rfl ⟨Nat.le_of_ble_eq_true rfl, Nat.le_of_ble_eq_true rfl⟩) ⟨bP.blind, fun U hU hW => ⟨rfl, by rw [hU]; exact hP, kG.warm hW hG⟩⟩ rfl rfl hl.1 rfl (lv_room (Nat.le_of_ble_eq_true rfl)) dX4_digitsEnd_15 ⟨Nat.le_of_ble_eq_true rfl, Nat.le_of_ble_eq_true rfl⟩) (fun r hr9 => ?_)
        subst hr9
        refine my_ifeq (tgt := 27) hx hb dX4_digitsEnd_18 (by decide) (fun c_18 => ?_) (fun c_18 => ?_)
        · refine lv_iload_n hx hb dX4_digitsEnd_27 rfl (lv_at hl 1 rfl) ?_
          exact W.iret (v := nI e1) hx hb hr (fun t ht hW => ⟨_, rfl, (⟨e1, rfl, h1, h2⟩), ht⟩) (fun _ h => absurd h List.not_mem_nil) dX4_digitsEnd_28
        · refine lv_iinc (v := nI (e1 + 1)) (lv' := [(2, .int (nI (e1 + 1))), (0, .ref (g k))]) hx hb dX4_digitsEnd_21 hl (k := 1) rfl (nI_1 e1) (by decide) rfl (fun ls hl => ?_)
          refine lv_goto (tgt := 2) hx hb dX4_digitsEnd_24 (by decide) ?_
          exact ih (e1 + 1) _ (by omega) (by omega) (by omega) (lv_sub hl [1, 0] rfl)
  exact key1 (ln + 1) q _ (Nat.le_refl _) (hq) (by omega) (lv_sub hl [1, 0] rfl)
set_option maxHeartbeats 4000000 in
set_option maxRecDepth 100000 in
theorem e_numberIn (l : Launch) (G : gW) (g : Nat → Nat) (hg : gOK g) (f : Nat → va_E) (k : Nat) (ln : Nat) (sc : Nat) (sg : Nat → Int32) (q : Nat) (w : Nat) (htx : f k = eO 7 [.ref (g (k + 1)), .ref (g (k + 2)), .int (nI ln), .int (nI sc)]) (hsx : f (k + 1) = eI G 50 sg) (hk3 : k + 2 < 333) (hln : ln ≤ 50) (hsc : sc ≤ 50) (hqw : q ≤ w) (hw : w ≤ 50) : Met l yX4_numberIn (wsT yX4_numberIn cX4_numberIn 5 (some .int)) ({ frames := 1, cells := 0, slots := 0, locals := 21 }) (bP G g f [.ref (g k), .int (nI q), .int (nI w)]) (rQi (fun z9 => True)) 0 0 fr0 := by
  refine Met.ofW (cc := cX4_numberIn) (maxL := 5) (ret := (some .int)) (by decide) rfl ?_
  intro p e s m args below meth c s₁ B hml hv
  obtain ⟨rfl, hP, hG⟩ := hv
  have hx := B.exec
  have hb := B.bytes
  have hr := B.returns
  have hts := my_hts (atoms_spec (ws := wsT yX4_numberIn cX4_numberIn 5 (some .int)) B.pre)
  have hown : s.vm.findClass RX4 = some m.cls := findClass_of_methodNamed B.named
  have hlocks := B.notSynchronized
  have hl := lv_entry ([.ref (g k), .int (nI q), .int (nI w)]) (n := 5) (Nat.le_of_ble_eq_true rfl)
  rw [lg_entry_eq]
  generalize (lg_sl ([.ref (g k), .int (nI q), .int (nI w)]) ++ List.replicate (5 - (lg_sl ([.ref (g k), .int (nI q), .int (nI w)])).length) Slot.unset).toArray = ls at hl ⊢
  have hl : lv_has ls 5 [(0, .ref (g k)), (1, .int (nI q)), (2, .int (nI w))] := hl
  refine lv_iconst (v := 0) hx hb dX4_numberIn_0 (by decide) ?_
  refine lv_istore_n (lv' := [(3, .int 0), (0, .ref (g k)), (1, .int (nI q)), (2, .int (nI w))]) hx hb dX4_numberIn_1 rfl hl (by decide) rfl (fun ls hl => ?_)
  refine lv_iload_n hx hb dX4_numberIn_2 rfl (lv_at hl 2 rfl) ?_
  refine lv_istore (lv' := [(4, .int (nI q)), (3, .int 0), (0, .ref (g k)), (1, .int (nI q)), (2, .int (nI w))]) hx hb dX4_numberIn_3 hl (by decide) rfl (fun ls hl => ?_)
  have key1 : ∀ (n9 : Nat) (e1 : Nat) (u : Int32) (ls : Array Slot), (e1 ≤ w) → w - e1 < n9 → lv_has ls 5 [(0, .ref (g k)), (2, .int (nI w)), (3, .int u), (4, .int (nI e1))] → W p l e (headSpec (wsT yX4_numberIn cX4_numberIn 5 (some .int)) ({ frames := 1, cells := 0, slots := 0, locals := 21 })).room s m ([.ref (g k), .int (nI q), .int (nI w)] : List Value).toArray below meth c s.heap [] 0 0 (MQ below (rQi (fun z9 => True)) ([.ref (g k), .int (nI q), .int (nI w)] : List Value).toArray s 0 0 fr0) (F0 m 5 ls []) := by
    intro n9
    induction n9 with
    | zero => intro e1 u ls h2 hn9; exact absurd hn9 (Nat.not_lt_zero _)
    | succ n9 ih =>
      intro e1 u ls h2 hn9 hl
      refine lv_iload hx hb dX4_numberIn_5 (lv_at hl 3 rfl) ?_
      refine lv_iload_n hx hb dX4_numberIn_7 rfl (lv_at hl 1 rfl) ?_
      refine lv_icmp_ge (tgt := 32) hx hb dX4_numberIn_8 (by decide) (fun c_8 => ?_) (fun c_8 => ?_)
      · refine lv_iload_n hx hb dX4_numberIn_32 rfl (lv_at hl 2 rfl) ?_
        exact W.iret (v := u) hx hb hr (fun t ht hW => ⟨_, rfl, (trivial), ht⟩) (fun _ h => absurd h List.not_mem_nil) dX4_numberIn_33
      · have hlt : e1 < w := Nat.not_le.mp (fun z => c_8 (nI_le z (by omega)))
        refine lv_bipush (v := 10) hx hb dX4_numberIn_11 (by decide) ?_
        refine lv_iload_n hx hb dX4_numberIn_13 rfl (lv_at hl 2 rfl) ?_
        refine lv_imul hx hb dX4_numberIn_14 ?_
        refine lv_aload_n hx hb dX4_numberIn_15 rfl (lv_at hl 0 rfl) ?_
        refine lv_iload hx hb dX4_numberIn_16 (lv_at hl 3 rfl) ?_
        refine rd_calli (va_runV (As := [.int (nI e1)]) (rest := [.int (10 * u)]) ⟨hx, hb, hml, hown, hts⟩ (t_signAt l G g hg f k ln sc sg (nI e1) htx hsx (by first | assumption | omega | decide) (by first | assumption | omega | decide) (by first | assumption | omega | decide)) (my_cwV hts ok_X8_signAt w_298 rfl rfl ⟨Nat.le_of_ble_eq_true rfl, Nat.le_of_ble_eq_true rfl⟩) ⟨bP.blind, va_recv hG.1 hP (ci := 7) (q0 := k) rfl (wl_at (by omega) htx), fun U hU hW => ⟨rfl, by rw [hU]; exact hP, kG.warm hW hG⟩⟩ rfl rfl hl.1 rfl (lv_room (Nat.le_of_ble_eq_true rfl)) dX4_numberIn_18 ⟨Nat.le_of_ble_eq_true rfl, Nat.le_of_ble_eq_true rfl⟩) (fun r hr9 => ?_)
        subst hr9
        refine lv_iadd hx hb dX4_numberIn_21 ?_
        refine lv_bipush (v := 48) hx hb dX4_numberIn_22 (by decide) ?_
        refine lv_isub hx hb dX4_numberIn_24 ?_
        refine lv_istore_n (lv' := [(3, .int (((10 * u) + (if inN (nI e1) ln = true then sg (Int32.toNatClampNeg (nI e1)) else 0)) - 48)), (0, .ref (g k)), (2, .int (nI w)), (4, .int (nI e1))]) hx hb dX4_numberIn_25 rfl hl (by decide) rfl (fun ls hl => ?_)
        refine lv_iinc (v := nI (e1 + 1)) (lv' := [(4, .int (nI (e1 + 1))), (3, .int (((10 * u) + (if inN (nI e1) ln = true then sg (Int32.toNatClampNeg (nI e1)) else 0)) - 48)), (0, .ref (g k)), (2, .int (nI w))]) hx hb dX4_numberIn_26 hl (k := 3) rfl (nI_1 e1) (by decide) rfl (fun ls hl => ?_)
        refine lv_goto (tgt := 5) hx hb dX4_numberIn_29 (by decide) ?_
        exact ih (e1 + 1) (((10 * u) + (if inN (nI e1) ln = true then sg (Int32.toNatClampNeg (nI e1)) else 0)) - 48) _ (hlt) (by omega) (lv_sub hl [2, 3, 1, 0] rfl)
  exact key1 (w + 1) q 0 _ (hqw) (by omega) (lv_sub hl [2, 4, 1, 0] rfl)
set_option maxHeartbeats 4000000 in
set_option maxRecDepth 100000 in
theorem e_read (l : Launch) (G : gW) (g : Nat → Nat) (hg : gOK g) (f : Nat → va_E) (k : Nat) (ln : Nat) (sc : Nat) (sg : Nat → Int32) (sp : Nat → Int32) (mc : Nat) (op : Int32) (cm : Int32) (wu : Int32) (mk : Nat → Int32) (hrd : f 4 = eO 4 [.ref (g 5), .int (nI mc), .int op, .int cm, .int wu]) (hmk : f 5 = eI G 50 mk) (htx : f k = eO 7 [.ref (g (k + 1)), .ref (g (k + 2)), .int (nI ln), .int (nI sc)]) (hsx : f (k + 1) = eI G 50 sg) (hpx : f (k + 2) = eI G 50 sp) (hk3 : k + 2 < 333) (hln : ln ≤ 50) (hsc : sc ≤ 50) (hmc : mc ≤ 50) (hkt : 36 ≤ k) : Met l yX4_read (wsT yX4_read cX4_read 5 (some .int)) ({ frames := 4, cells := 0, slots := 0, locals := 88 }) (bP G g f [.ref (g 4), .ref (g k)]) (bQi G g (fun (z9 : Int32) (f' : Nat → va_E) => ∃ mc9 : Nat, ∃ op9 : Int32, ∃ cm9 : Int32, ∃ wu9 : Int32, ∃ mk9 : Nat → Int32, ∃ sc9 : Nat, ∃ sp9 : Nat → Int32, f' 4 = eO 4 [.ref (g 5), .int (nI mc9), .int op9, .int cm9, .int wu9] ∧ f' 5 = eI G 50 mk9 ∧ f' k = eO 7 [.ref (g (k + 1)), .ref (g (k + 2)), .int (nI ln), .int (nI sc9)] ∧ f' (k + 2) = eI G 50 sp9 ∧ (mc9 ≤ 50) ∧ (sc9 ≤ 50) ∧ ∀ j, (j ≠ 4 ∧ j ≠ 5 ∧ j ≠ k ∧ j ≠ k + 2) → f' j = f j)) 0 0 (gA g) := by
  refine Met.ofW (cc := cX4_read) (maxL := 5) (ret := (some .int)) (by decide) rfl ?_
  intro p e s m args below meth c s₁ B hml hv
  obtain ⟨rfl, hP, hG⟩ := hv
  have hx := B.exec
  have hb := B.bytes
  have hr := B.returns
  have hts := my_hts (atoms_spec (ws := wsT yX4_read cX4_read 5 (some .int)) B.pre)
  have hown : s.vm.findClass RX4 = some m.cls := findClass_of_methodNamed B.named
  have hlocks := B.notSynchronized
  have hS : va_S (gA g) s.heap s.heap [] := va_S.rf
  have hl := lv_entry ([.ref (g 4), .ref (g k)]) (n := 5) (Nat.le_of_ble_eq_true rfl)
  rw [lg_entry_eq]
  generalize (lg_sl ([.ref (g 4), .ref (g k)]) ++ List.replicate (5 - (lg_sl ([.ref (g 4), .ref (g k)])).length) Slot.unset).toArray = ls at hl ⊢
  have hl : lv_has ls 5 [(0, .ref (g 4)), (1, .ref (g k))] := hl
  refine lv_aload_n hx hb dX4_read_0 rfl (lv_at hl 1 rfl) ?_
  refine b_callv (va_runV (As := []) (rest := []) ⟨hx, hb, hml, hown, hts⟩ (t_forget l G g hg f k ln sc htx (by first | assumption | omega | decide) (by first | assumption | omega | decide) (by first | assumption | omega | decide)) (my_cwV hts ok_X8_forgetSteps w_289 rfl rfl ⟨Nat.le_of_ble_eq_true rfl, Nat.le_of_ble_eq_true rfl⟩) ⟨bP.blind, va_recv hG.1 hP (ci := 7) (q0 := k) rfl (wl_at (by omega) htx), fun U hU hW => ⟨rfl, by rw [hU]; exact hP, kG.warm hW hG⟩⟩ rfl rfl hl.1 rfl (lv_room (Nat.le_of_ble_eq_true rfl)) dX4_read_1 ⟨Nat.le_of_ble_eq_true rfl, Nat.le_of_ble_eq_true rfl⟩) hS (fun f_1 H locs hq9 hP hS => ?_)
  obtain ⟨hq_1_0, o_1⟩ := hq9
  replace hrd := (o_1 4 (by first | decide | omega)).trans hrd
  replace hmk := (o_1 5 (by first | decide | omega)).trans hmk
  replace hsx : f_1 (k + 1) = eI G 50 sg := (o_1 (k + 1) (by omega)).trans hsx
  replace hpx : f_1 (k + 2) = eI G 50 sp := (o_1 (k + 2) (by omega)).trans hpx
  have htx : f_1 k = eO 7 [.ref (g (k + 1)), .ref (g (k + 2)), .int (nI ln), .int (nI 0)] := hq_1_0
  refine lv_aload_n hx hb dX4_read_4 rfl (lv_at hl 0 rfl) ?_
  refine lv_iconst (v := 0) hx hb dX4_read_5 (by decide) ?_
  refine va_put (D := G.1) (ci := 4) (v := .int 0) (ty := .int) (C := RX4) (T := TX4) (N := 5) hx hb hts inlX4 tyX4 tyX4_ok nmX4 hown hG.1 hP (wl_D hg f_1) hS 4 (wl_at (by decide) hrd) rfl 1 (by decide) (hts (.fieldLink RX4 20 "SwornLists$Reader" "markCount" "I") w_282) (fun _ h9 => h9) rfl (by decide +kernel) rfl rfl (Nat.le_of_ble_eq_true rfl) dX4_read_6 (fun H locs hP _ hS => ?_)
  obtain ⟨f_2, hP, e_2, o_2⟩ := b_put (by decide) hP
  have hrd : f_2 4 = eO 4 [.ref (g 5), .int 0, .int op, .int cm, .int wu] := e_2
  replace hmk := (o_2 5 (by decide)).trans hmk
  replace htx : f_2 k = eO 7 [.ref (g (k + 1)), .ref (g (k + 2)), .int (nI ln), .int (nI 0)] := (o_2 k (by omega)).trans htx
  replace hsx : f_2 (k + 1) = eI G 50 sg := (o_2 (k + 1) (by omega)).trans hsx
  replace hpx : f_2 (k + 2) = eI G 50 sp := (o_2 (k + 2) (by omega)).trans hpx
  refine lv_aload_n hx hb dX4_read_9 rfl (lv_at hl 0 rfl) ?_
  refine lv_iconst (v := 0) hx hb dX4_read_10 (by decide) ?_
  refine va_put (D := G.1) (ci := 4) (v := .int 0) (ty := .int) (C := RX4) (T := TX4) (N := 5) hx hb hts inlX4 tyX4 tyX4_ok nmX4 hown hG.1 hP (wl_D hg f_2) hS 4 (wl_at (by decide) hrd) rfl 2 (by decide) (hts (.fieldLink RX4 24 "SwornLists$Reader" "open" "I") w_283) (fun _ h9 => h9) rfl (by decide +kernel) rfl rfl (Nat.le_of_ble_eq_true rfl) dX4_read_11 (fun H locs hP _ hS => ?_)
  obtain ⟨f_3, hP, e_3, o_3⟩ := b_put (by decide) hP
  have hrd : f_3 4 = eO 4 [.ref (g 5), .int 0, .int 0, .int cm, .int wu] := e_3
  replace hmk := (o_3 5 (by decide)).trans hmk
  replace htx : f_3 k = eO 7 [.ref (g (k + 1)), .ref (g (k + 2)), .int (nI ln), .int (nI 0)] := (o_3 k (by omega)).trans htx
  replace hsx : f_3 (k + 1) = eI G 50 sg := (o_3 (k + 1) (by omega)).trans hsx
  replace hpx : f_3 (k + 2) = eI G 50 sp := (o_3 (k + 2) (by omega)).trans hpx
  refine lv_aload_n hx hb dX4_read_14 rfl (lv_at hl 0 rfl) ?_
  refine lv_iconst (v := 0) hx hb dX4_read_15 (by decide) ?_
  refine va_put (D := G.1) (ci := 4) (v := .int 0) (ty := .int) (C := RX4) (T := TX4) (N := 5) hx hb hts inlX4 tyX4 tyX4_ok nmX4 hown hG.1 hP (wl_D hg f_3) hS 4 (wl_at (by decide) hrd) rfl 3 (by decide) (hts (.fieldLink RX4 27 "SwornLists$Reader" "compared" "I") w_284) (fun _ h9 => h9) rfl (by decide +kernel) rfl rfl (Nat.le_of_ble_eq_true rfl) dX4_read_16 (fun H locs hP _ hS => ?_)
  obtain ⟨f_4, hP, e_4, o_4⟩ := b_put (by decide) hP
  have hrd : f_4 4 = eO 4 [.ref (g 5), .int 0, .int 0, .int 0, .int wu] := e_4
  replace hmk := (o_4 5 (by decide)).trans hmk
  replace htx : f_4 k = eO 7 [.ref (g (k + 1)), .ref (g (k + 2)), .int (nI ln), .int (nI 0)] := (o_4 k (by omega)).trans htx
  replace hsx : f_4 (k + 1) = eI G 50 sg := (o_4 (k + 1) (by omega)).trans hsx
  replace hpx : f_4 (k + 2) = eI G 50 sp := (o_4 (k + 2) (by omega)).trans hpx
  refine lv_aload_n hx hb dX4_read_19 rfl (lv_at hl 0 rfl) ?_
  refine lv_iconst (v := 1) hx hb dX4_read_20 (by decide) ?_
  refine va_put (D := G.1) (ci := 4) (v := .int 1) (ty := .boolean) (C := RX4) (T := TX4) (N := 5) hx hb hts inlX4 tyX4 tyX4_ok nmX4 hown hG.1 hP (wl_D hg f_4) hS 4 (wl_at (by decide) hrd) rfl 4 (by decide) (hts (.fieldLink RX4 30 "SwornLists$Reader" "wantsUnit" "Z") w_285) (fun _ h9 => h9) rfl (by decide +kernel) rfl rfl (Nat.le_of_ble_eq_true rfl) dX4_read_21 (fun H locs hP _ hS => ?_)
  obtain ⟨f_5, hP, e_5, o_5⟩ := b_put (by decide) hP
  have hrd : f_5 4 = eO 4 [.ref (g 5), .int 0, .int 0, .int 0, .int 1] := e_5
  replace hmk := (o_5 5 (by decide)).trans hmk
  replace htx : f_5 k = eO 7 [.ref (g (k + 1)), .ref (g (k + 2)), .int (nI ln), .int (nI 0)] := (o_5 k (by omega)).trans htx
  replace hsx : f_5 (k + 1) = eI G 50 sg := (o_5 (k + 1) (by omega)).trans hsx
  replace hpx : f_5 (k + 2) = eI G 50 sp := (o_5 (k + 2) (by omega)).trans hpx
  refine lv_iconst (v := 0) hx hb dX4_read_24 (by decide) ?_
  refine lv_istore_n (lv' := [(2, .int 0), (0, .ref (g 4)), (1, .ref (g k))]) hx hb dX4_read_25 rfl hl (by decide) rfl (fun ls hl => ?_)
  have key1 : ∀ (n9 : Nat) (p1 : Nat) (mc1 : Nat) (op1 : Int32) (cm1 : Int32) (wu1 : Int32) (mk1 : Nat → Int32) (sc1 : Nat) (sp1 : Nat → Int32) (f_6 : Nat → va_E) (H : Heap) (locs : List Loc) (ls : Array Slot), (p1 ≤ ln) → (mc1 ≤ 50) → (sc1 ≤ 50) → ln - p1 < n9 → f_6 4 = eO 4 [.ref (g 5), .int (nI mc1), .int op1, .int cm1, .int wu1] → f_6 5 = eI G 50 mk1 → f_6 k = eO 7 [.ref (g (k + 1)), .ref (g (k + 2)), .int (nI ln), .int (nI sc1)] → f_6 (k + 1) = eI G 50 sg → f_6 (k + 2) = eI G 50 sp1 → (∀ j, (j ≠ 4 ∧ j ≠ 5 ∧ j ≠ k ∧ j ≠ k + 2) → f_6 j = f_5 j) → va_P G.1 vwCl (wl g f_6) H → va_S (gA g) s.heap H locs → lv_has ls 5 [(0, .ref (g 4)), (1, .ref (g k)), (2, .int (nI p1))] → W p l e (headSpec (wsT yX4_read cX4_read 5 (some .int)) ({ frames := 4, cells := 0, slots := 0, locals := 88 })).room s m ([.ref (g 4), .ref (g k)] : List Value).toArray below meth c H locs 0 0 (MQ below (bQi G g (fun (z9 : Int32) (f' : Nat → va_E) => ∃ mc9 : Nat, ∃ op9 : Int32, ∃ cm9 : Int32, ∃ wu9 : Int32, ∃ mk9 : Nat → Int32, ∃ sc9 : Nat, ∃ sp9 : Nat → Int32, f' 4 = eO 4 [.ref (g 5), .int (nI mc9), .int op9, .int cm9, .int wu9] ∧ f' 5 = eI G 50 mk9 ∧ f' k = eO 7 [.ref (g (k + 1)), .ref (g (k + 2)), .int (nI ln), .int (nI sc9)] ∧ f' (k + 2) = eI G 50 sp9 ∧ (mc9 ≤ 50) ∧ (sc9 ≤ 50) ∧ ∀ j, (j ≠ 4 ∧ j ≠ 5 ∧ j ≠ k ∧ j ≠ k + 2) → f' j = f j)) ([.ref (g 4), .ref (g k)] : List Value).toArray s 0 0 (gA g)) (F0 m 26 ls []) := by
    intro n9
    induction n9 with
    | zero => intro p1 mc1 op1 cm1 wu1 mk1 sc1 sp1 f_6 H locs ls hp1 hm1 hs1 hn9; exact absurd hn9 (Nat.not_lt_zero _)
    | succ n9 ih =>
      intro p1 mc1 op1 cm1 wu1 mk1 sc1 sp1 f_6 H locs ls hp1 hm1 hs1 hn9 hrd hmk htx hsx hpx o_6 hP hS hl
      refine lv_iload_n hx hb dX4_read_26 rfl (lv_at hl 2 rfl) ?_
      refine lv_aload_n hx hb dX4_read_27 rfl (lv_at hl 1 rfl) ?_
      refine rd_calli (va_runV (As := []) (rest := [.int (nI p1)]) ⟨hx, hb, hml, hown, hts⟩ (t_length l G g hg f_6 k ln sc1 htx (by first | assumption | omega | decide) (by first | assumption | omega | decide) (by first | assumption | omega | decide)) (my_cwV hts ok_X8_length w_294 rfl rfl ⟨Nat.le_of_ble_eq_true rfl, Nat.le_of_ble_eq_true rfl⟩) ⟨bP.blind, va_recv hG.1 hP (ci := 7) (q0 := k) rfl (wl_at (by omega) htx), fun U hU hW => ⟨rfl, by rw [hU]; exact hP, kG.warm hW hG⟩⟩ rfl rfl hl.1 rfl (lv_room (Nat.le_of_ble_eq_true rfl)) dX4_read_28 ⟨Nat.le_of_ble_eq_true rfl, Nat.le_of_ble_eq_true rfl⟩) (fun r hr9 => ?_)
      subst hr9
      refine lv_icmp_ge (tgt := 181) hx hb dX4_read_31 (by decide) (fun c_31 => ?_) (fun c_31 => ?_)
      · refine lv_aload_n hx hb dX4_read_181 rfl (lv_at hl 0 rfl) ?_
        refine va_get (D := G.1) (ci := 4) (v := .int wu1) (C := RX4) (T := TX4) (N := 5) hx hb hts inlX4 hown hG.1 hP 4 (wl_at (by decide) hrd) rfl 4 (by decide) (hts (.fieldLink RX4 30 "SwornLists$Reader" "wantsUnit" "Z") w_285) (fun _ h9 => h9) rfl dX4_read_182 ?_
        refine lv_if_ne (tgt := 195) hx hb dX4_read_185 (by decide) (fun c_185 => ?_) (fun c_185 => ?_)
        · refine lv_bipush (v := 10) hx hb dX4_read_195 (by decide) ?_
          refine lv_aload_n hx hb dX4_read_197 rfl (lv_at hl 1 rfl) ?_
          refine rd_calli (va_runV (As := []) (rest := [.int 10]) ⟨hx, hb, hml, hown, hts⟩ (t_length l G g hg f_6 k ln sc1 htx (by first | assumption | omega | decide) (by first | assumption | omega | decide) (by first | assumption | omega | decide)) (my_cwV hts ok_X8_length w_294 rfl rfl ⟨Nat.le_of_ble_eq_true rfl, Nat.le_of_ble_eq_true rfl⟩) ⟨bP.blind, va_recv hG.1 hP (ci := 7) (q0 := k) rfl (wl_at (by omega) htx), fun U hU hW => ⟨rfl, by rw [hU]; exact hP, kG.warm hW hG⟩⟩ rfl rfl hl.1 rfl (lv_room (Nat.le_of_ble_eq_true rfl)) dX4_read_198 ⟨Nat.le_of_ble_eq_true rfl, Nat.le_of_ble_eq_true rfl⟩) (fun r hr9 => ?_)
          subst hr9
          refine lv_imul hx hb dX4_read_201 ?_
          refine lv_iconst (v := 1) hx hb dX4_read_202 (by decide) ?_
          refine lv_iadd hx hb dX4_read_203 ?_
          exact W.iret (v := (10 * (nI ln)) + 1) hx hb hr (fun t ht hW => ⟨⟨_, f_6, rfl, (⟨mc1, op1, cm1, wu1, mk1, sc1, sp1, hrd, hmk, htx, hpx, by omega, by omega, fun j hj => ((((((o_6 j (by omega))).trans (o_5 j (by omega))).trans (o_4 j (by omega))).trans (o_3 j (by omega))).trans (o_2 j (by omega))).trans (o_1 j (by omega))⟩), by rw [ht]; exact hP⟩, hS.F ht⟩) hS.2.2 dX4_read_204
        · refine lv_aload_n hx hb dX4_read_188 rfl (lv_at hl 0 rfl) ?_
          refine va_get (D := G.1) (ci := 4) (v := .int op1) (C := RX4) (T := TX4) (N := 5) hx hb hts inlX4 hown hG.1 hP 4 (wl_at (by decide) hrd) rfl 2 (by decide) (hts (.fieldLink RX4 24 "SwornLists$Reader" "open" "I") w_283) (fun _ h9 => h9) rfl dX4_read_189 ?_
          refine lv_if_le (tgt := 205) hx hb dX4_read_192 (by decide) (fun c_192 => ?_) (fun c_192 => ?_)
          · refine lv_aload_n hx hb dX4_read_205 rfl (lv_at hl 0 rfl) ?_
            refine lv_aload_n hx hb dX4_read_206 rfl (lv_at hl 1 rfl) ?_
            refine lv_iconst (v := 1) hx hb dX4_read_207 (by decide) ?_
            refine b_callv (va_runV (As := [.ref (g k), .int 1]) (rest := []) ⟨hx, hb, hml, hown, hts⟩ (e_release l G g hg f_6 k ln sc1 sp1 mc1 op1 cm1 wu1 mk1 1 hrd hmk htx hpx (by first | assumption | omega | decide) (by first | assumption | omega | decide) (by first | assumption | omega | decide) (by first | assumption | omega | decide) (by first | assumption | omega | decide)) (my_cwV hts ok_X4_release w_331 rfl rfl ⟨Nat.le_of_ble_eq_true rfl, Nat.le_of_ble_eq_true rfl⟩) ⟨bP.blind, va_recv hG.1 hP (ci := 4) (q0 := 4) rfl (wl_at (by decide) hrd), fun U hU hW => ⟨rfl, by rw [hU]; exact hP, kG.warm hW hG⟩⟩ rfl rfl hl.1 rfl (lv_room (Nat.le_of_ble_eq_true rfl)) dX4_read_208 ⟨Nat.le_of_ble_eq_true rfl, Nat.le_of_ble_eq_true rfl⟩) hS (fun f_7 H locs hq9 hP hS => ?_)
            obtain ⟨mc92, sc93, sp94, hq_7_0, hq_7_1, hq_7_2, hx_7_0, hx_7_1, o_7⟩ := hq9
            replace hmk := (o_7 5 (by first | decide | omega)).trans hmk
            replace hsx : f_7 (k + 1) = eI G 50 sg := (o_7 (k + 1) (by omega)).trans hsx
            have hrd : f_7 4 = eO 4 [.ref (g 5), .int (nI mc92), .int op1, .int cm1, .int wu1] := hq_7_0
            have htx : f_7 k = eO 7 [.ref (g (k + 1)), .ref (g (k + 2)), .int (nI ln), .int (nI sc93)] := hq_7_1
            have hpx : f_7 (k + 2) = eI G 50 sp94 := hq_7_2
            refine lv_iconst (v := (-1)) hx hb dX4_read_211 (by decide) ?_
            exact W.iret (v := (-1)) hx hb hr (fun t ht hW => ⟨⟨_, f_7, rfl, (⟨mc92, op1, cm1, wu1, mk1, sc93, sp94, hrd, hmk, htx, hpx, by omega, by omega, fun j hj => (((((((o_7 j (by omega))).trans (o_6 j (by omega))).trans (o_5 j (by omega))).trans (o_4 j (by omega))).trans (o_3 j (by omega))).trans (o_2 j (by omega))).trans (o_1 j (by omega))⟩), by rw [ht]; exact hP⟩, hS.F ht⟩) hS.2.2 dX4_read_212
          · refine lv_bipush (v := 10) hx hb dX4_read_195 (by decide) ?_
            refine lv_aload_n hx hb dX4_read_197 rfl (lv_at hl 1 rfl) ?_
            refine rd_calli (va_runV (As := []) (rest := [.int 10]) ⟨hx, hb, hml, hown, hts⟩ (t_length l G g hg f_6 k ln sc1 htx (by first | assumption | omega | decide) (by first | assumption | omega | decide) (by first | assumption | omega | decide)) (my_cwV hts ok_X8_length w_294 rfl rfl ⟨Nat.le_of_ble_eq_true rfl, Nat.le_of_ble_eq_true rfl⟩) ⟨bP.blind, va_recv hG.1 hP (ci := 7) (q0 := k) rfl (wl_at (by omega) htx), fun U hU hW => ⟨rfl, by rw [hU]; exact hP, kG.warm hW hG⟩⟩ rfl rfl hl.1 rfl (lv_room (Nat.le_of_ble_eq_true rfl)) dX4_read_198 ⟨Nat.le_of_ble_eq_true rfl, Nat.le_of_ble_eq_true rfl⟩) (fun r hr9 => ?_)
            subst hr9
            refine lv_imul hx hb dX4_read_201 ?_
            refine lv_iconst (v := 1) hx hb dX4_read_202 (by decide) ?_
            refine lv_iadd hx hb dX4_read_203 ?_
            exact W.iret (v := (10 * (nI ln)) + 1) hx hb hr (fun t ht hW => ⟨⟨_, f_6, rfl, (⟨mc1, op1, cm1, wu1, mk1, sc1, sp1, hrd, hmk, htx, hpx, by omega, by omega, fun j hj => ((((((o_6 j (by omega))).trans (o_5 j (by omega))).trans (o_4 j (by omega))).trans (o_3 j (by omega))).trans (o_2 j (by omega))).trans (o_1 j (by omega))⟩), by rw [ht]; exact hP⟩, hS.F ht⟩) hS.2.2 dX4_read_204
      · have hlt : p1 < ln := Nat.not_le.mp (fun z => c_31 (nI_le z (by omega)))
        refine lv_aload_n hx hb dX4_read_34 rfl (lv_at hl 1 rfl) ?_
        refine lv_iload_n hx hb dX4_read_35 rfl (lv_at hl 2 rfl) ?_
        refine rd_calli (va_runV (As := [.int (nI p1)]) (rest := []) ⟨hx, hb, hml, hown, hts⟩ (t_signAt l G g hg f_6 k ln sc1 sg (nI p1) htx hsx (by first | assumption | omega | decide) (by first | assumption | omega | decide) (by first | assumption | omega | decide)) (my_cwV hts ok_X8_signAt w_298 rfl rfl ⟨Nat.le_of_ble_eq_true rfl, Nat.le_of_ble_eq_true rfl⟩) ⟨bP.blind, va_recv hG.1 hP (ci := 7) (q0 := k) rfl (wl_at (by omega) htx), fun U hU hW => ⟨rfl, by rw [hU]; exact hP, kG.warm hW hG⟩⟩ rfl rfl hl.1 rfl (lv_room (Nat.le_of_ble_eq_true rfl)) dX4_read_36 ⟨Nat.le_of_ble_eq_true rfl, Nat.le_of_ble_eq_true rfl⟩) (fun r hr9 => ?_)
        subst hr9
        refine lv_istore_n (lv' := [(3, .int (if inN (nI p1) ln = true then sg (Int32.toNatClampNeg (nI p1)) else 0)), (0, .ref (g 4)), (1, .ref (g k)), (2, .int (nI p1))]) hx hb dX4_read_39 rfl hl (by decide) rfl (fun ls hl => ?_)
        refine lv_aload_n hx hb dX4_read_40 rfl (lv_at hl 1 rfl) ?_
        refine va_get (D := G.1) (ci := 4) (v := .int wu1) (C := RX4) (T := TX4) (N := 5) hx hb hts inlX4 hown hG.1 hP 4 (wl_at (by decide) hrd) rfl 4 (by decide) (hts (.fieldLink RX4 30 "SwornLists$Reader" "wantsUnit" "Z") w_285) (fun _ h9 => h9) rfl dX4_read_41 ?_
        refine lv_if_eq (tgt := 105) hx hb dX4_read_44 (by decide) (fun c_44 => ?_) (fun c_44 => ?_)
        · refine lv_aload_n hx hb dX4_read_105 rfl (lv_at hl 1 rfl) ?_
          refine va_get (D := G.1) (ci := 4) (v := .int wu1) (C := RX4) (T := TX4) (N := 5) hx hb hts inlX4 hown hG.1 hP 4 (wl_at (by decide) hrd) rfl 4 (by decide) (hts (.fieldLink RX4 30 "SwornLists$Reader" "wantsUnit" "Z") w_285) (fun _ h9 => h9) rfl dX4_read_106 ?_
          refine lv_if_eq (tgt := 134) hx hb dX4_read_109 (by decide) (fun c_109 => ?_) (fun c_109 => ?_)
          · refine lv_iload_n hx hb dX4_read_134 rfl (lv_at hl 0 rfl) ?_
            refine lv_bipush (v := 32) hx hb dX4_read_135 (by decide) ?_
            refine lv_icmp_eq (tgt := 175) hx hb dX4_read_137 (by decide) (fun c_137 => ?_) (fun c_137 => ?_)
            · refine lv_iinc (v := nI (p1 + 1)) (lv' := [(2, .int (nI (p1 + 1))), (3, .int (if inN (nI p1) ln = true then sg (Int32.toNatClampNeg (nI p1)) else 0)), (0, .ref (g 4)), (1, .ref (g k))]) hx hb dX4_read_175 hl (k := 3) rfl (nI_1 _) (by decide) rfl (fun ls hl => ?_)
              refine lv_goto (tgt := 26) hx hb dX4_read_178 (by decide) ?_
              exact ih (p1 + 1) mc1 op1 cm1 wu1 mk1 sc1 sp1 f_6 _ _ _ (by omega) (by omega) (by omega) (by omega) (hrd) (hmk) (htx) (hsx) (hpx) (fun j hj => (o_6 j (by omega))) hP hS (lv_sub hl [2, 3, 0] rfl)
            · refine lv_aload_n hx hb dX4_read_140 rfl (lv_at hl 1 rfl) ?_
              refine va_get (D := G.1) (ci := 4) (v := .int wu1) (C := RX4) (T := TX4) (N := 5) hx hb hts inlX4 hown hG.1 hP 4 (wl_at (by decide) hrd) rfl 4 (by decide) (hts (.fieldLink RX4 30 "SwornLists$Reader" "wantsUnit" "Z") w_285) (fun _ h9 => h9) rfl dX4_read_141 ?_
              refine lv_if_eq (tgt := 159) hx hb dX4_read_144 (by decide) (fun c_144 => ?_) (fun c_144 => ?_)
              · refine lv_aload_n hx hb dX4_read_159 rfl (lv_at hl 1 rfl) ?_
                refine lv_aload_n hx hb dX4_read_160 rfl (lv_at hl 2 rfl) ?_
                refine lv_iload_n hx hb dX4_read_161 rfl (lv_at hl 0 rfl) ?_
                refine b_calli (va_runV (As := [.ref (g k), .int (if inN (nI p1) ln = true then sg (Int32.toNatClampNeg (nI p1)) else 0)]) (rest := []) ⟨hx, hb, hml, hown, hts⟩ (e_goesOn l G g hg f_6 k ln sc1 sp1 mc1 op1 cm1 wu1 mk1 (if inN (nI p1) ln = true then sg (Int32.toNatClampNeg (nI p1)) else 0) hrd hmk htx hpx (by first | assumption | omega | decide) (by first | assumption | omega | decide) (by first | assumption | omega | decide) (by first | assumption | omega | decide) (by first | assumption | omega | decide)) (my_cwV hts ok_X4_goesOn w_323 rfl rfl ⟨Nat.le_of_ble_eq_true rfl, Nat.le_of_ble_eq_true rfl⟩) ⟨bP.blind, va_recv hG.1 hP (ci := 4) (q0 := 4) rfl (wl_at (by decide) hrd), fun U hU hW => ⟨rfl, by rw [hU]; exact hP, kG.warm hW hG⟩⟩ rfl rfl hl.1 rfl (lv_room (Nat.le_of_ble_eq_true rfl)) dX4_read_162 ⟨Nat.le_of_ble_eq_true rfl, Nat.le_of_ble_eq_true rfl⟩) hS (fun v5 f_8 H locs hq9 hP hS => ?_)
                obtain ⟨bz6, mc97, op98, cm99, wu910, mk911, sc912, sp913, rfl, hq_8_0, hq_8_1, hq_8_2, hq_8_3, hx_8_0, hx_8_1, o_8⟩ := hq9
                replace hsx : f_8 (k + 1) = eI G 50 sg := (o_8 (k + 1) (by omega)).trans hsx
                have hrd : f_8 4 = eO 4 [.ref (g 5), .int (nI mc97), .int op98, .int cm99, .int wu910] := hq_8_0
                have hmk : f_8 5 = eI G 50 mk911 := hq_8_1
                have htx : f_8 k = eO 7 [.ref (g (k + 1)), .ref (g (k + 2)), .int (nI ln), .int (nI sc912)] := hq_8_2
                have hpx : f_8 (k + 2) = eI G 50 sp913 := hq_8_3
                refine my_ifne (tgt := 175) hx hb dX4_read_165 (by decide) (fun c_165 => ?_) (fun c_165 => ?_)
                · refine lv_iinc (v := nI (p1 + 1)) (lv' := [(2, .int (nI (p1 + 1))), (3, .int (if inN (nI p1) ln = true then sg (Int32.toNatClampNeg (nI p1)) else 0)), (0, .ref (g 4)), (1, .ref (g k))]) hx hb dX4_read_175 hl (k := 3) rfl (nI_1 _) (by decide) rfl (fun ls hl => ?_)
                  refine lv_goto (tgt := 26) hx hb dX4_read_178 (by decide) ?_
                  exact ih (p1 + 1) mc97 op98 cm99 wu910 mk911 sc912 sp913 f_8 _ _ _ (by omega) (by omega) (by omega) (by omega) (hrd) (hmk) (htx) (hsx) (hpx) (fun j hj => ((o_8 j (by omega))).trans (o_6 j (by omega))) hP hS (lv_sub hl [2, 3, 0] rfl)
                · refine lv_bipush (v := 10) hx hb dX4_read_168 (by decide) ?_
                  refine lv_iload_n hx hb dX4_read_170 rfl (lv_at hl 3 rfl) ?_
                  refine lv_imul hx hb dX4_read_171 ?_
                  refine lv_iconst (v := 1) hx hb dX4_read_172 (by decide) ?_
                  refine lv_iadd hx hb dX4_read_173 ?_
                  exact W.iret (v := (10 * (nI p1)) + 1) hx hb hr (fun t ht hW => ⟨⟨_, f_8, rfl, (⟨mc97, op98, cm99, wu910, mk911, sc912, sp913, hrd, hmk, htx, hpx, by omega, by omega, fun j hj => (((((((o_8 j (by omega))).trans (o_6 j (by omega))).trans (o_5 j (by omega))).trans (o_4 j (by omega))).trans (o_3 j (by omega))).trans (o_2 j (by omega))).trans (o_1 j (by omega))⟩), by rw [ht]; exact hP⟩, hS.F ht⟩) hS.2.2 dX4_read_174
              · refine lv_aload_n hx hb dX4_read_147 rfl (lv_at hl 1 rfl) ?_
                refine lv_aload_n hx hb dX4_read_148 rfl (lv_at hl 2 rfl) ?_
                refine lv_iload_n hx hb dX4_read_149 rfl (lv_at hl 0 rfl) ?_
                refine b_calli (va_runV (As := [.ref (g k), .int (if inN (nI p1) ln = true then sg (Int32.toNatClampNeg (nI p1)) else 0)]) (rest := []) ⟨hx, hb, hml, hown, hts⟩ (e_startsUnit l G g hg f_6 k ln sc1 sp1 mc1 op1 cm1 wu1 mk1 (if inN (nI p1) ln = true then sg (Int32.toNatClampNeg (nI p1)) else 0) hrd hmk htx hpx (by first | assumption | omega | decide) (by first | assumption | omega | decide) (by first | assumption | omega | decide) (by first | assumption | omega | decide) (by first | assumption | omega | decide)) (my_cwV hts ok_X4_startsUnit w_315 rfl rfl ⟨Nat.le_of_ble_eq_true rfl, Nat.le_of_ble_eq_true rfl⟩) ⟨bP.blind, va_recv hG.1 hP (ci := 4) (q0 := 4) rfl (wl_at (by decide) hrd), fun U hU hW => ⟨rfl, by rw [hU]; exact hP, kG.warm hW hG⟩⟩ rfl rfl hl.1 rfl (lv_room (Nat.le_of_ble_eq_true rfl)) dX4_read_150 ⟨Nat.le_of_ble_eq_true rfl, Nat.le_of_ble_eq_true rfl⟩) hS (fun v14 f_9 H locs hq9 hP hS => ?_)
                obtain ⟨bz15, mc916, op917, cm918, wu919, mk920, sc921, sp922, rfl, hq_9_0, hq_9_1, hq_9_2, hq_9_3, hx_9_0, hx_9_1, o_9⟩ := hq9
                replace hsx : f_9 (k + 1) = eI G 50 sg := (o_9 (k + 1) (by omega)).trans hsx
                have hrd : f_9 4 = eO 4 [.ref (g 5), .int (nI mc916), .int op917, .int cm918, .int wu919] := hq_9_0
                have hmk : f_9 5 = eI G 50 mk920 := hq_9_1
                have htx : f_9 k = eO 7 [.ref (g (k + 1)), .ref (g (k + 2)), .int (nI ln), .int (nI sc921)] := hq_9_2
                have hpx : f_9 (k + 2) = eI G 50 sp922 := hq_9_3
                refine my_ifeq (tgt := 168) hx hb dX4_read_153 (by decide) (fun c_153 => ?_) (fun c_153 => ?_)
                · refine lv_bipush (v := 10) hx hb dX4_read_168 (by decide) ?_
                  refine lv_iload_n hx hb dX4_read_170 rfl (lv_at hl 3 rfl) ?_
                  refine lv_imul hx hb dX4_read_171 ?_
                  refine lv_iconst (v := 1) hx hb dX4_read_172 (by decide) ?_
                  refine lv_iadd hx hb dX4_read_173 ?_
                  exact W.iret (v := (10 * (nI p1)) + 1) hx hb hr (fun t ht hW => ⟨⟨_, f_9, rfl, (⟨mc916, op917, cm918, wu919, mk920, sc921, sp922, hrd, hmk, htx, hpx, by omega, by omega, fun j hj => (((((((o_9 j (by omega))).trans (o_6 j (by omega))).trans (o_5 j (by omega))).trans (o_4 j (by omega))).trans (o_3 j (by omega))).trans (o_2 j (by omega))).trans (o_1 j (by omega))⟩), by rw [ht]; exact hP⟩, hS.F ht⟩) hS.2.2 dX4_read_174
                · refine lv_goto (tgt := 175) hx hb dX4_read_156 (by decide) ?_
                  refine lv_iinc (v := nI (p1 + 1)) (lv' := [(2, .int (nI (p1 + 1))), (3, .int (if inN (nI p1) ln = true then sg (Int32.toNatClampNeg (nI p1)) else 0)), (0, .ref (g 4)), (1, .ref (g k))]) hx hb dX4_read_175 hl (k := 3) rfl (nI_1 _) (by decide) rfl (fun ls hl => ?_)
                  refine lv_goto (tgt := 26) hx hb dX4_read_178 (by decide) ?_
                  exact ih (p1 + 1) mc916 op917 cm918 wu919 mk920 sc921 sp922 f_9 _ _ _ (by omega) (by omega) (by omega) (by omega) (hrd) (hmk) (htx) (hsx) (hpx) (fun j hj => ((o_9 j (by omega))).trans (o_6 j (by omega))) hP hS (lv_sub hl [2, 3, 0] rfl)
          · refine lv_iload_n hx hb dX4_read_112 rfl (lv_at hl 0 rfl) ?_
            refine lv_bipush (v := 40) hx hb dX4_read_113 (by decide) ?_
            refine lv_icmp_ne (tgt := 134) hx hb dX4_read_115 (by decide) (fun c_115 => ?_) (fun c_115 => ?_)
            · refine lv_iload_n hx hb dX4_read_134 rfl (lv_at hl 0 rfl) ?_
              refine lv_bipush (v := 32) hx hb dX4_read_135 (by decide) ?_
              refine lv_icmp_eq (tgt := 175) hx hb dX4_read_137 (by decide) (fun c_137 => ?_) (fun c_137 => ?_)
              · refine lv_iinc (v := nI (p1 + 1)) (lv' := [(2, .int (nI (p1 + 1))), (3, .int (if inN (nI p1) ln = true then sg (Int32.toNatClampNeg (nI p1)) else 0)), (0, .ref (g 4)), (1, .ref (g k))]) hx hb dX4_read_175 hl (k := 3) rfl (nI_1 _) (by decide) rfl (fun ls hl => ?_)
                refine lv_goto (tgt := 26) hx hb dX4_read_178 (by decide) ?_
                exact ih (p1 + 1) mc1 op1 cm1 wu1 mk1 sc1 sp1 f_6 _ _ _ (by omega) (by omega) (by omega) (by omega) (hrd) (hmk) (htx) (hsx) (hpx) (fun j hj => (o_6 j (by omega))) hP hS (lv_sub hl [2, 3, 0] rfl)
              · refine lv_aload_n hx hb dX4_read_140 rfl (lv_at hl 1 rfl) ?_
                refine va_get (D := G.1) (ci := 4) (v := .int wu1) (C := RX4) (T := TX4) (N := 5) hx hb hts inlX4 hown hG.1 hP 4 (wl_at (by decide) hrd) rfl 4 (by decide) (hts (.fieldLink RX4 30 "SwornLists$Reader" "wantsUnit" "Z") w_285) (fun _ h9 => h9) rfl dX4_read_141 ?_
                refine lv_if_eq (tgt := 159) hx hb dX4_read_144 (by decide) (fun c_144 => ?_) (fun c_144 => ?_)
                · refine lv_aload_n hx hb dX4_read_159 rfl (lv_at hl 1 rfl) ?_
                  refine lv_aload_n hx hb dX4_read_160 rfl (lv_at hl 2 rfl) ?_
                  refine lv_iload_n hx hb dX4_read_161 rfl (lv_at hl 0 rfl) ?_
                  refine b_calli (va_runV (As := [.ref (g k), .int (if inN (nI p1) ln = true then sg (Int32.toNatClampNeg (nI p1)) else 0)]) (rest := []) ⟨hx, hb, hml, hown, hts⟩ (e_goesOn l G g hg f_6 k ln sc1 sp1 mc1 op1 cm1 wu1 mk1 (if inN (nI p1) ln = true then sg (Int32.toNatClampNeg (nI p1)) else 0) hrd hmk htx hpx (by first | assumption | omega | decide) (by first | assumption | omega | decide) (by first | assumption | omega | decide) (by first | assumption | omega | decide) (by first | assumption | omega | decide)) (my_cwV hts ok_X4_goesOn w_323 rfl rfl ⟨Nat.le_of_ble_eq_true rfl, Nat.le_of_ble_eq_true rfl⟩) ⟨bP.blind, va_recv hG.1 hP (ci := 4) (q0 := 4) rfl (wl_at (by decide) hrd), fun U hU hW => ⟨rfl, by rw [hU]; exact hP, kG.warm hW hG⟩⟩ rfl rfl hl.1 rfl (lv_room (Nat.le_of_ble_eq_true rfl)) dX4_read_162 ⟨Nat.le_of_ble_eq_true rfl, Nat.le_of_ble_eq_true rfl⟩) hS (fun v23 f_10 H locs hq9 hP hS => ?_)
                  obtain ⟨bz24, mc925, op926, cm927, wu928, mk929, sc930, sp931, rfl, hq_10_0, hq_10_1, hq_10_2, hq_10_3, hx_10_0, hx_10_1, o_10⟩ := hq9
                  replace hsx : f_10 (k + 1) = eI G 50 sg := (o_10 (k + 1) (by omega)).trans hsx
                  have hrd : f_10 4 = eO 4 [.ref (g 5), .int (nI mc925), .int op926, .int cm927, .int wu928] := hq_10_0
                  have hmk : f_10 5 = eI G 50 mk929 := hq_10_1
                  have htx : f_10 k = eO 7 [.ref (g (k + 1)), .ref (g (k + 2)), .int (nI ln), .int (nI sc930)] := hq_10_2
                  have hpx : f_10 (k + 2) = eI G 50 sp931 := hq_10_3
                  refine my_ifne (tgt := 175) hx hb dX4_read_165 (by decide) (fun c_165 => ?_) (fun c_165 => ?_)
                  · refine lv_iinc (v := nI (p1 + 1)) (lv' := [(2, .int (nI (p1 + 1))), (3, .int (if inN (nI p1) ln = true then sg (Int32.toNatClampNeg (nI p1)) else 0)), (0, .ref (g 4)), (1, .ref (g k))]) hx hb dX4_read_175 hl (k := 3) rfl (nI_1 _) (by decide) rfl (fun ls hl => ?_)
                    refine lv_goto (tgt := 26) hx hb dX4_read_178 (by decide) ?_
                    exact ih (p1 + 1) mc925 op926 cm927 wu928 mk929 sc930 sp931 f_10 _ _ _ (by omega) (by omega) (by omega) (by omega) (hrd) (hmk) (htx) (hsx) (hpx) (fun j hj => ((o_10 j (by omega))).trans (o_6 j (by omega))) hP hS (lv_sub hl [2, 3, 0] rfl)
                  · refine lv_bipush (v := 10) hx hb dX4_read_168 (by decide) ?_
                    refine lv_iload_n hx hb dX4_read_170 rfl (lv_at hl 3 rfl) ?_
                    refine lv_imul hx hb dX4_read_171 ?_
                    refine lv_iconst (v := 1) hx hb dX4_read_172 (by decide) ?_
                    refine lv_iadd hx hb dX4_read_173 ?_
                    exact W.iret (v := (10 * (nI p1)) + 1) hx hb hr (fun t ht hW => ⟨⟨_, f_10, rfl, (⟨mc925, op926, cm927, wu928, mk929, sc930, sp931, hrd, hmk, htx, hpx, by omega, by omega, fun j hj => (((((((o_10 j (by omega))).trans (o_6 j (by omega))).trans (o_5 j (by omega))).trans (o_4 j (by omega))).trans (o_3 j (by omega))).trans (o_2 j (by omega))).trans (o_1 j (by omega))⟩), by rw [ht]; exact hP⟩, hS.F ht⟩) hS.2.2 dX4_read_174
                · refine lv_aload_n hx hb dX4_read_147 rfl (lv_at hl 1 rfl) ?_
                  refine lv_aload_n hx hb dX4_read_148 rfl (lv_at hl 2 rfl) ?_
                  refine lv_iload_n hx hb dX4_read_149 rfl (lv_at hl 0 rfl) ?_
                  refine b_calli (va_runV (As := [.ref (g k), .int (if inN (nI p1) ln = true then sg (Int32.toNatClampNeg (nI p1)) else 0)]) (rest := []) ⟨hx, hb, hml, hown, hts⟩ (e_startsUnit l G g hg f_6 k ln sc1 sp1 mc1 op1 cm1 wu1 mk1 (if inN (nI p1) ln = true then sg (Int32.toNatClampNeg (nI p1)) else 0) hrd hmk htx hpx (by first | assumption | omega | decide) (by first | assumption | omega | decide) (by first | assumption | omega | decide) (by first | assumption | omega | decide) (by first | assumption | omega | decide)) (my_cwV hts ok_X4_startsUnit w_315 rfl rfl ⟨Nat.le_of_ble_eq_true rfl, Nat.le_of_ble_eq_true rfl⟩) ⟨bP.blind, va_recv hG.1 hP (ci := 4) (q0 := 4) rfl (wl_at (by decide) hrd), fun U hU hW => ⟨rfl, by rw [hU]; exact hP, kG.warm hW hG⟩⟩ rfl rfl hl.1 rfl (lv_room (Nat.le_of_ble_eq_true rfl)) dX4_read_150 ⟨Nat.le_of_ble_eq_true rfl, Nat.le_of_ble_eq_true rfl⟩) hS (fun v32 f_11 H locs hq9 hP hS => ?_)
                  obtain ⟨bz33, mc934, op935, cm936, wu937, mk938, sc939, sp940, rfl, hq_11_0, hq_11_1, hq_11_2, hq_11_3, hx_11_0, hx_11_1, o_11⟩ := hq9
                  replace hsx : f_11 (k + 1) = eI G 50 sg := (o_11 (k + 1) (by omega)).trans hsx
                  have hrd : f_11 4 = eO 4 [.ref (g 5), .int (nI mc934), .int op935, .int cm936, .int wu937] := hq_11_0
                  have hmk : f_11 5 = eI G 50 mk938 := hq_11_1
                  have htx : f_11 k = eO 7 [.ref (g (k + 1)), .ref (g (k + 2)), .int (nI ln), .int (nI sc939)] := hq_11_2
                  have hpx : f_11 (k + 2) = eI G 50 sp940 := hq_11_3
                  refine my_ifeq (tgt := 168) hx hb dX4_read_153 (by decide) (fun c_153 => ?_) (fun c_153 => ?_)
                  · refine lv_bipush (v := 10) hx hb dX4_read_168 (by decide) ?_
                    refine lv_iload_n hx hb dX4_read_170 rfl (lv_at hl 3 rfl) ?_
                    refine lv_imul hx hb dX4_read_171 ?_
                    refine lv_iconst (v := 1) hx hb dX4_read_172 (by decide) ?_
                    refine lv_iadd hx hb dX4_read_173 ?_
                    exact W.iret (v := (10 * (nI p1)) + 1) hx hb hr (fun t ht hW => ⟨⟨_, f_11, rfl, (⟨mc934, op935, cm936, wu937, mk938, sc939, sp940, hrd, hmk, htx, hpx, by omega, by omega, fun j hj => (((((((o_11 j (by omega))).trans (o_6 j (by omega))).trans (o_5 j (by omega))).trans (o_4 j (by omega))).trans (o_3 j (by omega))).trans (o_2 j (by omega))).trans (o_1 j (by omega))⟩), by rw [ht]; exact hP⟩, hS.F ht⟩) hS.2.2 dX4_read_174
                  · refine lv_goto (tgt := 175) hx hb dX4_read_156 (by decide) ?_
                    refine lv_iinc (v := nI (p1 + 1)) (lv' := [(2, .int (nI (p1 + 1))), (3, .int (if inN (nI p1) ln = true then sg (Int32.toNatClampNeg (nI p1)) else 0)), (0, .ref (g 4)), (1, .ref (g k))]) hx hb dX4_read_175 hl (k := 3) rfl (nI_1 _) (by decide) rfl (fun ls hl => ?_)
                    refine lv_goto (tgt := 26) hx hb dX4_read_178 (by decide) ?_
                    exact ih (p1 + 1) mc934 op935 cm936 wu937 mk938 sc939 sp940 f_11 _ _ _ (by omega) (by omega) (by omega) (by omega) (hrd) (hmk) (htx) (hsx) (hpx) (fun j hj => ((o_11 j (by omega))).trans (o_6 j (by omega))) hP hS (lv_sub hl [2, 3, 0] rfl)
            · refine lv_aload_n hx hb dX4_read_118 rfl (lv_at hl 1 rfl) ?_
              refine va_get (D := G.1) (ci := 4) (v := .int op1) (C := RX4) (T := TX4) (N := 5) hx hb hts inlX4 hown hG.1 hP 4 (wl_at (by decide) hrd) rfl 2 (by decide) (hts (.fieldLink RX4 24 "SwornLists$Reader" "open" "I") w_283) (fun _ h9 => h9) rfl dX4_read_119 ?_
              refine lv_bipush (v := 8) hx hb dX4_read_122 (by decide) ?_
              refine lv_icmp_lt (tgt := 134) hx hb dX4_read_124 (by decide) (fun c_124 => ?_) (fun c_124 => ?_)
              · refine lv_iload_n hx hb dX4_read_134 rfl (lv_at hl 0 rfl) ?_
                refine lv_bipush (v := 32) hx hb dX4_read_135 (by decide) ?_
                refine lv_icmp_eq (tgt := 175) hx hb dX4_read_137 (by decide) (fun c_137 => ?_) (fun c_137 => ?_)
                · refine lv_iinc (v := nI (p1 + 1)) (lv' := [(2, .int (nI (p1 + 1))), (3, .int (if inN (nI p1) ln = true then sg (Int32.toNatClampNeg (nI p1)) else 0)), (0, .ref (g 4)), (1, .ref (g k))]) hx hb dX4_read_175 hl (k := 3) rfl (nI_1 _) (by decide) rfl (fun ls hl => ?_)
                  refine lv_goto (tgt := 26) hx hb dX4_read_178 (by decide) ?_
                  exact ih (p1 + 1) mc1 op1 cm1 wu1 mk1 sc1 sp1 f_6 _ _ _ (by omega) (by omega) (by omega) (by omega) (hrd) (hmk) (htx) (hsx) (hpx) (fun j hj => (o_6 j (by omega))) hP hS (lv_sub hl [2, 3, 0] rfl)
                · refine lv_aload_n hx hb dX4_read_140 rfl (lv_at hl 1 rfl) ?_
                  refine va_get (D := G.1) (ci := 4) (v := .int wu1) (C := RX4) (T := TX4) (N := 5) hx hb hts inlX4 hown hG.1 hP 4 (wl_at (by decide) hrd) rfl 4 (by decide) (hts (.fieldLink RX4 30 "SwornLists$Reader" "wantsUnit" "Z") w_285) (fun _ h9 => h9) rfl dX4_read_141 ?_
                  refine lv_if_eq (tgt := 159) hx hb dX4_read_144 (by decide) (fun c_144 => ?_) (fun c_144 => ?_)
                  · refine lv_aload_n hx hb dX4_read_159 rfl (lv_at hl 1 rfl) ?_
                    refine lv_aload_n hx hb dX4_read_160 rfl (lv_at hl 2 rfl) ?_
                    refine lv_iload_n hx hb dX4_read_161 rfl (lv_at hl 0 rfl) ?_
                    refine b_calli (va_runV (As := [.ref (g k), .int (if inN (nI p1) ln = true then sg (Int32.toNatClampNeg (nI p1)) else 0)]) (rest := []) ⟨hx, hb, hml, hown, hts⟩ (e_goesOn l G g hg f_6 k ln sc1 sp1 mc1 op1 cm1 wu1 mk1 (if inN (nI p1) ln = true then sg (Int32.toNatClampNeg (nI p1)) else 0) hrd hmk htx hpx (by first | assumption | omega | decide) (by first | assumption | omega | decide) (by first | assumption | omega | decide) (by first | assumption | omega | decide) (by first | assumption | omega | decide)) (my_cwV hts ok_X4_goesOn w_323 rfl rfl ⟨Nat.le_of_ble_eq_true rfl, Nat.le_of_ble_eq_true rfl⟩) ⟨bP.blind, va_recv hG.1 hP (ci := 4) (q0 := 4) rfl (wl_at (by decide) hrd), fun U hU hW => ⟨rfl, by rw [hU]; exact hP, kG.warm hW hG⟩⟩ rfl rfl hl.1 rfl (lv_room (Nat.le_of_ble_eq_true rfl)) dX4_read_162 ⟨Nat.le_of_ble_eq_true rfl, Nat.le_of_ble_eq_true rfl⟩) hS (fun v41 f_12 H locs hq9 hP hS => ?_)
                    obtain ⟨bz42, mc943, op944, cm945, wu946, mk947, sc948, sp949, rfl, hq_12_0, hq_12_1, hq_12_2, hq_12_3, hx_12_0, hx_12_1, o_12⟩ := hq9
                    replace hsx : f_12 (k + 1) = eI G 50 sg := (o_12 (k + 1) (by omega)).trans hsx
                    have hrd : f_12 4 = eO 4 [.ref (g 5), .int (nI mc943), .int op944, .int cm945, .int wu946] := hq_12_0
                    have hmk : f_12 5 = eI G 50 mk947 := hq_12_1
                    have htx : f_12 k = eO 7 [.ref (g (k + 1)), .ref (g (k + 2)), .int (nI ln), .int (nI sc948)] := hq_12_2
                    have hpx : f_12 (k + 2) = eI G 50 sp949 := hq_12_3
                    refine my_ifne (tgt := 175) hx hb dX4_read_165 (by decide) (fun c_165 => ?_) (fun c_165 => ?_)
                    · refine lv_iinc (v := nI (p1 + 1)) (lv' := [(2, .int (nI (p1 + 1))), (3, .int (if inN (nI p1) ln = true then sg (Int32.toNatClampNeg (nI p1)) else 0)), (0, .ref (g 4)), (1, .ref (g k))]) hx hb dX4_read_175 hl (k := 3) rfl (nI_1 _) (by decide) rfl (fun ls hl => ?_)
                      refine lv_goto (tgt := 26) hx hb dX4_read_178 (by decide) ?_
                      exact ih (p1 + 1) mc943 op944 cm945 wu946 mk947 sc948 sp949 f_12 _ _ _ (by omega) (by omega) (by omega) (by omega) (hrd) (hmk) (htx) (hsx) (hpx) (fun j hj => ((o_12 j (by omega))).trans (o_6 j (by omega))) hP hS (lv_sub hl [2, 3, 0] rfl)
                    · refine lv_bipush (v := 10) hx hb dX4_read_168 (by decide) ?_
                      refine lv_iload_n hx hb dX4_read_170 rfl (lv_at hl 3 rfl) ?_
                      refine lv_imul hx hb dX4_read_171 ?_
                      refine lv_iconst (v := 1) hx hb dX4_read_172 (by decide) ?_
                      refine lv_iadd hx hb dX4_read_173 ?_
                      exact W.iret (v := (10 * (nI p1)) + 1) hx hb hr (fun t ht hW => ⟨⟨_, f_12, rfl, (⟨mc943, op944, cm945, wu946, mk947, sc948, sp949, hrd, hmk, htx, hpx, by omega, by omega, fun j hj => (((((((o_12 j (by omega))).trans (o_6 j (by omega))).trans (o_5 j (by omega))).trans (o_4 j (by omega))).trans (o_3 j (by omega))).trans (o_2 j (by omega))).trans (o_1 j (by omega))⟩), by rw [ht]; exact hP⟩, hS.F ht⟩) hS.2.2 dX4_read_174
                  · refine lv_aload_n hx hb dX4_read_147 rfl (lv_at hl 1 rfl) ?_
                    refine lv_aload_n hx hb dX4_read_148 rfl (lv_at hl 2 rfl) ?_
                    refine lv_iload_n hx hb dX4_read_149 rfl (lv_at hl 0 rfl) ?_
                    refine b_calli (va_runV (As := [.ref (g k), .int (if inN (nI p1) ln = true then sg (Int32.toNatClampNeg (nI p1)) else 0)]) (rest := []) ⟨hx, hb, hml, hown, hts⟩ (e_startsUnit l G g hg f_6 k ln sc1 sp1 mc1 op1 cm1 wu1 mk1 (if inN (nI p1) ln = true then sg (Int32.toNatClampNeg (nI p1)) else 0) hrd hmk htx hpx (by first | assumption | omega | decide) (by first | assumption | omega | decide) (by first | assumption | omega | decide) (by first | assumption | omega | decide) (by first | assumption | omega | decide)) (my_cwV hts ok_X4_startsUnit w_315 rfl rfl ⟨Nat.le_of_ble_eq_true rfl, Nat.le_of_ble_eq_true rfl⟩) ⟨bP.blind, va_recv hG.1 hP (ci := 4) (q0 := 4) rfl (wl_at (by decide) hrd), fun U hU hW => ⟨rfl, by rw [hU]; exact hP, kG.warm hW hG⟩⟩ rfl rfl hl.1 rfl (lv_room (Nat.le_of_ble_eq_true rfl)) dX4_read_150 ⟨Nat.le_of_ble_eq_true rfl, Nat.le_of_ble_eq_true rfl⟩) hS (fun v50 f_13 H locs hq9 hP hS => ?_)
                    obtain ⟨bz51, mc952, op953, cm954, wu955, mk956, sc957, sp958, rfl, hq_13_0, hq_13_1, hq_13_2, hq_13_3, hx_13_0, hx_13_1, o_13⟩ := hq9
                    replace hsx : f_13 (k + 1) = eI G 50 sg := (o_13 (k + 1) (by omega)).trans hsx
                    have hrd : f_13 4 = eO 4 [.ref (g 5), .int (nI mc952), .int op953, .int cm954, .int wu955] := hq_13_0
                    have hmk : f_13 5 = eI G 50 mk956 := hq_13_1
                    have htx : f_13 k = eO 7 [.ref (g (k + 1)), .ref (g (k + 2)), .int (nI ln), .int (nI sc957)] := hq_13_2
                    have hpx : f_13 (k + 2) = eI G 50 sp958 := hq_13_3
                    refine my_ifeq (tgt := 168) hx hb dX4_read_153 (by decide) (fun c_153 => ?_) (fun c_153 => ?_)
                    · refine lv_bipush (v := 10) hx hb dX4_read_168 (by decide) ?_
                      refine lv_iload_n hx hb dX4_read_170 rfl (lv_at hl 3 rfl) ?_
                      refine lv_imul hx hb dX4_read_171 ?_
                      refine lv_iconst (v := 1) hx hb dX4_read_172 (by decide) ?_
                      refine lv_iadd hx hb dX4_read_173 ?_
                      exact W.iret (v := (10 * (nI p1)) + 1) hx hb hr (fun t ht hW => ⟨⟨_, f_13, rfl, (⟨mc952, op953, cm954, wu955, mk956, sc957, sp958, hrd, hmk, htx, hpx, by omega, by omega, fun j hj => (((((((o_13 j (by omega))).trans (o_6 j (by omega))).trans (o_5 j (by omega))).trans (o_4 j (by omega))).trans (o_3 j (by omega))).trans (o_2 j (by omega))).trans (o_1 j (by omega))⟩), by rw [ht]; exact hP⟩, hS.F ht⟩) hS.2.2 dX4_read_174
                    · refine lv_goto (tgt := 175) hx hb dX4_read_156 (by decide) ?_
                      refine lv_iinc (v := nI (p1 + 1)) (lv' := [(2, .int (nI (p1 + 1))), (3, .int (if inN (nI p1) ln = true then sg (Int32.toNatClampNeg (nI p1)) else 0)), (0, .ref (g 4)), (1, .ref (g k))]) hx hb dX4_read_175 hl (k := 3) rfl (nI_1 _) (by decide) rfl (fun ls hl => ?_)
                      refine lv_goto (tgt := 26) hx hb dX4_read_178 (by decide) ?_
                      exact ih (p1 + 1) mc952 op953 cm954 wu955 mk956 sc957 sp958 f_13 _ _ _ (by omega) (by omega) (by omega) (by omega) (hrd) (hmk) (htx) (hsx) (hpx) (fun j hj => ((o_13 j (by omega))).trans (o_6 j (by omega))) hP hS (lv_sub hl [2, 3, 0] rfl)
              · refine lv_bipush (v := 10) hx hb dX4_read_127 (by decide) ?_
                refine lv_iload_n hx hb dX4_read_129 rfl (lv_at hl 3 rfl) ?_
                refine lv_imul hx hb dX4_read_130 ?_
                refine lv_iconst (v := 3) hx hb dX4_read_131 (by decide) ?_
                refine lv_iadd hx hb dX4_read_132 ?_
                exact W.iret (v := (10 * (nI p1)) + 3) hx hb hr (fun t ht hW => ⟨⟨_, f_6, rfl, (⟨mc1, op1, cm1, wu1, mk1, sc1, sp1, hrd, hmk, htx, hpx, by omega, by omega, fun j hj => ((((((o_6 j (by omega))).trans (o_5 j (by omega))).trans (o_4 j (by omega))).trans (o_3 j (by omega))).trans (o_2 j (by omega))).trans (o_1 j (by omega))⟩), by rw [ht]; exact hP⟩, hS.F ht⟩) hS.2.2 dX4_read_133
        · refine lv_iload_n hx hb dX4_read_47 rfl (lv_at hl 0 rfl) ?_
          refine rd_calli (va_runS (As := [.int (if inN (nI p1) ln = true then sg (Int32.toNatClampNeg (nI p1)) else 0)]) (rest := []) ⟨hx, hb, hml, hown, hts⟩ (g_isDigit l G g hg f_6 (if inN (nI p1) ln = true then sg (Int32.toNatClampNeg (nI p1)) else 0)  ) (my_cwS hts ok_X4_isDigit w_302 rfl rfl ⟨Nat.le_of_ble_eq_true rfl, Nat.le_of_ble_eq_true rfl⟩) ⟨bP.blind, fun U hU hW => ⟨rfl, by rw [hU]; exact hP, kG.warm hW hG⟩⟩ rfl rfl hl.1 rfl (lv_room (Nat.le_of_ble_eq_true rfl)) dX4_read_48 ⟨Nat.le_of_ble_eq_true rfl, Nat.le_of_ble_eq_true rfl⟩) (fun r hr9 => ?_)
          subst hr9
          refine my_ifeq (tgt := 105) hx hb dX4_read_51 (by decide) (fun c_51 => ?_) (fun c_51 => ?_)
          · refine lv_aload_n hx hb dX4_read_105 rfl (lv_at hl 1 rfl) ?_
            refine va_get (D := G.1) (ci := 4) (v := .int wu1) (C := RX4) (T := TX4) (N := 5) hx hb hts inlX4 hown hG.1 hP 4 (wl_at (by decide) hrd) rfl 4 (by decide) (hts (.fieldLink RX4 30 "SwornLists$Reader" "wantsUnit" "Z") w_285) (fun _ h9 => h9) rfl dX4_read_106 ?_
            refine lv_if_eq (tgt := 134) hx hb dX4_read_109 (by decide) (fun c_109 => ?_) (fun c_109 => ?_)
            · refine lv_iload_n hx hb dX4_read_134 rfl (lv_at hl 0 rfl) ?_
              refine lv_bipush (v := 32) hx hb dX4_read_135 (by decide) ?_
              refine lv_icmp_eq (tgt := 175) hx hb dX4_read_137 (by decide) (fun c_137 => ?_) (fun c_137 => ?_)
              · refine lv_iinc (v := nI (p1 + 1)) (lv' := [(2, .int (nI (p1 + 1))), (3, .int (if inN (nI p1) ln = true then sg (Int32.toNatClampNeg (nI p1)) else 0)), (0, .ref (g 4)), (1, .ref (g k))]) hx hb dX4_read_175 hl (k := 3) rfl (nI_1 _) (by decide) rfl (fun ls hl => ?_)
                refine lv_goto (tgt := 26) hx hb dX4_read_178 (by decide) ?_
                exact ih (p1 + 1) mc1 op1 cm1 wu1 mk1 sc1 sp1 f_6 _ _ _ (by omega) (by omega) (by omega) (by omega) (hrd) (hmk) (htx) (hsx) (hpx) (fun j hj => (o_6 j (by omega))) hP hS (lv_sub hl [2, 3, 0] rfl)
              · refine lv_aload_n hx hb dX4_read_140 rfl (lv_at hl 1 rfl) ?_
                refine va_get (D := G.1) (ci := 4) (v := .int wu1) (C := RX4) (T := TX4) (N := 5) hx hb hts inlX4 hown hG.1 hP 4 (wl_at (by decide) hrd) rfl 4 (by decide) (hts (.fieldLink RX4 30 "SwornLists$Reader" "wantsUnit" "Z") w_285) (fun _ h9 => h9) rfl dX4_read_141 ?_
                refine lv_if_eq (tgt := 159) hx hb dX4_read_144 (by decide) (fun c_144 => ?_) (fun c_144 => ?_)
                · refine lv_aload_n hx hb dX4_read_159 rfl (lv_at hl 1 rfl) ?_
                  refine lv_aload_n hx hb dX4_read_160 rfl (lv_at hl 2 rfl) ?_
                  refine lv_iload_n hx hb dX4_read_161 rfl (lv_at hl 0 rfl) ?_
                  refine b_calli (va_runV (As := [.ref (g k), .int (if inN (nI p1) ln = true then sg (Int32.toNatClampNeg (nI p1)) else 0)]) (rest := []) ⟨hx, hb, hml, hown, hts⟩ (e_goesOn l G g hg f_6 k ln sc1 sp1 mc1 op1 cm1 wu1 mk1 (if inN (nI p1) ln = true then sg (Int32.toNatClampNeg (nI p1)) else 0) hrd hmk htx hpx (by first | assumption | omega | decide) (by first | assumption | omega | decide) (by first | assumption | omega | decide) (by first | assumption | omega | decide) (by first | assumption | omega | decide)) (my_cwV hts ok_X4_goesOn w_323 rfl rfl ⟨Nat.le_of_ble_eq_true rfl, Nat.le_of_ble_eq_true rfl⟩) ⟨bP.blind, va_recv hG.1 hP (ci := 4) (q0 := 4) rfl (wl_at (by decide) hrd), fun U hU hW => ⟨rfl, by rw [hU]; exact hP, kG.warm hW hG⟩⟩ rfl rfl hl.1 rfl (lv_room (Nat.le_of_ble_eq_true rfl)) dX4_read_162 ⟨Nat.le_of_ble_eq_true rfl, Nat.le_of_ble_eq_true rfl⟩) hS (fun v59 f_14 H locs hq9 hP hS => ?_)
                  obtain ⟨bz60, mc961, op962, cm963, wu964, mk965, sc966, sp967, rfl, hq_14_0, hq_14_1, hq_14_2, hq_14_3, hx_14_0, hx_14_1, o_14⟩ := hq9
                  replace hsx : f_14 (k + 1) = eI G 50 sg := (o_14 (k + 1) (by omega)).trans hsx
                  have hrd : f_14 4 = eO 4 [.ref (g 5), .int (nI mc961), .int op962, .int cm963, .int wu964] := hq_14_0
                  have hmk : f_14 5 = eI G 50 mk965 := hq_14_1
                  have htx : f_14 k = eO 7 [.ref (g (k + 1)), .ref (g (k + 2)), .int (nI ln), .int (nI sc966)] := hq_14_2
                  have hpx : f_14 (k + 2) = eI G 50 sp967 := hq_14_3
                  refine my_ifne (tgt := 175) hx hb dX4_read_165 (by decide) (fun c_165 => ?_) (fun c_165 => ?_)
                  · refine lv_iinc (v := nI (p1 + 1)) (lv' := [(2, .int (nI (p1 + 1))), (3, .int (if inN (nI p1) ln = true then sg (Int32.toNatClampNeg (nI p1)) else 0)), (0, .ref (g 4)), (1, .ref (g k))]) hx hb dX4_read_175 hl (k := 3) rfl (nI_1 _) (by decide) rfl (fun ls hl => ?_)
                    refine lv_goto (tgt := 26) hx hb dX4_read_178 (by decide) ?_
                    exact ih (p1 + 1) mc961 op962 cm963 wu964 mk965 sc966 sp967 f_14 _ _ _ (by omega) (by omega) (by omega) (by omega) (hrd) (hmk) (htx) (hsx) (hpx) (fun j hj => ((o_14 j (by omega))).trans (o_6 j (by omega))) hP hS (lv_sub hl [2, 3, 0] rfl)
                  · refine lv_bipush (v := 10) hx hb dX4_read_168 (by decide) ?_
                    refine lv_iload_n hx hb dX4_read_170 rfl (lv_at hl 3 rfl) ?_
                    refine lv_imul hx hb dX4_read_171 ?_
                    refine lv_iconst (v := 1) hx hb dX4_read_172 (by decide) ?_
                    refine lv_iadd hx hb dX4_read_173 ?_
                    exact W.iret (v := (10 * (nI p1)) + 1) hx hb hr (fun t ht hW => ⟨⟨_, f_14, rfl, (⟨mc961, op962, cm963, wu964, mk965, sc966, sp967, hrd, hmk, htx, hpx, by omega, by omega, fun j hj => (((((((o_14 j (by omega))).trans (o_6 j (by omega))).trans (o_5 j (by omega))).trans (o_4 j (by omega))).trans (o_3 j (by omega))).trans (o_2 j (by omega))).trans (o_1 j (by omega))⟩), by rw [ht]; exact hP⟩, hS.F ht⟩) hS.2.2 dX4_read_174
                · refine lv_aload_n hx hb dX4_read_147 rfl (lv_at hl 1 rfl) ?_
                  refine lv_aload_n hx hb dX4_read_148 rfl (lv_at hl 2 rfl) ?_
                  refine lv_iload_n hx hb dX4_read_149 rfl (lv_at hl 0 rfl) ?_
                  refine b_calli (va_runV (As := [.ref (g k), .int (if inN (nI p1) ln = true then sg (Int32.toNatClampNeg (nI p1)) else 0)]) (rest := []) ⟨hx, hb, hml, hown, hts⟩ (e_startsUnit l G g hg f_6 k ln sc1 sp1 mc1 op1 cm1 wu1 mk1 (if inN (nI p1) ln = true then sg (Int32.toNatClampNeg (nI p1)) else 0) hrd hmk htx hpx (by first | assumption | omega | decide) (by first | assumption | omega | decide) (by first | assumption | omega | decide) (by first | assumption | omega | decide) (by first | assumption | omega | decide)) (my_cwV hts ok_X4_startsUnit w_315 rfl rfl ⟨Nat.le_of_ble_eq_true rfl, Nat.le_of_ble_eq_true rfl⟩) ⟨bP.blind, va_recv hG.1 hP (ci := 4) (q0 := 4) rfl (wl_at (by decide) hrd), fun U hU hW => ⟨rfl, by rw [hU]; exact hP, kG.warm hW hG⟩⟩ rfl rfl hl.1 rfl (lv_room (Nat.le_of_ble_eq_true rfl)) dX4_read_150 ⟨Nat.le_of_ble_eq_true rfl, Nat.le_of_ble_eq_true rfl⟩) hS (fun v68 f_15 H locs hq9 hP hS => ?_)
                  obtain ⟨bz69, mc970, op971, cm972, wu973, mk974, sc975, sp976, rfl, hq_15_0, hq_15_1, hq_15_2, hq_15_3, hx_15_0, hx_15_1, o_15⟩ := hq9
                  replace hsx : f_15 (k + 1) = eI G 50 sg := (o_15 (k + 1) (by omega)).trans hsx
                  have hrd : f_15 4 = eO 4 [.ref (g 5), .int (nI mc970), .int op971, .int cm972, .int wu973] := hq_15_0
                  have hmk : f_15 5 = eI G 50 mk974 := hq_15_1
                  have htx : f_15 k = eO 7 [.ref (g (k + 1)), .ref (g (k + 2)), .int (nI ln), .int (nI sc975)] := hq_15_2
                  have hpx : f_15 (k + 2) = eI G 50 sp976 := hq_15_3
                  refine my_ifeq (tgt := 168) hx hb dX4_read_153 (by decide) (fun c_153 => ?_) (fun c_153 => ?_)
                  · refine lv_bipush (v := 10) hx hb dX4_read_168 (by decide) ?_
                    refine lv_iload_n hx hb dX4_read_170 rfl (lv_at hl 3 rfl) ?_
                    refine lv_imul hx hb dX4_read_171 ?_
                    refine lv_iconst (v := 1) hx hb dX4_read_172 (by decide) ?_
                    refine lv_iadd hx hb dX4_read_173 ?_
                    exact W.iret (v := (10 * (nI p1)) + 1) hx hb hr (fun t ht hW => ⟨⟨_, f_15, rfl, (⟨mc970, op971, cm972, wu973, mk974, sc975, sp976, hrd, hmk, htx, hpx, by omega, by omega, fun j hj => (((((((o_15 j (by omega))).trans (o_6 j (by omega))).trans (o_5 j (by omega))).trans (o_4 j (by omega))).trans (o_3 j (by omega))).trans (o_2 j (by omega))).trans (o_1 j (by omega))⟩), by rw [ht]; exact hP⟩, hS.F ht⟩) hS.2.2 dX4_read_174
                  · refine lv_goto (tgt := 175) hx hb dX4_read_156 (by decide) ?_
                    refine lv_iinc (v := nI (p1 + 1)) (lv' := [(2, .int (nI (p1 + 1))), (3, .int (if inN (nI p1) ln = true then sg (Int32.toNatClampNeg (nI p1)) else 0)), (0, .ref (g 4)), (1, .ref (g k))]) hx hb dX4_read_175 hl (k := 3) rfl (nI_1 _) (by decide) rfl (fun ls hl => ?_)
                    refine lv_goto (tgt := 26) hx hb dX4_read_178 (by decide) ?_
                    exact ih (p1 + 1) mc970 op971 cm972 wu973 mk974 sc975 sp976 f_15 _ _ _ (by omega) (by omega) (by omega) (by omega) (hrd) (hmk) (htx) (hsx) (hpx) (fun j hj => ((o_15 j (by omega))).trans (o_6 j (by omega))) hP hS (lv_sub hl [2, 3, 0] rfl)
            · refine lv_iload_n hx hb dX4_read_112 rfl (lv_at hl 0 rfl) ?_
              refine lv_bipush (v := 40) hx hb dX4_read_113 (by decide) ?_
              refine lv_icmp_ne (tgt := 134) hx hb dX4_read_115 (by decide) (fun c_115 => ?_) (fun c_115 => ?_)
              · refine lv_iload_n hx hb dX4_read_134 rfl (lv_at hl 0 rfl) ?_
                refine lv_bipush (v := 32) hx hb dX4_read_135 (by decide) ?_
                refine lv_icmp_eq (tgt := 175) hx hb dX4_read_137 (by decide) (fun c_137 => ?_) (fun c_137 => ?_)
                · refine lv_iinc (v := nI (p1 + 1)) (lv' := [(2, .int (nI (p1 + 1))), (3, .int (if inN (nI p1) ln = true then sg (Int32.toNatClampNeg (nI p1)) else 0)), (0, .ref (g 4)), (1, .ref (g k))]) hx hb dX4_read_175 hl (k := 3) rfl (nI_1 _) (by decide) rfl (fun ls hl => ?_)
                  refine lv_goto (tgt := 26) hx hb dX4_read_178 (by decide) ?_
                  exact ih (p1 + 1) mc1 op1 cm1 wu1 mk1 sc1 sp1 f_6 _ _ _ (by omega) (by omega) (by omega) (by omega) (hrd) (hmk) (htx) (hsx) (hpx) (fun j hj => (o_6 j (by omega))) hP hS (lv_sub hl [2, 3, 0] rfl)
                · refine lv_aload_n hx hb dX4_read_140 rfl (lv_at hl 1 rfl) ?_
                  refine va_get (D := G.1) (ci := 4) (v := .int wu1) (C := RX4) (T := TX4) (N := 5) hx hb hts inlX4 hown hG.1 hP 4 (wl_at (by decide) hrd) rfl 4 (by decide) (hts (.fieldLink RX4 30 "SwornLists$Reader" "wantsUnit" "Z") w_285) (fun _ h9 => h9) rfl dX4_read_141 ?_
                  refine lv_if_eq (tgt := 159) hx hb dX4_read_144 (by decide) (fun c_144 => ?_) (fun c_144 => ?_)
                  · refine lv_aload_n hx hb dX4_read_159 rfl (lv_at hl 1 rfl) ?_
                    refine lv_aload_n hx hb dX4_read_160 rfl (lv_at hl 2 rfl) ?_
                    refine lv_iload_n hx hb dX4_read_161 rfl (lv_at hl 0 rfl) ?_
                    refine b_calli (va_runV (As := [.ref (g k), .int (if inN (nI p1) ln = true then sg (Int32.toNatClampNeg (nI p1)) else 0)]) (rest := []) ⟨hx, hb, hml, hown, hts⟩ (e_goesOn l G g hg f_6 k ln sc1 sp1 mc1 op1 cm1 wu1 mk1 (if inN (nI p1) ln = true then sg (Int32.toNatClampNeg (nI p1)) else 0) hrd hmk htx hpx (by first | assumption | omega | decide) (by first | assumption | omega | decide) (by first | assumption | omega | decide) (by first | assumption | omega | decide) (by first | assumption | omega | decide)) (my_cwV hts ok_X4_goesOn w_323 rfl rfl ⟨Nat.le_of_ble_eq_true rfl, Nat.le_of_ble_eq_true rfl⟩) ⟨bP.blind, va_recv hG.1 hP (ci := 4) (q0 := 4) rfl (wl_at (by decide) hrd), fun U hU hW => ⟨rfl, by rw [hU]; exact hP, kG.warm hW hG⟩⟩ rfl rfl hl.1 rfl (lv_room (Nat.le_of_ble_eq_true rfl)) dX4_read_162 ⟨Nat.le_of_ble_eq_true rfl, Nat.le_of_ble_eq_true rfl⟩) hS (fun v77 f_16 H locs hq9 hP hS => ?_)
                    obtain ⟨bz78, mc979, op980, cm981, wu982, mk983, sc984, sp985, rfl, hq_16_0, hq_16_1, hq_16_2, hq_16_3, hx_16_0, hx_16_1, o_16⟩ := hq9
                    replace hsx : f_16 (k + 1) = eI G 50 sg := (o_16 (k + 1) (by omega)).trans hsx
                    have hrd : f_16 4 = eO 4 [.ref (g 5), .int (nI mc979), .int op980, .int cm981, .int wu982] := hq_16_0
                    have hmk : f_16 5 = eI G 50 mk983 := hq_16_1
                    have htx : f_16 k = eO 7 [.ref (g (k + 1)), .ref (g (k + 2)), .int (nI ln), .int (nI sc984)] := hq_16_2
                    have hpx : f_16 (k + 2) = eI G 50 sp985 := hq_16_3
                    refine my_ifne (tgt := 175) hx hb dX4_read_165 (by decide) (fun c_165 => ?_) (fun c_165 => ?_)
                    · refine lv_iinc (v := nI (p1 + 1)) (lv' := [(2, .int (nI (p1 + 1))), (3, .int (if inN (nI p1) ln = true then sg (Int32.toNatClampNeg (nI p1)) else 0)), (0, .ref (g 4)), (1, .ref (g k))]) hx hb dX4_read_175 hl (k := 3) rfl (nI_1 _) (by decide) rfl (fun ls hl => ?_)
                      refine lv_goto (tgt := 26) hx hb dX4_read_178 (by decide) ?_
                      exact ih (p1 + 1) mc979 op980 cm981 wu982 mk983 sc984 sp985 f_16 _ _ _ (by omega) (by omega) (by omega) (by omega) (hrd) (hmk) (htx) (hsx) (hpx) (fun j hj => ((o_16 j (by omega))).trans (o_6 j (by omega))) hP hS (lv_sub hl [2, 3, 0] rfl)
                    · refine lv_bipush (v := 10) hx hb dX4_read_168 (by decide) ?_
                      refine lv_iload_n hx hb dX4_read_170 rfl (lv_at hl 3 rfl) ?_
                      refine lv_imul hx hb dX4_read_171 ?_
                      refine lv_iconst (v := 1) hx hb dX4_read_172 (by decide) ?_
                      refine lv_iadd hx hb dX4_read_173 ?_
                      exact W.iret (v := (10 * (nI p1)) + 1) hx hb hr (fun t ht hW => ⟨⟨_, f_16, rfl, (⟨mc979, op980, cm981, wu982, mk983, sc984, sp985, hrd, hmk, htx, hpx, by omega, by omega, fun j hj => (((((((o_16 j (by omega))).trans (o_6 j (by omega))).trans (o_5 j (by omega))).trans (o_4 j (by omega))).trans (o_3 j (by omega))).trans (o_2 j (by omega))).trans (o_1 j (by omega))⟩), by rw [ht]; exact hP⟩, hS.F ht⟩) hS.2.2 dX4_read_174
                  · refine lv_aload_n hx hb dX4_read_147 rfl (lv_at hl 1 rfl) ?_
                    refine lv_aload_n hx hb dX4_read_148 rfl (lv_at hl 2 rfl) ?_
                    refine lv_iload_n hx hb dX4_read_149 rfl (lv_at hl 0 rfl) ?_
                    refine b_calli (va_runV (As := [.ref (g k), .int (if inN (nI p1) ln = true then sg (Int32.toNatClampNeg (nI p1)) else 0)]) (rest := []) ⟨hx, hb, hml, hown, hts⟩ (e_startsUnit l G g hg f_6 k ln sc1 sp1 mc1 op1 cm1 wu1 mk1 (if inN (nI p1) ln = true then sg (Int32.toNatClampNeg (nI p1)) else 0) hrd hmk htx hpx (by first | assumption | omega | decide) (by first | assumption | omega | decide) (by first | assumption | omega | decide) (by first | assumption | omega | decide) (by first | assumption | omega | decide)) (my_cwV hts ok_X4_startsUnit w_315 rfl rfl ⟨Nat.le_of_ble_eq_true rfl, Nat.le_of_ble_eq_true rfl⟩) ⟨bP.blind, va_recv hG.1 hP (ci := 4) (q0 := 4) rfl (wl_at (by decide) hrd), fun U hU hW => ⟨rfl, by rw [hU]; exact hP, kG.warm hW hG⟩⟩ rfl rfl hl.1 rfl (lv_room (Nat.le_of_ble_eq_true rfl)) dX4_read_150 ⟨Nat.le_of_ble_eq_true rfl, Nat.le_of_ble_eq_true rfl⟩) hS (fun v86 f_17 H locs hq9 hP hS => ?_)
                    obtain ⟨bz87, mc988, op989, cm990, wu991, mk992, sc993, sp994, rfl, hq_17_0, hq_17_1, hq_17_2, hq_17_3, hx_17_0, hx_17_1, o_17⟩ := hq9
                    replace hsx : f_17 (k + 1) = eI G 50 sg := (o_17 (k + 1) (by omega)).trans hsx
                    have hrd : f_17 4 = eO 4 [.ref (g 5), .int (nI mc988), .int op989, .int cm990, .int wu991] := hq_17_0
                    have hmk : f_17 5 = eI G 50 mk992 := hq_17_1
                    have htx : f_17 k = eO 7 [.ref (g (k + 1)), .ref (g (k + 2)), .int (nI ln), .int (nI sc993)] := hq_17_2
                    have hpx : f_17 (k + 2) = eI G 50 sp994 := hq_17_3
                    refine my_ifeq (tgt := 168) hx hb dX4_read_153 (by decide) (fun c_153 => ?_) (fun c_153 => ?_)
                    · refine lv_bipush (v := 10) hx hb dX4_read_168 (by decide) ?_
                      refine lv_iload_n hx hb dX4_read_170 rfl (lv_at hl 3 rfl) ?_
                      refine lv_imul hx hb dX4_read_171 ?_
                      refine lv_iconst (v := 1) hx hb dX4_read_172 (by decide) ?_
                      refine lv_iadd hx hb dX4_read_173 ?_
                      exact W.iret (v := (10 * (nI p1)) + 1) hx hb hr (fun t ht hW => ⟨⟨_, f_17, rfl, (⟨mc988, op989, cm990, wu991, mk992, sc993, sp994, hrd, hmk, htx, hpx, by omega, by omega, fun j hj => (((((((o_17 j (by omega))).trans (o_6 j (by omega))).trans (o_5 j (by omega))).trans (o_4 j (by omega))).trans (o_3 j (by omega))).trans (o_2 j (by omega))).trans (o_1 j (by omega))⟩), by rw [ht]; exact hP⟩, hS.F ht⟩) hS.2.2 dX4_read_174
                    · refine lv_goto (tgt := 175) hx hb dX4_read_156 (by decide) ?_
                      refine lv_iinc (v := nI (p1 + 1)) (lv' := [(2, .int (nI (p1 + 1))), (3, .int (if inN (nI p1) ln = true then sg (Int32.toNatClampNeg (nI p1)) else 0)), (0, .ref (g 4)), (1, .ref (g k))]) hx hb dX4_read_175 hl (k := 3) rfl (nI_1 _) (by decide) rfl (fun ls hl => ?_)
                      refine lv_goto (tgt := 26) hx hb dX4_read_178 (by decide) ?_
                      exact ih (p1 + 1) mc988 op989 cm990 wu991 mk992 sc993 sp994 f_17 _ _ _ (by omega) (by omega) (by omega) (by omega) (hrd) (hmk) (htx) (hsx) (hpx) (fun j hj => ((o_17 j (by omega))).trans (o_6 j (by omega))) hP hS (lv_sub hl [2, 3, 0] rfl)
              · refine lv_aload_n hx hb dX4_read_118 rfl (lv_at hl 1 rfl) ?_
                refine va_get (D := G.1) (ci := 4) (v := .int op1) (C := RX4) (T := TX4) (N := 5) hx hb hts inlX4 hown hG.1 hP 4 (wl_at (by decide) hrd) rfl 2 (by decide) (hts (.fieldLink RX4 24 "SwornLists$Reader" "open" "I") w_283) (fun _ h9 => h9) rfl dX4_read_119 ?_
                refine lv_bipush (v := 8) hx hb dX4_read_122 (by decide) ?_
                refine lv_icmp_lt (tgt := 134) hx hb dX4_read_124 (by decide) (fun c_124 => ?_) (fun c_124 => ?_)
                · refine lv_iload_n hx hb dX4_read_134 rfl (lv_at hl 0 rfl) ?_
                  refine lv_bipush (v := 32) hx hb dX4_read_135 (by decide) ?_
                  refine lv_icmp_eq (tgt := 175) hx hb dX4_read_137 (by decide) (fun c_137 => ?_) (fun c_137 => ?_)
                  · refine lv_iinc (v := nI (p1 + 1)) (lv' := [(2, .int (nI (p1 + 1))), (3, .int (if inN (nI p1) ln = true then sg (Int32.toNatClampNeg (nI p1)) else 0)), (0, .ref (g 4)), (1, .ref (g k))]) hx hb dX4_read_175 hl (k := 3) rfl (nI_1 _) (by decide) rfl (fun ls hl => ?_)
                    refine lv_goto (tgt := 26) hx hb dX4_read_178 (by decide) ?_
                    exact ih (p1 + 1) mc1 op1 cm1 wu1 mk1 sc1 sp1 f_6 _ _ _ (by omega) (by omega) (by omega) (by omega) (hrd) (hmk) (htx) (hsx) (hpx) (fun j hj => (o_6 j (by omega))) hP hS (lv_sub hl [2, 3, 0] rfl)
                  · refine lv_aload_n hx hb dX4_read_140 rfl (lv_at hl 1 rfl) ?_
                    refine va_get (D := G.1) (ci := 4) (v := .int wu1) (C := RX4) (T := TX4) (N := 5) hx hb hts inlX4 hown hG.1 hP 4 (wl_at (by decide) hrd) rfl 4 (by decide) (hts (.fieldLink RX4 30 "SwornLists$Reader" "wantsUnit" "Z") w_285) (fun _ h9 => h9) rfl dX4_read_141 ?_
                    refine lv_if_eq (tgt := 159) hx hb dX4_read_144 (by decide) (fun c_144 => ?_) (fun c_144 => ?_)
                    · refine lv_aload_n hx hb dX4_read_159 rfl (lv_at hl 1 rfl) ?_
                      refine lv_aload_n hx hb dX4_read_160 rfl (lv_at hl 2 rfl) ?_
                      refine lv_iload_n hx hb dX4_read_161 rfl (lv_at hl 0 rfl) ?_
                      refine b_calli (va_runV (As := [.ref (g k), .int (if inN (nI p1) ln = true then sg (Int32.toNatClampNeg (nI p1)) else 0)]) (rest := []) ⟨hx, hb, hml, hown, hts⟩ (e_goesOn l G g hg f_6 k ln sc1 sp1 mc1 op1 cm1 wu1 mk1 (if inN (nI p1) ln = true then sg (Int32.toNatClampNeg (nI p1)) else 0) hrd hmk htx hpx (by first | assumption | omega | decide) (by first | assumption | omega | decide) (by first | assumption | omega | decide) (by first | assumption | omega | decide) (by first | assumption | omega | decide)) (my_cwV hts ok_X4_goesOn w_323 rfl rfl ⟨Nat.le_of_ble_eq_true rfl, Nat.le_of_ble_eq_true rfl⟩) ⟨bP.blind, va_recv hG.1 hP (ci := 4) (q0 := 4) rfl (wl_at (by decide) hrd), fun U hU hW => ⟨rfl, by rw [hU]; exact hP, kG.warm hW hG⟩⟩ rfl rfl hl.1 rfl (lv_room (Nat.le_of_ble_eq_true rfl)) dX4_read_162 ⟨Nat.le_of_ble_eq_true rfl, Nat.le_of_ble_eq_true rfl⟩) hS (fun v95 f_18 H locs hq9 hP hS => ?_)
                      obtain ⟨bz96, mc997, op998, cm999, wu9100, mk9101, sc9102, sp9103, rfl, hq_18_0, hq_18_1, hq_18_2, hq_18_3, hx_18_0, hx_18_1, o_18⟩ := hq9
                      replace hsx : f_18 (k + 1) = eI G 50 sg := (o_18 (k + 1) (by omega)).trans hsx
                      have hrd : f_18 4 = eO 4 [.ref (g 5), .int (nI mc997), .int op998, .int cm999, .int wu9100] := hq_18_0
                      have hmk : f_18 5 = eI G 50 mk9101 := hq_18_1
                      have htx : f_18 k = eO 7 [.ref (g (k + 1)), .ref (g (k + 2)), .int (nI ln), .int (nI sc9102)] := hq_18_2
                      have hpx : f_18 (k + 2) = eI G 50 sp9103 := hq_18_3
                      refine my_ifne (tgt := 175) hx hb dX4_read_165 (by decide) (fun c_165 => ?_) (fun c_165 => ?_)
                      · refine lv_iinc (v := nI (p1 + 1)) (lv' := [(2, .int (nI (p1 + 1))), (3, .int (if inN (nI p1) ln = true then sg (Int32.toNatClampNeg (nI p1)) else 0)), (0, .ref (g 4)), (1, .ref (g k))]) hx hb dX4_read_175 hl (k := 3) rfl (nI_1 _) (by decide) rfl (fun ls hl => ?_)
                        refine lv_goto (tgt := 26) hx hb dX4_read_178 (by decide) ?_
                        exact ih (p1 + 1) mc997 op998 cm999 wu9100 mk9101 sc9102 sp9103 f_18 _ _ _ (by omega) (by omega) (by omega) (by omega) (hrd) (hmk) (htx) (hsx) (hpx) (fun j hj => ((o_18 j (by omega))).trans (o_6 j (by omega))) hP hS (lv_sub hl [2, 3, 0] rfl)
                      · refine lv_bipush (v := 10) hx hb dX4_read_168 (by decide) ?_
                        refine lv_iload_n hx hb dX4_read_170 rfl (lv_at hl 3 rfl) ?_
                        refine lv_imul hx hb dX4_read_171 ?_
                        refine lv_iconst (v := 1) hx hb dX4_read_172 (by decide) ?_
                        refine lv_iadd hx hb dX4_read_173 ?_
                        exact W.iret (v := (10 * (nI p1)) + 1) hx hb hr (fun t ht hW => ⟨⟨_, f_18, rfl, (⟨mc997, op998, cm999, wu9100, mk9101, sc9102, sp9103, hrd, hmk, htx, hpx, by omega, by omega, fun j hj => (((((((o_18 j (by omega))).trans (o_6 j (by omega))).trans (o_5 j (by omega))).trans (o_4 j (by omega))).trans (o_3 j (by omega))).trans (o_2 j (by omega))).trans (o_1 j (by omega))⟩), by rw [ht]; exact hP⟩, hS.F ht⟩) hS.2.2 dX4_read_174
                    · refine lv_aload_n hx hb dX4_read_147 rfl (lv_at hl 1 rfl) ?_
                      refine lv_aload_n hx hb dX4_read_148 rfl (lv_at hl 2 rfl) ?_
                      refine lv_iload_n hx hb dX4_read_149 rfl (lv_at hl 0 rfl) ?_
                      refine b_calli (va_runV (As := [.ref (g k), .int (if inN (nI p1) ln = true then sg (Int32.toNatClampNeg (nI p1)) else 0)]) (rest := []) ⟨hx, hb, hml, hown, hts⟩ (e_startsUnit l G g hg f_6 k ln sc1 sp1 mc1 op1 cm1 wu1 mk1 (if inN (nI p1) ln = true then sg (Int32.toNatClampNeg (nI p1)) else 0) hrd hmk htx hpx (by first | assumption | omega | decide) (by first | assumption | omega | decide) (by first | assumption | omega | decide) (by first | assumption | omega | decide) (by first | assumption | omega | decide)) (my_cwV hts ok_X4_startsUnit w_315 rfl rfl ⟨Nat.le_of_ble_eq_true rfl, Nat.le_of_ble_eq_true rfl⟩) ⟨bP.blind, va_recv hG.1 hP (ci := 4) (q0 := 4) rfl (wl_at (by decide) hrd), fun U hU hW => ⟨rfl, by rw [hU]; exact hP, kG.warm hW hG⟩⟩ rfl rfl hl.1 rfl (lv_room (Nat.le_of_ble_eq_true rfl)) dX4_read_150 ⟨Nat.le_of_ble_eq_true rfl, Nat.le_of_ble_eq_true rfl⟩) hS (fun v104 f_19 H locs hq9 hP hS => ?_)
                      obtain ⟨bz105, mc9106, op9107, cm9108, wu9109, mk9110, sc9111, sp9112, rfl, hq_19_0, hq_19_1, hq_19_2, hq_19_3, hx_19_0, hx_19_1, o_19⟩ := hq9
                      replace hsx : f_19 (k + 1) = eI G 50 sg := (o_19 (k + 1) (by omega)).trans hsx
                      have hrd : f_19 4 = eO 4 [.ref (g 5), .int (nI mc9106), .int op9107, .int cm9108, .int wu9109] := hq_19_0
                      have hmk : f_19 5 = eI G 50 mk9110 := hq_19_1
                      have htx : f_19 k = eO 7 [.ref (g (k + 1)), .ref (g (k + 2)), .int (nI ln), .int (nI sc9111)] := hq_19_2
                      have hpx : f_19 (k + 2) = eI G 50 sp9112 := hq_19_3
                      refine my_ifeq (tgt := 168) hx hb dX4_read_153 (by decide) (fun c_153 => ?_) (fun c_153 => ?_)
                      · refine lv_bipush (v := 10) hx hb dX4_read_168 (by decide) ?_
                        refine lv_iload_n hx hb dX4_read_170 rfl (lv_at hl 3 rfl) ?_
                        refine lv_imul hx hb dX4_read_171 ?_
                        refine lv_iconst (v := 1) hx hb dX4_read_172 (by decide) ?_
                        refine lv_iadd hx hb dX4_read_173 ?_
                        exact W.iret (v := (10 * (nI p1)) + 1) hx hb hr (fun t ht hW => ⟨⟨_, f_19, rfl, (⟨mc9106, op9107, cm9108, wu9109, mk9110, sc9111, sp9112, hrd, hmk, htx, hpx, by omega, by omega, fun j hj => (((((((o_19 j (by omega))).trans (o_6 j (by omega))).trans (o_5 j (by omega))).trans (o_4 j (by omega))).trans (o_3 j (by omega))).trans (o_2 j (by omega))).trans (o_1 j (by omega))⟩), by rw [ht]; exact hP⟩, hS.F ht⟩) hS.2.2 dX4_read_174
                      · refine lv_goto (tgt := 175) hx hb dX4_read_156 (by decide) ?_
                        refine lv_iinc (v := nI (p1 + 1)) (lv' := [(2, .int (nI (p1 + 1))), (3, .int (if inN (nI p1) ln = true then sg (Int32.toNatClampNeg (nI p1)) else 0)), (0, .ref (g 4)), (1, .ref (g k))]) hx hb dX4_read_175 hl (k := 3) rfl (nI_1 _) (by decide) rfl (fun ls hl => ?_)
                        refine lv_goto (tgt := 26) hx hb dX4_read_178 (by decide) ?_
                        exact ih (p1 + 1) mc9106 op9107 cm9108 wu9109 mk9110 sc9111 sp9112 f_19 _ _ _ (by omega) (by omega) (by omega) (by omega) (hrd) (hmk) (htx) (hsx) (hpx) (fun j hj => ((o_19 j (by omega))).trans (o_6 j (by omega))) hP hS (lv_sub hl [2, 3, 0] rfl)
                · refine lv_bipush (v := 10) hx hb dX4_read_127 (by decide) ?_
                  refine lv_iload_n hx hb dX4_read_129 rfl (lv_at hl 3 rfl) ?_
                  refine lv_imul hx hb dX4_read_130 ?_
                  refine lv_iconst (v := 3) hx hb dX4_read_131 (by decide) ?_
                  refine lv_iadd hx hb dX4_read_132 ?_
                  exact W.iret (v := (10 * (nI p1)) + 3) hx hb hr (fun t ht hW => ⟨⟨_, f_6, rfl, (⟨mc1, op1, cm1, wu1, mk1, sc1, sp1, hrd, hmk, htx, hpx, by omega, by omega, fun j hj => ((((((o_6 j (by omega))).trans (o_5 j (by omega))).trans (o_4 j (by omega))).trans (o_3 j (by omega))).trans (o_2 j (by omega))).trans (o_1 j (by omega))⟩), by rw [ht]; exact hP⟩, hS.F ht⟩) hS.2.2 dX4_read_133
          · refine lv_aload_n hx hb dX4_read_54 rfl (lv_at hl 2 rfl) ?_
            refine lv_iload_n hx hb dX4_read_55 rfl (lv_at hl 3 rfl) ?_
            refine rd_calli (va_runS (As := [.ref (g k), .int (nI p1)]) (rest := []) ⟨hx, hb, hml, hown, hts⟩ (e_digitsEnd l G g hg f_6 k ln sc1 sg p1 htx hsx (by first | assumption | omega | decide) (by first | assumption | omega | decide) (by first | assumption | omega | decide) (by first | assumption | omega | decide)) (my_cwS hts ok_X4_digitsEnd w_305 rfl rfl ⟨Nat.le_of_ble_eq_true rfl, Nat.le_of_ble_eq_true rfl⟩) ⟨bP.blind, fun U hU hW => ⟨rfl, by rw [hU]; exact hP, kG.warm hW hG⟩⟩ rfl rfl hl.1 rfl (lv_room (Nat.le_of_ble_eq_true rfl)) dX4_read_56 ⟨Nat.le_of_ble_eq_true rfl, Nat.le_of_ble_eq_true rfl⟩) (fun r hr9 => ?_)
            obtain ⟨e9113, rfl, hx_20_0, hx_20_1⟩ := hr9
            refine lv_istore (lv' := [(4, .int (nI e9113)), (3, .int (if inN (nI p1) ln = true then sg (Int32.toNatClampNeg (nI p1)) else 0)), (0, .ref (g 4)), (1, .ref (g k)), (2, .int (nI p1))]) hx hb dX4_read_59 hl (by decide) rfl (fun ls hl => ?_)
            refine lv_iload hx hb dX4_read_61 (lv_at hl 0 rfl) ?_
            refine lv_iload_n hx hb dX4_read_63 rfl (lv_at hl 4 rfl) ?_
            refine lv_isub hx hb dX4_read_64 ?_
            refine my_bei (v := nI (e9113 - p1)) (pk_sub (by omega)) ?_
            refine lv_bipush (v := 6) hx hb dX4_read_65 (by decide) ?_
            refine lv_icmp_le (tgt := 77) hx hb dX4_read_67 (by decide) (fun c_67 => ?_) (fun c_67 => ?_)
            · refine lv_aload_n hx hb dX4_read_77 rfl (lv_at hl 3 rfl) ?_
              refine lv_aload_n hx hb dX4_read_78 rfl (lv_at hl 3 rfl) ?_
              refine lv_iload_n hx hb dX4_read_79 rfl (lv_at hl 4 rfl) ?_
              refine lv_iload hx hb dX4_read_80 (lv_at hl 0 rfl) ?_
              refine rd_calli (va_runS (As := [.ref (g k), .int (nI p1), .int (nI e9113)]) (rest := [.ref (g k)]) ⟨hx, hb, hml, hown, hts⟩ (e_numberIn l G g hg f_6 k ln sc1 sg p1 e9113 htx hsx (by first | assumption | omega | decide) (by first | assumption | omega | decide) (by first | assumption | omega | decide) (by first | assumption | omega | decide) (by first | assumption | omega | decide)) (my_cwS hts ok_X4_numberIn w_308 rfl rfl ⟨Nat.le_of_ble_eq_true rfl, Nat.le_of_ble_eq_true rfl⟩) ⟨bP.blind, fun U hU hW => ⟨rfl, by rw [hU]; exact hP, kG.warm hW hG⟩⟩ rfl rfl hl.1 rfl (lv_room (Nat.le_of_ble_eq_true rfl)) dX4_read_82 ⟨Nat.le_of_ble_eq_true rfl, Nat.le_of_ble_eq_true rfl⟩) (fun v114 _ => ?_)
              refine b_callv (va_runV (As := [.int v114]) (rest := []) ⟨hx, hb, hml, hown, hts⟩ (t_addStepS l G g hg f_6 k ln sc1 sp1 v114 htx hpx (by first | assumption | omega | decide) (by first | assumption | omega | decide) (by first | assumption | omega | decide)) (my_cwV hts ok_X8_addStep w_311 rfl rfl ⟨Nat.le_of_ble_eq_true rfl, Nat.le_of_ble_eq_true rfl⟩) ⟨bP.blind, va_recv hG.1 hP (ci := 7) (q0 := k) rfl (wl_at (by omega) htx), fun U hU hW => ⟨rfl, by rw [hU]; exact hP, kG.warm hW hG⟩⟩ rfl rfl hl.1 rfl (lv_room (Nat.le_of_ble_eq_true rfl)) dX4_read_85 ⟨Nat.le_of_ble_eq_true rfl, Nat.le_of_ble_eq_true rfl⟩) hS (fun f_21 H locs hq9 hP hS => ?_)
              obtain ⟨sc9115, sp9116, hq_21_0, hq_21_1, hx_21_0, o_21⟩ := hq9
              replace hrd := (o_21 4 (by first | decide | omega)).trans hrd
              replace hmk := (o_21 5 (by first | decide | omega)).trans hmk
              replace hsx : f_21 (k + 1) = eI G 50 sg := (o_21 (k + 1) (by omega)).trans hsx
              have htx : f_21 k = eO 7 [.ref (g (k + 1)), .ref (g (k + 2)), .int (nI ln), .int (nI sc9115)] := hq_21_0
              have hpx : f_21 (k + 2) = eI G 50 sp9116 := hq_21_1
              refine lv_aload_n hx hb dX4_read_88 rfl (lv_at hl 2 rfl) ?_
              refine lv_iconst (v := 0) hx hb dX4_read_89 (by decide) ?_
              refine va_put (D := G.1) (ci := 4) (v := .int 0) (ty := .boolean) (C := RX4) (T := TX4) (N := 5) hx hb hts inlX4 tyX4 tyX4_ok nmX4 hown hG.1 hP (wl_D hg f_21) hS 4 (wl_at (by decide) hrd) rfl 4 (by decide) (hts (.fieldLink RX4 30 "SwornLists$Reader" "wantsUnit" "Z") w_285) (fun _ h9 => h9) rfl (by decide +kernel) rfl rfl (Nat.le_of_ble_eq_true rfl) dX4_read_90 (fun H locs hP _ hS => ?_)
              obtain ⟨f_22, hP, e_22, o_22⟩ := b_put (by decide) hP
              have hrd : f_22 4 = eO 4 [.ref (g 5), .int (nI mc1), .int op1, .int cm1, .int 0] := e_22
              replace hmk := (o_22 5 (by decide)).trans hmk
              replace htx : f_22 k = eO 7 [.ref (g (k + 1)), .ref (g (k + 2)), .int (nI ln), .int (nI sc9115)] := (o_22 k (by omega)).trans htx
              replace hsx : f_22 (k + 1) = eI G 50 sg := (o_22 (k + 1) (by omega)).trans hsx
              replace hpx : f_22 (k + 2) = eI G 50 sp9116 := (o_22 (k + 2) (by omega)).trans hpx
              refine lv_iload_n hx hb dX4_read_93 rfl (lv_at hl 4 rfl) ?_
              refine lv_iload hx hb dX4_read_94 (lv_at hl 0 rfl) ?_
              refine lv_iconst (v := 1) hx hb dX4_read_96 (by decide) ?_
              refine lv_isub hx hb dX4_read_97 ?_
              refine va_mmax hx hb (by rw [hml]; exact hl.1.symm) hown (hts (.methodLink RX4 58 Lib.Math.max.name) w_286) (hts (.static Lib.Math.max.name) w_287) (hts (.initialized "java/lang/Math") w_153) (hts (.code Lib.Math.max.name Lib.Math.max.code 2 (some .int)) w_288) (Nat.le_of_ble_eq_true rfl) (Nat.le_of_ble_eq_true rfl) (Nat.le_of_ble_eq_true rfl) (Nat.le_of_ble_eq_true rfl) dX4_read_98 ?_
              refine my_bei (v := nI (max p1 (e9113 - 1))) (max_q (by omega) (by omega)) ?_
              refine lv_istore_n (lv' := [(2, .int (nI (max p1 (e9113 - 1)))), (4, .int (nI e9113)), (3, .int (if inN (nI p1) ln = true then sg (Int32.toNatClampNeg (nI p1)) else 0)), (0, .ref (g 4)), (1, .ref (g k))]) hx hb dX4_read_101 rfl hl (by decide) rfl (fun ls hl => ?_)
              refine lv_goto (tgt := 175) hx hb dX4_read_102 (by decide) ?_
              refine lv_iinc (v := nI ((max p1 (e9113 - 1)) + 1)) (lv' := [(2, .int (nI ((max p1 (e9113 - 1)) + 1))), (4, .int (nI e9113)), (3, .int (if inN (nI p1) ln = true then sg (Int32.toNatClampNeg (nI p1)) else 0)), (0, .ref (g 4)), (1, .ref (g k))]) hx hb dX4_read_175 hl (k := 0) rfl (nI_1 _) (by decide) rfl (fun ls hl => ?_)
              refine lv_goto (tgt := 26) hx hb dX4_read_178 (by decide) ?_
              exact ih ((max p1 (e9113 - 1)) + 1) mc1 op1 cm1 0 mk1 sc9115 sp9116 f_22 _ _ _ (by omega) (by omega) (by omega) (by omega) (hrd) (hmk) (htx) (hsx) (hpx) (fun j hj => (((o_22 j (by omega))).trans (o_21 j (by omega))).trans (o_6 j (by omega))) hP hS (lv_sub hl [3, 4, 0] rfl)
            · refine lv_bipush (v := 10) hx hb dX4_read_70 (by decide) ?_
              refine lv_iload_n hx hb dX4_read_72 rfl (lv_at hl 4 rfl) ?_
              refine lv_imul hx hb dX4_read_73 ?_
              refine lv_iconst (v := 2) hx hb dX4_read_74 (by decide) ?_
              refine lv_iadd hx hb dX4_read_75 ?_
              exact W.iret (v := (10 * (nI p1)) + 2) hx hb hr (fun t ht hW => ⟨⟨_, f_6, rfl, (⟨mc1, op1, cm1, wu1, mk1, sc1, sp1, hrd, hmk, htx, hpx, by omega, by omega, fun j hj => ((((((o_6 j (by omega))).trans (o_5 j (by omega))).trans (o_4 j (by omega))).trans (o_3 j (by omega))).trans (o_2 j (by omega))).trans (o_1 j (by omega))⟩), by rw [ht]; exact hP⟩, hS.F ht⟩) hS.2.2 dX4_read_76
  exact key1 (ln + 1) 0 0 0 0 1 mk 0 sp f_5 _ _ _ (Nat.zero_le _) (by omega) (by omega) (by omega) (hrd) (hmk) (htx) (hsx) (hpx) (fun j _ => rfl) hP hS (lv_sub hl [1, 2, 0] rfl)


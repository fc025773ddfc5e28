set_option maxHeartbeats 4000000 in
set_option maxRecDepth 100000 in
theorem k_shareTradeE (l : Launch) (G : gW) (g : Nat → Nat) (hg : gOK g) (f : Nat → va_E) (pay : Int32) (fine : Int32) (nt : Nat) (ct : Nat → Int32) (t : Nat) (o : Nat) (hbk : f 36 = eO 0 [.ref (g 37), .ref (g 39), .ref (g 41), .ref (g 43), .ref (g 45), .ref (g 47), .ref (g 112), .int pay, .int fine]) (htr : f 45 = eO 5 [.int (nI 10), .int (nI 70), .ref (g 46), .int (nI nt)]) (hct : f 46 = eI G (10 * 70) ct) (hnt : nt ≤ 10) (ht : t < nt) (ho : o < nt) : Met l yX0_shareTrade (wsT yX0_shareTrade cX0_shareTrade 4 (some .boolean)) ({ frames := 1, cells := 0, slots := 0, locals := 23 }) (bP G g f [.ref (g 36), .int (nI t), .int (nI o)]) (rQi (fun z9 => z9 = b2 (stW (fun t c => ct (70 * t + c)) t o = true))) 0 0 fr0 := by
  refine Met.ofW (cc := cX0_shareTrade) (maxL := 4) (ret := (some .boolean)) (by decide) rfl ?_
  intro p e s m args below meth c s₁ B hml hv
  obtain ⟨rfl, hP, hG⟩ := hv
  have hx := B.exec
  have hb := B.bytes
  have hr := B.returns
  have hts := my_hts (atoms_spec (ws := wsT yX0_shareTrade cX0_shareTrade 4 (some .boolean)) B.pre)
  have hown : s.vm.findClass RX0 = some m.cls := findClass_of_methodNamed B.named
  have hlocks := B.notSynchronized
  have hl := lv_entry ([.ref (g 36), .int (nI t), .int (nI o)]) (n := 4) (Nat.le_of_ble_eq_true rfl)
  rw [lg_entry_eq]
  generalize (lg_sl ([.ref (g 36), .int (nI t), .int (nI o)]) ++ List.replicate (4 - (lg_sl ([.ref (g 36), .int (nI t), .int (nI o)])).length) Slot.unset).toArray = ls at hl ⊢
  have hl : lv_has ls 4 [(0, .ref (g 36)), (1, .int (nI t)), (2, .int (nI o))] := hl
  refine lv_aload_n hx hb dX0_shareTrade_0 rfl (lv_at hl 0 rfl) ?_
  refine va_get (D := G.1) (ci := 0) (v := .ref (g 45)) (C := RX0) (T := TX0) (N := 9) hx hb hts inlX0 hown hG.1 hP 36 (wl_at (by decide) hbk) rfl 4 (by decide) (hts (.fieldLink RX0 29 "SwornLists$Book" "trials" "LSwornLists$Rows;") w_58) (fun _ h9 => h9) rfl dX0_shareTrade_1 ?_
  refine lv_iload_n hx hb dX0_shareTrade_4 rfl (lv_at hl 1 rfl) ?_
  refine lv_iconst (v := 5) hx hb dX0_shareTrade_5 (by decide) ?_
  refine rd_calli (va_runV (As := [.int (nI t), .int 5]) (rest := []) ⟨hx, hb, hml, hown, hts⟩ (r_at l G g hg f 45 10 70 nt ct (nI t) 5 htr hct (by first | assumption | omega | decide) (by first | assumption | omega | decide) (by first | assumption | omega | decide) (by first | assumption | omega | decide)) (my_cwV hts ok_X5_at w_225 rfl rfl ⟨Nat.le_of_ble_eq_true rfl, Nat.le_of_ble_eq_true rfl⟩) ⟨bP.blind, va_recv hG.1 hP (ci := 5) (q0 := 45) rfl (wl_at (by decide) htr), fun U hU hW => ⟨rfl, by rw [hU]; exact hP, kG.warm hW hG⟩⟩ rfl rfl hl.1 rfl (lv_room (Nat.le_of_ble_eq_true rfl)) dX0_shareTrade_6 ⟨Nat.le_of_ble_eq_true rfl, Nat.le_of_ble_eq_true rfl⟩) (fun r hr9 => ?_)
  subst hr9
  refine my_bei (v := ct (70 * t + 5)) (atQ (d := ct) (w := 70) (i := t) (c := 5) ht (by omega) (by omega) (by omega)) ?_
  refine lv_istore_n (lv' := [(3, .int (ct (70 * t + 5))), (0, .ref (g 36)), (1, .int (nI t)), (2, .int (nI o))]) hx hb dX0_shareTrade_9 rfl hl (by decide) rfl (fun ls hl => ?_)
  refine lv_iload_n hx hb dX0_shareTrade_10 rfl (lv_at hl 0 rfl) ?_
  refine lv_iconst (v := (-1)) hx hb dX0_shareTrade_11 (by decide) ?_
  refine lv_icmp_eq (tgt := 32) hx hb dX0_shareTrade_12 (by decide) (fun c_12 => ?_) (fun c_12 => ?_)
  · refine lv_iconst (v := 0) hx hb dX0_shareTrade_32 (by decide) ?_
    exact W.zret (v := 0) hx hb hr (rfl) (fun _ hT9 _ => ⟨_, rfl, ((b2_f (P := stW (fun t c => ct (70 * t + c)) t o = true) (fun z => (stW_iff.mp z).1 c_12)).symm), hT9⟩) (fun _ h => absurd h List.not_mem_nil) dX0_shareTrade_33
  · refine lv_iload_n hx hb dX0_shareTrade_15 rfl (lv_at hl 0 rfl) ?_
    refine lv_aload_n hx hb dX0_shareTrade_16 rfl (lv_at hl 1 rfl) ?_
    refine va_get (D := G.1) (ci := 0) (v := .ref (g 45)) (C := RX0) (T := TX0) (N := 9) hx hb hts inlX0 hown hG.1 hP 36 (wl_at (by decide) hbk) rfl 4 (by decide) (hts (.fieldLink RX0 29 "SwornLists$Book" "trials" "LSwornLists$Rows;") w_58) (fun _ h9 => h9) rfl dX0_shareTrade_17 ?_
    refine lv_iload_n hx hb dX0_shareTrade_20 rfl (lv_at hl 3 rfl) ?_
    refine lv_iconst (v := 5) hx hb dX0_shareTrade_21 (by decide) ?_
    refine rd_calli (va_runV (As := [.int (nI o), .int 5]) (rest := [.int (ct (70 * t + 5))]) ⟨hx, hb, hml, hown, hts⟩ (r_at l G g hg f 45 10 70 nt ct (nI o) 5 htr hct (by first | assumption | omega | decide) (by first | assumption | omega | decide) (by first | assumption | omega | decide) (by first | assumption | omega | decide)) (my_cwV hts ok_X5_at w_225 rfl rfl ⟨Nat.le_of_ble_eq_true rfl, Nat.le_of_ble_eq_true rfl⟩) ⟨bP.blind, va_recv hG.1 hP (ci := 5) (q0 := 45) rfl (wl_at (by decide) htr), fun U hU hW => ⟨rfl, by rw [hU]; exact hP, kG.warm hW hG⟩⟩ rfl rfl hl.1 rfl (lv_room (Nat.le_of_ble_eq_true rfl)) dX0_shareTrade_22 ⟨Nat.le_of_ble_eq_true rfl, Nat.le_of_ble_eq_true rfl⟩) (fun r hr9 => ?_)
    subst hr9
    refine my_bei (v := ct (70 * o + 5)) (atQ (d := ct) (w := 70) (i := o) (c := 5) ho (by omega) (by omega) (by omega)) ?_
    refine lv_icmp_ne (tgt := 32) hx hb dX0_shareTrade_25 (by decide) (fun c_25 => ?_) (fun c_25 => ?_)
    · refine lv_iconst (v := 0) hx hb dX0_shareTrade_32 (by decide) ?_
      exact W.zret (v := 0) hx hb hr (rfl) (fun _ hT9 _ => ⟨_, rfl, ((b2_f (P := stW (fun t c => ct (70 * t + c)) t o = true) (fun z => c_25 (stW_iff.mp z).2)).symm), hT9⟩) (fun _ h => absurd h List.not_mem_nil) dX0_shareTrade_33
    · refine lv_iconst (v := 1) hx hb dX0_shareTrade_28 (by decide) ?_
      refine lv_goto (tgt := 33) hx hb dX0_shareTrade_29 (by decide) ?_
      exact W.zret (v := 1) hx hb hr (rfl) (fun _ hT9 _ => ⟨_, rfl, ((b2_t (P := stW (fun t c => ct (70 * t + c)) t o = true) (stW_iff.mpr ⟨c_12, c_25⟩)).symm), hT9⟩) (fun _ h => absurd h List.not_mem_nil) dX0_shareTrade_33
set_option maxHeartbeats 4000000 in
set_option maxRecDepth 100000 in
theorem k_shareFamilyE (l : Launch) (G : gW) (g : Nat → Nat) (hg : gOK g) (f : Nat → va_E) (pay : Int32) (fine : Int32) (nt : Nat) (ct : Nat → Int32) (t : Nat) (o : Nat) (hbk : f 36 = eO 0 [.ref (g 37), .ref (g 39), .ref (g 41), .ref (g 43), .ref (g 45), .ref (g 47), .ref (g 112), .int pay, .int fine]) (htr : f 45 = eO 5 [.int (nI 10), .int (nI 70), .ref (g 46), .int (nI nt)]) (hct : f 46 = eI G (10 * 70) ct) (hnt : nt ≤ 10) (ht : t < nt) (ho : o < nt) : Met l yX0_shareFamily (wsT yX0_shareFamily cX0_shareFamily 6 (some .boolean)) ({ frames := 1, cells := 0, slots := 0, locals := 23 }) (bP G g f [.ref (g 36), .int (nI t), .int (nI o)]) (rQi (fun z9 => z9 = b2 ((frB (fun t c => ct (70 * t + c)) t o 3 || frB (fun t c => ct (70 * t + c)) t o 4) = true))) 0 0 fr0 := by
  refine Met.ofW (cc := cX0_shareFamily) (maxL := 6) (ret := (some .boolean)) (by decide) rfl ?_
  intro p e s m args below meth c s₁ B hml hv
  obtain ⟨rfl, hP, hG⟩ := hv
  have hx := B.exec
  have hb := B.bytes
  have hr := B.returns
  have hts := my_hts (atoms_spec (ws := wsT yX0_shareFamily cX0_shareFamily 6 (some .boolean)) B.pre)
  have hown : s.vm.findClass RX0 = some m.cls := findClass_of_methodNamed B.named
  have hlocks := B.notSynchronized
  have hl := lv_entry ([.ref (g 36), .int (nI t), .int (nI o)]) (n := 6) (Nat.le_of_ble_eq_true rfl)
  rw [lg_entry_eq]
  generalize (lg_sl ([.ref (g 36), .int (nI t), .int (nI o)]) ++ List.replicate (6 - (lg_sl ([.ref (g 36), .int (nI t), .int (nI o)])).length) Slot.unset).toArray = ls at hl ⊢
  have hl : lv_has ls 6 [(0, .ref (g 36)), (1, .int (nI t)), (2, .int (nI o))] := hl
  refine lv_iconst (v := 0) hx hb dX0_shareFamily_0 (by decide) ?_
  refine lv_istore_n (lv' := [(3, .int 0), (0, .ref (g 36)), (1, .int (nI t)), (2, .int (nI o))]) hx hb dX0_shareFamily_1 rfl hl (by decide) rfl (fun ls hl => ?_)
  have key1 : ∀ (n9_1 : Nat) (i : Nat) (ls : Array Slot), (i ≤ 2) → (∀ j, j < i → j ≤ 1 → frB (fun t c => ct (70 * t + c)) t o (j + 3) = false) → 2 - i < n9_1 → lv_has ls 6 [(0, .ref (g 36)), (1, .int (nI t)), (2, .int (nI o)), (3, .int (nI i))] → W p l e (headSpec (wsT yX0_shareFamily cX0_shareFamily 6 (some .boolean)) ({ frames := 1, cells := 0, slots := 0, locals := 23 })).room s m ([.ref (g 36), .int (nI t), .int (nI o)] : List Value).toArray below meth c s.heap [] 0 0 (MQ below (rQi (fun z9 => z9 = b2 ((frB (fun t c => ct (70 * t + c)) t o 3 || frB (fun t c => ct (70 * t + c)) t o 4) = true))) ([.ref (g 36), .int (nI t), .int (nI o)] : List Value).toArray s 0 0 fr0) (F0 m 2 ls []) := by
    intro n9_1
    induction n9_1 with
    | zero => intro i ls hi hfr hn9_1; exact absurd hn9_1 (Nat.not_lt_zero _)
    | succ n9_1 ih_1 =>
      intro i ls hi hfr hn9_1 hl
      refine lv_iload_n hx hb dX0_shareFamily_2 rfl (lv_at hl 3 rfl) ?_
      refine lv_iconst (v := 1) hx hb dX0_shareFamily_3 (by decide) ?_
      refine lv_icmp_gt (tgt := 74) hx hb dX0_shareFamily_4 (by decide) (fun c_4 => ?_) (fun c_4 => ?_)
      · have k_4 : 1 < i := (nI_ltI (a := 1) (b := i) (by omega) (by omega)).mp c_4
        refine lv_iconst (v := 0) hx hb dX0_shareFamily_74 (by decide) ?_
        exact W.zret (v := 0) hx hb hr (rfl) (fun _ hT9 _ => ⟨_, rfl, ((b2_f (P := (frB (fun t c => ct (70 * t + c)) t o 3 || frB (fun t c => ct (70 * t + c)) t o 4) = true) (sf_n (by omega) hfr)).symm), hT9⟩) (fun _ h => absurd h List.not_mem_nil) dX0_shareFamily_75
      · have k_4 : ¬ 1 < i := fun z9 => c_4 ((nI_ltI (a := 1) (b := i) (by omega) (by omega)).mpr z9)
        have hi1 : i ≤ 1 := by omega
        refine lv_aload_n hx hb dX0_shareFamily_7 rfl (lv_at hl 0 rfl) ?_
        refine va_get (D := G.1) (ci := 0) (v := .ref (g 45)) (C := RX0) (T := TX0) (N := 9) hx hb hts inlX0 hown hG.1 hP 36 (wl_at (by decide) hbk) rfl 4 (by decide) (hts (.fieldLink RX0 29 "SwornLists$Book" "trials" "LSwornLists$Rows;") w_58) (fun _ h9 => h9) rfl dX0_shareFamily_8 ?_
        refine lv_iload_n hx hb dX0_shareFamily_11 rfl (lv_at hl 1 rfl) ?_
        refine lv_iconst (v := 3) hx hb dX0_shareFamily_12 (by decide) ?_
        refine lv_iload_n hx hb dX0_shareFamily_13 rfl (lv_at hl 3 rfl) ?_
        refine lv_iadd hx hb dX0_shareFamily_14 ?_
        refine my_bei (v := nI (i + 3)) ((nI_add 3 i).trans (congrArg nI (show 3 + i = i + 3 by omega))) ?_
        refine rd_calli (va_runV (As := [.int (nI t), .int (nI (i + 3))]) (rest := []) ⟨hx, hb, hml, hown, hts⟩ (r_at l G g hg f 45 10 70 nt ct (nI t) (nI (i + 3)) htr hct (by first | assumption | omega | decide) (by first | assumption | omega | decide) (by first | assumption | omega | decide) (by first | assumption | omega | decide)) (my_cwV hts ok_X5_at w_225 rfl rfl ⟨Nat.le_of_ble_eq_true rfl, Nat.le_of_ble_eq_true rfl⟩) ⟨bP.blind, va_recv hG.1 hP (ci := 5) (q0 := 45) rfl (wl_at (by decide) htr), fun U hU hW => ⟨rfl, by rw [hU]; exact hP, kG.warm hW hG⟩⟩ rfl rfl hl.1 rfl (lv_room (Nat.le_of_ble_eq_true rfl)) dX0_shareFamily_15 ⟨Nat.le_of_ble_eq_true rfl, Nat.le_of_ble_eq_true rfl⟩) (fun r hr9 => ?_)
        subst hr9
        refine my_bei (v := ct (70 * t + (i + 3))) (atQ (d := ct) (w := 70) (i := t) (c := i + 3) ht (by omega) (by omega) (by omega)) ?_
        refine lv_istore (lv' := [(4, .int (ct (70 * t + (i + 3)))), (0, .ref (g 36)), (1, .int (nI t)), (2, .int (nI o)), (3, .int (nI i))]) hx hb dX0_shareFamily_18 hl (by decide) rfl (fun ls hl => ?_)
        refine lv_iload hx hb dX0_shareFamily_20 (lv_at hl 0 rfl) ?_
        refine lv_aload_n hx hb dX0_shareFamily_22 rfl (lv_at hl 1 rfl) ?_
        refine va_get (D := G.1) (ci := 0) (v := .ref (g 45)) (C := RX0) (T := TX0) (N := 9) hx hb hts inlX0 hown hG.1 hP 36 (wl_at (by decide) hbk) rfl 4 (by decide) (hts (.fieldLink RX0 29 "SwornLists$Book" "trials" "LSwornLists$Rows;") w_58) (fun _ h9 => h9) rfl dX0_shareFamily_23 ?_
        refine lv_iload_n hx hb dX0_shareFamily_26 rfl (lv_at hl 3 rfl) ?_
        refine lv_iconst (v := 3) hx hb dX0_shareFamily_27 (by decide) ?_
        refine rd_calli (va_runV (As := [.int (nI o), .int 3]) (rest := [.int (ct (70 * t + (i + 3)))]) ⟨hx, hb, hml, hown, hts⟩ (r_at l G g hg f 45 10 70 nt ct (nI o) 3 htr hct (by first | assumption | omega | decide) (by first | assumption | omega | decide) (by first | assumption | omega | decide) (by first | assumption | omega | decide)) (my_cwV hts ok_X5_at w_225 rfl rfl ⟨Nat.le_of_ble_eq_true rfl, Nat.le_of_ble_eq_true rfl⟩) ⟨bP.blind, va_recv hG.1 hP (ci := 5) (q0 := 45) rfl (wl_at (by decide) htr), fun U hU hW => ⟨rfl, by rw [hU]; exact hP, kG.warm hW hG⟩⟩ rfl rfl hl.1 rfl (lv_room (Nat.le_of_ble_eq_true rfl)) dX0_shareFamily_28 ⟨Nat.le_of_ble_eq_true rfl, Nat.le_of_ble_eq_true rfl⟩) (fun r hr9 => ?_)
        subst hr9
        refine my_bei (v := ct (70 * o + 3)) (atQ (d := ct) (w := 70) (i := o) (c := 3) ho (by omega) (by omega) (by omega)) ?_
        refine lv_icmp_eq (tgt := 48) hx hb dX0_shareFamily_31 (by decide) (fun c_31 => ?_) (fun c_31 => ?_)
        · refine lv_iconst (v := 1) hx hb dX0_shareFamily_48 (by decide) ?_
          refine lv_goto (tgt := 53) hx hb dX0_shareFamily_49 (by decide) ?_
          refine lv_istore (lv' := [(5, .int 1), (4, .int (ct (70 * t + (i + 3)))), (0, .ref (g 36)), (1, .int (nI t)), (2, .int (nI o)), (3, .int (nI i))]) hx hb dX0_shareFamily_53 hl (by decide) rfl (fun ls hl => ?_)
          refine lv_iload hx hb dX0_shareFamily_55 (lv_at hl 1 rfl) ?_
          refine lv_iconst (v := (-1)) hx hb dX0_shareFamily_57 (by decide) ?_
          refine lv_icmp_eq (tgt := 68) hx hb dX0_shareFamily_58 (by decide) (fun c_58 => ?_) (fun c_58 => ?_)
          · refine lv_iinc (v := nI (i + 1)) (lv' := [(3, .int (nI (i + 1))), (5, .int 1), (4, .int (ct (70 * t + (i + 3)))), (0, .ref (g 36)), (1, .int (nI t)), (2, .int (nI o))]) hx hb dX0_shareFamily_68 hl (k := 5) rfl (nI_add i 1) (by decide) rfl (fun ls hl => ?_)
            refine lv_goto (tgt := 2) hx hb dX0_shareFamily_71 (by decide) ?_
            exact ih_1 (i + 1) _ (by omega) (fr_s hfr (by unfold frB; rw [decide_eq_false (fun z => z c_58), Bool.false_and])) (by omega) (lv_sub hl [3, 4, 5, 0] rfl)
          · refine lv_iload hx hb dX0_shareFamily_61 (lv_at hl 0 rfl) ?_
            refine lv_if_eq (tgt := 68) hx hb dX0_shareFamily_63 (by decide) (fun c_63 => absurd c_63 (by decide)) (fun c_63 => ?_)
            refine lv_iconst (v := 1) hx hb dX0_shareFamily_66 (by decide) ?_
            exact W.zret (v := 1) hx hb hr (rfl) (fun _ hT9 _ => ⟨_, rfl, ((b2_t (P := (frB (fun t c => ct (70 * t + c)) t o 3 || frB (fun t c => ct (70 * t + c)) t o 4) = true) (sf_y (by omega) ((Bool.and_eq_true _ _).mpr ⟨decide_eq_true c_58, (Bool.or_eq_true _ _).mpr (Or.inl (decide_eq_true c_31))⟩))).symm), hT9⟩) (fun _ h => absurd h List.not_mem_nil) dX0_shareFamily_67
        · refine lv_iload hx hb dX0_shareFamily_34 (lv_at hl 0 rfl) ?_
          refine lv_aload_n hx hb dX0_shareFamily_36 rfl (lv_at hl 1 rfl) ?_
          refine va_get (D := G.1) (ci := 0) (v := .ref (g 45)) (C := RX0) (T := TX0) (N := 9) hx hb hts inlX0 hown hG.1 hP 36 (wl_at (by decide) hbk) rfl 4 (by decide) (hts (.fieldLink RX0 29 "SwornLists$Book" "trials" "LSwornLists$Rows;") w_58) (fun _ h9 => h9) rfl dX0_shareFamily_37 ?_
          refine lv_iload_n hx hb dX0_shareFamily_40 rfl (lv_at hl 3 rfl) ?_
          refine lv_iconst (v := 4) hx hb dX0_shareFamily_41 (by decide) ?_
          refine rd_calli (va_runV (As := [.int (nI o), .int 4]) (rest := [.int (ct (70 * t + (i + 3)))]) ⟨hx, hb, hml, hown, hts⟩ (r_at l G g hg f 45 10 70 nt ct (nI o) 4 htr hct (by first | assumption | omega | decide) (by first | assumption | omega | decide) (by first | assumption | omega | decide) (by first | assumption | omega | decide)) (my_cwV hts ok_X5_at w_225 rfl rfl ⟨Nat.le_of_ble_eq_true rfl, Nat.le_of_ble_eq_true rfl⟩) ⟨bP.blind, va_recv hG.1 hP (ci := 5) (q0 := 45) rfl (wl_at (by decide) htr), fun U hU hW => ⟨rfl, by rw [hU]; exact hP, kG.warm hW hG⟩⟩ rfl rfl hl.1 rfl (lv_room (Nat.le_of_ble_eq_true rfl)) dX0_shareFamily_42 ⟨Nat.le_of_ble_eq_true rfl, Nat.le_of_ble_eq_true rfl⟩) (fun r hr9 => ?_)
          subst hr9
          refine my_bei (v := ct (70 * o + 4)) (atQ (d := ct) (w := 70) (i := o) (c := 4) ho (by omega) (by omega) (by omega)) ?_
          refine lv_icmp_ne (tgt := 52) hx hb dX0_shareFamily_45 (by decide) (fun c_45 => ?_) (fun c_45 => ?_)
          · refine lv_iconst (v := 0) hx hb dX0_shareFamily_52 (by decide) ?_
            refine lv_istore (lv' := [(5, .int 0), (4, .int (ct (70 * t + (i + 3)))), (0, .ref (g 36)), (1, .int (nI t)), (2, .int (nI o)), (3, .int (nI i))]) hx hb dX0_shareFamily_53 hl (by decide) rfl (fun ls hl => ?_)
            refine lv_iload hx hb dX0_shareFamily_55 (lv_at hl 1 rfl) ?_
            refine lv_iconst (v := (-1)) hx hb dX0_shareFamily_57 (by decide) ?_
            refine lv_icmp_eq (tgt := 68) hx hb dX0_shareFamily_58 (by decide) (fun c_58 => ?_) (fun c_58 => ?_)
            · refine lv_iinc (v := nI (i + 1)) (lv' := [(3, .int (nI (i + 1))), (5, .int 0), (4, .int (ct (70 * t + (i + 3)))), (0, .ref (g 36)), (1, .int (nI t)), (2, .int (nI o))]) hx hb dX0_shareFamily_68 hl (k := 5) rfl (nI_add i 1) (by decide) rfl (fun ls hl => ?_)
              refine lv_goto (tgt := 2) hx hb dX0_shareFamily_71 (by decide) ?_
              exact ih_1 (i + 1) _ (by omega) (fr_s hfr (by unfold frB; rw [decide_eq_false (fun z => z c_58), Bool.false_and])) (by omega) (lv_sub hl [3, 4, 5, 0] rfl)
            · refine lv_iload hx hb dX0_shareFamily_61 (lv_at hl 0 rfl) ?_
              refine lv_if_eq (tgt := 68) hx hb dX0_shareFamily_63 (by decide) (fun c_63 => ?_) (fun c_63 => absurd (by decide) c_63)
              refine lv_iinc (v := nI (i + 1)) (lv' := [(3, .int (nI (i + 1))), (5, .int 0), (4, .int (ct (70 * t + (i + 3)))), (0, .ref (g 36)), (1, .int (nI t)), (2, .int (nI o))]) hx hb dX0_shareFamily_68 hl (k := 5) rfl (nI_add i 1) (by decide) rfl (fun ls hl => ?_)
              refine lv_goto (tgt := 2) hx hb dX0_shareFamily_71 (by decide) ?_
              exact ih_1 (i + 1) _ (by omega) (fr_s hfr (by unfold frB; rw [decide_eq_false (p := (fun t c => ct (70 * t + c)) t (i + 3) = (fun t c => ct (70 * t + c)) o 3) c_31, decide_eq_false (p := (fun t c => ct (70 * t + c)) t (i + 3) = (fun t c => ct (70 * t + c)) o 4) c_45, Bool.false_or, Bool.and_false])) (by omega) (lv_sub hl [3, 4, 5, 0] rfl)
          · refine lv_iconst (v := 1) hx hb dX0_shareFamily_48 (by decide) ?_
            refine lv_goto (tgt := 53) hx hb dX0_shareFamily_49 (by decide) ?_
            refine lv_istore (lv' := [(5, .int 1), (4, .int (ct (70 * t + (i + 3)))), (0, .ref (g 36)), (1, .int (nI t)), (2, .int (nI o)), (3, .int (nI i))]) hx hb dX0_shareFamily_53 hl (by decide) rfl (fun ls hl => ?_)
            refine lv_iload hx hb dX0_shareFamily_55 (lv_at hl 1 rfl) ?_
            refine lv_iconst (v := (-1)) hx hb dX0_shareFamily_57 (by decide) ?_
            refine lv_icmp_eq (tgt := 68) hx hb dX0_shareFamily_58 (by decide) (fun c_58 => ?_) (fun c_58 => ?_)
            · refine lv_iinc (v := nI (i + 1)) (lv' := [(3, .int (nI (i + 1))), (5, .int 1), (4, .int (ct (70 * t + (i + 3)))), (0, .ref (g 36)), (1, .int (nI t)), (2, .int (nI o))]) hx hb dX0_shareFamily_68 hl (k := 5) rfl (nI_add i 1) (by decide) rfl (fun ls hl => ?_)
              refine lv_goto (tgt := 2) hx hb dX0_shareFamily_71 (by decide) ?_
              exact ih_1 (i + 1) _ (by omega) (fr_s hfr (by unfold frB; rw [decide_eq_false (fun z => z c_58), Bool.false_and])) (by omega) (lv_sub hl [3, 4, 5, 0] rfl)
            · refine lv_iload hx hb dX0_shareFamily_61 (lv_at hl 0 rfl) ?_
              refine lv_if_eq (tgt := 68) hx hb dX0_shareFamily_63 (by decide) (fun c_63 => absurd c_63 (by decide)) (fun c_63 => ?_)
              refine lv_iconst (v := 1) hx hb dX0_shareFamily_66 (by decide) ?_
              exact W.zret (v := 1) hx hb hr (rfl) (fun _ hT9 _ => ⟨_, rfl, ((b2_t (P := (frB (fun t c => ct (70 * t + c)) t o 3 || frB (fun t c => ct (70 * t + c)) t o 4) = true) (sf_y (by omega) ((Bool.and_eq_true _ _).mpr ⟨decide_eq_true c_58, (Bool.or_eq_true _ _).mpr (Or.inr (decide_eq_true c_45))⟩))).symm), hT9⟩) (fun _ h => absurd h List.not_mem_nil) dX0_shareFamily_67
  exact key1 (2 + 1) 0 _ (Nat.zero_le _) (fun j hj => absurd hj (Nat.not_lt_zero _)) (by omega) (lv_sub hl [1, 2, 3, 0] rfl)
set_option maxHeartbeats 4000000 in
set_option maxRecDepth 100000 in
theorem v_sumToE (l : Launch) (G : gW) (g : Nat → Nat) (hg : gOK g) (f : Nat → va_E) (mn : Nat) (le : Int32) (ww : Nat → Int32) (a : Nat) (w : Nat → Nat) (hwt : f 7 = eO 8 [.ref (g 8), .ref (g 9), .ref (g 10), .ref (g 11), .int (nI mn), .int le]) (hw9 : f 9 = eI G 6 ww) (hmn : mn ≤ 6) (ha : a < 6) (hWw : ∀ k, k ≤ a → ww k = nI (w k) ∧ w k ≤ 6) : Met l yX9_sumTo (wsT yX9_sumTo cX9_sumTo 4 (some .int)) ({ frames := 0, cells := 0, slots := 0, locals := 0 }) (bP G g f [.ref (g 7), .int (nI a)]) (rQi (fun z9 => z9 = nI (smW w (a + 1)))) 0 0 fr0 := by
  refine Met.ofW (cc := cX9_sumTo) (maxL := 4) (ret := (some .int)) (by decide) rfl ?_
  intro p e s m args below meth c s₁ B hml hv
  obtain ⟨rfl, hP, hG⟩ := hv
  have hx := B.exec
  have hb := B.bytes
  have hr := B.returns
  have hts := my_hts (atoms_spec (ws := wsT yX9_sumTo cX9_sumTo 4 (some .int)) B.pre)
  have hown : s.vm.findClass RX9 = some m.cls := findClass_of_methodNamed B.named
  have hlocks := B.notSynchronized
  have hl := lv_entry ([.ref (g 7), .int (nI a)]) (n := 4) (Nat.le_of_ble_eq_true rfl)
  rw [lg_entry_eq]
  generalize (lg_sl ([.ref (g 7), .int (nI a)]) ++ List.replicate (4 - (lg_sl ([.ref (g 7), .int (nI a)])).length) Slot.unset).toArray = ls at hl ⊢
  have hl : lv_has ls 4 [(0, .ref (g 7)), (1, .int (nI a))] := hl
  refine lv_iconst (v := 0) hx hb dX9_sumTo_0 (by decide) ?_
  refine lv_istore_n (lv' := [(2, .int 0), (0, .ref (g 7)), (1, .int (nI a))]) hx hb dX9_sumTo_1 rfl hl (by decide) rfl (fun ls hl => ?_)
  refine lv_iconst (v := 0) hx hb dX9_sumTo_2 (by decide) ?_
  refine lv_istore_n (lv' := [(3, .int 0), (2, .int 0), (0, .ref (g 7)), (1, .int (nI a))]) hx hb dX9_sumTo_3 rfl hl (by decide) rfl (fun ls hl => ?_)
  have key1 : ∀ (n9_1 : Nat) (i : Nat) (ls : Array Slot), (i ≤ a + 1) → a + 1 - i < n9_1 → lv_has ls 4 [(0, .ref (g 7)), (1, .int (nI a)), (2, .int (nI (smW w i))), (3, .int (nI i))] → W p l e (headSpec (wsT yX9_sumTo cX9_sumTo 4 (some .int)) ({ frames := 0, cells := 0, slots := 0, locals := 0 })).room s m ([.ref (g 7), .int (nI a)] : List Value).toArray below meth c s.heap [] 0 0 (MQ below (rQi (fun z9 => z9 = nI (smW w (a + 1)))) ([.ref (g 7), .int (nI a)] : List Value).toArray s 0 0 fr0) (F0 m 4 ls []) := by
    intro n9_1
    induction n9_1 with
    | zero => intro i ls hi hn9_1; exact absurd hn9_1 (Nat.not_lt_zero _)
    | succ n9_1 ih_1 =>
      intro i ls hi hn9_1 hl
      refine lv_iload_n hx hb dX9_sumTo_4 rfl (lv_at hl 3 rfl) ?_
      refine lv_iload_n hx hb dX9_sumTo_5 rfl (lv_at hl 1 rfl) ?_
      refine lv_icmp_gt (tgt := 24) hx hb dX9_sumTo_6 (by decide) (fun c_6 => ?_) (fun c_6 => ?_)
      · refine lv_iload_n hx hb dX9_sumTo_24 rfl (lv_at hl 2 rfl) ?_
        exact W.iret (v := nI (smW w i)) hx hb hr (fun _ hT9 _ => ⟨_, rfl, (congrArg nI (congrArg (smW w) (show i = a + 1 by have h9 := (nI_ltI (a := a) (b := i) (by omega) (by omega)).mp c_6; omega))), hT9⟩) (fun _ h => absurd h List.not_mem_nil) dX9_sumTo_25
      · have hi9 : i ≤ a := Nat.not_lt.mp (fun z => c_6 (nI_lt z (by omega)))
        refine lv_iload_n hx hb dX9_sumTo_9 rfl (lv_at hl 2 rfl) ?_
        refine lv_aload_n hx hb dX9_sumTo_10 rfl (lv_at hl 0 rfl) ?_
        refine va_get (D := G.1) (ci := 8) (v := .ref (g 9)) (C := RX9) (T := TX9) (N := 6) hx hb hts inlX9 hown hG.1 hP 7 (wl_at (by decide) hwt) rfl 1 (by decide) (hts (.fieldLink RX9 15 "SwornLists$Waits" "waits" "[I") w_105) (fun _ h9 => h9) rfl dX9_sumTo_11 ?_
        refine lv_iload_n hx hb dX9_sumTo_14 rfl (lv_at hl 3 rfl) ?_
        refine va_iald hx hb hG.1 hP 9 0 (wl_at (by decide) hw9) rfl (vp_in_nI (by omega) (by decide)) dX9_sumTo_15 ?_
        refine my_bei (v := nI (w i)) ((congrArg ww (nI_clamp (n := i) (by omega))).trans (hWw i (by omega)).1) ?_
        refine lv_iadd hx hb dX9_sumTo_16 ?_
        refine my_bei (v := nI (smW w (i + 1))) (nI_add _ _) ?_
        refine lv_istore_n (lv' := [(2, .int (nI (smW w (i + 1)))), (0, .ref (g 7)), (1, .int (nI a)), (3, .int (nI i))]) hx hb dX9_sumTo_17 rfl hl (by decide) rfl (fun ls hl => ?_)
        refine lv_iinc (v := nI (i + 1)) (lv' := [(3, .int (nI (i + 1))), (2, .int (nI (smW w (i + 1)))), (0, .ref (g 7)), (1, .int (nI a))]) hx hb dX9_sumTo_18 hl (k := 3) rfl (nI_1 i) (by decide) rfl (fun ls hl => ?_)
        refine lv_goto (tgt := 4) hx hb dX9_sumTo_21 (by decide) ?_
        exact ih_1 (i + 1) _ (by omega) (by omega) (lv_sub hl [2, 3, 1, 0] rfl)
  exact key1 ((a + 1) + 1) 0 _ (Nat.zero_le _) (by omega) (lv_sub hl [2, 3, 1, 0] rfl)
set_option maxHeartbeats 4000000 in
set_option maxRecDepth 100000 in
theorem v_longest0 (l : Launch) (G : gW) (g : Nat → Nat) (hg : gOK g) (f : Nat → va_E) (mn : Nat) (le : Int32) (wf : Nat → Int32) (a : Nat) (hwt : f 7 = eO 8 [.ref (g 8), .ref (g 9), .ref (g 10), .ref (g 11), .int (nI mn), .int le]) (hw11 : f 11 = eI G 6 wf) (hmn : mn ≤ 6) (ha : a < 6) (hz : wf a = 0) : Met l yX9_longestOf (wsT yX9_longestOf cX9_longestOf 2 (some .int)) ({ frames := 0, cells := 0, slots := 0, locals := 0 }) (bP G g f [.ref (g 7), .int (nI a)]) (rQi (fun z9 => z9 = 0)) 0 0 fr0 := by
  refine Met.ofW (cc := cX9_longestOf) (maxL := 2) (ret := (some .int)) (by decide) rfl ?_
  intro p e s m args below meth c s₁ B hml hv
  obtain ⟨rfl, hP, hG⟩ := hv
  have hx := B.exec
  have hb := B.bytes
  have hr := B.returns
  have hts := my_hts (atoms_spec (ws := wsT yX9_longestOf cX9_longestOf 2 (some .int)) B.pre)
  have hown : s.vm.findClass RX9 = some m.cls := findClass_of_methodNamed B.named
  have hlocks := B.notSynchronized
  have hl := lv_entry ([.ref (g 7), .int (nI a)]) (n := 2) (Nat.le_of_ble_eq_true rfl)
  rw [lg_entry_eq]
  generalize (lg_sl ([.ref (g 7), .int (nI a)]) ++ List.replicate (2 - (lg_sl ([.ref (g 7), .int (nI a)])).length) Slot.unset).toArray = ls at hl ⊢
  have hl : lv_has ls 2 [(0, .ref (g 7)), (1, .int (nI a))] := hl
  refine lv_aload_n hx hb dX9_longestOf_0 rfl (lv_at hl 0 rfl) ?_
  refine va_get (D := G.1) (ci := 8) (v := .ref (g 11)) (C := RX9) (T := TX9) (N := 6) hx hb hts inlX9 hown hG.1 hP 7 (wl_at (by decide) hwt) rfl 3 (by decide) (hts (.fieldLink RX9 21 "SwornLists$Waits" "foes" "[I") w_107) (fun _ h9 => h9) rfl dX9_longestOf_1 ?_
  refine lv_iload_n hx hb dX9_longestOf_4 rfl (lv_at hl 1 rfl) ?_
  refine va_iald hx hb hG.1 hP 11 0 (wl_at (by decide) hw11) rfl (vp_in_nI (by omega) (by decide)) dX9_longestOf_5 ?_
  refine my_bei (v := wf a) (congrArg wf (nI_clamp (n := a) (by omega))) ?_
  refine lv_if_ne (tgt := 13) hx hb dX9_longestOf_6 (by decide) (fun c_6 => absurd (hz) c_6) (fun c_6 => ?_)
  refine lv_iconst (v := 0) hx hb dX9_longestOf_9 (by decide) ?_
  refine lv_goto (tgt := 14) hx hb dX9_longestOf_10 (by decide) ?_
  exact W.iret (v := 0) hx hb hr (fun _ hT9 _ => ⟨_, rfl, (rfl), hT9⟩) (fun _ h => absurd h List.not_mem_nil) dX9_longestOf_14
set_option maxHeartbeats 4000000 in
set_option maxRecDepth 100000 in
theorem v_longest5 (l : Launch) (G : gW) (g : Nat → Nat) (hg : gOK g) (f : Nat → va_E) (mn : Nat) (le : Int32) (wf : Nat → Int32) (a : Nat) (hwt : f 7 = eO 8 [.ref (g 8), .ref (g 9), .ref (g 10), .ref (g 11), .int (nI mn), .int le]) (hw11 : f 11 = eI G 6 wf) (hmn : mn ≤ 6) (ha : a < 6) (hz : ¬ wf a = 0) : Met l yX9_longestOf (wsT yX9_longestOf cX9_longestOf 2 (some .int)) ({ frames := 0, cells := 0, slots := 0, locals := 0 }) (bP G g f [.ref (g 7), .int (nI a)]) (rQi (fun z9 => z9 = 5)) 0 0 fr0 := by
  refine Met.ofW (cc := cX9_longestOf) (maxL := 2) (ret := (some .int)) (by decide) rfl ?_
  intro p e s m args below meth c s₁ B hml hv
  obtain ⟨rfl, hP, hG⟩ := hv
  have hx := B.exec
  have hb := B.bytes
  have hr := B.returns
  have hts := my_hts (atoms_spec (ws := wsT yX9_longestOf cX9_longestOf 2 (some .int)) B.pre)
  have hown : s.vm.findClass RX9 = some m.cls := findClass_of_methodNamed B.named
  have hlocks := B.notSynchronized
  have hl := lv_entry ([.ref (g 7), .int (nI a)]) (n := 2) (Nat.le_of_ble_eq_true rfl)
  rw [lg_entry_eq]
  generalize (lg_sl ([.ref (g 7), .int (nI a)]) ++ List.replicate (2 - (lg_sl ([.ref (g 7), .int (nI a)])).length) Slot.unset).toArray = ls at hl ⊢
  have hl : lv_has ls 2 [(0, .ref (g 7)), (1, .int (nI a))] := hl
  refine lv_aload_n hx hb dX9_longestOf_0 rfl (lv_at hl 0 rfl) ?_
  refine va_get (D := G.1) (ci := 8) (v := .ref (g 11)) (C := RX9) (T := TX9) (N := 6) hx hb hts inlX9 hown hG.1 hP 7 (wl_at (by decide) hwt) rfl 3 (by decide) (hts (.fieldLink RX9 21 "SwornLists$Waits" "foes" "[I") w_107) (fun _ h9 => h9) rfl dX9_longestOf_1 ?_
  refine lv_iload_n hx hb dX9_longestOf_4 rfl (lv_at hl 1 rfl) ?_
  refine va_iald hx hb hG.1 hP 11 0 (wl_at (by decide) hw11) rfl (vp_in_nI (by omega) (by decide)) dX9_longestOf_5 ?_
  refine my_bei (v := wf a) (congrArg wf (nI_clamp (n := a) (by omega))) ?_
  refine lv_if_ne (tgt := 13) hx hb dX9_longestOf_6 (by decide) (fun c_6 => ?_) (fun c_6 => absurd c_6 (hz))
  refine lv_iconst (v := 5) hx hb dX9_longestOf_13 (by decide) ?_
  exact W.iret (v := 5) hx hb hr (fun _ hT9 _ => ⟨_, rfl, (rfl), hT9⟩) (fun _ h => absurd h List.not_mem_nil) dX9_longestOf_14
set_option maxHeartbeats 4000000 in
set_option maxRecDepth 100000 in
theorem v_bestAtE (l : Launch) (G : gW) (g : Nat → Nat) (hg : gOK g) (f : Nat → va_E) (mn : Nat) (le : Int32) (wb : Nat → Int32) (a : Nat) (hwt : f 7 = eO 8 [.ref (g 8), .ref (g 9), .ref (g 10), .ref (g 11), .int (nI mn), .int le]) (hw10 : f 10 = eI G 6 wb) (hmn : mn ≤ 6) (ha : a < mn) : Met l yX9_bestAt (wsT yX9_bestAt cX9_bestAt 2 (some .int)) ({ frames := 0, cells := 0, slots := 0, locals := 0 }) (bP G g f [.ref (g 7), .int (nI a)]) (rQi (fun z9 => z9 = wb a)) 0 0 fr0 := by
  refine Met.ofW (cc := cX9_bestAt) (maxL := 2) (ret := (some .int)) (by decide) rfl ?_
  intro p e s m args below meth c s₁ B hml hv
  obtain ⟨rfl, hP, hG⟩ := hv
  have hx := B.exec
  have hb := B.bytes
  have hr := B.returns
  have hts := my_hts (atoms_spec (ws := wsT yX9_bestAt cX9_bestAt 2 (some .int)) B.pre)
  have hown : s.vm.findClass RX9 = some m.cls := findClass_of_methodNamed B.named
  have hlocks := B.notSynchronized
  have hl := lv_entry ([.ref (g 7), .int (nI a)]) (n := 2) (Nat.le_of_ble_eq_true rfl)
  rw [lg_entry_eq]
  generalize (lg_sl ([.ref (g 7), .int (nI a)]) ++ List.replicate (2 - (lg_sl ([.ref (g 7), .int (nI a)])).length) Slot.unset).toArray = ls at hl ⊢
  have hl : lv_has ls 2 [(0, .ref (g 7)), (1, .int (nI a))] := hl
  refine lv_iload_n hx hb dX9_bestAt_0 rfl (lv_at hl 1 rfl) ?_
  refine lv_if_lt (tgt := 21) hx hb dX9_bestAt_1 (by decide) (fun c_1 => absurd c_1 (fun z => absurd z (Int32.not_lt.mpr (nI_pos9 (by omega))))) (fun c_1 => ?_)
  refine lv_iload_n hx hb dX9_bestAt_4 rfl (lv_at hl 1 rfl) ?_
  refine lv_aload_n hx hb dX9_bestAt_5 rfl (lv_at hl 0 rfl) ?_
  refine va_get (D := G.1) (ci := 8) (v := .int (nI mn)) (C := RX9) (T := TX9) (N := 6) hx hb hts inlX9 hown hG.1 hP 7 (wl_at (by decide) hwt) rfl 4 (by decide) (hts (.fieldLink RX9 24 "SwornLists$Waits" "many" "I") w_824) (fun _ h9 => h9) rfl dX9_bestAt_6 ?_
  refine lv_icmp_ge (tgt := 21) hx hb dX9_bestAt_9 (by decide) (fun c_9 => absurd c_9 (fun z => absurd ((nI_leI (by omega) (by omega)).mp z) (by omega))) (fun c_9 => ?_)
  refine lv_aload_n hx hb dX9_bestAt_12 rfl (lv_at hl 0 rfl) ?_
  refine va_get (D := G.1) (ci := 8) (v := .ref (g 10)) (C := RX9) (T := TX9) (N := 6) hx hb hts inlX9 hown hG.1 hP 7 (wl_at (by decide) hwt) rfl 2 (by decide) (hts (.fieldLink RX9 18 "SwornLists$Waits" "best" "[I") w_106) (fun _ h9 => h9) rfl dX9_bestAt_13 ?_
  refine lv_iload_n hx hb dX9_bestAt_16 rfl (lv_at hl 1 rfl) ?_
  refine va_iald hx hb hG.1 hP 10 0 (wl_at (by decide) hw10) rfl (vp_in_nI (by omega) (by decide)) dX9_bestAt_17 ?_
  refine my_bei (v := wb a) (congrArg wb (nI_clamp (n := a) (by omega))) ?_
  refine lv_goto (tgt := 22) hx hb dX9_bestAt_18 (by decide) ?_
  exact W.iret (v := wb a) hx hb hr (fun _ hT9 _ => ⟨_, rfl, (rfl), hT9⟩) (fun _ h => absurd h List.not_mem_nil) dX9_bestAt_22
set_option maxHeartbeats 4000000 in
set_option maxRecDepth 100000 in
theorem v_fitsE (l : Launch) (G : gW) (g : Nat → Nat) (hg : gOK g) (f : Nat → va_E) (mn : Nat) (le : Int32) (wt : Nat → Int32) (ww : Nat → Int32) (wf : Nat → Int32) (pay : Int32) (fine : Int32) (nt : Nat) (ct : Nat → Int32) (dd : Nat → Nat) (ee : Nat → Nat) (WH : Nat → Nat) (w : Nat → Nat) (a : Nat) (hwt : f 7 = eO 8 [.ref (g 8), .ref (g 9), .ref (g 10), .ref (g 11), .int (nI mn), .int le]) (hw8 : f 8 = eI G 6 wt) (hw9 : f 9 = eI G 6 ww) (hw11 : f 11 = eI G 6 wf) (hbk : f 36 = eO 0 [.ref (g 37), .ref (g 39), .ref (g 41), .ref (g 43), .ref (g 45), .ref (g 47), .ref (g 112), .int pay, .int fine]) (htr : f 45 = eO 5 [.int (nI 10), .int (nI 70), .ref (g 46), .int (nI nt)]) (hct : f 46 = eI G (10 * 70) ct) (hmn : mn ≤ 6) (hnt : nt ≤ 10) (ha : a < mn) (hWt : ∀ k, k < mn → wt k = nI (WH k) ∧ WH k < nt) (hWw : ∀ k, k ≤ a → ww k = nI (w k) ∧ w k ≤ 6) (hWf : foV (fun i k => mtB (fun t c => ct (70 * t + c)) (WH i) (WH k)) mn mn 0 wf) (hde : ∀ z, z < nt → (ct (70 * z + 0) = nI (dd z) ∧ dd z ≤ 9999) ∧ ct (70 * z + 1) = nI (ee z) ∧ 1 ≤ ee z ∧ ee z ≤ 9) : Met l yX9_fits (wsT yX9_fits cX9_fits 8 (some .boolean)) ({ frames := 2, cells := 0, slots := 0, locals := 44 }) (bP G g f [.ref (g 7), .ref (g 36), .int (nI a)]) (rQi (fun z9 => ∃ bz : Bool, z9 = b2 (bz = true) ∧ (bz = true → ∀ k, k < a → cfW (fun k => dd (WH k)) (fun k => ee (WH k)) (fun i k => mtB (fun t c => ct (70 * t + c)) (WH i) (WH k)) w a k = false) ∧ (bz = false → ∃ k, k < a ∧ cfW (fun k => dd (WH k)) (fun k => ee (WH k)) (fun i k => mtB (fun t c => ct (70 * t + c)) (WH i) (WH k)) w a k = true))) 0 0 fr0 := by
  refine Met.ofW (cc := cX9_fits) (maxL := 8) (ret := (some .boolean)) (by decide) rfl ?_
  intro p e s m args below meth c s₁ B hml hv
  obtain ⟨rfl, hP, hG⟩ := hv
  have hx := B.exec
  have hb := B.bytes
  have hr := B.returns
  have hts := my_hts (atoms_spec (ws := wsT yX9_fits cX9_fits 8 (some .boolean)) B.pre)
  have hown : s.vm.findClass RX9 = some m.cls := findClass_of_methodNamed B.named
  have hlocks := B.notSynchronized
  have hl := lv_entry ([.ref (g 7), .ref (g 36), .int (nI a)]) (n := 8) (Nat.le_of_ble_eq_true rfl)
  rw [lg_entry_eq]
  generalize (lg_sl ([.ref (g 7), .ref (g 36), .int (nI a)]) ++ List.replicate (8 - (lg_sl ([.ref (g 7), .ref (g 36), .int (nI a)])).length) Slot.unset).toArray = ls at hl ⊢
  have hl : lv_has ls 8 [(0, .ref (g 7)), (1, .ref (g 36)), (2, .int (nI a))] := hl
  have hwa := hWt a ha
  have hwaa := hWw a (Nat.le_refl a)
  have hda := hde (WH a) hwa.2
  refine lv_aload_n hx hb dX9_fits_0 rfl (lv_at hl 1 rfl) ?_
  refine va_getN (D := G.1) (ci := 0) (v := .ref (g 45)) (C := RX0) (T := TX0) (N := 9) (host := RX10) hx hb hts inlX0 hown hG.1 hP 36 (wl_at (by decide) hbk) rfl 4 (by decide) (va_Nw.use rfl (hG.2.1 (.fieldLinkNest RX9 53 RX0 "trials" "LSwornLists$Rows;" RX10) (List.mem_of_getElem? (i := 5) rfl))) (fun _ h9 => h9) rfl dX9_fits_1 ?_
  refine lv_aload_n hx hb dX9_fits_4 rfl (lv_at hl 0 rfl) ?_
  refine va_get (D := G.1) (ci := 8) (v := .ref (g 8)) (C := RX9) (T := TX9) (N := 6) hx hb hts inlX9 hown hG.1 hP 7 (wl_at (by decide) hwt) rfl 0 (by decide) (hts (.fieldLink RX9 11 "SwornLists$Waits" "trials" "[I") w_104) (fun _ h9 => h9) rfl dX9_fits_5 ?_
  refine lv_iload_n hx hb dX9_fits_8 rfl (lv_at hl 2 rfl) ?_
  refine va_iald hx hb hG.1 hP 8 0 (wl_at (by decide) hw8) rfl (vp_in_nI (by omega) (by decide)) dX9_fits_9 ?_
  refine my_bei (v := nI (WH a)) ((congrArg wt (nI_clamp (n := a) (by omega))).trans hwa.1) ?_
  refine lv_iconst (v := 0) hx hb dX9_fits_10 (by decide) ?_
  refine rd_calli (va_runV (As := [.int (nI (WH a)), .int 0]) (rest := []) ⟨hx, hb, hml, hown, hts⟩ (r_at l G g hg f 45 10 70 nt ct (nI (WH a)) 0 htr hct (by first | assumption | omega | decide) (by first | assumption | omega | decide) (by first | assumption | omega | decide) (by first | assumption | omega | decide)) (my_cwV hts ok_X5_at w_853 rfl rfl ⟨Nat.le_of_ble_eq_true rfl, Nat.le_of_ble_eq_true rfl⟩) ⟨bP.blind, va_recv hG.1 hP (ci := 5) (q0 := 45) rfl (wl_at (by decide) htr), fun U hU hW => ⟨rfl, by rw [hU]; exact hP, kG.warm hW hG⟩⟩ rfl rfl hl.1 rfl (lv_room (Nat.le_of_ble_eq_true rfl)) dX9_fits_11 ⟨Nat.le_of_ble_eq_true rfl, Nat.le_of_ble_eq_true rfl⟩) (fun r hr9 => ?_)
  subst hr9
  refine my_bei (v := nI (dd (WH a))) ((atQ (d := ct) (w := 70) (i := WH a) (c := 0) hwa.2 (by omega) (by omega) (by omega)).trans hda.1.1) ?_
  refine lv_aload_n hx hb dX9_fits_14 rfl (lv_at hl 0 rfl) ?_
  refine va_get (D := G.1) (ci := 8) (v := .ref (g 9)) (C := RX9) (T := TX9) (N := 6) hx hb hts inlX9 hown hG.1 hP 7 (wl_at (by decide) hwt) rfl 1 (by decide) (hts (.fieldLink RX9 15 "SwornLists$Waits" "waits" "[I") w_105) (fun _ h9 => h9) rfl dX9_fits_15 ?_
  refine lv_iload_n hx hb dX9_fits_18 rfl (lv_at hl 2 rfl) ?_
  refine va_iald hx hb hG.1 hP 9 0 (wl_at (by decide) hw9) rfl (vp_in_nI (by omega) (by decide)) dX9_fits_19 ?_
  refine my_bei (v := nI (w a)) ((congrArg ww (nI_clamp (n := a) (by omega))).trans hwaa.1) ?_
  refine lv_iadd hx hb dX9_fits_20 ?_
  refine my_bei (v := nI (dd (WH a) + w a)) (nI_add _ _) ?_
  refine lv_istore_n (lv' := [(3, .int (nI (dd (WH a) + w a))), (0, .ref (g 7)), (1, .ref (g 36)), (2, .int (nI a))]) hx hb dX9_fits_21 rfl hl (by decide) rfl (fun ls hl => ?_)
  refine lv_aload_n hx hb dX9_fits_22 rfl (lv_at hl 2 rfl) ?_
  refine lv_aload_n hx hb dX9_fits_23 rfl (lv_at hl 1 rfl) ?_
  refine va_get (D := G.1) (ci := 8) (v := .ref (g 8)) (C := RX9) (T := TX9) (N := 6) hx hb hts inlX9 hown hG.1 hP 7 (wl_at (by decide) hwt) rfl 0 (by decide) (hts (.fieldLink RX9 11 "SwornLists$Waits" "trials" "[I") w_104) (fun _ h9 => h9) rfl dX9_fits_24 ?_
  refine lv_iload_n hx hb dX9_fits_27 rfl (lv_at hl 3 rfl) ?_
  refine va_iald hx hb hG.1 hP 8 0 (wl_at (by decide) hw8) rfl (vp_in_nI (by omega) (by decide)) dX9_fits_28 ?_
  refine my_bei (v := nI (WH a)) ((congrArg wt (nI_clamp (n := a) (by omega))).trans hwa.1) ?_
  refine rd_calli (va_runV (As := [.int (nI (WH a))]) (rest := []) ⟨hx, hb, hml, hown, hts⟩ (k_lastDayOfE l G g hg f pay fine nt ct (WH a) hbk htr hct (by first | assumption | omega | decide) (by first | assumption | omega | decide)) (my_cwV hts ok_X0_lastDayOf w_854 rfl rfl ⟨Nat.le_of_ble_eq_true rfl, Nat.le_of_ble_eq_true rfl⟩) ⟨bP.blind, va_recv hG.1 hP (ci := 0) (q0 := 36) rfl (wl_at (by decide) hbk), fun U hU hW => ⟨rfl, by rw [hU]; exact hP, kG.warm hW hG⟩⟩ rfl rfl hl.1 rfl (lv_room (Nat.le_of_ble_eq_true rfl)) dX9_fits_29 ⟨Nat.le_of_ble_eq_true rfl, Nat.le_of_ble_eq_true rfl⟩) (fun r hr9 => ?_)
  subst hr9
  refine my_bei (v := nI (dd (WH a) + ee (WH a) - 1)) (by rw [(hde (WH a) (by omega)).1.1, (hde (WH a) (by omega)).2.1, nI_add]; exact pk_sub (b := 1) (by omega)) ?_
  refine lv_aload_n hx hb dX9_fits_32 rfl (lv_at hl 1 rfl) ?_
  refine va_get (D := G.1) (ci := 8) (v := .ref (g 9)) (C := RX9) (T := TX9) (N := 6) hx hb hts inlX9 hown hG.1 hP 7 (wl_at (by decide) hwt) rfl 1 (by decide) (hts (.fieldLink RX9 15 "SwornLists$Waits" "waits" "[I") w_105) (fun _ h9 => h9) rfl dX9_fits_33 ?_
  refine lv_iload_n hx hb dX9_fits_36 rfl (lv_at hl 3 rfl) ?_
  refine va_iald hx hb hG.1 hP 9 0 (wl_at (by decide) hw9) rfl (vp_in_nI (by omega) (by decide)) dX9_fits_37 ?_
  refine my_bei (v := nI (w a)) ((congrArg ww (nI_clamp (n := a) (by omega))).trans hwaa.1) ?_
  refine lv_iadd hx hb dX9_fits_38 ?_
  refine my_bei (v := nI (dd (WH a) + ee (WH a) - 1 + w a)) (nI_add _ _) ?_
  refine lv_istore (lv' := [(4, .int (nI (dd (WH a) + ee (WH a) - 1 + w a))), (3, .int (nI (dd (WH a) + w a))), (0, .ref (g 7)), (1, .ref (g 36)), (2, .int (nI a))]) hx hb dX9_fits_39 hl (by decide) rfl (fun ls hl => ?_)
  refine lv_iconst (v := 0) hx hb dX9_fits_41 (by decide) ?_
  refine lv_istore (lv' := [(5, .int 0), (4, .int (nI (dd (WH a) + ee (WH a) - 1 + w a))), (3, .int (nI (dd (WH a) + w a))), (0, .ref (g 7)), (1, .ref (g 36)), (2, .int (nI a))]) hx hb dX9_fits_42 hl (by decide) rfl (fun ls hl => ?_)
  have key1 : ∀ (n9_1 : Nat) (i : Nat) (ls : Array Slot), (i ≤ a) → (∀ k, k < i → cfW (fun k => dd (WH k)) (fun k => ee (WH k)) (fun i k => mtB (fun t c => ct (70 * t + c)) (WH i) (WH k)) w a k = false) → a - i < n9_1 → lv_has ls 8 [(0, .ref (g 7)), (1, .ref (g 36)), (2, .int (nI a)), (3, .int (nI (dd (WH a) + w a))), (4, .int (nI (dd (WH a) + ee (WH a) - 1 + w a))), (5, .int (nI i))] → W p l e (headSpec (wsT yX9_fits cX9_fits 8 (some .boolean)) ({ frames := 2, cells := 0, slots := 0, locals := 44 })).room s m ([.ref (g 7), .ref (g 36), .int (nI a)] : List Value).toArray below meth c s.heap [] 0 0 (MQ below (rQi (fun z9 => ∃ bz : Bool, z9 = b2 (bz = true) ∧ (bz = true → ∀ k, k < a → cfW (fun k => dd (WH k)) (fun k => ee (WH k)) (fun i k => mtB (fun t c => ct (70 * t + c)) (WH i) (WH k)) w a k = false) ∧ (bz = false → ∃ k, k < a ∧ cfW (fun k => dd (WH k)) (fun k => ee (WH k)) (fun i k => mtB (fun t c => ct (70 * t + c)) (WH i) (WH k)) w a k = true))) ([.ref (g 7), .ref (g 36), .int (nI a)] : List Value).toArray s 0 0 fr0) (F0 m 44 ls []) := by
    intro n9_1
    induction n9_1 with
    | zero => intro i ls hi hno hn9_1; exact absurd hn9_1 (Nat.not_lt_zero _)
    | succ n9_1 ih_1 =>
      intro i ls hi hno hn9_1 hl
      refine lv_iload hx hb dX9_fits_44 (lv_at hl 5 rfl) ?_
      refine lv_iload_n hx hb dX9_fits_46 rfl (lv_at hl 2 rfl) ?_
      refine lv_icmp_ge (tgt := 147) hx hb dX9_fits_47 (by decide) (fun c_47 => ?_) (fun c_47 => ?_)
      · refine lv_iconst (v := 1) hx hb dX9_fits_147 (by decide) ?_
        exact W.zret (v := 1) hx hb hr (rfl) (fun _ hT9 _ => ⟨_, rfl, (⟨true, (b2_t rfl).symm, fun _ k hk => hno k (by have h9 := (nI_leI (a := a) (b := i) (by omega) (by omega)).mp c_47; omega), fun z => (by cases z)⟩), hT9⟩) (fun _ h => absurd h List.not_mem_nil) dX9_fits_148
      · have hi9 : i < a := Nat.not_le.mp (fun z => c_47 (nI_le z (by omega)))
        have hwi := hWt i (by omega)
        have hwii := hWw i (by omega)
        have hdi := hde (WH i) hwi.2
        refine lv_aload_n hx hb dX9_fits_50 rfl (lv_at hl 1 rfl) ?_
        refine lv_aload_n hx hb dX9_fits_51 rfl (lv_at hl 0 rfl) ?_
        refine va_get (D := G.1) (ci := 8) (v := .ref (g 8)) (C := RX9) (T := TX9) (N := 6) hx hb hts inlX9 hown hG.1 hP 7 (wl_at (by decide) hwt) rfl 0 (by decide) (hts (.fieldLink RX9 11 "SwornLists$Waits" "trials" "[I") w_104) (fun _ h9 => h9) rfl dX9_fits_52 ?_
        refine lv_iload hx hb dX9_fits_55 (lv_at hl 5 rfl) ?_
        refine va_iald hx hb hG.1 hP 8 0 (wl_at (by decide) hw8) rfl (vp_in_nI (by omega) (by decide)) dX9_fits_57 ?_
        refine my_bei (v := nI (WH i)) ((congrArg wt (nI_clamp (n := i) (by omega))).trans hwi.1) ?_
        refine rd_calli (va_runV (As := [.int (nI (WH i))]) (rest := []) ⟨hx, hb, hml, hown, hts⟩ (k_lastDayOfE l G g hg f pay fine nt ct (WH i) hbk htr hct (by first | assumption | omega | decide) (by first | assumption | omega | decide)) (my_cwV hts ok_X0_lastDayOf w_854 rfl rfl ⟨Nat.le_of_ble_eq_true rfl, Nat.le_of_ble_eq_true rfl⟩) ⟨bP.blind, va_recv hG.1 hP (ci := 0) (q0 := 36) rfl (wl_at (by decide) hbk), fun U hU hW => ⟨rfl, by rw [hU]; exact hP, kG.warm hW hG⟩⟩ rfl rfl hl.1 rfl (lv_room (Nat.le_of_ble_eq_true rfl)) dX9_fits_58 ⟨Nat.le_of_ble_eq_true rfl, Nat.le_of_ble_eq_true rfl⟩) (fun r hr9 => ?_)
        subst hr9
        refine my_bei (v := nI (dd (WH i) + ee (WH i) - 1)) (by rw [(hde (WH i) (by omega)).1.1, (hde (WH i) (by omega)).2.1, nI_add]; exact pk_sub (b := 1) (by omega)) ?_
        refine lv_aload_n hx hb dX9_fits_61 rfl (lv_at hl 0 rfl) ?_
        refine va_get (D := G.1) (ci := 8) (v := .ref (g 9)) (C := RX9) (T := TX9) (N := 6) hx hb hts inlX9 hown hG.1 hP 7 (wl_at (by decide) hwt) rfl 1 (by decide) (hts (.fieldLink RX9 15 "SwornLists$Waits" "waits" "[I") w_105) (fun _ h9 => h9) rfl dX9_fits_62 ?_
        refine lv_iload hx hb dX9_fits_65 (lv_at hl 5 rfl) ?_
        refine va_iald hx hb hG.1 hP 9 0 (wl_at (by decide) hw9) rfl (vp_in_nI (by omega) (by decide)) dX9_fits_67 ?_
        refine my_bei (v := nI (w i)) ((congrArg ww (nI_clamp (n := i) (by omega))).trans hwii.1) ?_
        refine lv_iadd hx hb dX9_fits_68 ?_
        refine my_bei (v := nI (dd (WH i) + ee (WH i) - 1 + w i)) (nI_add _ _) ?_
        refine lv_iload_n hx hb dX9_fits_69 rfl (lv_at hl 3 rfl) ?_
        refine lv_icmp_ge (tgt := 77) hx hb dX9_fits_70 (by decide) (fun c_70 => ?_) (fun c_70 => ?_)
        · have k70 : dd (WH a) + w a ≤ dd (WH i) + ee (WH i) - 1 + w i := (nI_leI (by omega) (by omega)).mp c_70
          refine lv_iconst (v := 0) hx hb dX9_fits_77 (by decide) ?_
          refine lv_istore (lv' := [(6, .int 0), (0, .ref (g 7)), (1, .ref (g 36)), (2, .int (nI a)), (3, .int (nI (dd (WH a) + w a))), (4, .int (nI (dd (WH a) + ee (WH a) - 1 + w a))), (5, .int (nI i))]) hx hb dX9_fits_78 hl (by decide) rfl (fun ls hl => ?_)
          refine lv_aload_n hx hb dX9_fits_80 rfl (lv_at hl 2 rfl) ?_
          refine va_getN (D := G.1) (ci := 0) (v := .ref (g 45)) (C := RX0) (T := TX0) (N := 9) (host := RX10) hx hb hts inlX0 hown hG.1 hP 36 (wl_at (by decide) hbk) rfl 4 (by decide) (va_Nw.use rfl (hG.2.1 (.fieldLinkNest RX9 53 RX0 "trials" "LSwornLists$Rows;" RX10) (List.mem_of_getElem? (i := 5) rfl))) (fun _ h9 => h9) rfl dX9_fits_81 ?_
          refine lv_aload_n hx hb dX9_fits_84 rfl (lv_at hl 1 rfl) ?_
          refine va_get (D := G.1) (ci := 8) (v := .ref (g 8)) (C := RX9) (T := TX9) (N := 6) hx hb hts inlX9 hown hG.1 hP 7 (wl_at (by decide) hwt) rfl 0 (by decide) (hts (.fieldLink RX9 11 "SwornLists$Waits" "trials" "[I") w_104) (fun _ h9 => h9) rfl dX9_fits_85 ?_
          refine lv_iload hx hb dX9_fits_88 (lv_at hl 6 rfl) ?_
          refine va_iald hx hb hG.1 hP 8 0 (wl_at (by decide) hw8) rfl (vp_in_nI (by omega) (by decide)) dX9_fits_90 ?_
          refine my_bei (v := nI (WH i)) ((congrArg wt (nI_clamp (n := i) (by omega))).trans hwi.1) ?_
          refine lv_iconst (v := 0) hx hb dX9_fits_91 (by decide) ?_
          refine rd_calli (va_runV (As := [.int (nI (WH i)), .int 0]) (rest := []) ⟨hx, hb, hml, hown, hts⟩ (r_at l G g hg f 45 10 70 nt ct (nI (WH i)) 0 htr hct (by first | assumption | omega | decide) (by first | assumption | omega | decide) (by first | assumption | omega | decide) (by first | assumption | omega | decide)) (my_cwV hts ok_X5_at w_853 rfl rfl ⟨Nat.le_of_ble_eq_true rfl, Nat.le_of_ble_eq_true rfl⟩) ⟨bP.blind, va_recv hG.1 hP (ci := 5) (q0 := 45) rfl (wl_at (by decide) htr), fun U hU hW => ⟨rfl, by rw [hU]; exact hP, kG.warm hW hG⟩⟩ rfl rfl hl.1 rfl (lv_room (Nat.le_of_ble_eq_true rfl)) dX9_fits_92 ⟨Nat.le_of_ble_eq_true rfl, Nat.le_of_ble_eq_true rfl⟩) (fun r hr9 => ?_)
          subst hr9
          refine my_bei (v := nI (dd (WH i))) ((atQ (d := ct) (w := 70) (i := WH i) (c := 0) hwi.2 (by omega) (by omega) (by omega)).trans hdi.1.1) ?_
          refine lv_aload_n hx hb dX9_fits_95 rfl (lv_at hl 1 rfl) ?_
          refine va_get (D := G.1) (ci := 8) (v := .ref (g 9)) (C := RX9) (T := TX9) (N := 6) hx hb hts inlX9 hown hG.1 hP 7 (wl_at (by decide) hwt) rfl 1 (by decide) (hts (.fieldLink RX9 15 "SwornLists$Waits" "waits" "[I") w_105) (fun _ h9 => h9) rfl dX9_fits_96 ?_
          refine lv_iload hx hb dX9_fits_99 (lv_at hl 6 rfl) ?_
          refine va_iald hx hb hG.1 hP 9 0 (wl_at (by decide) hw9) rfl (vp_in_nI (by omega) (by decide)) dX9_fits_101 ?_
          refine my_bei (v := nI (w i)) ((congrArg ww (nI_clamp (n := i) (by omega))).trans hwii.1) ?_
          refine lv_iadd hx hb dX9_fits_102 ?_
          refine my_bei (v := nI (dd (WH i) + w i)) (nI_add _ _) ?_
          refine lv_iload hx hb dX9_fits_103 (lv_at hl 5 rfl) ?_
          refine lv_icmp_le (tgt := 112) hx hb dX9_fits_105 (by decide) (fun c_105 => ?_) (fun c_105 => ?_)
          · have k105 : dd (WH i) + w i ≤ dd (WH a) + ee (WH a) - 1 + w a := (nI_leI (by omega) (by omega)).mp c_105
            refine lv_iconst (v := 0) hx hb dX9_fits_112 (by decide) ?_
            refine lv_istore (lv' := [(7, .int 0), (6, .int 0), (0, .ref (g 7)), (1, .ref (g 36)), (2, .int (nI a)), (3, .int (nI (dd (WH a) + w a))), (4, .int (nI (dd (WH a) + ee (WH a) - 1 + w a))), (5, .int (nI i))]) hx hb dX9_fits_113 hl (by decide) rfl (fun ls hl => ?_)
            refine lv_aload_n hx hb dX9_fits_115 rfl (lv_at hl 2 rfl) ?_
            refine va_get (D := G.1) (ci := 8) (v := .ref (g 11)) (C := RX9) (T := TX9) (N := 6) hx hb hts inlX9 hown hG.1 hP 7 (wl_at (by decide) hwt) rfl 3 (by decide) (hts (.fieldLink RX9 21 "SwornLists$Waits" "foes" "[I") w_107) (fun _ h9 => h9) rfl dX9_fits_116 ?_
            refine lv_iload_n hx hb dX9_fits_119 rfl (lv_at hl 4 rfl) ?_
            refine va_iald hx hb hG.1 hP 11 0 (wl_at (by decide) hw11) rfl (vp_in_nI (by omega) (by decide)) dX9_fits_120 ?_
            refine my_bei (v := wf a) (congrArg wf (nI_clamp (n := a) (by omega))) ?_
            refine lv_iload hx hb dX9_fits_121 (lv_at hl 7 rfl) ?_
            refine rd_calli (va_runSN (As := [.int (wf a), .int (nI i)]) (rest := []) ⟨hx, hb, hml, hown, hts⟩ (s_hasBit l G g hg f (wf a) (nI i)  ) (⟨my_cn hts ok_X10_hasBit.1 (hG.2.1 (.methodLinkNest RX9 64 yX10_hasBit RX10) (List.mem_of_getElem? (i := 35) rfl)) rfl rfl ⟨Nat.le_of_ble_eq_true rfl, Nat.le_of_ble_eq_true rfl⟩, hts _ ok_X10_hasBit.2.2.1, trivial⟩) ⟨bP.blind, fun U hU hW => ⟨rfl, by rw [hU]; exact hP, kG.warm hW hG⟩⟩ rfl rfl hl.1 rfl (lv_room (Nat.le_of_ble_eq_true rfl)) dX9_fits_123 ⟨Nat.le_of_ble_eq_true rfl, Nat.le_of_ble_eq_true rfl⟩) (fun r hr9 => ?_)
            subst hr9
            refine my_ifeq (tgt := 141) hx hb dX9_fits_126 (by decide) (fun c_126 => ?_) (fun c_126 => ?_)
            · refine lv_iinc (v := nI (i + 1)) (lv' := [(5, .int (nI (i + 1))), (7, .int 0), (6, .int 0), (0, .ref (g 7)), (1, .ref (g 36)), (2, .int (nI a)), (3, .int (nI (dd (WH a) + w a))), (4, .int (nI (dd (WH a) + ee (WH a) - 1 + w a)))]) hx hb dX9_fits_141 hl (k := 7) rfl (nI_1 i) (by decide) rfl (fun ls hl => ?_)
              refine lv_goto (tgt := 44) hx hb dX9_fits_144 (by decide) ?_
              exact ih_1 (i + 1) _ (hi9) (fun k hk => if e9 : k = i then (by rw [e9]; show ((decide (dd (WH a) + w a < dd (WH i) + w i + ee (WH i)) && decide (dd (WH i) + w i < dd (WH a) + w a + ee (WH a))) && mtB (fun t c => ct (70 * t + c)) (WH a) (WH i)) = false; exact by rw [show mtB (fun t c => ct (70 * t + c)) (WH a) (WH i) = false from eq_false_of_ne_true (fun z => c_126 (by rw [hbt_bt (by omega), foV_b hWf ha hi9]; exact z)), Bool.and_false]) else hno k (by omega)) (by omega) (lv_sub hl [3, 4, 5, 6, 7, 0] rfl)
            · refine lv_iload hx hb dX9_fits_129 (lv_at hl 1 rfl) ?_
              refine lv_if_ne (tgt := 141) hx hb dX9_fits_131 (by decide) (fun c_131 => absurd (by decide) c_131) (fun c_131 => ?_)
              refine lv_iload hx hb dX9_fits_134 (lv_at hl 0 rfl) ?_
              refine lv_if_ne (tgt := 141) hx hb dX9_fits_136 (by decide) (fun c_136 => absurd (by decide) c_136) (fun c_136 => ?_)
              refine lv_iconst (v := 0) hx hb dX9_fits_139 (by decide) ?_
              exact W.zret (v := 0) hx hb hr (rfl) (fun _ hT9 _ => ⟨_, rfl, (⟨false, (b2_f (by decide)).symm, fun z => (by cases z), fun _ => ⟨i, hi9, (Bool.and_eq_true _ _).mpr ⟨(Bool.and_eq_true _ _).mpr ⟨decide_eq_true (show dd (WH a) + w a < dd (WH i) + w i + ee (WH i) by omega), decide_eq_true (show dd (WH i) + w i < dd (WH a) + w a + ee (WH a) by omega)⟩, by show mtB (fun t c => ct (70 * t + c)) (WH a) (WH i) = true; rw [← foV_b hWf ha hi9, ← hbt_bt (by omega)]; exact c_126⟩⟩⟩), hT9⟩) (fun _ h => absurd h List.not_mem_nil) dX9_fits_140
          · have k105 : dd (WH a) + ee (WH a) - 1 + w a < dd (WH i) + w i := (nI_ltI (by omega) (by omega)).mp (Int32.not_le.mp c_105)
            refine lv_iconst (v := 1) hx hb dX9_fits_108 (by decide) ?_
            refine lv_goto (tgt := 113) hx hb dX9_fits_109 (by decide) ?_
            refine lv_istore (lv' := [(7, .int 1), (6, .int 0), (0, .ref (g 7)), (1, .ref (g 36)), (2, .int (nI a)), (3, .int (nI (dd (WH a) + w a))), (4, .int (nI (dd (WH a) + ee (WH a) - 1 + w a))), (5, .int (nI i))]) hx hb dX9_fits_113 hl (by decide) rfl (fun ls hl => ?_)
            refine lv_aload_n hx hb dX9_fits_115 rfl (lv_at hl 2 rfl) ?_
            refine va_get (D := G.1) (ci := 8) (v := .ref (g 11)) (C := RX9) (T := TX9) (N := 6) hx hb hts inlX9 hown hG.1 hP 7 (wl_at (by decide) hwt) rfl 3 (by decide) (hts (.fieldLink RX9 21 "SwornLists$Waits" "foes" "[I") w_107) (fun _ h9 => h9) rfl dX9_fits_116 ?_
            refine lv_iload_n hx hb dX9_fits_119 rfl (lv_at hl 4 rfl) ?_
            refine va_iald hx hb hG.1 hP 11 0 (wl_at (by decide) hw11) rfl (vp_in_nI (by omega) (by decide)) dX9_fits_120 ?_
            refine my_bei (v := wf a) (congrArg wf (nI_clamp (n := a) (by omega))) ?_
            refine lv_iload hx hb dX9_fits_121 (lv_at hl 7 rfl) ?_
            refine rd_calli (va_runSN (As := [.int (wf a), .int (nI i)]) (rest := []) ⟨hx, hb, hml, hown, hts⟩ (s_hasBit l G g hg f (wf a) (nI i)  ) (⟨my_cn hts ok_X10_hasBit.1 (hG.2.1 (.methodLinkNest RX9 64 yX10_hasBit RX10) (List.mem_of_getElem? (i := 35) rfl)) rfl rfl ⟨Nat.le_of_ble_eq_true rfl, Nat.le_of_ble_eq_true rfl⟩, hts _ ok_X10_hasBit.2.2.1, trivial⟩) ⟨bP.blind, fun U hU hW => ⟨rfl, by rw [hU]; exact hP, kG.warm hW hG⟩⟩ rfl rfl hl.1 rfl (lv_room (Nat.le_of_ble_eq_true rfl)) dX9_fits_123 ⟨Nat.le_of_ble_eq_true rfl, Nat.le_of_ble_eq_true rfl⟩) (fun r hr9 => ?_)
            subst hr9
            refine my_ifeq (tgt := 141) hx hb dX9_fits_126 (by decide) (fun c_126 => ?_) (fun c_126 => ?_)
            · refine lv_iinc (v := nI (i + 1)) (lv' := [(5, .int (nI (i + 1))), (7, .int 1), (6, .int 0), (0, .ref (g 7)), (1, .ref (g 36)), (2, .int (nI a)), (3, .int (nI (dd (WH a) + w a))), (4, .int (nI (dd (WH a) + ee (WH a) - 1 + w a)))]) hx hb dX9_fits_141 hl (k := 7) rfl (nI_1 i) (by decide) rfl (fun ls hl => ?_)
              refine lv_goto (tgt := 44) hx hb dX9_fits_144 (by decide) ?_
              exact ih_1 (i + 1) _ (hi9) (fun k hk => if e9 : k = i then (by rw [e9]; show ((decide (dd (WH a) + w a < dd (WH i) + w i + ee (WH i)) && decide (dd (WH i) + w i < dd (WH a) + w a + ee (WH a))) && mtB (fun t c => ct (70 * t + c)) (WH a) (WH i)) = false; exact by rw [show mtB (fun t c => ct (70 * t + c)) (WH a) (WH i) = false from eq_false_of_ne_true (fun z => c_126 (by rw [hbt_bt (by omega), foV_b hWf ha hi9]; exact z)), Bool.and_false]) else hno k (by omega)) (by omega) (lv_sub hl [3, 4, 5, 6, 7, 0] rfl)
            · refine lv_iload hx hb dX9_fits_129 (lv_at hl 1 rfl) ?_
              refine lv_if_ne (tgt := 141) hx hb dX9_fits_131 (by decide) (fun c_131 => absurd (by decide) c_131) (fun c_131 => ?_)
              refine lv_iload hx hb dX9_fits_134 (lv_at hl 0 rfl) ?_
              refine lv_if_ne (tgt := 141) hx hb dX9_fits_136 (by decide) (fun c_136 => ?_) (fun c_136 => absurd c_136 (by decide))
              refine lv_iinc (v := nI (i + 1)) (lv' := [(5, .int (nI (i + 1))), (7, .int 1), (6, .int 0), (0, .ref (g 7)), (1, .ref (g 36)), (2, .int (nI a)), (3, .int (nI (dd (WH a) + w a))), (4, .int (nI (dd (WH a) + ee (WH a) - 1 + w a)))]) hx hb dX9_fits_141 hl (k := 7) rfl (nI_1 i) (by decide) rfl (fun ls hl => ?_)
              refine lv_goto (tgt := 44) hx hb dX9_fits_144 (by decide) ?_
              exact ih_1 (i + 1) _ (hi9) (fun k hk => if e9 : k = i then (by rw [e9]; show ((decide (dd (WH a) + w a < dd (WH i) + w i + ee (WH i)) && decide (dd (WH i) + w i < dd (WH a) + w a + ee (WH a))) && mtB (fun t c => ct (70 * t + c)) (WH a) (WH i)) = false; exact by rw [decide_eq_false (p := dd (WH i) + w i < dd (WH a) + w a + ee (WH a)) (by omega), Bool.and_false, Bool.false_and]) else hno k (by omega)) (by omega) (lv_sub hl [3, 4, 5, 6, 7, 0] rfl)
        · have k70 : dd (WH i) + ee (WH i) - 1 + w i < dd (WH a) + w a := (nI_ltI (by omega) (by omega)).mp (Int32.not_le.mp c_70)
          refine lv_iconst (v := 1) hx hb dX9_fits_73 (by decide) ?_
          refine lv_goto (tgt := 78) hx hb dX9_fits_74 (by decide) ?_
          refine lv_istore (lv' := [(6, .int 1), (0, .ref (g 7)), (1, .ref (g 36)), (2, .int (nI a)), (3, .int (nI (dd (WH a) + w a))), (4, .int (nI (dd (WH a) + ee (WH a) - 1 + w a))), (5, .int (nI i))]) hx hb dX9_fits_78 hl (by decide) rfl (fun ls hl => ?_)
          refine lv_aload_n hx hb dX9_fits_80 rfl (lv_at hl 2 rfl) ?_
          refine va_getN (D := G.1) (ci := 0) (v := .ref (g 45)) (C := RX0) (T := TX0) (N := 9) (host := RX10) hx hb hts inlX0 hown hG.1 hP 36 (wl_at (by decide) hbk) rfl 4 (by decide) (va_Nw.use rfl (hG.2.1 (.fieldLinkNest RX9 53 RX0 "trials" "LSwornLists$Rows;" RX10) (List.mem_of_getElem? (i := 5) rfl))) (fun _ h9 => h9) rfl dX9_fits_81 ?_
          refine lv_aload_n hx hb dX9_fits_84 rfl (lv_at hl 1 rfl) ?_
          refine va_get (D := G.1) (ci := 8) (v := .ref (g 8)) (C := RX9) (T := TX9) (N := 6) hx hb hts inlX9 hown hG.1 hP 7 (wl_at (by decide) hwt) rfl 0 (by decide) (hts (.fieldLink RX9 11 "SwornLists$Waits" "trials" "[I") w_104) (fun _ h9 => h9) rfl dX9_fits_85 ?_
          refine lv_iload hx hb dX9_fits_88 (lv_at hl 6 rfl) ?_
          refine va_iald hx hb hG.1 hP 8 0 (wl_at (by decide) hw8) rfl (vp_in_nI (by omega) (by decide)) dX9_fits_90 ?_
          refine my_bei (v := nI (WH i)) ((congrArg wt (nI_clamp (n := i) (by omega))).trans hwi.1) ?_
          refine lv_iconst (v := 0) hx hb dX9_fits_91 (by decide) ?_
          refine rd_calli (va_runV (As := [.int (nI (WH i)), .int 0]) (rest := []) ⟨hx, hb, hml, hown, hts⟩ (r_at l G g hg f 45 10 70 nt ct (nI (WH i)) 0 htr hct (by first | assumption | omega | decide) (by first | assumption | omega | decide) (by first | assumption | omega | decide) (by first | assumption | omega | decide)) (my_cwV hts ok_X5_at w_853 rfl rfl ⟨Nat.le_of_ble_eq_true rfl, Nat.le_of_ble_eq_true rfl⟩) ⟨bP.blind, va_recv hG.1 hP (ci := 5) (q0 := 45) rfl (wl_at (by decide) htr), fun U hU hW => ⟨rfl, by rw [hU]; exact hP, kG.warm hW hG⟩⟩ rfl rfl hl.1 rfl (lv_room (Nat.le_of_ble_eq_true rfl)) dX9_fits_92 ⟨Nat.le_of_ble_eq_true rfl, Nat.le_of_ble_eq_true rfl⟩) (fun r hr9 => ?_)
          subst hr9
          refine my_bei (v := nI (dd (WH i))) ((atQ (d := ct) (w := 70) (i := WH i) (c := 0) hwi.2 (by omega) (by omega) (by omega)).trans hdi.1.1) ?_
          refine lv_aload_n hx hb dX9_fits_95 rfl (lv_at hl 1 rfl) ?_
          refine va_get (D := G.1) (ci := 8) (v := .ref (g 9)) (C := RX9) (T := TX9) (N := 6) hx hb hts inlX9 hown hG.1 hP 7 (wl_at (by decide) hwt) rfl 1 (by decide) (hts (.fieldLink RX9 15 "SwornLists$Waits" "waits" "[I") w_105) (fun _ h9 => h9) rfl dX9_fits_96 ?_
          refine lv_iload hx hb dX9_fits_99 (lv_at hl 6 rfl) ?_
          refine va_iald hx hb hG.1 hP 9 0 (wl_at (by decide) hw9) rfl (vp_in_nI (by omega) (by decide)) dX9_fits_101 ?_
          refine my_bei (v := nI (w i)) ((congrArg ww (nI_clamp (n := i) (by omega))).trans hwii.1) ?_
          refine lv_iadd hx hb dX9_fits_102 ?_
          refine my_bei (v := nI (dd (WH i) + w i)) (nI_add _ _) ?_
          refine lv_iload hx hb dX9_fits_103 (lv_at hl 5 rfl) ?_
          refine lv_icmp_le (tgt := 112) hx hb dX9_fits_105 (by decide) (fun c_105 => ?_) (fun c_105 => ?_)
          · have k105 : dd (WH i) + w i ≤ dd (WH a) + ee (WH a) - 1 + w a := (nI_leI (by omega) (by omega)).mp c_105
            refine lv_iconst (v := 0) hx hb dX9_fits_112 (by decide) ?_
            refine lv_istore (lv' := [(7, .int 0), (6, .int 1), (0, .ref (g 7)), (1, .ref (g 36)), (2, .int (nI a)), (3, .int (nI (dd (WH a) + w a))), (4, .int (nI (dd (WH a) + ee (WH a) - 1 + w a))), (5, .int (nI i))]) hx hb dX9_fits_113 hl (by decide) rfl (fun ls hl => ?_)
            refine lv_aload_n hx hb dX9_fits_115 rfl (lv_at hl 2 rfl) ?_
            refine va_get (D := G.1) (ci := 8) (v := .ref (g 11)) (C := RX9) (T := TX9) (N := 6) hx hb hts inlX9 hown hG.1 hP 7 (wl_at (by decide) hwt) rfl 3 (by decide) (hts (.fieldLink RX9 21 "SwornLists$Waits" "foes" "[I") w_107) (fun _ h9 => h9) rfl dX9_fits_116 ?_
            refine lv_iload_n hx hb dX9_fits_119 rfl (lv_at hl 4 rfl) ?_
            refine va_iald hx hb hG.1 hP 11 0 (wl_at (by decide) hw11) rfl (vp_in_nI (by omega) (by decide)) dX9_fits_120 ?_
            refine my_bei (v := wf a) (congrArg wf (nI_clamp (n := a) (by omega))) ?_
            refine lv_iload hx hb dX9_fits_121 (lv_at hl 7 rfl) ?_
            refine rd_calli (va_runSN (As := [.int (wf a), .int (nI i)]) (rest := []) ⟨hx, hb, hml, hown, hts⟩ (s_hasBit l G g hg f (wf a) (nI i)  ) (⟨my_cn hts ok_X10_hasBit.1 (hG.2.1 (.methodLinkNest RX9 64 yX10_hasBit RX10) (List.mem_of_getElem? (i := 35) rfl)) rfl rfl ⟨Nat.le_of_ble_eq_true rfl, Nat.le_of_ble_eq_true rfl⟩, hts _ ok_X10_hasBit.2.2.1, trivial⟩) ⟨bP.blind, fun U hU hW => ⟨rfl, by rw [hU]; exact hP, kG.warm hW hG⟩⟩ rfl rfl hl.1 rfl (lv_room (Nat.le_of_ble_eq_true rfl)) dX9_fits_123 ⟨Nat.le_of_ble_eq_true rfl, Nat.le_of_ble_eq_true rfl⟩) (fun r hr9 => ?_)
            subst hr9
            refine my_ifeq (tgt := 141) hx hb dX9_fits_126 (by decide) (fun c_126 => ?_) (fun c_126 => ?_)
            · refine lv_iinc (v := nI (i + 1)) (lv' := [(5, .int (nI (i + 1))), (7, .int 0), (6, .int 1), (0, .ref (g 7)), (1, .ref (g 36)), (2, .int (nI a)), (3, .int (nI (dd (WH a) + w a))), (4, .int (nI (dd (WH a) + ee (WH a) - 1 + w a)))]) hx hb dX9_fits_141 hl (k := 7) rfl (nI_1 i) (by decide) rfl (fun ls hl => ?_)
              refine lv_goto (tgt := 44) hx hb dX9_fits_144 (by decide) ?_
              exact ih_1 (i + 1) _ (hi9) (fun k hk => if e9 : k = i then (by rw [e9]; show ((decide (dd (WH a) + w a < dd (WH i) + w i + ee (WH i)) && decide (dd (WH i) + w i < dd (WH a) + w a + ee (WH a))) && mtB (fun t c => ct (70 * t + c)) (WH a) (WH i)) = false; exact by rw [show mtB (fun t c => ct (70 * t + c)) (WH a) (WH i) = false from eq_false_of_ne_true (fun z => c_126 (by rw [hbt_bt (by omega), foV_b hWf ha hi9]; exact z)), Bool.and_false]) else hno k (by omega)) (by omega) (lv_sub hl [3, 4, 5, 6, 7, 0] rfl)
            · refine lv_iload hx hb dX9_fits_129 (lv_at hl 1 rfl) ?_
              refine lv_if_ne (tgt := 141) hx hb dX9_fits_131 (by decide) (fun c_131 => ?_) (fun c_131 => absurd c_131 (by decide))
              refine lv_iinc (v := nI (i + 1)) (lv' := [(5, .int (nI (i + 1))), (7, .int 0), (6, .int 1), (0, .ref (g 7)), (1, .ref (g 36)), (2, .int (nI a)), (3, .int (nI (dd (WH a) + w a))), (4, .int (nI (dd (WH a) + ee (WH a) - 1 + w a)))]) hx hb dX9_fits_141 hl (k := 7) rfl (nI_1 i) (by decide) rfl (fun ls hl => ?_)
              refine lv_goto (tgt := 44) hx hb dX9_fits_144 (by decide) ?_
              exact ih_1 (i + 1) _ (hi9) (fun k hk => if e9 : k = i then (by rw [e9]; show ((decide (dd (WH a) + w a < dd (WH i) + w i + ee (WH i)) && decide (dd (WH i) + w i < dd (WH a) + w a + ee (WH a))) && mtB (fun t c => ct (70 * t + c)) (WH a) (WH i)) = false; exact by rw [decide_eq_false (p := dd (WH a) + w a < dd (WH i) + w i + ee (WH i)) (by omega), Bool.false_and, Bool.false_and]) else hno k (by omega)) (by omega) (lv_sub hl [3, 4, 5, 6, 7, 0] rfl)
          · have k105 : dd (WH a) + ee (WH a) - 1 + w a < dd (WH i) + w i := (nI_ltI (by omega) (by omega)).mp (Int32.not_le.mp c_105)
            refine lv_iconst (v := 1) hx hb dX9_fits_108 (by decide) ?_
            refine lv_goto (tgt := 113) hx hb dX9_fits_109 (by decide) ?_
            refine lv_istore (lv' := [(7, .int 1), (6, .int 1), (0, .ref (g 7)), (1, .ref (g 36)), (2, .int (nI a)), (3, .int (nI (dd (WH a) + w a))), (4, .int (nI (dd (WH a) + ee (WH a) - 1 + w a))), (5, .int (nI i))]) hx hb dX9_fits_113 hl (by decide) rfl (fun ls hl => ?_)
            refine lv_aload_n hx hb dX9_fits_115 rfl (lv_at hl 2 rfl) ?_
            refine va_get (D := G.1) (ci := 8) (v := .ref (g 11)) (C := RX9) (T := TX9) (N := 6) hx hb hts inlX9 hown hG.1 hP 7 (wl_at (by decide) hwt) rfl 3 (by decide) (hts (.fieldLink RX9 21 "SwornLists$Waits" "foes" "[I") w_107) (fun _ h9 => h9) rfl dX9_fits_116 ?_
            refine lv_iload_n hx hb dX9_fits_119 rfl (lv_at hl 4 rfl) ?_
            refine va_iald hx hb hG.1 hP 11 0 (wl_at (by decide) hw11) rfl (vp_in_nI (by omega) (by decide)) dX9_fits_120 ?_
            refine my_bei (v := wf a) (congrArg wf (nI_clamp (n := a) (by omega))) ?_
            refine lv_iload hx hb dX9_fits_121 (lv_at hl 7 rfl) ?_
            refine rd_calli (va_runSN (As := [.int (wf a), .int (nI i)]) (rest := []) ⟨hx, hb, hml, hown, hts⟩ (s_hasBit l G g hg f (wf a) (nI i)  ) (⟨my_cn hts ok_X10_hasBit.1 (hG.2.1 (.methodLinkNest RX9 64 yX10_hasBit RX10) (List.mem_of_getElem? (i := 35) rfl)) rfl rfl ⟨Nat.le_of_ble_eq_true rfl, Nat.le_of_ble_eq_true rfl⟩, hts _ ok_X10_hasBit.2.2.1, trivial⟩) ⟨bP.blind, fun U hU hW => ⟨rfl, by rw [hU]; exact hP, kG.warm hW hG⟩⟩ rfl rfl hl.1 rfl (lv_room (Nat.le_of_ble_eq_true rfl)) dX9_fits_123 ⟨Nat.le_of_ble_eq_true rfl, Nat.le_of_ble_eq_true rfl⟩) (fun r hr9 => ?_)
            subst hr9
            refine my_ifeq (tgt := 141) hx hb dX9_fits_126 (by decide) (fun c_126 => ?_) (fun c_126 => ?_)
            · refine lv_iinc (v := nI (i + 1)) (lv' := [(5, .int (nI (i + 1))), (7, .int 1), (6, .int 1), (0, .ref (g 7)), (1, .ref (g 36)), (2, .int (nI a)), (3, .int (nI (dd (WH a) + w a))), (4, .int (nI (dd (WH a) + ee (WH a) - 1 + w a)))]) hx hb dX9_fits_141 hl (k := 7) rfl (nI_1 i) (by decide) rfl (fun ls hl => ?_)
              refine lv_goto (tgt := 44) hx hb dX9_fits_144 (by decide) ?_
              exact ih_1 (i + 1) _ (hi9) (fun k hk => if e9 : k = i then (by rw [e9]; show ((decide (dd (WH a) + w a < dd (WH i) + w i + ee (WH i)) && decide (dd (WH i) + w i < dd (WH a) + w a + ee (WH a))) && mtB (fun t c => ct (70 * t + c)) (WH a) (WH i)) = false; exact by rw [show mtB (fun t c => ct (70 * t + c)) (WH a) (WH i) = false from eq_false_of_ne_true (fun z => c_126 (by rw [hbt_bt (by omega), foV_b hWf ha hi9]; exact z)), Bool.and_false]) else hno k (by omega)) (by omega) (lv_sub hl [3, 4, 5, 6, 7, 0] rfl)
            · refine lv_iload hx hb dX9_fits_129 (lv_at hl 1 rfl) ?_
              refine lv_if_ne (tgt := 141) hx hb dX9_fits_131 (by decide) (fun c_131 => ?_) (fun c_131 => absurd c_131 (by decide))
              refine lv_iinc (v := nI (i + 1)) (lv' := [(5, .int (nI (i + 1))), (7, .int 1), (6, .int 1), (0, .ref (g 7)), (1, .ref (g 36)), (2, .int (nI a)), (3, .int (nI (dd (WH a) + w a))), (4, .int (nI (dd (WH a) + ee (WH a) - 1 + w a)))]) hx hb dX9_fits_141 hl (k := 7) rfl (nI_1 i) (by decide) rfl (fun ls hl => ?_)
              refine lv_goto (tgt := 44) hx hb dX9_fits_144 (by decide) ?_
              exact ih_1 (i + 1) _ (hi9) (fun k hk => if e9 : k = i then (by rw [e9]; show ((decide (dd (WH a) + w a < dd (WH i) + w i + ee (WH i)) && decide (dd (WH i) + w i < dd (WH a) + w a + ee (WH a))) && mtB (fun t c => ct (70 * t + c)) (WH a) (WH i)) = false; exact by rw [decide_eq_false (p := dd (WH a) + w a < dd (WH i) + w i + ee (WH i)) (by omega), Bool.false_and, Bool.false_and]) else hno k (by omega)) (by omega) (lv_sub hl [3, 4, 5, 6, 7, 0] rfl)
  exact key1 (a + 1) 0 _ (Nat.zero_le _) (fun k hk => absurd hk (Nat.not_lt_zero _)) (by omega) (lv_sub hl [3, 4, 5, 2, 1, 0] rfl)


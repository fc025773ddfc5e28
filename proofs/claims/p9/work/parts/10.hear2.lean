set_option maxHeartbeats 4000000 in
set_option maxRecDepth 100000 in
theorem h_strike (l : Launch) (G : gW) (g : Nat → Nat) (hg : gOK g) (f : Nat → va_E) (k : Nat) (sl : Nat) (lo : Int32) (ib : Int32) (ca : Int32) (mi : Int32) (s0 : Int32) (s1 : Int32) (sw : Int32) (od : Nat → Int32) (nt : Nat) (ct : Nat → Int32) (r : Int32) (hhe : f k = eO 3 [.ref (g (k + 1)), .int (nI sl), .int lo, .int ib, .int ca, .int mi, .int s0, .int s1, .int sw]) (hor : f (k + 1) = eI G 24 od) (htr : f 45 = eO 5 [.int (nI 10), .int (nI 70), .ref (g 46), .int (nI nt)]) (hct : f 46 = eI G (10 * 70) ct) (hk3 : k + 1 < 36) (hsl : sl ≤ 24) (hnt : nt ≤ 10) : Met l yX3_strike (wsT yX3_strike cX3_strike 4 none) ({ frames := 2, cells := 0, slots := 0, locals := 51 }) (bP G g f [.ref (g k), .ref (g 45), .int r]) (bQv G g (fun (f' : Nat → va_E) => ∃ sl9 : Nat, ∃ lo9 : Int32, ∃ ib9 : Int32, ∃ ca9 : Int32, ∃ mi9 : Int32, ∃ s09 : Int32, ∃ s19 : Int32, ∃ sw9 : Int32, ∃ od9 : Nat → Int32, f' k = eO 3 [.ref (g (k + 1)), .int (nI sl9), .int lo9, .int ib9, .int ca9, .int mi9, .int s09, .int s19, .int sw9] ∧ f' (k + 1) = eI G 24 od9 ∧ (sl9 ≤ 24) ∧ ∀ j, (j ≠ k ∧ j ≠ k + 1) → f' j = f j)) 0 0 (gA g) := by
  refine Met.ofW (cc := cX3_strike) (maxL := 4) (ret := none) (by decide) rfl ?_
  intro p e s m args below meth c s₁ B hml hv
  obtain ⟨rfl, hP, hG⟩ := hv
  have hx := B.exec
  have hb := B.bytes
  have hr := B.returns
  have hts := my_hts (atoms_spec (ws := wsT yX3_strike cX3_strike 4 none) B.pre)
  have hown : s.vm.findClass RX3 = some m.cls := findClass_of_methodNamed B.named
  have hlocks := B.notSynchronized
  have hS : va_S (gA g) s.heap s.heap [] := va_S.rf
  have hl := lv_entry ([.ref (g k), .ref (g 45), .int r]) (n := 4) (Nat.le_of_ble_eq_true rfl)
  rw [lg_entry_eq]
  generalize (lg_sl ([.ref (g k), .ref (g 45), .int r]) ++ List.replicate (4 - (lg_sl ([.ref (g k), .ref (g 45), .int r])).length) Slot.unset).toArray = ls at hl ⊢
  have hl : lv_has ls 4 [(0, .ref (g k)), (1, .ref (g 45)), (2, .int r)] := hl
  refine lv_aload_n hx hb dX3_strike_0 rfl (lv_at hl 0 rfl) ?_
  refine lv_aload_n hx hb dX3_strike_1 rfl (lv_at hl 0 rfl) ?_
  refine va_get (D := G.1) (ci := 3) (v := .int ca) (C := RX3) (T := TX3) (N := 9) hx hb hts inlX3 hown hG.1 hP k (wl_at (by omega) hhe) rfl 4 (by decide) (hts (.fieldLink RX3 25 "SwornLists$Hearing" "called" "I") w_480) (fun _ h9 => h9) rfl dX3_strike_2 ?_
  refine lv_aload_n hx hb dX3_strike_5 rfl (lv_at hl 1 rfl) ?_
  refine lv_iload_n hx hb dX3_strike_6 rfl (lv_at hl 2 rfl) ?_
  refine lv_bipush (v := 9) hx hb dX3_strike_7 (by decide) ?_
  refine rd_calli (va_runV (As := [.int r, .int 9]) (rest := [.int ca, .ref (g k)]) ⟨hx, hb, hml, hown, hts⟩ (r_at l G g hg f 45 10 70 nt ct r 9 htr hct (by first | assumption | omega | decide) (by first | assumption | omega | decide) (by first | assumption | omega | decide) (by first | assumption | omega | decide)) (my_cwV hts ok_X5_at w_500 rfl rfl ⟨Nat.le_of_ble_eq_true rfl, Nat.le_of_ble_eq_true rfl⟩) ⟨bP.blind, va_recv hG.1 hP (ci := 5) (q0 := 45) rfl (wl_at (by decide) htr), fun U hU hW => ⟨rfl, by rw [hU]; exact hP, kG.warm hW hG⟩⟩ rfl rfl hl.1 rfl (lv_room (Nat.le_of_ble_eq_true rfl)) dX3_strike_9 ⟨Nat.le_of_ble_eq_true rfl, Nat.le_of_ble_eq_true rfl⟩) (fun r hr9 => ?_)
  subst hr9
  refine lv_iand hx hb dX3_strike_12 ?_
  refine va_put (D := G.1) (ci := 3) (v := .int (ca &&& (atv ct nt 70 r 9))) (ty := .int) (C := RX3) (T := TX3) (N := 9) hx hb hts inlX3 tyX3 tyX3_ok nmX3 hown hG.1 hP (wl_D hg f) hS k (wl_at (by omega) hhe) rfl 5 (by decide) (hts (.fieldLink RX3 53 "SwornLists$Hearing" "missing" "I") w_497) (fun _ h9 => h9) rfl (by decide +kernel) rfl rfl (Nat.le_of_ble_eq_true rfl) dX3_strike_13 (fun H locs hP _ hS => ?_)
  obtain ⟨f_1, hP, e_1, o_1⟩ := b_put (by omega) hP
  have hhe : f_1 k = eO 3 [.ref (g (k + 1)), .int (nI sl), .int lo, .int ib, .int ca, .int (ca &&& (atv ct nt 70 r 9)), .int s0, .int s1, .int sw] := e_1
  replace hor : f_1 (k + 1) = eI G 24 od := (o_1 (k + 1) (by omega)).trans hor
  replace htr := (o_1 45 (by first | decide | omega)).trans htr
  replace hct := (o_1 46 (by first | decide | omega)).trans hct
  refine lv_aload_n hx hb dX3_strike_16 rfl (lv_at hl 0 rfl) ?_
  refine lv_iconst (v := 0) hx hb dX3_strike_17 (by decide) ?_
  refine va_put (D := G.1) (ci := 3) (v := .int 0) (ty := .int) (C := RX3) (T := TX3) (N := 9) hx hb hts inlX3 tyX3 tyX3_ok nmX3 hown hG.1 hP (wl_D hg f_1) hS k (wl_at (by omega) hhe) rfl 6 (by decide) (hts (.fieldLink RX3 56 "SwornLists$Hearing" "struckBy0" "I") w_498) (fun _ h9 => h9) rfl (by decide +kernel) rfl rfl (Nat.le_of_ble_eq_true rfl) dX3_strike_18 (fun H locs hP _ hS => ?_)
  obtain ⟨f_2, hP, e_2, o_2⟩ := b_put (by omega) hP
  have hhe : f_2 k = eO 3 [.ref (g (k + 1)), .int (nI sl), .int lo, .int ib, .int ca, .int (ca &&& (atv ct nt 70 r 9)), .int 0, .int s1, .int sw] := e_2
  replace hor : f_2 (k + 1) = eI G 24 od := (o_2 (k + 1) (by omega)).trans hor
  replace htr := (o_2 45 (by first | decide | omega)).trans htr
  replace hct := (o_2 46 (by first | decide | omega)).trans hct
  refine lv_aload_n hx hb dX3_strike_21 rfl (lv_at hl 0 rfl) ?_
  refine lv_iconst (v := 0) hx hb dX3_strike_22 (by decide) ?_
  refine va_put (D := G.1) (ci := 3) (v := .int 0) (ty := .int) (C := RX3) (T := TX3) (N := 9) hx hb hts inlX3 tyX3 tyX3_ok nmX3 hown hG.1 hP (wl_D hg f_2) hS k (wl_at (by omega) hhe) rfl 7 (by decide) (hts (.fieldLink RX3 59 "SwornLists$Hearing" "struckBy1" "I") w_499) (fun _ h9 => h9) rfl (by decide +kernel) rfl rfl (Nat.le_of_ble_eq_true rfl) dX3_strike_23 (fun H locs hP _ hS => ?_)
  obtain ⟨f_3, hP, e_3, o_3⟩ := b_put (by omega) hP
  have hhe : f_3 k = eO 3 [.ref (g (k + 1)), .int (nI sl), .int lo, .int ib, .int ca, .int (ca &&& (atv ct nt 70 r 9)), .int 0, .int 0, .int sw] := e_3
  replace hor : f_3 (k + 1) = eI G 24 od := (o_3 (k + 1) (by omega)).trans hor
  replace htr := (o_3 45 (by first | decide | omega)).trans htr
  replace hct := (o_3 46 (by first | decide | omega)).trans hct
  refine lv_iconst (v := 0) hx hb dX3_strike_26 (by decide) ?_
  refine lv_istore_n (lv' := [(3, .int 0), (0, .ref (g k)), (1, .ref (g 45)), (2, .int r)]) hx hb dX3_strike_27 rfl hl (by decide) rfl (fun ls hl => ?_)
  have key1 : ∀ (n9 : Nat) (i : Nat) (u : Int32) (w : Int32) (f_4 : Nat → va_E) (H : Heap) (locs : List Loc) (ls : Array Slot), (i ≤ 2147483647) → 2147483648 - i < n9 → f_4 k = eO 3 [.ref (g (k + 1)), .int (nI sl), .int lo, .int ib, .int ca, .int (ca &&& (atv ct nt 70 r 9)), .int u, .int w, .int sw] → f_4 (k + 1) = eI G 24 od → f_4 45 = eO 5 [.int (nI 10), .int (nI 70), .ref (g 46), .int (nI nt)] → f_4 46 = eI G (10 * 70) ct → (∀ j, (j ≠ k ∧ j ≠ k + 1) → f_4 j = f_3 j) → va_P G.1 vwCl (wl g f_4) H → va_S (gA g) s.heap H locs → lv_has ls 4 [(0, .ref (g k)), (1, .ref (g 45)), (2, .int r), (3, .int (nI i))] → W p l e (headSpec (wsT yX3_strike cX3_strike 4 none) ({ frames := 2, cells := 0, slots := 0, locals := 51 })).room s m ([.ref (g k), .ref (g 45), .int r] : List Value).toArray below meth c H locs 0 0 (MQ below (bQv G g (fun (f' : Nat → va_E) => ∃ sl9 : Nat, ∃ lo9 : Int32, ∃ ib9 : Int32, ∃ ca9 : Int32, ∃ mi9 : Int32, ∃ s09 : Int32, ∃ s19 : Int32, ∃ sw9 : Int32, ∃ od9 : Nat → Int32, f' k = eO 3 [.ref (g (k + 1)), .int (nI sl9), .int lo9, .int ib9, .int ca9, .int mi9, .int s09, .int s19, .int sw9] ∧ f' (k + 1) = eI G 24 od9 ∧ (sl9 ≤ 24) ∧ ∀ j, (j ≠ k ∧ j ≠ k + 1) → f' j = f j)) ([.ref (g k), .ref (g 45), .int r] : List Value).toArray s 0 0 (gA g)) (F0 m 28 ls []) := by
    intro n9
    induction n9 with
    | zero => intro i u w f_4 H locs ls hi hn9; exact absurd hn9 (Nat.not_lt_zero _)
    | succ n9 ih =>
      intro i u w f_4 H locs ls hi hn9 hhe hor htr hct o_4 hP hS hl
      refine lv_iload_n hx hb dX3_strike_28 rfl (lv_at hl 3 rfl) ?_
      refine lv_aload_n hx hb dX3_strike_29 rfl (lv_at hl 1 rfl) ?_
      refine lv_iload_n hx hb dX3_strike_30 rfl (lv_at hl 2 rfl) ?_
      refine lv_bipush (v := 6) hx hb dX3_strike_31 (by decide) ?_
      refine rd_calli (va_runV (As := [.int r, .int 6]) (rest := [.int (nI i)]) ⟨hx, hb, hml, hown, hts⟩ (r_at l G g hg f_4 45 10 70 nt ct r 6 htr hct (by first | assumption | omega | decide) (by first | assumption | omega | decide) (by first | assumption | omega | decide) (by first | assumption | omega | decide)) (my_cwV hts ok_X5_at w_500 rfl rfl ⟨Nat.le_of_ble_eq_true rfl, Nat.le_of_ble_eq_true rfl⟩) ⟨bP.blind, va_recv hG.1 hP (ci := 5) (q0 := 45) rfl (wl_at (by decide) htr), fun U hU hW => ⟨rfl, by rw [hU]; exact hP, kG.warm hW hG⟩⟩ rfl rfl hl.1 rfl (lv_room (Nat.le_of_ble_eq_true rfl)) dX3_strike_33 ⟨Nat.le_of_ble_eq_true rfl, Nat.le_of_ble_eq_true rfl⟩) (fun r hr9 => ?_)
      subst hr9
      refine lv_icmp_ge (tgt := 77) hx hb dX3_strike_36 (by decide) (fun c_36 => ?_) (fun c_36 => ?_)
      · exact W.vret hx hb hr (fun t ht hW => ⟨⟨f_4, rfl, (⟨sl, lo, ib, ca, (ca &&& (atv ct nt 70 r 9)), u, w, sw, od, hhe, hor, by omega, fun j hj => ((((o_4 j (by omega))).trans (o_3 j (by omega))).trans (o_2 j (by omega))).trans (o_1 j (by omega))⟩), by rw [ht]; exact hP⟩, hS.F ht⟩) hS.2.2 dX3_strike_77
      · have hy1 := ge_lt (by omega) c_36
        have hy2 := i32_top (atv ct nt 70 r 6)
        refine lv_aload_n hx hb dX3_strike_39 rfl (lv_at hl 0 rfl) ?_
        refine lv_dup hx hb dX3_strike_40 rfl ?_
        refine va_get (D := G.1) (ci := 3) (v := .int u) (C := RX3) (T := TX3) (N := 9) hx hb hts inlX3 hown hG.1 hP k (wl_at (by omega) hhe) rfl 6 (by decide) (hts (.fieldLink RX3 56 "SwornLists$Hearing" "struckBy0" "I") w_498) (fun _ h9 => h9) rfl dX3_strike_41 ?_
        refine lv_aload_n hx hb dX3_strike_44 rfl (lv_at hl 0 rfl) ?_
        refine lv_aload_n hx hb dX3_strike_45 rfl (lv_at hl 1 rfl) ?_
        refine lv_iload_n hx hb dX3_strike_46 rfl (lv_at hl 2 rfl) ?_
        refine lv_iconst (v := 0) hx hb dX3_strike_47 (by decide) ?_
        refine rd_calli (va_runV (As := [.ref (g 45), .int r, .int 0]) (rest := [.int u, .ref (g k)]) ⟨hx, hb, hml, hown, hts⟩ (h_leastLiked l G g hg f_4 k sl lo ib ca (ca &&& (atv ct nt 70 r 9)) u w sw od nt ct r 0 hhe hor htr hct (by first | assumption | omega | decide) (by first | assumption | omega | decide) (by first | assumption | omega | decide)) (my_cwV hts ok_X3_leastLiked w_501 rfl rfl ⟨Nat.le_of_ble_eq_true rfl, Nat.le_of_ble_eq_true rfl⟩) ⟨bP.blind, va_recv hG.1 hP (ci := 3) (q0 := k) rfl (wl_at (by omega) hhe), fun U hU hW => ⟨rfl, by rw [hU]; exact hP, kG.warm hW hG⟩⟩ rfl rfl hl.1 rfl (lv_room (Nat.le_of_ble_eq_true rfl)) dX3_strike_48 ⟨Nat.le_of_ble_eq_true rfl, Nat.le_of_ble_eq_true rfl⟩) (fun v2 _ => ?_)
        refine lv_ior hx hb dX3_strike_51 ?_
        refine va_put (D := G.1) (ci := 3) (v := .int (u ||| v2)) (ty := .int) (C := RX3) (T := TX3) (N := 9) hx hb hts inlX3 tyX3 tyX3_ok nmX3 hown hG.1 hP (wl_D hg f_4) hS k (wl_at (by omega) hhe) rfl 6 (by decide) (hts (.fieldLink RX3 56 "SwornLists$Hearing" "struckBy0" "I") w_498) (fun _ h9 => h9) rfl (by decide +kernel) rfl rfl (Nat.le_of_ble_eq_true rfl) dX3_strike_52 (fun H locs hP _ hS => ?_)
        obtain ⟨f_5, hP, e_5, o_5⟩ := b_put (by omega) hP
        have hhe : f_5 k = eO 3 [.ref (g (k + 1)), .int (nI sl), .int lo, .int ib, .int ca, .int (ca &&& (atv ct nt 70 r 9)), .int (u ||| v2), .int w, .int sw] := e_5
        replace hor : f_5 (k + 1) = eI G 24 od := (o_5 (k + 1) (by omega)).trans hor
        replace htr := (o_5 45 (by first | decide | omega)).trans htr
        replace hct := (o_5 46 (by first | decide | omega)).trans hct
        refine lv_aload_n hx hb dX3_strike_55 rfl (lv_at hl 0 rfl) ?_
        refine lv_dup hx hb dX3_strike_56 rfl ?_
        refine va_get (D := G.1) (ci := 3) (v := .int w) (C := RX3) (T := TX3) (N := 9) hx hb hts inlX3 hown hG.1 hP k (wl_at (by omega) hhe) rfl 7 (by decide) (hts (.fieldLink RX3 59 "SwornLists$Hearing" "struckBy1" "I") w_499) (fun _ h9 => h9) rfl dX3_strike_57 ?_
        refine lv_aload_n hx hb dX3_strike_60 rfl (lv_at hl 0 rfl) ?_
        refine lv_aload_n hx hb dX3_strike_61 rfl (lv_at hl 1 rfl) ?_
        refine lv_iload_n hx hb dX3_strike_62 rfl (lv_at hl 2 rfl) ?_
        refine lv_iconst (v := 1) hx hb dX3_strike_63 (by decide) ?_
        refine rd_calli (va_runV (As := [.ref (g 45), .int r, .int 1]) (rest := [.int w, .ref (g k)]) ⟨hx, hb, hml, hown, hts⟩ (h_leastLiked l G g hg f_5 k sl lo ib ca (ca &&& (atv ct nt 70 r 9)) (u ||| v2) w sw od nt ct r 1 hhe hor htr hct (by first | assumption | omega | decide) (by first | assumption | omega | decide) (by first | assumption | omega | decide)) (my_cwV hts ok_X3_leastLiked w_501 rfl rfl ⟨Nat.le_of_ble_eq_true rfl, Nat.le_of_ble_eq_true rfl⟩) ⟨bP.blind, va_recv hG.1 hP (ci := 3) (q0 := k) rfl (wl_at (by omega) hhe), fun U hU hW => ⟨rfl, by rw [hU]; exact hP, kG.warm hW hG⟩⟩ rfl rfl hl.1 rfl (lv_room (Nat.le_of_ble_eq_true rfl)) dX3_strike_64 ⟨Nat.le_of_ble_eq_true rfl, Nat.le_of_ble_eq_true rfl⟩) (fun v3 _ => ?_)
        refine lv_ior hx hb dX3_strike_67 ?_
        refine va_put (D := G.1) (ci := 3) (v := .int (w ||| v3)) (ty := .int) (C := RX3) (T := TX3) (N := 9) hx hb hts inlX3 tyX3 tyX3_ok nmX3 hown hG.1 hP (wl_D hg f_5) hS k (wl_at (by omega) hhe) rfl 7 (by decide) (hts (.fieldLink RX3 59 "SwornLists$Hearing" "struckBy1" "I") w_499) (fun _ h9 => h9) rfl (by decide +kernel) rfl rfl (Nat.le_of_ble_eq_true rfl) dX3_strike_68 (fun H locs hP _ hS => ?_)
        obtain ⟨f_6, hP, e_6, o_6⟩ := b_put (by omega) hP
        have hhe : f_6 k = eO 3 [.ref (g (k + 1)), .int (nI sl), .int lo, .int ib, .int ca, .int (ca &&& (atv ct nt 70 r 9)), .int (u ||| v2), .int (w ||| v3), .int sw] := e_6
        replace hor : f_6 (k + 1) = eI G 24 od := (o_6 (k + 1) (by omega)).trans hor
        replace htr := (o_6 45 (by first | decide | omega)).trans htr
        replace hct := (o_6 46 (by first | decide | omega)).trans hct
        refine lv_iinc (v := nI (i + 1)) (lv' := [(3, .int (nI (i + 1))), (0, .ref (g k)), (1, .ref (g 45)), (2, .int r)]) hx hb dX3_strike_71 hl (k := 3) rfl (nI_1 i) (by decide) rfl (fun ls hl => ?_)
        refine lv_goto (tgt := 28) hx hb dX3_strike_74 (by decide) ?_
        exact ih (i + 1) (u ||| v2) (w ||| v3) f_6 _ _ _ (by omega) (by omega) (hhe) (hor) (htr) (hct) (fun j hj => (((o_6 j (by omega))).trans (o_5 j (by omega))).trans (o_4 j (by omega))) hP hS (lv_sub hl [1, 2, 3, 0] rfl)
  exact key1 (2147483648 + 1) 0 0 0 f_3 _ _ _ (by omega) (by omega) (hhe) (hor) (htr) (hct) (fun j _ => rfl) hP hS (lv_sub hl [1, 2, 3, 0] rfl)
set_option maxHeartbeats 4000000 in
set_option maxRecDepth 100000 in
theorem h_seat (l : Launch) (G : gW) (g : Nat → Nat) (hg : gOK g) (f : Nat → va_E) (k : Nat) (sl : Nat) (lo : Int32) (ib : Int32) (ca : Int32) (mi : Int32) (s0 : Int32) (s1 : Int32) (sw : Int32) (od : Nat → Int32) (n : Int32) (q : Int32) (hhe : f k = eO 3 [.ref (g (k + 1)), .int (nI sl), .int lo, .int ib, .int ca, .int mi, .int s0, .int s1, .int sw]) (hor : f (k + 1) = eI G 24 od) (hk3 : k + 1 < 36) (hsl : sl ≤ 24) : Met l yX3_seat (wsT yX3_seat cX3_seat 4 none) ({ frames := 1, cells := 0, slots := 0, locals := 20 }) (bP G g f [.ref (g k), .int n, .int q]) (bQv G g (fun (f' : Nat → va_E) => ∃ sl9 : Nat, ∃ lo9 : Int32, ∃ ib9 : Int32, ∃ ca9 : Int32, ∃ mi9 : Int32, ∃ s09 : Int32, ∃ s19 : Int32, ∃ sw9 : Int32, ∃ od9 : Nat → Int32, f' k = eO 3 [.ref (g (k + 1)), .int (nI sl9), .int lo9, .int ib9, .int ca9, .int mi9, .int s09, .int s19, .int sw9] ∧ f' (k + 1) = eI G 24 od9 ∧ (sl9 ≤ 24) ∧ ∀ j, (j ≠ k ∧ j ≠ k + 1) → f' j = f j)) 0 0 (gA g) := by
  refine Met.ofW (cc := cX3_seat) (maxL := 4) (ret := none) (by decide) rfl ?_
  intro p e s m args below meth c s₁ B hml hv
  obtain ⟨rfl, hP, hG⟩ := hv
  have hx := B.exec
  have hb := B.bytes
  have hr := B.returns
  have hts := my_hts (atoms_spec (ws := wsT yX3_seat cX3_seat 4 none) B.pre)
  have hown : s.vm.findClass RX3 = some m.cls := findClass_of_methodNamed B.named
  have hlocks := B.notSynchronized
  have hS : va_S (gA g) s.heap s.heap [] := va_S.rf
  have hl := lv_entry ([.ref (g k), .int n, .int q]) (n := 4) (Nat.le_of_ble_eq_true rfl)
  rw [lg_entry_eq]
  generalize (lg_sl ([.ref (g k), .int n, .int q]) ++ List.replicate (4 - (lg_sl ([.ref (g k), .int n, .int q])).length) Slot.unset).toArray = ls at hl ⊢
  have hl : lv_has ls 4 [(0, .ref (g k)), (1, .int n), (2, .int q)] := hl
  refine lv_aload_n hx hb dX3_seat_0 rfl (lv_at hl 0 rfl) ?_
  refine lv_iconst (v := 0) hx hb dX3_seat_1 (by decide) ?_
  refine va_put (D := G.1) (ci := 3) (v := .int 0) (ty := .int) (C := RX3) (T := TX3) (N := 9) hx hb hts inlX3 tyX3 tyX3_ok nmX3 hown hG.1 hP (wl_D hg f) hS k (wl_at (by omega) hhe) rfl 8 (by decide) (hts (.fieldLink RX3 73 "SwornLists$Hearing" "sworn" "I") w_515) (fun _ h9 => h9) rfl (by decide +kernel) rfl rfl (Nat.le_of_ble_eq_true rfl) dX3_seat_2 (fun H locs hP _ hS => ?_)
  obtain ⟨f_1, hP, e_1, o_1⟩ := b_put (by omega) hP
  have hhe : f_1 k = eO 3 [.ref (g (k + 1)), .int (nI sl), .int lo, .int ib, .int ca, .int mi, .int s0, .int s1, .int 0] := e_1
  replace hor : f_1 (k + 1) = eI G 24 od := (o_1 (k + 1) (by omega)).trans hor
  refine lv_iconst (v := 0) hx hb dX3_seat_5 (by decide) ?_
  refine lv_istore_n (lv' := [(3, .int 0), (0, .ref (g k)), (1, .int n), (2, .int q)]) hx hb dX3_seat_6 rfl hl (by decide) rfl (fun ls hl => ?_)
  have key1 : ∀ (n9 : Nat) (u : Int32) (i : Nat) (f_2 : Nat → va_E) (H : Heap) (locs : List Loc) (ls : Array Slot), (i ≤ sl) → sl - i < n9 → f_2 k = eO 3 [.ref (g (k + 1)), .int (nI sl), .int lo, .int ib, .int ca, .int mi, .int s0, .int s1, .int u] → f_2 (k + 1) = eI G 24 od → (∀ j, (j ≠ k ∧ j ≠ k + 1) → f_2 j = f_1 j) → va_P G.1 vwCl (wl g f_2) H → va_S (gA g) s.heap H locs → lv_has ls 4 [(0, .ref (g k)), (1, .int n), (2, .int q), (3, .int (nI i))] → W p l e (headSpec (wsT yX3_seat cX3_seat 4 none) ({ frames := 1, cells := 0, slots := 0, locals := 20 })).room s m ([.ref (g k), .int n, .int q] : List Value).toArray below meth c H locs 0 0 (MQ below (bQv G g (fun (f' : Nat → va_E) => ∃ sl9 : Nat, ∃ lo9 : Int32, ∃ ib9 : Int32, ∃ ca9 : Int32, ∃ mi9 : Int32, ∃ s09 : Int32, ∃ s19 : Int32, ∃ sw9 : Int32, ∃ od9 : Nat → Int32, f' k = eO 3 [.ref (g (k + 1)), .int (nI sl9), .int lo9, .int ib9, .int ca9, .int mi9, .int s09, .int s19, .int sw9] ∧ f' (k + 1) = eI G 24 od9 ∧ (sl9 ≤ 24) ∧ ∀ j, (j ≠ k ∧ j ≠ k + 1) → f' j = f j)) ([.ref (g k), .int n, .int q] : List Value).toArray s 0 0 (gA g)) (F0 m 7 ls []) := by
    intro n9
    induction n9 with
    | zero => intro u i f_2 H locs ls hi hn9; exact absurd hn9 (Nat.not_lt_zero _)
    | succ n9 ih =>
      intro u i f_2 H locs ls hi hn9 hhe hor o_2 hP hS hl
      refine lv_iload_n hx hb dX3_seat_7 rfl (lv_at hl 3 rfl) ?_
      refine lv_aload_n hx hb dX3_seat_8 rfl (lv_at hl 0 rfl) ?_
      refine va_get (D := G.1) (ci := 3) (v := .int (nI sl)) (C := RX3) (T := TX3) (N := 9) hx hb hts inlX3 hown hG.1 hP k (wl_at (by omega) hhe) rfl 1 (by decide) (hts (.fieldLink RX3 22 "SwornLists$Hearing" "slips" "I") w_479) (fun _ h9 => h9) rfl dX3_seat_9 ?_
      refine lv_icmp_ge (tgt := 54) hx hb dX3_seat_12 (by decide) (fun c_12 => ?_) (fun c_12 => ?_)
      · refine lv_iconst (v := 0) hx hb dX3_seat_54 (by decide) ?_
        refine lv_istore_n (lv' := [(3, .int 0), (0, .ref (g k)), (1, .int n), (2, .int q)]) hx hb dX3_seat_55 rfl hl (by decide) rfl (fun ls hl => ?_)
        have key2 : ∀ (n9 : Nat) (w : Int32) (i : Nat) (f_3 : Nat → va_E) (H : Heap) (locs : List Loc) (ls : Array Slot), (i ≤ 30) → 30 - i < n9 → f_3 k = eO 3 [.ref (g (k + 1)), .int (nI sl), .int lo, .int ib, .int ca, .int mi, .int s0, .int s1, .int w] → f_3 (k + 1) = eI G 24 od → (∀ j, (j ≠ k ∧ j ≠ k + 1) → f_3 j = f_2 j) → va_P G.1 vwCl (wl g f_3) H → va_S (gA g) s.heap H locs → lv_has ls 4 [(0, .ref (g k)), (1, .int n), (2, .int q), (3, .int (nI i))] → W p l e (headSpec (wsT yX3_seat cX3_seat 4 none) ({ frames := 1, cells := 0, slots := 0, locals := 20 })).room s m ([.ref (g k), .int n, .int q] : List Value).toArray below meth c H locs 0 0 (MQ below (bQv G g (fun (f' : Nat → va_E) => ∃ sl9 : Nat, ∃ lo9 : Int32, ∃ ib9 : Int32, ∃ ca9 : Int32, ∃ mi9 : Int32, ∃ s09 : Int32, ∃ s19 : Int32, ∃ sw9 : Int32, ∃ od9 : Nat → Int32, f' k = eO 3 [.ref (g (k + 1)), .int (nI sl9), .int lo9, .int ib9, .int ca9, .int mi9, .int s09, .int s19, .int sw9] ∧ f' (k + 1) = eI G 24 od9 ∧ (sl9 ≤ 24) ∧ ∀ j, (j ≠ k ∧ j ≠ k + 1) → f' j = f j)) ([.ref (g k), .int n, .int q] : List Value).toArray s 0 0 (gA g)) (F0 m 56 ls []) := by
          intro n9
          induction n9 with
          | zero => intro w i f_3 H locs ls hi hn9; exact absurd hn9 (Nat.not_lt_zero _)
          | succ n9 ih =>
            intro w i f_3 H locs ls hi hn9 hhe hor o_3 hP hS hl
            refine lv_iload_n hx hb dX3_seat_56 rfl (lv_at hl 3 rfl) ?_
            refine lv_bipush (v := 30) hx hb dX3_seat_57 (by decide) ?_
            refine lv_icmp_ge (tgt := 93) hx hb dX3_seat_59 (by decide) (fun c_59 => ?_) (fun c_59 => ?_)
            · refine lv_aload_n hx hb dX3_seat_93 rfl (lv_at hl 0 rfl) ?_
              refine va_get (D := G.1) (ci := 3) (v := .int w) (C := RX3) (T := TX3) (N := 9) hx hb hts inlX3 hown hG.1 hP k (wl_at (by omega) hhe) rfl 8 (by decide) (hts (.fieldLink RX3 73 "SwornLists$Hearing" "sworn" "I") w_515) (fun _ h9 => h9) rfl dX3_seat_94 ?_
              refine rd_calli (va_runS (As := [.int w]) (rest := []) ⟨hx, hb, hml, hown, hts⟩ (s_bitCount l G g hg f_3 w  ) (my_cwS hts ok_J6_bitCount_0f7a4 w_483 rfl rfl ⟨Nat.le_of_ble_eq_true rfl, Nat.le_of_ble_eq_true rfl⟩) ⟨bP.blind, fun U hU hW => ⟨rfl, by rw [hU]; exact hP, kG.warm hW hG⟩⟩ rfl rfl hl.1 rfl (lv_room (Nat.le_of_ble_eq_true rfl)) dX3_seat_97 ⟨Nat.le_of_ble_eq_true rfl, Nat.le_of_ble_eq_true rfl⟩) (fun v3 _ => ?_)
              refine lv_iload_n hx hb dX3_seat_100 rfl (lv_at hl 1 rfl) ?_
              refine lv_icmp_ge (tgt := 109) hx hb dX3_seat_101 (by decide) (fun c_101 => ?_) (fun c_101 => ?_)
              · exact W.vret hx hb hr (fun t ht hW => ⟨⟨f_3, rfl, (⟨sl, lo, ib, ca, mi, s0, s1, w, od, hhe, hor, by omega, fun j hj => (((o_3 j (by omega))).trans (o_2 j (by omega))).trans (o_1 j (by omega))⟩), by rw [ht]; exact hP⟩, hS.F ht⟩) hS.2.2 dX3_seat_109
              · refine lv_aload_n hx hb dX3_seat_104 rfl (lv_at hl 0 rfl) ?_
                refine lv_iconst (v := 0) hx hb dX3_seat_105 (by decide) ?_
                refine va_put (D := G.1) (ci := 3) (v := .int 0) (ty := .int) (C := RX3) (T := TX3) (N := 9) hx hb hts inlX3 tyX3 tyX3_ok nmX3 hown hG.1 hP (wl_D hg f_3) hS k (wl_at (by omega) hhe) rfl 8 (by decide) (hts (.fieldLink RX3 73 "SwornLists$Hearing" "sworn" "I") w_515) (fun _ h9 => h9) rfl (by decide +kernel) rfl rfl (Nat.le_of_ble_eq_true rfl) dX3_seat_106 (fun H locs hP _ hS => ?_)
                obtain ⟨f_4, hP, e_4, o_4⟩ := b_put (by omega) hP
                have hhe : f_4 k = eO 3 [.ref (g (k + 1)), .int (nI sl), .int lo, .int ib, .int ca, .int mi, .int s0, .int s1, .int 0] := e_4
                replace hor : f_4 (k + 1) = eI G 24 od := (o_4 (k + 1) (by omega)).trans hor
                exact W.vret hx hb hr (fun t ht hW => ⟨⟨f_4, rfl, (⟨sl, lo, ib, ca, mi, s0, s1, 0, od, hhe, hor, by omega, fun j hj => ((((o_4 j (by omega))).trans (o_3 j (by omega))).trans (o_2 j (by omega))).trans (o_1 j (by omega))⟩), by rw [ht]; exact hP⟩, hS.F ht⟩) hS.2.2 dX3_seat_109
            · have hi9 : i < 30 := Nat.not_le.mp (fun z => c_59 (nI_le z (by omega)))
              refine lv_aload_n hx hb dX3_seat_62 rfl (lv_at hl 0 rfl) ?_
              refine va_get (D := G.1) (ci := 3) (v := .int w) (C := RX3) (T := TX3) (N := 9) hx hb hts inlX3 hown hG.1 hP k (wl_at (by omega) hhe) rfl 8 (by decide) (hts (.fieldLink RX3 73 "SwornLists$Hearing" "sworn" "I") w_515) (fun _ h9 => h9) rfl dX3_seat_63 ?_
              refine rd_calli (va_runS (As := [.int w]) (rest := []) ⟨hx, hb, hml, hown, hts⟩ (s_bitCount l G g hg f_3 w  ) (my_cwS hts ok_J6_bitCount_0f7a4 w_483 rfl rfl ⟨Nat.le_of_ble_eq_true rfl, Nat.le_of_ble_eq_true rfl⟩) ⟨bP.blind, fun U hU hW => ⟨rfl, by rw [hU]; exact hP, kG.warm hW hG⟩⟩ rfl rfl hl.1 rfl (lv_room (Nat.le_of_ble_eq_true rfl)) dX3_seat_66 ⟨Nat.le_of_ble_eq_true rfl, Nat.le_of_ble_eq_true rfl⟩) (fun v4 _ => ?_)
              refine lv_iload_n hx hb dX3_seat_69 rfl (lv_at hl 1 rfl) ?_
              refine lv_icmp_ge (tgt := 93) hx hb dX3_seat_70 (by decide) (fun c_70 => ?_) (fun c_70 => ?_)
              · refine lv_aload_n hx hb dX3_seat_93 rfl (lv_at hl 0 rfl) ?_
                refine va_get (D := G.1) (ci := 3) (v := .int w) (C := RX3) (T := TX3) (N := 9) hx hb hts inlX3 hown hG.1 hP k (wl_at (by omega) hhe) rfl 8 (by decide) (hts (.fieldLink RX3 73 "SwornLists$Hearing" "sworn" "I") w_515) (fun _ h9 => h9) rfl dX3_seat_94 ?_
                refine rd_calli (va_runS (As := [.int w]) (rest := []) ⟨hx, hb, hml, hown, hts⟩ (s_bitCount l G g hg f_3 w  ) (my_cwS hts ok_J6_bitCount_0f7a4 w_483 rfl rfl ⟨Nat.le_of_ble_eq_true rfl, Nat.le_of_ble_eq_true rfl⟩) ⟨bP.blind, fun U hU hW => ⟨rfl, by rw [hU]; exact hP, kG.warm hW hG⟩⟩ rfl rfl hl.1 rfl (lv_room (Nat.le_of_ble_eq_true rfl)) dX3_seat_97 ⟨Nat.le_of_ble_eq_true rfl, Nat.le_of_ble_eq_true rfl⟩) (fun v5 _ => ?_)
                refine lv_iload_n hx hb dX3_seat_100 rfl (lv_at hl 1 rfl) ?_
                refine lv_icmp_ge (tgt := 109) hx hb dX3_seat_101 (by decide) (fun c_101 => ?_) (fun c_101 => ?_)
                · exact W.vret hx hb hr (fun t ht hW => ⟨⟨f_3, rfl, (⟨sl, lo, ib, ca, mi, s0, s1, w, od, hhe, hor, by omega, fun j hj => (((o_3 j (by omega))).trans (o_2 j (by omega))).trans (o_1 j (by omega))⟩), by rw [ht]; exact hP⟩, hS.F ht⟩) hS.2.2 dX3_seat_109
                · refine lv_aload_n hx hb dX3_seat_104 rfl (lv_at hl 0 rfl) ?_
                  refine lv_iconst (v := 0) hx hb dX3_seat_105 (by decide) ?_
                  refine va_put (D := G.1) (ci := 3) (v := .int 0) (ty := .int) (C := RX3) (T := TX3) (N := 9) hx hb hts inlX3 tyX3 tyX3_ok nmX3 hown hG.1 hP (wl_D hg f_3) hS k (wl_at (by omega) hhe) rfl 8 (by decide) (hts (.fieldLink RX3 73 "SwornLists$Hearing" "sworn" "I") w_515) (fun _ h9 => h9) rfl (by decide +kernel) rfl rfl (Nat.le_of_ble_eq_true rfl) dX3_seat_106 (fun H locs hP _ hS => ?_)
                  obtain ⟨f_5, hP, e_5, o_5⟩ := b_put (by omega) hP
                  have hhe : f_5 k = eO 3 [.ref (g (k + 1)), .int (nI sl), .int lo, .int ib, .int ca, .int mi, .int s0, .int s1, .int 0] := e_5
                  replace hor : f_5 (k + 1) = eI G 24 od := (o_5 (k + 1) (by omega)).trans hor
                  exact W.vret hx hb hr (fun t ht hW => ⟨⟨f_5, rfl, (⟨sl, lo, ib, ca, mi, s0, s1, 0, od, hhe, hor, by omega, fun j hj => ((((o_5 j (by omega))).trans (o_3 j (by omega))).trans (o_2 j (by omega))).trans (o_1 j (by omega))⟩), by rw [ht]; exact hP⟩, hS.F ht⟩) hS.2.2 dX3_seat_109
              · refine lv_aload_n hx hb dX3_seat_73 rfl (lv_at hl 0 rfl) ?_
                refine lv_dup hx hb dX3_seat_74 rfl ?_
                refine va_get (D := G.1) (ci := 3) (v := .int w) (C := RX3) (T := TX3) (N := 9) hx hb hts inlX3 hown hG.1 hP k (wl_at (by omega) hhe) rfl 8 (by decide) (hts (.fieldLink RX3 73 "SwornLists$Hearing" "sworn" "I") w_515) (fun _ h9 => h9) rfl dX3_seat_75 ?_
                refine lv_iload_n hx hb dX3_seat_78 rfl (lv_at hl 2 rfl) ?_
                refine lv_iconst (v := 1) hx hb dX3_seat_79 (by decide) ?_
                refine lv_iload_n hx hb dX3_seat_80 rfl (lv_at hl 3 rfl) ?_
                refine lv_ishl hx hb dX3_seat_81 ?_
                refine lv_iand hx hb dX3_seat_82 ?_
                refine lv_ior hx hb dX3_seat_83 ?_
                refine va_put (D := G.1) (ci := 3) (v := .int (w ||| (q &&& (1 <<< ((nI i) &&& 31))))) (ty := .int) (C := RX3) (T := TX3) (N := 9) hx hb hts inlX3 tyX3 tyX3_ok nmX3 hown hG.1 hP (wl_D hg f_3) hS k (wl_at (by omega) hhe) rfl 8 (by decide) (hts (.fieldLink RX3 73 "SwornLists$Hearing" "sworn" "I") w_515) (fun _ h9 => h9) rfl (by decide +kernel) rfl rfl (Nat.le_of_ble_eq_true rfl) dX3_seat_84 (fun H locs hP _ hS => ?_)
                obtain ⟨f_6, hP, e_6, o_6⟩ := b_put (by omega) hP
                have hhe : f_6 k = eO 3 [.ref (g (k + 1)), .int (nI sl), .int lo, .int ib, .int ca, .int mi, .int s0, .int s1, .int (w ||| (q &&& (1 <<< ((nI i) &&& 31))))] := e_6
                replace hor : f_6 (k + 1) = eI G 24 od := (o_6 (k + 1) (by omega)).trans hor
                refine lv_iinc (v := nI (i + 1)) (lv' := [(3, .int (nI (i + 1))), (0, .ref (g k)), (1, .int n), (2, .int q)]) hx hb dX3_seat_87 hl (k := 3) rfl (nI_1 i) (by decide) rfl (fun ls hl => ?_)
                refine lv_goto (tgt := 56) hx hb dX3_seat_90 (by decide) ?_
                exact ih (w ||| (q &&& (1 <<< ((nI i) &&& 31)))) (i + 1) f_6 _ _ _ (hi9) (by omega) (hhe) (hor) (fun j hj => ((o_6 j (by omega))).trans (o_3 j (by omega))) hP hS (lv_sub hl [1, 2, 3, 0] rfl)
        exact key2 (30 + 1) u 0 f_2 _ _ _ (Nat.zero_le _) (by omega) (hhe) (hor) (fun j _ => rfl) hP hS (lv_sub hl [1, 2, 3, 0] rfl)
      · have hi9 : i < sl := Nat.not_le.mp (fun z => c_12 (nI_le z (by omega)))
        refine lv_aload_n hx hb dX3_seat_15 rfl (lv_at hl 0 rfl) ?_
        refine va_get (D := G.1) (ci := 3) (v := .int u) (C := RX3) (T := TX3) (N := 9) hx hb hts inlX3 hown hG.1 hP k (wl_at (by omega) hhe) rfl 8 (by decide) (hts (.fieldLink RX3 73 "SwornLists$Hearing" "sworn" "I") w_515) (fun _ h9 => h9) rfl dX3_seat_16 ?_
        refine rd_calli (va_runS (As := [.int u]) (rest := []) ⟨hx, hb, hml, hown, hts⟩ (s_bitCount l G g hg f_2 u  ) (my_cwS hts ok_J6_bitCount_0f7a4 w_483 rfl rfl ⟨Nat.le_of_ble_eq_true rfl, Nat.le_of_ble_eq_true rfl⟩) ⟨bP.blind, fun U hU hW => ⟨rfl, by rw [hU]; exact hP, kG.warm hW hG⟩⟩ rfl rfl hl.1 rfl (lv_room (Nat.le_of_ble_eq_true rfl)) dX3_seat_19 ⟨Nat.le_of_ble_eq_true rfl, Nat.le_of_ble_eq_true rfl⟩) (fun v6 _ => ?_)
        refine lv_iload_n hx hb dX3_seat_22 rfl (lv_at hl 1 rfl) ?_
        refine lv_icmp_ge (tgt := 54) hx hb dX3_seat_23 (by decide) (fun c_23 => ?_) (fun c_23 => ?_)
        · refine lv_iconst (v := 0) hx hb dX3_seat_54 (by decide) ?_
          refine lv_istore_n (lv' := [(3, .int 0), (0, .ref (g k)), (1, .int n), (2, .int q)]) hx hb dX3_seat_55 rfl hl (by decide) rfl (fun ls hl => ?_)
          have key7 : ∀ (n9 : Nat) (w : Int32) (i : Nat) (f_7 : Nat → va_E) (H : Heap) (locs : List Loc) (ls : Array Slot), (i ≤ 30) → 30 - i < n9 → f_7 k = eO 3 [.ref (g (k + 1)), .int (nI sl), .int lo, .int ib, .int ca, .int mi, .int s0, .int s1, .int w] → f_7 (k + 1) = eI G 24 od → (∀ j, (j ≠ k ∧ j ≠ k + 1) → f_7 j = f_2 j) → va_P G.1 vwCl (wl g f_7) H → va_S (gA g) s.heap H locs → lv_has ls 4 [(0, .ref (g k)), (1, .int n), (2, .int q), (3, .int (nI i))] → W p l e (headSpec (wsT yX3_seat cX3_seat 4 none) ({ frames := 1, cells := 0, slots := 0, locals := 20 })).room s m ([.ref (g k), .int n, .int q] : List Value).toArray below meth c H locs 0 0 (MQ below (bQv G g (fun (f' : Nat → va_E) => ∃ sl9 : Nat, ∃ lo9 : Int32, ∃ ib9 : Int32, ∃ ca9 : Int32, ∃ mi9 : Int32, ∃ s09 : Int32, ∃ s19 : Int32, ∃ sw9 : Int32, ∃ od9 : Nat → Int32, f' k = eO 3 [.ref (g (k + 1)), .int (nI sl9), .int lo9, .int ib9, .int ca9, .int mi9, .int s09, .int s19, .int sw9] ∧ f' (k + 1) = eI G 24 od9 ∧ (sl9 ≤ 24) ∧ ∀ j, (j ≠ k ∧ j ≠ k + 1) → f' j = f j)) ([.ref (g k), .int n, .int q] : List Value).toArray s 0 0 (gA g)) (F0 m 56 ls []) := by
            intro n9
            induction n9 with
            | zero => intro w i f_7 H locs ls hi hn9; exact absurd hn9 (Nat.not_lt_zero _)
            | succ n9 ih =>
              intro w i f_7 H locs ls hi hn9 hhe hor o_7 hP hS hl
              refine lv_iload_n hx hb dX3_seat_56 rfl (lv_at hl 3 rfl) ?_
              refine lv_bipush (v := 30) hx hb dX3_seat_57 (by decide) ?_
              refine lv_icmp_ge (tgt := 93) hx hb dX3_seat_59 (by decide) (fun c_59 => ?_) (fun c_59 => ?_)
              · refine lv_aload_n hx hb dX3_seat_93 rfl (lv_at hl 0 rfl) ?_
                refine va_get (D := G.1) (ci := 3) (v := .int w) (C := RX3) (T := TX3) (N := 9) hx hb hts inlX3 hown hG.1 hP k (wl_at (by omega) hhe) rfl 8 (by decide) (hts (.fieldLink RX3 73 "SwornLists$Hearing" "sworn" "I") w_515) (fun _ h9 => h9) rfl dX3_seat_94 ?_
                refine rd_calli (va_runS (As := [.int w]) (rest := []) ⟨hx, hb, hml, hown, hts⟩ (s_bitCount l G g hg f_7 w  ) (my_cwS hts ok_J6_bitCount_0f7a4 w_483 rfl rfl ⟨Nat.le_of_ble_eq_true rfl, Nat.le_of_ble_eq_true rfl⟩) ⟨bP.blind, fun U hU hW => ⟨rfl, by rw [hU]; exact hP, kG.warm hW hG⟩⟩ rfl rfl hl.1 rfl (lv_room (Nat.le_of_ble_eq_true rfl)) dX3_seat_97 ⟨Nat.le_of_ble_eq_true rfl, Nat.le_of_ble_eq_true rfl⟩) (fun v8 _ => ?_)
                refine lv_iload_n hx hb dX3_seat_100 rfl (lv_at hl 1 rfl) ?_
                refine lv_icmp_ge (tgt := 109) hx hb dX3_seat_101 (by decide) (fun c_101 => ?_) (fun c_101 => ?_)
                · exact W.vret hx hb hr (fun t ht hW => ⟨⟨f_7, rfl, (⟨sl, lo, ib, ca, mi, s0, s1, w, od, hhe, hor, by omega, fun j hj => (((o_7 j (by omega))).trans (o_2 j (by omega))).trans (o_1 j (by omega))⟩), by rw [ht]; exact hP⟩, hS.F ht⟩) hS.2.2 dX3_seat_109
                · refine lv_aload_n hx hb dX3_seat_104 rfl (lv_at hl 0 rfl) ?_
                  refine lv_iconst (v := 0) hx hb dX3_seat_105 (by decide) ?_
                  refine va_put (D := G.1) (ci := 3) (v := .int 0) (ty := .int) (C := RX3) (T := TX3) (N := 9) hx hb hts inlX3 tyX3 tyX3_ok nmX3 hown hG.1 hP (wl_D hg f_7) hS k (wl_at (by omega) hhe) rfl 8 (by decide) (hts (.fieldLink RX3 73 "SwornLists$Hearing" "sworn" "I") w_515) (fun _ h9 => h9) rfl (by decide +kernel) rfl rfl (Nat.le_of_ble_eq_true rfl) dX3_seat_106 (fun H locs hP _ hS => ?_)
                  obtain ⟨f_8, hP, e_8, o_8⟩ := b_put (by omega) hP
                  have hhe : f_8 k = eO 3 [.ref (g (k + 1)), .int (nI sl), .int lo, .int ib, .int ca, .int mi, .int s0, .int s1, .int 0] := e_8
                  replace hor : f_8 (k + 1) = eI G 24 od := (o_8 (k + 1) (by omega)).trans hor
                  exact W.vret hx hb hr (fun t ht hW => ⟨⟨f_8, rfl, (⟨sl, lo, ib, ca, mi, s0, s1, 0, od, hhe, hor, by omega, fun j hj => ((((o_8 j (by omega))).trans (o_7 j (by omega))).trans (o_2 j (by omega))).trans (o_1 j (by omega))⟩), by rw [ht]; exact hP⟩, hS.F ht⟩) hS.2.2 dX3_seat_109
              · have hi9 : i < 30 := Nat.not_le.mp (fun z => c_59 (nI_le z (by omega)))
                refine lv_aload_n hx hb dX3_seat_62 rfl (lv_at hl 0 rfl) ?_
                refine va_get (D := G.1) (ci := 3) (v := .int w) (C := RX3) (T := TX3) (N := 9) hx hb hts inlX3 hown hG.1 hP k (wl_at (by omega) hhe) rfl 8 (by decide) (hts (.fieldLink RX3 73 "SwornLists$Hearing" "sworn" "I") w_515) (fun _ h9 => h9) rfl dX3_seat_63 ?_
                refine rd_calli (va_runS (As := [.int w]) (rest := []) ⟨hx, hb, hml, hown, hts⟩ (s_bitCount l G g hg f_7 w  ) (my_cwS hts ok_J6_bitCount_0f7a4 w_483 rfl rfl ⟨Nat.le_of_ble_eq_true rfl, Nat.le_of_ble_eq_true rfl⟩) ⟨bP.blind, fun U hU hW => ⟨rfl, by rw [hU]; exact hP, kG.warm hW hG⟩⟩ rfl rfl hl.1 rfl (lv_room (Nat.le_of_ble_eq_true rfl)) dX3_seat_66 ⟨Nat.le_of_ble_eq_true rfl, Nat.le_of_ble_eq_true rfl⟩) (fun v9 _ => ?_)
                refine lv_iload_n hx hb dX3_seat_69 rfl (lv_at hl 1 rfl) ?_
                refine lv_icmp_ge (tgt := 93) hx hb dX3_seat_70 (by decide) (fun c_70 => ?_) (fun c_70 => ?_)
                · refine lv_aload_n hx hb dX3_seat_93 rfl (lv_at hl 0 rfl) ?_
                  refine va_get (D := G.1) (ci := 3) (v := .int w) (C := RX3) (T := TX3) (N := 9) hx hb hts inlX3 hown hG.1 hP k (wl_at (by omega) hhe) rfl 8 (by decide) (hts (.fieldLink RX3 73 "SwornLists$Hearing" "sworn" "I") w_515) (fun _ h9 => h9) rfl dX3_seat_94 ?_
                  refine rd_calli (va_runS (As := [.int w]) (rest := []) ⟨hx, hb, hml, hown, hts⟩ (s_bitCount l G g hg f_7 w  ) (my_cwS hts ok_J6_bitCount_0f7a4 w_483 rfl rfl ⟨Nat.le_of_ble_eq_true rfl, Nat.le_of_ble_eq_true rfl⟩) ⟨bP.blind, fun U hU hW => ⟨rfl, by rw [hU]; exact hP, kG.warm hW hG⟩⟩ rfl rfl hl.1 rfl (lv_room (Nat.le_of_ble_eq_true rfl)) dX3_seat_97 ⟨Nat.le_of_ble_eq_true rfl, Nat.le_of_ble_eq_true rfl⟩) (fun v10 _ => ?_)
                  refine lv_iload_n hx hb dX3_seat_100 rfl (lv_at hl 1 rfl) ?_
                  refine lv_icmp_ge (tgt := 109) hx hb dX3_seat_101 (by decide) (fun c_101 => ?_) (fun c_101 => ?_)
                  · exact W.vret hx hb hr (fun t ht hW => ⟨⟨f_7, rfl, (⟨sl, lo, ib, ca, mi, s0, s1, w, od, hhe, hor, by omega, fun j hj => (((o_7 j (by omega))).trans (o_2 j (by omega))).trans (o_1 j (by omega))⟩), by rw [ht]; exact hP⟩, hS.F ht⟩) hS.2.2 dX3_seat_109
                  · refine lv_aload_n hx hb dX3_seat_104 rfl (lv_at hl 0 rfl) ?_
                    refine lv_iconst (v := 0) hx hb dX3_seat_105 (by decide) ?_
                    refine va_put (D := G.1) (ci := 3) (v := .int 0) (ty := .int) (C := RX3) (T := TX3) (N := 9) hx hb hts inlX3 tyX3 tyX3_ok nmX3 hown hG.1 hP (wl_D hg f_7) hS k (wl_at (by omega) hhe) rfl 8 (by decide) (hts (.fieldLink RX3 73 "SwornLists$Hearing" "sworn" "I") w_515) (fun _ h9 => h9) rfl (by decide +kernel) rfl rfl (Nat.le_of_ble_eq_true rfl) dX3_seat_106 (fun H locs hP _ hS => ?_)
                    obtain ⟨f_9, hP, e_9, o_9⟩ := b_put (by omega) hP
                    have hhe : f_9 k = eO 3 [.ref (g (k + 1)), .int (nI sl), .int lo, .int ib, .int ca, .int mi, .int s0, .int s1, .int 0] := e_9
                    replace hor : f_9 (k + 1) = eI G 24 od := (o_9 (k + 1) (by omega)).trans hor
                    exact W.vret hx hb hr (fun t ht hW => ⟨⟨f_9, rfl, (⟨sl, lo, ib, ca, mi, s0, s1, 0, od, hhe, hor, by omega, fun j hj => ((((o_9 j (by omega))).trans (o_7 j (by omega))).trans (o_2 j (by omega))).trans (o_1 j (by omega))⟩), by rw [ht]; exact hP⟩, hS.F ht⟩) hS.2.2 dX3_seat_109
                · refine lv_aload_n hx hb dX3_seat_73 rfl (lv_at hl 0 rfl) ?_
                  refine lv_dup hx hb dX3_seat_74 rfl ?_
                  refine va_get (D := G.1) (ci := 3) (v := .int w) (C := RX3) (T := TX3) (N := 9) hx hb hts inlX3 hown hG.1 hP k (wl_at (by omega) hhe) rfl 8 (by decide) (hts (.fieldLink RX3 73 "SwornLists$Hearing" "sworn" "I") w_515) (fun _ h9 => h9) rfl dX3_seat_75 ?_
                  refine lv_iload_n hx hb dX3_seat_78 rfl (lv_at hl 2 rfl) ?_
                  refine lv_iconst (v := 1) hx hb dX3_seat_79 (by decide) ?_
                  refine lv_iload_n hx hb dX3_seat_80 rfl (lv_at hl 3 rfl) ?_
                  refine lv_ishl hx hb dX3_seat_81 ?_
                  refine lv_iand hx hb dX3_seat_82 ?_
                  refine lv_ior hx hb dX3_seat_83 ?_
                  refine va_put (D := G.1) (ci := 3) (v := .int (w ||| (q &&& (1 <<< ((nI i) &&& 31))))) (ty := .int) (C := RX3) (T := TX3) (N := 9) hx hb hts inlX3 tyX3 tyX3_ok nmX3 hown hG.1 hP (wl_D hg f_7) hS k (wl_at (by omega) hhe) rfl 8 (by decide) (hts (.fieldLink RX3 73 "SwornLists$Hearing" "sworn" "I") w_515) (fun _ h9 => h9) rfl (by decide +kernel) rfl rfl (Nat.le_of_ble_eq_true rfl) dX3_seat_84 (fun H locs hP _ hS => ?_)
                  obtain ⟨f_10, hP, e_10, o_10⟩ := b_put (by omega) hP
                  have hhe : f_10 k = eO 3 [.ref (g (k + 1)), .int (nI sl), .int lo, .int ib, .int ca, .int mi, .int s0, .int s1, .int (w ||| (q &&& (1 <<< ((nI i) &&& 31))))] := e_10
                  replace hor : f_10 (k + 1) = eI G 24 od := (o_10 (k + 1) (by omega)).trans hor
                  refine lv_iinc (v := nI (i + 1)) (lv' := [(3, .int (nI (i + 1))), (0, .ref (g k)), (1, .int n), (2, .int q)]) hx hb dX3_seat_87 hl (k := 3) rfl (nI_1 i) (by decide) rfl (fun ls hl => ?_)
                  refine lv_goto (tgt := 56) hx hb dX3_seat_90 (by decide) ?_
                  exact ih (w ||| (q &&& (1 <<< ((nI i) &&& 31)))) (i + 1) f_10 _ _ _ (hi9) (by omega) (hhe) (hor) (fun j hj => ((o_10 j (by omega))).trans (o_7 j (by omega))) hP hS (lv_sub hl [1, 2, 3, 0] rfl)
          exact key7 (30 + 1) u 0 f_2 _ _ _ (Nat.zero_le _) (by omega) (hhe) (hor) (fun j _ => rfl) hP hS (lv_sub hl [1, 2, 3, 0] rfl)
        · refine lv_aload_n hx hb dX3_seat_26 rfl (lv_at hl 0 rfl) ?_
          refine lv_dup hx hb dX3_seat_27 rfl ?_
          refine va_get (D := G.1) (ci := 3) (v := .int u) (C := RX3) (T := TX3) (N := 9) hx hb hts inlX3 hown hG.1 hP k (wl_at (by omega) hhe) rfl 8 (by decide) (hts (.fieldLink RX3 73 "SwornLists$Hearing" "sworn" "I") w_515) (fun _ h9 => h9) rfl dX3_seat_28 ?_
          refine lv_aload_n hx hb dX3_seat_31 rfl (lv_at hl 0 rfl) ?_
          refine rd_calli (va_runV (As := []) (rest := [.int u, .ref (g k)]) ⟨hx, hb, hml, hown, hts⟩ (h_left l G g hg f_2 k sl lo ib ca mi s0 s1 u hhe (by first | assumption | omega | decide) (by first | assumption | omega | decide)) (my_cwV hts ok_X3_left w_507 rfl rfl ⟨Nat.le_of_ble_eq_true rfl, Nat.le_of_ble_eq_true rfl⟩) ⟨bP.blind, va_recv hG.1 hP (ci := 3) (q0 := k) rfl (wl_at (by omega) hhe), fun U hU hW => ⟨rfl, by rw [hU]; exact hP, kG.warm hW hG⟩⟩ rfl rfl hl.1 rfl (lv_room (Nat.le_of_ble_eq_true rfl)) dX3_seat_32 ⟨Nat.le_of_ble_eq_true rfl, Nat.le_of_ble_eq_true rfl⟩) (fun v11 _ => ?_)
          refine lv_iconst (v := 1) hx hb dX3_seat_35 (by decide) ?_
          refine lv_aload_n hx hb dX3_seat_36 rfl (lv_at hl 0 rfl) ?_
          refine va_get (D := G.1) (ci := 3) (v := .ref (g (k + 1))) (C := RX3) (T := TX3) (N := 9) hx hb hts inlX3 hown hG.1 hP k (wl_at (by omega) hhe) rfl 0 (by decide) (hts (.fieldLink RX3 9 "SwornLists$Hearing" "order" "[I") w_91) (fun _ h9 => h9) rfl dX3_seat_37 ?_
          refine lv_iload_n hx hb dX3_seat_40 rfl (lv_at hl 3 rfl) ?_
          refine va_iald hx hb hG.1 hP (k + 1) 0 (wl_at (by omega) hor) rfl (vp_in_nI (by omega) (by decide)) dX3_seat_41 ?_
          refine lv_ishl hx hb dX3_seat_42 ?_
          refine lv_iand hx hb dX3_seat_43 ?_
          refine lv_ior hx hb dX3_seat_44 ?_
          refine va_put (D := G.1) (ci := 3) (v := .int (u ||| (v11 &&& (1 <<< ((od (Int32.toNatClampNeg (nI i))) &&& 31))))) (ty := .int) (C := RX3) (T := TX3) (N := 9) hx hb hts inlX3 tyX3 tyX3_ok nmX3 hown hG.1 hP (wl_D hg f_2) hS k (wl_at (by omega) hhe) rfl 8 (by decide) (hts (.fieldLink RX3 73 "SwornLists$Hearing" "sworn" "I") w_515) (fun _ h9 => h9) rfl (by decide +kernel) rfl rfl (Nat.le_of_ble_eq_true rfl) dX3_seat_45 (fun H locs hP _ hS => ?_)
          obtain ⟨f_11, hP, e_11, o_11⟩ := b_put (by omega) hP
          have hhe : f_11 k = eO 3 [.ref (g (k + 1)), .int (nI sl), .int lo, .int ib, .int ca, .int mi, .int s0, .int s1, .int (u ||| (v11 &&& (1 <<< ((od (Int32.toNatClampNeg (nI i))) &&& 31))))] := e_11
          replace hor : f_11 (k + 1) = eI G 24 od := (o_11 (k + 1) (by omega)).trans hor
          refine lv_iinc (v := nI (i + 1)) (lv' := [(3, .int (nI (i + 1))), (0, .ref (g k)), (1, .int n), (2, .int q)]) hx hb dX3_seat_48 hl (k := 3) rfl (nI_1 i) (by decide) rfl (fun ls hl => ?_)
          refine lv_goto (tgt := 7) hx hb dX3_seat_51 (by decide) ?_
          exact ih (u ||| (v11 &&& (1 <<< ((od (Int32.toNatClampNeg (nI i))) &&& 31)))) (i + 1) f_11 _ _ _ (hi9) (by omega) (hhe) (hor) (fun j hj => ((o_11 j (by omega))).trans (o_2 j (by omega))) hP hS (lv_sub hl [1, 2, 3, 0] rfl)
  exact key1 (sl + 1) 0 0 f_1 _ _ _ (Nat.zero_le _) (by omega) (hhe) (hor) (fun j _ => rfl) hP hS (lv_sub hl [1, 2, 3, 0] rfl)


set_option maxHeartbeats 4000000 in
set_option maxRecDepth 100000 in
theorem h_strikeE (l : Launch) (G : gW) (g : Nat → Nat) (hg : gOK g) (f : Nat → va_E) (k : Nat) (sl : Nat) (lo : Int32) (ib : Int32) (ca : Int32) (mi : Int32) (s0 : Int32) (s1 : Int32) (sw : Int32) (od : Nat → Int32) (nt : Nat) (ct : Nat → Int32) (opn : Nat → Nat) (t : Nat) (q6 : Nat) (hhe : f k = eO 3 [.ref (g (k + 1)), .int (nI sl), .int lo, .int ib, .int ca, .int mi, .int s0, .int s1, .int sw]) (hor : f (k + 1) = eI G 24 od) (htr : f 45 = eO 5 [.int (nI 10), .int (nI 70), .ref (g 46), .int (nI nt)]) (hct : f 46 = eI G (10 * 70) ct) (hk3 : k + 1 < 36) (hsl : sl ≤ 24) (hnt : nt ≤ 10) (hod : ∀ i, i < sl → od i = nI (opn i) ∧ opn i < 30) (ht : t < nt) (hq6 : ct (70 * t + 6) = nI q6) (hq64 : q6 ≤ 4) : Met l yX3_strike (wsT yX3_strike cX3_strike 4 none) ({ frames := 2, cells := 0, slots := 0, locals := 51 }) (bP G g f [.ref (g k), .ref (g 45), .int (nI t)]) (bQv G g (fun (f' : Nat → va_E) => f' k = eO 3 [.ref (g (k + 1)), .int (nI sl), .int lo, .int ib, .int ca, .int (ca &&& ct (70 * t + 9)), .int ((stX (fun sd lf => lkP opn (fun p => ct (70 * t + (30 * sd + p + 10))) lf sl) ca (ca &&& ct (70 * t + 9)) (2 * q6)).1), .int ((stX (fun sd lf => lkP opn (fun p => ct (70 * t + (30 * sd + p + 10))) lf sl) ca (ca &&& ct (70 * t + 9)) (2 * q6)).2), .int sw] ∧ ∀ j, j ≠ k → f' j = f j)) 0 0 (gA g) := by
  refine Met.ofW (cc := cX3_strike) (maxL := 4) (ret := none) (by decide) rfl ?_
  intro p e s m args below meth c s₁ B hml hv
  obtain ⟨rfl, hP, hG⟩ := hv
  have hx := B.exec
  have hb := B.bytes
  have hr := B.returns
  have hts := my_hts (atoms_spec (ws := wsT yX3_strike cX3_strike 4 none) B.pre)
  have hown : s.vm.findClass RX3 = some m.cls := findClass_of_methodNamed B.named
  have hlocks := B.notSynchronized
  have hS : va_S (gA g) s.heap s.heap [] := va_S.rf
  have hl := lv_entry ([.ref (g k), .ref (g 45), .int (nI t)]) (n := 4) (Nat.le_of_ble_eq_true rfl)
  rw [lg_entry_eq]
  generalize (lg_sl ([.ref (g k), .ref (g 45), .int (nI t)]) ++ List.replicate (4 - (lg_sl ([.ref (g k), .ref (g 45), .int (nI t)])).length) Slot.unset).toArray = ls at hl ⊢
  have hl : lv_has ls 4 [(0, .ref (g k)), (1, .ref (g 45)), (2, .int (nI t))] := hl
  refine W_q8 (fun Q9 hQ9 => ?_)
  refine lv_aload_n hx hb dX3_strike_0 rfl (lv_at hl 0 rfl) ?_
  refine lv_aload_n hx hb dX3_strike_1 rfl (lv_at hl 0 rfl) ?_
  refine va_get (D := G.1) (ci := 3) (v := .int ca) (C := RX3) (T := TX3) (N := 9) hx hb hts inlX3 hown hG.1 hP k (wl_at (by omega) hhe) rfl 4 (by decide) (hts (.fieldLink RX3 25 "SwornLists$Hearing" "called" "I") w_480) (fun _ h9 => h9) rfl dX3_strike_2 ?_
  refine lv_aload_n hx hb dX3_strike_5 rfl (lv_at hl 1 rfl) ?_
  refine lv_iload_n hx hb dX3_strike_6 rfl (lv_at hl 2 rfl) ?_
  refine lv_bipush (v := 9) hx hb dX3_strike_7 (by decide) ?_
  refine rd_calli (va_runV (As := [.int (nI t), .int 9]) (rest := [.int ca, .ref (g k)]) ⟨hx, hb, hml, hown, hts⟩ (r_at l G g hg f 45 10 70 nt ct (nI t) 9 htr hct (by first | assumption | omega | decide) (by first | assumption | omega | decide) (by first | assumption | omega | decide) (by first | assumption | omega | decide)) (my_cwV hts ok_X5_at w_500 rfl rfl ⟨Nat.le_of_ble_eq_true rfl, Nat.le_of_ble_eq_true rfl⟩) ⟨bP.blind, va_recv hG.1 hP (ci := 5) (q0 := 45) rfl (wl_at (by decide) htr), fun U hU hW => ⟨rfl, by rw [hU]; exact hP, kG.warm hW hG⟩⟩ rfl rfl hl.1 rfl (lv_room (Nat.le_of_ble_eq_true rfl)) dX3_strike_9 ⟨Nat.le_of_ble_eq_true rfl, Nat.le_of_ble_eq_true rfl⟩) (fun r hr9 => ?_)
  subst hr9
  refine my_bei (v := ct (70 * t + 9)) (atQ (d := ct) (w := 70) (i := t) (c := 9) ht (by omega) (by omega) (by omega)) ?_
  refine lv_iand hx hb dX3_strike_12 ?_
  refine va_put (D := G.1) (ci := 3) (v := .int (ca &&& (ct (70 * t + 9)))) (ty := .int) (C := RX3) (T := TX3) (N := 9) hx hb hts inlX3 tyX3 tyX3_ok nmX3 hown hG.1 hP (wl_D hg f) hS k (wl_at (by omega) hhe) rfl 5 (by decide) (hts (.fieldLink RX3 53 "SwornLists$Hearing" "missing" "I") w_497) (fun _ h9 => h9) rfl (by decide +kernel) rfl rfl (Nat.le_of_ble_eq_true rfl) dX3_strike_13 (fun H locs hP _ hS => ?_)
  obtain ⟨f_1, hP, e_1, o_1⟩ := b_put (by omega) hP
  have hhe : f_1 k = eO 3 [.ref (g (k + 1)), .int (nI sl), .int lo, .int ib, .int ca, .int (ca &&& (ct (70 * t + 9))), .int s0, .int s1, .int sw] := e_1
  refine lv_aload_n hx hb dX3_strike_16 rfl (lv_at hl 0 rfl) ?_
  refine lv_iconst (v := 0) hx hb dX3_strike_17 (by decide) ?_
  refine va_put (D := G.1) (ci := 3) (v := .int 0) (ty := .int) (C := RX3) (T := TX3) (N := 9) hx hb hts inlX3 tyX3 tyX3_ok nmX3 hown hG.1 hP (wl_D hg f_1) hS k (wl_at (by omega) hhe) rfl 6 (by decide) (hts (.fieldLink RX3 56 "SwornLists$Hearing" "struckBy0" "I") w_498) (fun _ h9 => h9) rfl (by decide +kernel) rfl rfl (Nat.le_of_ble_eq_true rfl) dX3_strike_18 (fun H locs hP _ hS => ?_)
  obtain ⟨f_2, hP, e_2, o_2⟩ := b_put (by omega) hP
  have hhe : f_2 k = eO 3 [.ref (g (k + 1)), .int (nI sl), .int lo, .int ib, .int ca, .int (ca &&& (ct (70 * t + 9))), .int 0, .int s1, .int sw] := e_2
  refine lv_aload_n hx hb dX3_strike_21 rfl (lv_at hl 0 rfl) ?_
  refine lv_iconst (v := 0) hx hb dX3_strike_22 (by decide) ?_
  refine va_put (D := G.1) (ci := 3) (v := .int 0) (ty := .int) (C := RX3) (T := TX3) (N := 9) hx hb hts inlX3 tyX3 tyX3_ok nmX3 hown hG.1 hP (wl_D hg f_2) hS k (wl_at (by omega) hhe) rfl 7 (by decide) (hts (.fieldLink RX3 59 "SwornLists$Hearing" "struckBy1" "I") w_499) (fun _ h9 => h9) rfl (by decide +kernel) rfl rfl (Nat.le_of_ble_eq_true rfl) dX3_strike_23 (fun H locs hP _ hS => ?_)
  obtain ⟨f_3, hP, e_3, o_3⟩ := b_put (by omega) hP
  have hhe : f_3 k = eO 3 [.ref (g (k + 1)), .int (nI sl), .int lo, .int ib, .int ca, .int (ca &&& (ct (70 * t + 9))), .int 0, .int 0, .int sw] := e_3
  refine lv_iconst (v := 0) hx hb dX3_strike_26 (by decide) ?_
  refine lv_istore_n (lv' := [(3, .int 0), (0, .ref (g k)), (1, .ref (g 45)), (2, .int (nI t))]) hx hb dX3_strike_27 rfl hl (by decide) rfl (fun ls hl => ?_)
  replace hor : f_3 (k + 1) = eI G 24 od := ((o_3 (k + 1) (by omega)).trans ((o_2 (k + 1) (by omega)).trans ((o_1 (k + 1) (by omega))))).trans hor
  replace htr := ((o_3 45 (by omega)).trans ((o_2 45 (by omega)).trans ((o_1 45 (by omega))))).trans htr
  replace hct := ((o_3 46 (by omega)).trans ((o_2 46 (by omega)).trans ((o_1 46 (by omega))))).trans hct
  have key1 : ∀ (n9_1 : Nat) (i : Nat) (f_4 : Nat → va_E) (H : Heap) (locs : List Loc) (ls : Array Slot), (i ≤ q6) → q6 - i < n9_1 → f_4 k = eO 3 [.ref (g (k + 1)), .int (nI sl), .int lo, .int ib, .int ca, .int (ca &&& ct (70 * t + 9)), .int ((stX (fun sd lf => lkP opn (fun p => ct (70 * t + (30 * sd + p + 10))) lf sl) ca (ca &&& ct (70 * t + 9)) (2 * i)).1), .int ((stX (fun sd lf => lkP opn (fun p => ct (70 * t + (30 * sd + p + 10))) lf sl) ca (ca &&& ct (70 * t + 9)) (2 * i)).2), .int sw] → f_4 (k + 1) = eI G 24 od → f_4 45 = eO 5 [.int (nI 10), .int (nI 70), .ref (g 46), .int (nI nt)] → f_4 46 = eI G (10 * 70) ct → (∀ j, j ≠ k → f_4 j = f_3 j) → va_P G.1 vwCl (wl g f_4) H → va_S (gA g) s.heap H locs → lv_has ls 4 [(0, .ref (g k)), (1, .ref (g 45)), (2, .int (nI t)), (3, .int (nI i))] → W p l e (headSpec (wsT yX3_strike cX3_strike 4 none) ({ frames := 2, cells := 0, slots := 0, locals := 51 })).room s m ([.ref (g k), .ref (g 45), .int (nI t)] : List Value).toArray below meth c H locs 0 0 Q9 (F0 m 28 ls []) := by
    intro n9_1
    induction n9_1 with
    | zero => intro i f_4 H locs ls hi hn9_1; exact absurd hn9_1 (Nat.not_lt_zero _)
    | succ n9_1 ih_1 =>
      intro i f_4 H locs ls hi hn9_1 hhe hor htr hct o_4 hP hS hl
      refine lv_iload_n hx hb dX3_strike_28 rfl (lv_at hl 3 rfl) ?_
      refine lv_aload_n hx hb dX3_strike_29 rfl (lv_at hl 1 rfl) ?_
      refine lv_iload_n hx hb dX3_strike_30 rfl (lv_at hl 2 rfl) ?_
      refine lv_bipush (v := 6) hx hb dX3_strike_31 (by decide) ?_
      refine rd_calli (va_runV (As := [.int (nI t), .int 6]) (rest := [.int (nI i)]) ⟨hx, hb, hml, hown, hts⟩ (r_at l G g hg f_4 45 10 70 nt ct (nI t) 6 htr hct (by first | assumption | omega | decide) (by first | assumption | omega | decide) (by first | assumption | omega | decide) (by first | assumption | omega | decide)) (my_cwV hts ok_X5_at w_500 rfl rfl ⟨Nat.le_of_ble_eq_true rfl, Nat.le_of_ble_eq_true rfl⟩) ⟨bP.blind, va_recv hG.1 hP (ci := 5) (q0 := 45) rfl (wl_at (by decide) htr), fun U hU hW => ⟨rfl, by rw [hU]; exact hP, kG.warm hW hG⟩⟩ rfl rfl hl.1 rfl (lv_room (Nat.le_of_ble_eq_true rfl)) dX3_strike_33 ⟨Nat.le_of_ble_eq_true rfl, Nat.le_of_ble_eq_true rfl⟩) (fun r hr9 => ?_)
      subst hr9
      refine my_bei (v := nI q6) ((atQ (d := ct) (w := 70) (i := t) (c := 6) ht (by omega) (by omega) (by omega)).trans hq6) ?_
      refine lv_icmp_ge (tgt := 77) hx hb dX3_strike_36 (by decide) (fun c_36 => ?_) (fun c_36 => ?_)
      · have k_36 : q6 ≤ i := (nI_leI (a := q6) (b := i) (by omega) (by omega)).mp c_36
        refine W_q9 hQ9 ?_
        exact W.vret hx hb hr (fun _ hT9 _ => ⟨⟨f_4, rfl, (⟨by rw [← show i = q6 by omega]; exact hhe, fun j hj => ((((o_4 j (by omega))).trans (o_3 j (by omega))).trans (o_2 j (by omega))).trans (o_1 j (by omega))⟩), by rw [hT9]; exact hP⟩, hS.F hT9⟩) hS.2.2 dX3_strike_77
      · have k_36 : ¬ q6 ≤ i := fun z9 => c_36 ((nI_leI (a := q6) (b := i) (by omega) (by omega)).mpr z9)
        refine lv_aload_n hx hb dX3_strike_39 rfl (lv_at hl 0 rfl) ?_
        refine lv_dup hx hb dX3_strike_40 rfl ?_
        refine va_get (D := G.1) (ci := 3) (v := .int ((stX (fun sd lf => lkP opn (fun p => ct (70 * t + (30 * sd + p + 10))) lf sl) ca (ca &&& ct (70 * t + 9)) (2 * i)).1)) (C := RX3) (T := TX3) (N := 9) hx hb hts inlX3 hown hG.1 hP k (wl_at (by omega) hhe) rfl 6 (by decide) (hts (.fieldLink RX3 56 "SwornLists$Hearing" "struckBy0" "I") w_498) (fun _ h9 => h9) rfl dX3_strike_41 ?_
        refine lv_aload_n hx hb dX3_strike_44 rfl (lv_at hl 0 rfl) ?_
        refine lv_aload_n hx hb dX3_strike_45 rfl (lv_at hl 1 rfl) ?_
        refine lv_iload_n hx hb dX3_strike_46 rfl (lv_at hl 2 rfl) ?_
        refine lv_iconst (v := 0) hx hb dX3_strike_47 (by decide) ?_
        refine rd_calli (va_runV (As := [.ref (g 45), .int (nI t), .int 0]) (rest := [.int ((stX (fun sd lf => lkP opn (fun p => ct (70 * t + (30 * sd + p + 10))) lf sl) ca (ca &&& ct (70 * t + 9)) (2 * i)).1), .ref (g k)]) ⟨hx, hb, hml, hown, hts⟩ (h_leastLikedE l G g hg f_4 k sl lo ib ca (ca &&& ct (70 * t + 9)) ((stX (fun sd lf => lkP opn (fun p => ct (70 * t + (30 * sd + p + 10))) lf sl) ca (ca &&& ct (70 * t + 9)) (2 * i)).1) ((stX (fun sd lf => lkP opn (fun p => ct (70 * t + (30 * sd + p + 10))) lf sl) ca (ca &&& ct (70 * t + 9)) (2 * i)).2) sw od nt ct opn t 0 hhe hor htr hct (by first | assumption | omega | decide) (by first | assumption | omega | decide) (by first | assumption | omega | decide) (by first | assumption | omega | decide) (by first | assumption | omega | decide) (by first | assumption | omega | decide)) (my_cwV hts ok_X3_leastLiked w_501 rfl rfl ⟨Nat.le_of_ble_eq_true rfl, Nat.le_of_ble_eq_true rfl⟩) ⟨bP.blind, va_recv hG.1 hP (ci := 3) (q0 := k) rfl (wl_at (by omega) hhe), fun U hU hW => ⟨rfl, by rw [hU]; exact hP, kG.warm hW hG⟩⟩ rfl rfl hl.1 rfl (lv_room (Nat.le_of_ble_eq_true rfl)) dX3_strike_48 ⟨Nat.le_of_ble_eq_true rfl, Nat.le_of_ble_eq_true rfl⟩) (fun r hr9 => ?_)
        subst hr9
        refine lv_ior hx hb dX3_strike_51 ?_
        refine my_bei (v := (stX (fun sd lf => lkP opn (fun p => ct (70 * t + (30 * sd + p + 10))) lf sl) ca (ca &&& ct (70 * t + 9)) (2 * i + 1)).1) (by rw [stX_e]) ?_
        refine va_put (D := G.1) (ci := 3) (v := .int ((stX (fun sd lf => lkP opn (fun p => ct (70 * t + (30 * sd + p + 10))) lf sl) ca (ca &&& ct (70 * t + 9)) (2 * i + 1)).1)) (ty := .int) (C := RX3) (T := TX3) (N := 9) hx hb hts inlX3 tyX3 tyX3_ok nmX3 hown hG.1 hP (wl_D hg f_4) hS k (wl_at (by omega) hhe) rfl 6 (by decide) (hts (.fieldLink RX3 56 "SwornLists$Hearing" "struckBy0" "I") w_498) (fun _ h9 => h9) rfl (by decide +kernel) rfl rfl (Nat.le_of_ble_eq_true rfl) dX3_strike_52 (fun H locs hP _ hS => ?_)
        obtain ⟨f_5, hP, e_5, o_5⟩ := b_put (by omega) hP
        have hhe : f_5 k = eO 3 [.ref (g (k + 1)), .int (nI sl), .int lo, .int ib, .int ca, .int (ca &&& ct (70 * t + 9)), .int ((stX (fun sd lf => lkP opn (fun p => ct (70 * t + (30 * sd + p + 10))) lf sl) ca (ca &&& ct (70 * t + 9)) (2 * i + 1)).1), .int ((stX (fun sd lf => lkP opn (fun p => ct (70 * t + (30 * sd + p + 10))) lf sl) ca (ca &&& ct (70 * t + 9)) (2 * i)).2), .int sw] := e_5
        refine lv_aload_n hx hb dX3_strike_55 rfl (lv_at hl 0 rfl) ?_
        refine lv_dup hx hb dX3_strike_56 rfl ?_
        refine va_get (D := G.1) (ci := 3) (v := .int ((stX (fun sd lf => lkP opn (fun p => ct (70 * t + (30 * sd + p + 10))) lf sl) ca (ca &&& ct (70 * t + 9)) (2 * i)).2)) (C := RX3) (T := TX3) (N := 9) hx hb hts inlX3 hown hG.1 hP k (wl_at (by omega) hhe) rfl 7 (by decide) (hts (.fieldLink RX3 59 "SwornLists$Hearing" "struckBy1" "I") w_499) (fun _ h9 => h9) rfl dX3_strike_57 ?_
        refine lv_aload_n hx hb dX3_strike_60 rfl (lv_at hl 0 rfl) ?_
        refine lv_aload_n hx hb dX3_strike_61 rfl (lv_at hl 1 rfl) ?_
        refine lv_iload_n hx hb dX3_strike_62 rfl (lv_at hl 2 rfl) ?_
        refine lv_iconst (v := 1) hx hb dX3_strike_63 (by decide) ?_
        replace hor : f_5 (k + 1) = eI G 24 od := ((o_5 (k + 1) (by omega))).trans hor
        replace htr := ((o_5 45 (by omega))).trans htr
        replace hct := ((o_5 46 (by omega))).trans hct
        refine rd_calli (va_runV (As := [.ref (g 45), .int (nI t), .int 1]) (rest := [.int ((stX (fun sd lf => lkP opn (fun p => ct (70 * t + (30 * sd + p + 10))) lf sl) ca (ca &&& ct (70 * t + 9)) (2 * i)).2), .ref (g k)]) ⟨hx, hb, hml, hown, hts⟩ (h_leastLikedE l G g hg f_5 k sl lo ib ca (ca &&& ct (70 * t + 9)) ((stX (fun sd lf => lkP opn (fun p => ct (70 * t + (30 * sd + p + 10))) lf sl) ca (ca &&& ct (70 * t + 9)) (2 * i + 1)).1) ((stX (fun sd lf => lkP opn (fun p => ct (70 * t + (30 * sd + p + 10))) lf sl) ca (ca &&& ct (70 * t + 9)) (2 * i)).2) sw od nt ct opn t 1 hhe hor htr hct (by first | assumption | omega | decide) (by first | assumption | omega | decide) (by first | assumption | omega | decide) (by first | assumption | omega | decide) (by first | assumption | omega | decide) (by first | assumption | omega | decide)) (my_cwV hts ok_X3_leastLiked w_501 rfl rfl ⟨Nat.le_of_ble_eq_true rfl, Nat.le_of_ble_eq_true rfl⟩) ⟨bP.blind, va_recv hG.1 hP (ci := 3) (q0 := k) rfl (wl_at (by omega) hhe), fun U hU hW => ⟨rfl, by rw [hU]; exact hP, kG.warm hW hG⟩⟩ rfl rfl hl.1 rfl (lv_room (Nat.le_of_ble_eq_true rfl)) dX3_strike_64 ⟨Nat.le_of_ble_eq_true rfl, Nat.le_of_ble_eq_true rfl⟩) (fun r hr9 => ?_)
        subst hr9
        refine lv_ior hx hb dX3_strike_67 ?_
        refine my_bei (v := (stX (fun sd lf => lkP opn (fun p => ct (70 * t + (30 * sd + p + 10))) lf sl) ca (ca &&& ct (70 * t + 9)) (2 * (i + 1))).2) (by rw [stX_o, stX_e]) ?_
        refine va_put (D := G.1) (ci := 3) (v := .int ((stX (fun sd lf => lkP opn (fun p => ct (70 * t + (30 * sd + p + 10))) lf sl) ca (ca &&& ct (70 * t + 9)) (2 * (i + 1))).2)) (ty := .int) (C := RX3) (T := TX3) (N := 9) hx hb hts inlX3 tyX3 tyX3_ok nmX3 hown hG.1 hP (wl_D hg f_5) hS k (wl_at (by omega) hhe) rfl 7 (by decide) (hts (.fieldLink RX3 59 "SwornLists$Hearing" "struckBy1" "I") w_499) (fun _ h9 => h9) rfl (by decide +kernel) rfl rfl (Nat.le_of_ble_eq_true rfl) dX3_strike_68 (fun H locs hP _ hS => ?_)
        obtain ⟨f_6, hP, e_6, o_6⟩ := b_put (by omega) hP
        have hhe : f_6 k = eO 3 [.ref (g (k + 1)), .int (nI sl), .int lo, .int ib, .int ca, .int (ca &&& ct (70 * t + 9)), .int ((stX (fun sd lf => lkP opn (fun p => ct (70 * t + (30 * sd + p + 10))) lf sl) ca (ca &&& ct (70 * t + 9)) (2 * i + 1)).1), .int ((stX (fun sd lf => lkP opn (fun p => ct (70 * t + (30 * sd + p + 10))) lf sl) ca (ca &&& ct (70 * t + 9)) (2 * (i + 1))).2), .int sw] := e_6
        refine lv_iinc (v := nI (i + 1)) (lv' := [(3, .int (nI (i + 1))), (0, .ref (g k)), (1, .ref (g 45)), (2, .int (nI t))]) hx hb dX3_strike_71 hl (k := 3) rfl (nI_add i 1) (by decide) rfl (fun ls hl => ?_)
        refine lv_goto (tgt := 28) hx hb dX3_strike_74 (by decide) ?_
        replace hor : f_6 (k + 1) = eI G 24 od := ((o_6 (k + 1) (by omega))).trans hor
        replace htr := ((o_6 45 (by omega))).trans htr
        replace hct := ((o_6 46 (by omega))).trans hct
        exact ih_1 (i + 1) f_6 _ _ _ (by omega) (by omega) (hhe.trans (by rw [show (stX (fun sd lf => lkP opn (fun p => ct (70 * t + (30 * sd + p + 10))) lf sl) ca (ca &&& ct (70 * t + 9)) (2 * (i + 1))).1 = (stX (fun sd lf => lkP opn (fun p => ct (70 * t + (30 * sd + p + 10))) lf sl) ca (ca &&& ct (70 * t + 9)) (2 * i + 1)).1 by rw [stX_o]])) (hor) (htr) (hct) (fun j hj => (((o_6 j (by omega))).trans (o_5 j (by omega))).trans (o_4 j (by omega))) hP hS (lv_sub hl [1, 2, 3, 0] rfl)
  exact key1 (q6 + 1) 0 f_3 _ _ _ (Nat.zero_le _) (by omega) (hhe) (hor) (htr) (hct) (fun j _ => rfl) hP hS (lv_sub hl [1, 2, 3, 0] rfl)
set_option maxHeartbeats 4000000 in
set_option maxRecDepth 100000 in
theorem h_seatE (l : Launch) (G : gW) (g : Nat → Nat) (hg : gOK g) (f : Nat → va_E) (k : Nat) (sl : Nat) (lo : Int32) (ib : Int32) (ca : Int32) (mi : Int32) (s0 : Int32) (s1 : Int32) (sw : Int32) (od : Nat → Int32) (opn : Nat → Nat) (ks : Nat) (pas : Int32) (hhe : f k = eO 3 [.ref (g (k + 1)), .int (nI sl), .int lo, .int ib, .int ca, .int mi, .int s0, .int s1, .int sw]) (hor : f (k + 1) = eI G 24 od) (hk3 : k + 1 < 36) (hsl : sl ≤ 24) (hod : ∀ i, i < sl → od i = nI (opn i) ∧ opn i < 30) (hks : ks ≤ 8) (hinj : ∀ i j, i < j → j < sl → ¬ opn i = opn j) (hpd : ∀ q, bt pas q = true → bt (lfV ca mi (s0, s1)) q = false) : Met l yX3_seat (wsT yX3_seat cX3_seat 4 none) ({ frames := 1, cells := 0, slots := 0, locals := 20 }) (bP G g f [.ref (g k), .int (nI ks), .int pas]) (bQv G g (fun (f' : Nat → va_E) => f' k = eO 3 [.ref (g (k + 1)), .int (nI sl), .int lo, .int ib, .int ca, .int mi, .int s0, .int s1, .int (if (paF pas ks (seF opn (lfV ca mi (s0, s1)) ks sl) 30).2 < ks then 0 else (paF pas ks (seF opn (lfV ca mi (s0, s1)) ks sl) 30).1)] ∧ ∀ j, j ≠ k → f' j = f j)) 0 0 (gA g) := by
  refine Met.ofW (cc := cX3_seat) (maxL := 4) (ret := none) (by decide) rfl ?_
  intro p e s m args below meth c s₁ B hml hv
  obtain ⟨rfl, hP, hG⟩ := hv
  have hx := B.exec
  have hb := B.bytes
  have hr := B.returns
  have hts := my_hts (atoms_spec (ws := wsT yX3_seat cX3_seat 4 none) B.pre)
  have hown : s.vm.findClass RX3 = some m.cls := findClass_of_methodNamed B.named
  have hlocks := B.notSynchronized
  have hS : va_S (gA g) s.heap s.heap [] := va_S.rf
  have hl := lv_entry ([.ref (g k), .int (nI ks), .int pas]) (n := 4) (Nat.le_of_ble_eq_true rfl)
  rw [lg_entry_eq]
  generalize (lg_sl ([.ref (g k), .int (nI ks), .int pas]) ++ List.replicate (4 - (lg_sl ([.ref (g k), .int (nI ks), .int pas])).length) Slot.unset).toArray = ls at hl ⊢
  have hl : lv_has ls 4 [(0, .ref (g k)), (1, .int (nI ks)), (2, .int pas)] := hl
  refine W_q8 (fun Q9 hQ9 => ?_)
  refine lv_aload_n hx hb dX3_seat_0 rfl (lv_at hl 0 rfl) ?_
  refine lv_iconst (v := 0) hx hb dX3_seat_1 (by decide) ?_
  refine va_put (D := G.1) (ci := 3) (v := .int 0) (ty := .int) (C := RX3) (T := TX3) (N := 9) hx hb hts inlX3 tyX3 tyX3_ok nmX3 hown hG.1 hP (wl_D hg f) hS k (wl_at (by omega) hhe) rfl 8 (by decide) (hts (.fieldLink RX3 73 "SwornLists$Hearing" "sworn" "I") w_515) (fun _ h9 => h9) rfl (by decide +kernel) rfl rfl (Nat.le_of_ble_eq_true rfl) dX3_seat_2 (fun H locs hP _ hS => ?_)
  obtain ⟨f_1, hP, e_1, o_1⟩ := b_put (by omega) hP
  have hhe : f_1 k = eO 3 [.ref (g (k + 1)), .int (nI sl), .int lo, .int ib, .int ca, .int mi, .int s0, .int s1, .int 0] := e_1
  have hse := seF_ok (od := opn) (lf := (lfV ca mi (s0, s1))) (k := ks) (m := sl) (fun i hi => (hod i hi).2) hinj
  have hpa := paF_ok (pas := pas) (k := ks) (x0 := (seF opn (lfV ca mi (s0, s1)) ks sl)) (hse sl (Nat.le_refl _)).2 (fun q _ hq => by
    cases hb : bt (seF opn (lfV ca mi (s0, s1)) ks sl).1 q with
    | false => rfl
    | true => have h9 := ((hse sl (Nat.le_refl _)).1 q hb).1; rw [hpd q hq] at h9; cases h9)
  refine lv_iconst (v := 0) hx hb dX3_seat_5 (by decide) ?_
  refine lv_istore_n (lv' := [(3, .int 0), (0, .ref (g k)), (1, .int (nI ks)), (2, .int pas)]) hx hb dX3_seat_6 rfl hl (by decide) rfl (fun ls hl => ?_)
  replace hor : f_1 (k + 1) = eI G 24 od := ((o_1 (k + 1) (by omega))).trans hor
  have key1 : ∀ (n9_1 : Nat) (i : Nat) (f_2 : Nat → va_E) (H : Heap) (locs : List Loc) (ls : Array Slot), (i ≤ sl) → sl - i < n9_1 → f_2 k = eO 3 [.ref (g (k + 1)), .int (nI sl), .int lo, .int ib, .int ca, .int mi, .int s0, .int s1, .int ((seF opn (lfV ca mi (s0, s1)) ks i).1)] → f_2 (k + 1) = eI G 24 od → (∀ j, j ≠ k → f_2 j = f_1 j) → va_P G.1 vwCl (wl g f_2) H → va_S (gA g) s.heap H locs → lv_has ls 4 [(0, .ref (g k)), (1, .int (nI ks)), (2, .int pas), (3, .int (nI i))] → W p l e (headSpec (wsT yX3_seat cX3_seat 4 none) ({ frames := 1, cells := 0, slots := 0, locals := 20 })).room s m ([.ref (g k), .int (nI ks), .int pas] : List Value).toArray below meth c H locs 0 0 Q9 (F0 m 7 ls []) := by
    intro n9_1
    induction n9_1 with
    | zero => intro i f_2 H locs ls hi hn9_1; exact absurd hn9_1 (Nat.not_lt_zero _)
    | succ n9_1 ih_1 =>
      intro i f_2 H locs ls hi hn9_1 hhe hor o_2 hP hS hl
      refine lv_iload_n hx hb dX3_seat_7 rfl (lv_at hl 3 rfl) ?_
      refine lv_aload_n hx hb dX3_seat_8 rfl (lv_at hl 0 rfl) ?_
      refine va_get (D := G.1) (ci := 3) (v := .int (nI sl)) (C := RX3) (T := TX3) (N := 9) hx hb hts inlX3 hown hG.1 hP k (wl_at (by omega) hhe) rfl 1 (by decide) (hts (.fieldLink RX3 22 "SwornLists$Hearing" "slips" "I") w_479) (fun _ h9 => h9) rfl dX3_seat_9 ?_
      refine lv_icmp_ge (tgt := 54) hx hb dX3_seat_12 (by decide) (fun c_12 => ?_) (fun c_12 => ?_)
      · have k_12 : sl ≤ i := (nI_leI (a := sl) (b := i) (by omega) (by omega)).mp c_12
        refine lv_iconst (v := 0) hx hb dX3_seat_54 (by decide) ?_
        refine lv_istore_n (lv' := [(3, .int 0), (0, .ref (g k)), (1, .int (nI ks)), (2, .int pas)]) hx hb dX3_seat_55 rfl hl (by decide) rfl (fun ls hl => ?_)
        have key2 : ∀ (n9_2 : Nat) (i2 : Nat) (f_3 : Nat → va_E) (H : Heap) (locs : List Loc) (ls : Array Slot), (i2 ≤ 30) → 30 - i2 < n9_2 → f_3 k = eO 3 [.ref (g (k + 1)), .int (nI sl), .int lo, .int ib, .int ca, .int mi, .int s0, .int s1, .int ((paF pas ks (seF opn (lfV ca mi (s0, s1)) ks sl) i2).1)] → f_3 (k + 1) = eI G 24 od → (∀ j, j ≠ k → f_3 j = f_2 j) → va_P G.1 vwCl (wl g f_3) H → va_S (gA g) s.heap H locs → lv_has ls 4 [(0, .ref (g k)), (1, .int (nI ks)), (2, .int pas), (3, .int (nI i2))] → W p l e (headSpec (wsT yX3_seat cX3_seat 4 none) ({ frames := 1, cells := 0, slots := 0, locals := 20 })).room s m ([.ref (g k), .int (nI ks), .int pas] : List Value).toArray below meth c H locs 0 0 Q9 (F0 m 56 ls []) := by
          intro n9_2
          induction n9_2 with
          | zero => intro i2 f_3 H locs ls hi2 hn9_2; exact absurd hn9_2 (Nat.not_lt_zero _)
          | succ n9_2 ih_2 =>
            intro i2 f_3 H locs ls hi2 hn9_2 hhe hor o_3 hP hS hl
            refine lv_iload_n hx hb dX3_seat_56 rfl (lv_at hl 3 rfl) ?_
            refine lv_bipush (v := 30) hx hb dX3_seat_57 (by decide) ?_
            refine lv_icmp_ge (tgt := 93) hx hb dX3_seat_59 (by decide) (fun c_59 => ?_) (fun c_59 => ?_)
            · have k_59 : 30 ≤ i2 := (nI_leI (a := 30) (b := i2) (by omega) (by omega)).mp c_59
              have hfin : (paF pas ks (seF opn (lfV ca mi (s0, s1)) ks sl) 30) = (paF pas ks (seF opn (lfV ca mi (s0, s1)) ks sl) i2) := by rw [show i2 = 30 by omega]
              refine lv_aload_n hx hb dX3_seat_93 rfl (lv_at hl 0 rfl) ?_
              refine va_get (D := G.1) (ci := 3) (v := .int ((paF pas ks (seF opn (lfV ca mi (s0, s1)) ks sl) i2).1)) (C := RX3) (T := TX3) (N := 9) hx hb hts inlX3 hown hG.1 hP k (wl_at (by omega) hhe) rfl 8 (by decide) (hts (.fieldLink RX3 73 "SwornLists$Hearing" "sworn" "I") w_515) (fun _ h9 => h9) rfl dX3_seat_94 ?_
              refine rd_calli (va_runS (As := [.int ((paF pas ks (seF opn (lfV ca mi (s0, s1)) ks sl) i2).1)]) (rest := []) ⟨hx, hb, hml, hown, hts⟩ (s_bitCountE l G g hg f_3 ((paF pas ks (seF opn (lfV ca mi (s0, s1)) ks sl) i2).1)  ) (my_cwS hts ok_J6_bitCount_0f7a4 w_483 rfl rfl ⟨Nat.le_of_ble_eq_true rfl, Nat.le_of_ble_eq_true rfl⟩) ⟨bP.blind, fun U hU hW => ⟨rfl, by rw [hU]; exact hP, kG.warm hW hG⟩⟩ rfl rfl hl.1 rfl (lv_room (Nat.le_of_ble_eq_true rfl)) dX3_seat_97 ⟨Nat.le_of_ble_eq_true rfl, Nat.le_of_ble_eq_true rfl⟩) (fun r hr9 => ?_)
              subst hr9
              refine my_bei (v := nI ((paF pas ks (seF opn (lfV ca mi (s0, s1)) ks sl) i2).2)) (congrArg nI (hpa i2 (by omega)).2) ?_
              have hb3 : (paF pas ks (seF opn (lfV ca mi (s0, s1)) ks sl) i2).2 ≤ 32 := by rw [← (hpa i2 (by omega)).2]; exact cnt_le 32
              refine lv_iload_n hx hb dX3_seat_100 rfl (lv_at hl 1 rfl) ?_
              refine lv_icmp_ge (tgt := 109) hx hb dX3_seat_101 (by decide) (fun c_101 => ?_) (fun c_101 => ?_)
              · have k_101 : ks ≤ (paF pas ks (seF opn (lfV ca mi (s0, s1)) ks sl) i2).2 := (nI_leI (a := ks) (b := (paF pas ks (seF opn (lfV ca mi (s0, s1)) ks sl) i2).2) (by omega) (by omega)).mp c_101
                refine W_q9 hQ9 ?_
                exact W.vret hx hb hr (fun _ hT9 _ => ⟨⟨f_3, rfl, (⟨by rw [hfin, if_neg (by omega)]; exact hhe, fun j hj => (((o_3 j (by omega))).trans (o_2 j (by omega))).trans (o_1 j (by omega))⟩), by rw [hT9]; exact hP⟩, hS.F hT9⟩) hS.2.2 dX3_seat_109
              · have k_101 : ¬ ks ≤ (paF pas ks (seF opn (lfV ca mi (s0, s1)) ks sl) i2).2 := fun z9 => c_101 ((nI_leI (a := ks) (b := (paF pas ks (seF opn (lfV ca mi (s0, s1)) ks sl) i2).2) (by omega) (by omega)).mpr z9)
                refine lv_aload_n hx hb dX3_seat_104 rfl (lv_at hl 0 rfl) ?_
                refine lv_iconst (v := 0) hx hb dX3_seat_105 (by decide) ?_
                refine va_put (D := G.1) (ci := 3) (v := .int 0) (ty := .int) (C := RX3) (T := TX3) (N := 9) hx hb hts inlX3 tyX3 tyX3_ok nmX3 hown hG.1 hP (wl_D hg f_3) hS k (wl_at (by omega) hhe) rfl 8 (by decide) (hts (.fieldLink RX3 73 "SwornLists$Hearing" "sworn" "I") w_515) (fun _ h9 => h9) rfl (by decide +kernel) rfl rfl (Nat.le_of_ble_eq_true rfl) dX3_seat_106 (fun H locs hP _ hS => ?_)
                obtain ⟨f_4, hP, e_4, o_4⟩ := b_put (by omega) hP
                have hhe : f_4 k = eO 3 [.ref (g (k + 1)), .int (nI sl), .int lo, .int ib, .int ca, .int mi, .int s0, .int s1, .int 0] := e_4
                refine W_q9 hQ9 ?_
                exact W.vret hx hb hr (fun _ hT9 _ => ⟨⟨f_4, rfl, (⟨by rw [hfin, if_pos (by omega)]; exact hhe, fun j hj => ((((o_4 j (by omega))).trans (o_3 j (by omega))).trans (o_2 j (by omega))).trans (o_1 j (by omega))⟩), by rw [hT9]; exact hP⟩, hS.F hT9⟩) hS.2.2 dX3_seat_109
            · have k_59 : ¬ 30 ≤ i2 := fun z9 => c_59 ((nI_leI (a := 30) (b := i2) (by omega) (by omega)).mpr z9)
              refine lv_aload_n hx hb dX3_seat_62 rfl (lv_at hl 0 rfl) ?_
              refine va_get (D := G.1) (ci := 3) (v := .int ((paF pas ks (seF opn (lfV ca mi (s0, s1)) ks sl) i2).1)) (C := RX3) (T := TX3) (N := 9) hx hb hts inlX3 hown hG.1 hP k (wl_at (by omega) hhe) rfl 8 (by decide) (hts (.fieldLink RX3 73 "SwornLists$Hearing" "sworn" "I") w_515) (fun _ h9 => h9) rfl dX3_seat_63 ?_
              refine rd_calli (va_runS (As := [.int ((paF pas ks (seF opn (lfV ca mi (s0, s1)) ks sl) i2).1)]) (rest := []) ⟨hx, hb, hml, hown, hts⟩ (s_bitCountE l G g hg f_3 ((paF pas ks (seF opn (lfV ca mi (s0, s1)) ks sl) i2).1)  ) (my_cwS hts ok_J6_bitCount_0f7a4 w_483 rfl rfl ⟨Nat.le_of_ble_eq_true rfl, Nat.le_of_ble_eq_true rfl⟩) ⟨bP.blind, fun U hU hW => ⟨rfl, by rw [hU]; exact hP, kG.warm hW hG⟩⟩ rfl rfl hl.1 rfl (lv_room (Nat.le_of_ble_eq_true rfl)) dX3_seat_66 ⟨Nat.le_of_ble_eq_true rfl, Nat.le_of_ble_eq_true rfl⟩) (fun r hr9 => ?_)
              subst hr9
              refine my_bei (v := nI ((paF pas ks (seF opn (lfV ca mi (s0, s1)) ks sl) i2).2)) (congrArg nI (hpa i2 (by omega)).2) ?_
              have hb2 : (paF pas ks (seF opn (lfV ca mi (s0, s1)) ks sl) i2).2 ≤ 32 := by rw [← (hpa i2 (by omega)).2]; exact cnt_le 32
              refine lv_iload_n hx hb dX3_seat_69 rfl (lv_at hl 1 rfl) ?_
              refine lv_icmp_ge (tgt := 93) hx hb dX3_seat_70 (by decide) (fun c_70 => ?_) (fun c_70 => ?_)
              · have k_70 : ks ≤ (paF pas ks (seF opn (lfV ca mi (s0, s1)) ks sl) i2).2 := (nI_leI (a := ks) (b := (paF pas ks (seF opn (lfV ca mi (s0, s1)) ks sl) i2).2) (by omega) (by omega)).mp c_70
                have hfin : (paF pas ks (seF opn (lfV ca mi (s0, s1)) ks sl) 30) = (paF pas ks (seF opn (lfV ca mi (s0, s1)) ks sl) i2) := by rw [show (30 : Nat) = i2 + (30 - i2) by omega]; exact paF_stop (by omega) _
                refine lv_aload_n hx hb dX3_seat_93 rfl (lv_at hl 0 rfl) ?_
                refine va_get (D := G.1) (ci := 3) (v := .int ((paF pas ks (seF opn (lfV ca mi (s0, s1)) ks sl) i2).1)) (C := RX3) (T := TX3) (N := 9) hx hb hts inlX3 hown hG.1 hP k (wl_at (by omega) hhe) rfl 8 (by decide) (hts (.fieldLink RX3 73 "SwornLists$Hearing" "sworn" "I") w_515) (fun _ h9 => h9) rfl dX3_seat_94 ?_
                refine rd_calli (va_runS (As := [.int ((paF pas ks (seF opn (lfV ca mi (s0, s1)) ks sl) i2).1)]) (rest := []) ⟨hx, hb, hml, hown, hts⟩ (s_bitCountE l G g hg f_3 ((paF pas ks (seF opn (lfV ca mi (s0, s1)) ks sl) i2).1)  ) (my_cwS hts ok_J6_bitCount_0f7a4 w_483 rfl rfl ⟨Nat.le_of_ble_eq_true rfl, Nat.le_of_ble_eq_true rfl⟩) ⟨bP.blind, fun U hU hW => ⟨rfl, by rw [hU]; exact hP, kG.warm hW hG⟩⟩ rfl rfl hl.1 rfl (lv_room (Nat.le_of_ble_eq_true rfl)) dX3_seat_97 ⟨Nat.le_of_ble_eq_true rfl, Nat.le_of_ble_eq_true rfl⟩) (fun r hr9 => ?_)
                subst hr9
                refine my_bei (v := nI ((paF pas ks (seF opn (lfV ca mi (s0, s1)) ks sl) i2).2)) (congrArg nI (hpa i2 (by omega)).2) ?_
                have hb3 : (paF pas ks (seF opn (lfV ca mi (s0, s1)) ks sl) i2).2 ≤ 32 := by rw [← (hpa i2 (by omega)).2]; exact cnt_le 32
                refine lv_iload_n hx hb dX3_seat_100 rfl (lv_at hl 1 rfl) ?_
                refine lv_icmp_ge (tgt := 109) hx hb dX3_seat_101 (by decide) (fun c_101 => ?_) (fun c_101 => ?_)
                · have k_101 : ks ≤ (paF pas ks (seF opn (lfV ca mi (s0, s1)) ks sl) i2).2 := (nI_leI (a := ks) (b := (paF pas ks (seF opn (lfV ca mi (s0, s1)) ks sl) i2).2) (by omega) (by omega)).mp c_101
                  refine W_q9 hQ9 ?_
                  exact W.vret hx hb hr (fun _ hT9 _ => ⟨⟨f_3, rfl, (⟨by rw [hfin, if_neg (by omega)]; exact hhe, fun j hj => (((o_3 j (by omega))).trans (o_2 j (by omega))).trans (o_1 j (by omega))⟩), by rw [hT9]; exact hP⟩, hS.F hT9⟩) hS.2.2 dX3_seat_109
                · have k_101 : ¬ ks ≤ (paF pas ks (seF opn (lfV ca mi (s0, s1)) ks sl) i2).2 := fun z9 => c_101 ((nI_leI (a := ks) (b := (paF pas ks (seF opn (lfV ca mi (s0, s1)) ks sl) i2).2) (by omega) (by omega)).mpr z9)
                  refine lv_aload_n hx hb dX3_seat_104 rfl (lv_at hl 0 rfl) ?_
                  refine lv_iconst (v := 0) hx hb dX3_seat_105 (by decide) ?_
                  refine va_put (D := G.1) (ci := 3) (v := .int 0) (ty := .int) (C := RX3) (T := TX3) (N := 9) hx hb hts inlX3 tyX3 tyX3_ok nmX3 hown hG.1 hP (wl_D hg f_3) hS k (wl_at (by omega) hhe) rfl 8 (by decide) (hts (.fieldLink RX3 73 "SwornLists$Hearing" "sworn" "I") w_515) (fun _ h9 => h9) rfl (by decide +kernel) rfl rfl (Nat.le_of_ble_eq_true rfl) dX3_seat_106 (fun H locs hP _ hS => ?_)
                  obtain ⟨f_5, hP, e_5, o_5⟩ := b_put (by omega) hP
                  have hhe : f_5 k = eO 3 [.ref (g (k + 1)), .int (nI sl), .int lo, .int ib, .int ca, .int mi, .int s0, .int s1, .int 0] := e_5
                  refine W_q9 hQ9 ?_
                  exact W.vret hx hb hr (fun _ hT9 _ => ⟨⟨f_5, rfl, (⟨by rw [hfin, if_pos (by omega)]; exact hhe, fun j hj => ((((o_5 j (by omega))).trans (o_3 j (by omega))).trans (o_2 j (by omega))).trans (o_1 j (by omega))⟩), by rw [hT9]; exact hP⟩, hS.F hT9⟩) hS.2.2 dX3_seat_109
              · have k_70 : ¬ ks ≤ (paF pas ks (seF opn (lfV ca mi (s0, s1)) ks sl) i2).2 := fun z9 => c_70 ((nI_leI (a := ks) (b := (paF pas ks (seF opn (lfV ca mi (s0, s1)) ks sl) i2).2) (by omega) (by omega)).mpr z9)
                refine lv_aload_n hx hb dX3_seat_73 rfl (lv_at hl 0 rfl) ?_
                refine lv_dup hx hb dX3_seat_74 rfl ?_
                refine va_get (D := G.1) (ci := 3) (v := .int ((paF pas ks (seF opn (lfV ca mi (s0, s1)) ks sl) i2).1)) (C := RX3) (T := TX3) (N := 9) hx hb hts inlX3 hown hG.1 hP k (wl_at (by omega) hhe) rfl 8 (by decide) (hts (.fieldLink RX3 73 "SwornLists$Hearing" "sworn" "I") w_515) (fun _ h9 => h9) rfl dX3_seat_75 ?_
                refine lv_iload_n hx hb dX3_seat_78 rfl (lv_at hl 2 rfl) ?_
                refine lv_iconst (v := 1) hx hb dX3_seat_79 (by decide) ?_
                refine lv_iload_n hx hb dX3_seat_80 rfl (lv_at hl 3 rfl) ?_
                refine lv_ishl hx hb dX3_seat_81 ?_
                refine lv_iand hx hb dX3_seat_82 ?_
                refine lv_ior hx hb dX3_seat_83 ?_
                refine my_bei (v := (paF pas ks (seF opn (lfV ca mi (s0, s1)) ks sl) (i2 + 1)).1) ((or_and (by omega)).trans (if hz : bt pas i2 = true then (by rw [if_pos hz, paF_y ⟨by omega, hz⟩]) else (by rw [if_neg hz, paF_n (fun z => hz z.2)]))) ?_
                refine va_put (D := G.1) (ci := 3) (v := .int ((paF pas ks (seF opn (lfV ca mi (s0, s1)) ks sl) (i2 + 1)).1)) (ty := .int) (C := RX3) (T := TX3) (N := 9) hx hb hts inlX3 tyX3 tyX3_ok nmX3 hown hG.1 hP (wl_D hg f_3) hS k (wl_at (by omega) hhe) rfl 8 (by decide) (hts (.fieldLink RX3 73 "SwornLists$Hearing" "sworn" "I") w_515) (fun _ h9 => h9) rfl (by decide +kernel) rfl rfl (Nat.le_of_ble_eq_true rfl) dX3_seat_84 (fun H locs hP _ hS => ?_)
                obtain ⟨f_6, hP, e_6, o_6⟩ := b_put (by omega) hP
                have hhe : f_6 k = eO 3 [.ref (g (k + 1)), .int (nI sl), .int lo, .int ib, .int ca, .int mi, .int s0, .int s1, .int ((paF pas ks (seF opn (lfV ca mi (s0, s1)) ks sl) (i2 + 1)).1)] := e_6
                refine lv_iinc (v := nI (i2 + 1)) (lv' := [(3, .int (nI (i2 + 1))), (0, .ref (g k)), (1, .int (nI ks)), (2, .int pas)]) hx hb dX3_seat_87 hl (k := 3) rfl (nI_add i2 1) (by decide) rfl (fun ls hl => ?_)
                refine lv_goto (tgt := 56) hx hb dX3_seat_90 (by decide) ?_
                replace hor : f_6 (k + 1) = eI G 24 od := ((o_6 (k + 1) (by omega))).trans hor
                exact ih_2 (i2 + 1) f_6 _ _ _ (by omega) (by omega) (hhe) (hor) (fun j hj => ((o_6 j (by omega))).trans (o_3 j (by omega))) hP hS (lv_sub hl [1, 2, 3, 0] rfl)
        exact key2 (30 + 1) 0 f_2 _ _ _ (Nat.zero_le _) (by omega) (hhe.trans (by show eO _ _ = eO _ _; rw [show (paF pas ks (seF opn (lfV ca mi (s0, s1)) ks sl) 0).1 = (seF opn (lfV ca mi (s0, s1)) ks i).1 from (show (seF opn (lfV ca mi (s0, s1)) ks sl).1 = (seF opn (lfV ca mi (s0, s1)) ks i).1 from congrArg Prod.fst (by rw [show sl = i by omega]))])) (hor) (fun j _ => rfl) hP hS (lv_sub hl [1, 2, 3, 0] rfl)
      · have k_12 : ¬ sl ≤ i := fun z9 => c_12 ((nI_leI (a := sl) (b := i) (by omega) (by omega)).mpr z9)
        refine lv_aload_n hx hb dX3_seat_15 rfl (lv_at hl 0 rfl) ?_
        refine va_get (D := G.1) (ci := 3) (v := .int ((seF opn (lfV ca mi (s0, s1)) ks i).1)) (C := RX3) (T := TX3) (N := 9) hx hb hts inlX3 hown hG.1 hP k (wl_at (by omega) hhe) rfl 8 (by decide) (hts (.fieldLink RX3 73 "SwornLists$Hearing" "sworn" "I") w_515) (fun _ h9 => h9) rfl dX3_seat_16 ?_
        refine rd_calli (va_runS (As := [.int ((seF opn (lfV ca mi (s0, s1)) ks i).1)]) (rest := []) ⟨hx, hb, hml, hown, hts⟩ (s_bitCountE l G g hg f_2 ((seF opn (lfV ca mi (s0, s1)) ks i).1)  ) (my_cwS hts ok_J6_bitCount_0f7a4 w_483 rfl rfl ⟨Nat.le_of_ble_eq_true rfl, Nat.le_of_ble_eq_true rfl⟩) ⟨bP.blind, fun U hU hW => ⟨rfl, by rw [hU]; exact hP, kG.warm hW hG⟩⟩ rfl rfl hl.1 rfl (lv_room (Nat.le_of_ble_eq_true rfl)) dX3_seat_19 ⟨Nat.le_of_ble_eq_true rfl, Nat.le_of_ble_eq_true rfl⟩) (fun r hr9 => ?_)
        subst hr9
        refine my_bei (v := nI ((seF opn (lfV ca mi (s0, s1)) ks i).2)) (congrArg nI (hse i (by omega)).2) ?_
        have hb1 : (seF opn (lfV ca mi (s0, s1)) ks i).2 ≤ 32 := by rw [← (hse i (by omega)).2]; exact cnt_le 32
        refine lv_iload_n hx hb dX3_seat_22 rfl (lv_at hl 1 rfl) ?_
        refine lv_icmp_ge (tgt := 54) hx hb dX3_seat_23 (by decide) (fun c_23 => ?_) (fun c_23 => ?_)
        · have k_23 : ks ≤ (seF opn (lfV ca mi (s0, s1)) ks i).2 := (nI_leI (a := ks) (b := (seF opn (lfV ca mi (s0, s1)) ks i).2) (by omega) (by omega)).mp c_23
          refine lv_iconst (v := 0) hx hb dX3_seat_54 (by decide) ?_
          refine lv_istore_n (lv' := [(3, .int 0), (0, .ref (g k)), (1, .int (nI ks)), (2, .int pas)]) hx hb dX3_seat_55 rfl hl (by decide) rfl (fun ls hl => ?_)
          have key3 : ∀ (n9_3 : Nat) (i2 : Nat) (f_7 : Nat → va_E) (H : Heap) (locs : List Loc) (ls : Array Slot), (i2 ≤ 30) → 30 - i2 < n9_3 → f_7 k = eO 3 [.ref (g (k + 1)), .int (nI sl), .int lo, .int ib, .int ca, .int mi, .int s0, .int s1, .int ((paF pas ks (seF opn (lfV ca mi (s0, s1)) ks sl) i2).1)] → f_7 (k + 1) = eI G 24 od → (∀ j, j ≠ k → f_7 j = f_2 j) → va_P G.1 vwCl (wl g f_7) H → va_S (gA g) s.heap H locs → lv_has ls 4 [(0, .ref (g k)), (1, .int (nI ks)), (2, .int pas), (3, .int (nI i2))] → W p l e (headSpec (wsT yX3_seat cX3_seat 4 none) ({ frames := 1, cells := 0, slots := 0, locals := 20 })).room s m ([.ref (g k), .int (nI ks), .int pas] : List Value).toArray below meth c H locs 0 0 Q9 (F0 m 56 ls []) := by
            intro n9_3
            induction n9_3 with
            | zero => intro i2 f_7 H locs ls hi2 hn9_3; exact absurd hn9_3 (Nat.not_lt_zero _)
            | succ n9_3 ih_3 =>
              intro i2 f_7 H locs ls hi2 hn9_3 hhe hor o_7 hP hS hl
              refine lv_iload_n hx hb dX3_seat_56 rfl (lv_at hl 3 rfl) ?_
              refine lv_bipush (v := 30) hx hb dX3_seat_57 (by decide) ?_
              refine lv_icmp_ge (tgt := 93) hx hb dX3_seat_59 (by decide) (fun c_59 => ?_) (fun c_59 => ?_)
              · have k_59 : 30 ≤ i2 := (nI_leI (a := 30) (b := i2) (by omega) (by omega)).mp c_59
                have hfin : (paF pas ks (seF opn (lfV ca mi (s0, s1)) ks sl) 30) = (paF pas ks (seF opn (lfV ca mi (s0, s1)) ks sl) i2) := by rw [show i2 = 30 by omega]
                refine lv_aload_n hx hb dX3_seat_93 rfl (lv_at hl 0 rfl) ?_
                refine va_get (D := G.1) (ci := 3) (v := .int ((paF pas ks (seF opn (lfV ca mi (s0, s1)) ks sl) i2).1)) (C := RX3) (T := TX3) (N := 9) hx hb hts inlX3 hown hG.1 hP k (wl_at (by omega) hhe) rfl 8 (by decide) (hts (.fieldLink RX3 73 "SwornLists$Hearing" "sworn" "I") w_515) (fun _ h9 => h9) rfl dX3_seat_94 ?_
                refine rd_calli (va_runS (As := [.int ((paF pas ks (seF opn (lfV ca mi (s0, s1)) ks sl) i2).1)]) (rest := []) ⟨hx, hb, hml, hown, hts⟩ (s_bitCountE l G g hg f_7 ((paF pas ks (seF opn (lfV ca mi (s0, s1)) ks sl) i2).1)  ) (my_cwS hts ok_J6_bitCount_0f7a4 w_483 rfl rfl ⟨Nat.le_of_ble_eq_true rfl, Nat.le_of_ble_eq_true rfl⟩) ⟨bP.blind, fun U hU hW => ⟨rfl, by rw [hU]; exact hP, kG.warm hW hG⟩⟩ rfl rfl hl.1 rfl (lv_room (Nat.le_of_ble_eq_true rfl)) dX3_seat_97 ⟨Nat.le_of_ble_eq_true rfl, Nat.le_of_ble_eq_true rfl⟩) (fun r hr9 => ?_)
                subst hr9
                refine my_bei (v := nI ((paF pas ks (seF opn (lfV ca mi (s0, s1)) ks sl) i2).2)) (congrArg nI (hpa i2 (by omega)).2) ?_
                have hb3 : (paF pas ks (seF opn (lfV ca mi (s0, s1)) ks sl) i2).2 ≤ 32 := by rw [← (hpa i2 (by omega)).2]; exact cnt_le 32
                refine lv_iload_n hx hb dX3_seat_100 rfl (lv_at hl 1 rfl) ?_
                refine lv_icmp_ge (tgt := 109) hx hb dX3_seat_101 (by decide) (fun c_101 => ?_) (fun c_101 => ?_)
                · have k_101 : ks ≤ (paF pas ks (seF opn (lfV ca mi (s0, s1)) ks sl) i2).2 := (nI_leI (a := ks) (b := (paF pas ks (seF opn (lfV ca mi (s0, s1)) ks sl) i2).2) (by omega) (by omega)).mp c_101
                  refine W_q9 hQ9 ?_
                  exact W.vret hx hb hr (fun _ hT9 _ => ⟨⟨f_7, rfl, (⟨by rw [hfin, if_neg (by omega)]; exact hhe, fun j hj => (((o_7 j (by omega))).trans (o_2 j (by omega))).trans (o_1 j (by omega))⟩), by rw [hT9]; exact hP⟩, hS.F hT9⟩) hS.2.2 dX3_seat_109
                · have k_101 : ¬ ks ≤ (paF pas ks (seF opn (lfV ca mi (s0, s1)) ks sl) i2).2 := fun z9 => c_101 ((nI_leI (a := ks) (b := (paF pas ks (seF opn (lfV ca mi (s0, s1)) ks sl) i2).2) (by omega) (by omega)).mpr z9)
                  refine lv_aload_n hx hb dX3_seat_104 rfl (lv_at hl 0 rfl) ?_
                  refine lv_iconst (v := 0) hx hb dX3_seat_105 (by decide) ?_
                  refine va_put (D := G.1) (ci := 3) (v := .int 0) (ty := .int) (C := RX3) (T := TX3) (N := 9) hx hb hts inlX3 tyX3 tyX3_ok nmX3 hown hG.1 hP (wl_D hg f_7) hS k (wl_at (by omega) hhe) rfl 8 (by decide) (hts (.fieldLink RX3 73 "SwornLists$Hearing" "sworn" "I") w_515) (fun _ h9 => h9) rfl (by decide +kernel) rfl rfl (Nat.le_of_ble_eq_true rfl) dX3_seat_106 (fun H locs hP _ hS => ?_)
                  obtain ⟨f_8, hP, e_8, o_8⟩ := b_put (by omega) hP
                  have hhe : f_8 k = eO 3 [.ref (g (k + 1)), .int (nI sl), .int lo, .int ib, .int ca, .int mi, .int s0, .int s1, .int 0] := e_8
                  refine W_q9 hQ9 ?_
                  exact W.vret hx hb hr (fun _ hT9 _ => ⟨⟨f_8, rfl, (⟨by rw [hfin, if_pos (by omega)]; exact hhe, fun j hj => ((((o_8 j (by omega))).trans (o_7 j (by omega))).trans (o_2 j (by omega))).trans (o_1 j (by omega))⟩), by rw [hT9]; exact hP⟩, hS.F hT9⟩) hS.2.2 dX3_seat_109
              · have k_59 : ¬ 30 ≤ i2 := fun z9 => c_59 ((nI_leI (a := 30) (b := i2) (by omega) (by omega)).mpr z9)
                refine lv_aload_n hx hb dX3_seat_62 rfl (lv_at hl 0 rfl) ?_
                refine va_get (D := G.1) (ci := 3) (v := .int ((paF pas ks (seF opn (lfV ca mi (s0, s1)) ks sl) i2).1)) (C := RX3) (T := TX3) (N := 9) hx hb hts inlX3 hown hG.1 hP k (wl_at (by omega) hhe) rfl 8 (by decide) (hts (.fieldLink RX3 73 "SwornLists$Hearing" "sworn" "I") w_515) (fun _ h9 => h9) rfl dX3_seat_63 ?_
                refine rd_calli (va_runS (As := [.int ((paF pas ks (seF opn (lfV ca mi (s0, s1)) ks sl) i2).1)]) (rest := []) ⟨hx, hb, hml, hown, hts⟩ (s_bitCountE l G g hg f_7 ((paF pas ks (seF opn (lfV ca mi (s0, s1)) ks sl) i2).1)  ) (my_cwS hts ok_J6_bitCount_0f7a4 w_483 rfl rfl ⟨Nat.le_of_ble_eq_true rfl, Nat.le_of_ble_eq_true rfl⟩) ⟨bP.blind, fun U hU hW => ⟨rfl, by rw [hU]; exact hP, kG.warm hW hG⟩⟩ rfl rfl hl.1 rfl (lv_room (Nat.le_of_ble_eq_true rfl)) dX3_seat_66 ⟨Nat.le_of_ble_eq_true rfl, Nat.le_of_ble_eq_true rfl⟩) (fun r hr9 => ?_)
                subst hr9
                refine my_bei (v := nI ((paF pas ks (seF opn (lfV ca mi (s0, s1)) ks sl) i2).2)) (congrArg nI (hpa i2 (by omega)).2) ?_
                have hb2 : (paF pas ks (seF opn (lfV ca mi (s0, s1)) ks sl) i2).2 ≤ 32 := by rw [← (hpa i2 (by omega)).2]; exact cnt_le 32
                refine lv_iload_n hx hb dX3_seat_69 rfl (lv_at hl 1 rfl) ?_
                refine lv_icmp_ge (tgt := 93) hx hb dX3_seat_70 (by decide) (fun c_70 => ?_) (fun c_70 => ?_)
                · have k_70 : ks ≤ (paF pas ks (seF opn (lfV ca mi (s0, s1)) ks sl) i2).2 := (nI_leI (a := ks) (b := (paF pas ks (seF opn (lfV ca mi (s0, s1)) ks sl) i2).2) (by omega) (by omega)).mp c_70
                  have hfin : (paF pas ks (seF opn (lfV ca mi (s0, s1)) ks sl) 30) = (paF pas ks (seF opn (lfV ca mi (s0, s1)) ks sl) i2) := by rw [show (30 : Nat) = i2 + (30 - i2) by omega]; exact paF_stop (by omega) _
                  refine lv_aload_n hx hb dX3_seat_93 rfl (lv_at hl 0 rfl) ?_
                  refine va_get (D := G.1) (ci := 3) (v := .int ((paF pas ks (seF opn (lfV ca mi (s0, s1)) ks sl) i2).1)) (C := RX3) (T := TX3) (N := 9) hx hb hts inlX3 hown hG.1 hP k (wl_at (by omega) hhe) rfl 8 (by decide) (hts (.fieldLink RX3 73 "SwornLists$Hearing" "sworn" "I") w_515) (fun _ h9 => h9) rfl dX3_seat_94 ?_
                  refine rd_calli (va_runS (As := [.int ((paF pas ks (seF opn (lfV ca mi (s0, s1)) ks sl) i2).1)]) (rest := []) ⟨hx, hb, hml, hown, hts⟩ (s_bitCountE l G g hg f_7 ((paF pas ks (seF opn (lfV ca mi (s0, s1)) ks sl) i2).1)  ) (my_cwS hts ok_J6_bitCount_0f7a4 w_483 rfl rfl ⟨Nat.le_of_ble_eq_true rfl, Nat.le_of_ble_eq_true rfl⟩) ⟨bP.blind, fun U hU hW => ⟨rfl, by rw [hU]; exact hP, kG.warm hW hG⟩⟩ rfl rfl hl.1 rfl (lv_room (Nat.le_of_ble_eq_true rfl)) dX3_seat_97 ⟨Nat.le_of_ble_eq_true rfl, Nat.le_of_ble_eq_true rfl⟩) (fun r hr9 => ?_)
                  subst hr9
                  refine my_bei (v := nI ((paF pas ks (seF opn (lfV ca mi (s0, s1)) ks sl) i2).2)) (congrArg nI (hpa i2 (by omega)).2) ?_
                  have hb3 : (paF pas ks (seF opn (lfV ca mi (s0, s1)) ks sl) i2).2 ≤ 32 := by rw [← (hpa i2 (by omega)).2]; exact cnt_le 32
                  refine lv_iload_n hx hb dX3_seat_100 rfl (lv_at hl 1 rfl) ?_
                  refine lv_icmp_ge (tgt := 109) hx hb dX3_seat_101 (by decide) (fun c_101 => ?_) (fun c_101 => ?_)
                  · have k_101 : ks ≤ (paF pas ks (seF opn (lfV ca mi (s0, s1)) ks sl) i2).2 := (nI_leI (a := ks) (b := (paF pas ks (seF opn (lfV ca mi (s0, s1)) ks sl) i2).2) (by omega) (by omega)).mp c_101
                    refine W_q9 hQ9 ?_
                    exact W.vret hx hb hr (fun _ hT9 _ => ⟨⟨f_7, rfl, (⟨by rw [hfin, if_neg (by omega)]; exact hhe, fun j hj => (((o_7 j (by omega))).trans (o_2 j (by omega))).trans (o_1 j (by omega))⟩), by rw [hT9]; exact hP⟩, hS.F hT9⟩) hS.2.2 dX3_seat_109
                  · have k_101 : ¬ ks ≤ (paF pas ks (seF opn (lfV ca mi (s0, s1)) ks sl) i2).2 := fun z9 => c_101 ((nI_leI (a := ks) (b := (paF pas ks (seF opn (lfV ca mi (s0, s1)) ks sl) i2).2) (by omega) (by omega)).mpr z9)
                    refine lv_aload_n hx hb dX3_seat_104 rfl (lv_at hl 0 rfl) ?_
                    refine lv_iconst (v := 0) hx hb dX3_seat_105 (by decide) ?_
                    refine va_put (D := G.1) (ci := 3) (v := .int 0) (ty := .int) (C := RX3) (T := TX3) (N := 9) hx hb hts inlX3 tyX3 tyX3_ok nmX3 hown hG.1 hP (wl_D hg f_7) hS k (wl_at (by omega) hhe) rfl 8 (by decide) (hts (.fieldLink RX3 73 "SwornLists$Hearing" "sworn" "I") w_515) (fun _ h9 => h9) rfl (by decide +kernel) rfl rfl (Nat.le_of_ble_eq_true rfl) dX3_seat_106 (fun H locs hP _ hS => ?_)
                    obtain ⟨f_9, hP, e_9, o_9⟩ := b_put (by omega) hP
                    have hhe : f_9 k = eO 3 [.ref (g (k + 1)), .int (nI sl), .int lo, .int ib, .int ca, .int mi, .int s0, .int s1, .int 0] := e_9
                    refine W_q9 hQ9 ?_
                    exact W.vret hx hb hr (fun _ hT9 _ => ⟨⟨f_9, rfl, (⟨by rw [hfin, if_pos (by omega)]; exact hhe, fun j hj => ((((o_9 j (by omega))).trans (o_7 j (by omega))).trans (o_2 j (by omega))).trans (o_1 j (by omega))⟩), by rw [hT9]; exact hP⟩, hS.F hT9⟩) hS.2.2 dX3_seat_109
                · have k_70 : ¬ ks ≤ (paF pas ks (seF opn (lfV ca mi (s0, s1)) ks sl) i2).2 := fun z9 => c_70 ((nI_leI (a := ks) (b := (paF pas ks (seF opn (lfV ca mi (s0, s1)) ks sl) i2).2) (by omega) (by omega)).mpr z9)
                  refine lv_aload_n hx hb dX3_seat_73 rfl (lv_at hl 0 rfl) ?_
                  refine lv_dup hx hb dX3_seat_74 rfl ?_
                  refine va_get (D := G.1) (ci := 3) (v := .int ((paF pas ks (seF opn (lfV ca mi (s0, s1)) ks sl) i2).1)) (C := RX3) (T := TX3) (N := 9) hx hb hts inlX3 hown hG.1 hP k (wl_at (by omega) hhe) rfl 8 (by decide) (hts (.fieldLink RX3 73 "SwornLists$Hearing" "sworn" "I") w_515) (fun _ h9 => h9) rfl dX3_seat_75 ?_
                  refine lv_iload_n hx hb dX3_seat_78 rfl (lv_at hl 2 rfl) ?_
                  refine lv_iconst (v := 1) hx hb dX3_seat_79 (by decide) ?_
                  refine lv_iload_n hx hb dX3_seat_80 rfl (lv_at hl 3 rfl) ?_
                  refine lv_ishl hx hb dX3_seat_81 ?_
                  refine lv_iand hx hb dX3_seat_82 ?_
                  refine lv_ior hx hb dX3_seat_83 ?_
                  refine my_bei (v := (paF pas ks (seF opn (lfV ca mi (s0, s1)) ks sl) (i2 + 1)).1) ((or_and (by omega)).trans (if hz : bt pas i2 = true then (by rw [if_pos hz, paF_y ⟨by omega, hz⟩]) else (by rw [if_neg hz, paF_n (fun z => hz z.2)]))) ?_
                  refine va_put (D := G.1) (ci := 3) (v := .int ((paF pas ks (seF opn (lfV ca mi (s0, s1)) ks sl) (i2 + 1)).1)) (ty := .int) (C := RX3) (T := TX3) (N := 9) hx hb hts inlX3 tyX3 tyX3_ok nmX3 hown hG.1 hP (wl_D hg f_7) hS k (wl_at (by omega) hhe) rfl 8 (by decide) (hts (.fieldLink RX3 73 "SwornLists$Hearing" "sworn" "I") w_515) (fun _ h9 => h9) rfl (by decide +kernel) rfl rfl (Nat.le_of_ble_eq_true rfl) dX3_seat_84 (fun H locs hP _ hS => ?_)
                  obtain ⟨f_10, hP, e_10, o_10⟩ := b_put (by omega) hP
                  have hhe : f_10 k = eO 3 [.ref (g (k + 1)), .int (nI sl), .int lo, .int ib, .int ca, .int mi, .int s0, .int s1, .int ((paF pas ks (seF opn (lfV ca mi (s0, s1)) ks sl) (i2 + 1)).1)] := e_10
                  refine lv_iinc (v := nI (i2 + 1)) (lv' := [(3, .int (nI (i2 + 1))), (0, .ref (g k)), (1, .int (nI ks)), (2, .int pas)]) hx hb dX3_seat_87 hl (k := 3) rfl (nI_add i2 1) (by decide) rfl (fun ls hl => ?_)
                  refine lv_goto (tgt := 56) hx hb dX3_seat_90 (by decide) ?_
                  replace hor : f_10 (k + 1) = eI G 24 od := ((o_10 (k + 1) (by omega))).trans hor
                  exact ih_3 (i2 + 1) f_10 _ _ _ (by omega) (by omega) (hhe) (hor) (fun j hj => ((o_10 j (by omega))).trans (o_7 j (by omega))) hP hS (lv_sub hl [1, 2, 3, 0] rfl)
          exact key3 (30 + 1) 0 f_2 _ _ _ (Nat.zero_le _) (by omega) (hhe.trans (by show eO _ _ = eO _ _; rw [show (paF pas ks (seF opn (lfV ca mi (s0, s1)) ks sl) 0).1 = (seF opn (lfV ca mi (s0, s1)) ks i).1 from (show (seF opn (lfV ca mi (s0, s1)) ks sl).1 = (seF opn (lfV ca mi (s0, s1)) ks i).1 from congrArg Prod.fst (by rw [show sl = i + (sl - i) by omega]; exact seF_stop (by omega) _))])) (hor) (fun j _ => rfl) hP hS (lv_sub hl [1, 2, 3, 0] rfl)
        · have k_23 : ¬ ks ≤ (seF opn (lfV ca mi (s0, s1)) ks i).2 := fun z9 => c_23 ((nI_leI (a := ks) (b := (seF opn (lfV ca mi (s0, s1)) ks i).2) (by omega) (by omega)).mpr z9)
          refine lv_aload_n hx hb dX3_seat_26 rfl (lv_at hl 0 rfl) ?_
          refine lv_dup hx hb dX3_seat_27 rfl ?_
          refine va_get (D := G.1) (ci := 3) (v := .int ((seF opn (lfV ca mi (s0, s1)) ks i).1)) (C := RX3) (T := TX3) (N := 9) hx hb hts inlX3 hown hG.1 hP k (wl_at (by omega) hhe) rfl 8 (by decide) (hts (.fieldLink RX3 73 "SwornLists$Hearing" "sworn" "I") w_515) (fun _ h9 => h9) rfl dX3_seat_28 ?_
          refine lv_aload_n hx hb dX3_seat_31 rfl (lv_at hl 0 rfl) ?_
          refine rd_calli (va_runV (As := []) (rest := [.int ((seF opn (lfV ca mi (s0, s1)) ks i).1), .ref (g k)]) ⟨hx, hb, hml, hown, hts⟩ (h_leftE l G g hg f_2 k sl lo ib ca mi s0 s1 ((seF opn (lfV ca mi (s0, s1)) ks i).1) hhe (by first | assumption | omega | decide) (by first | assumption | omega | decide)) (my_cwV hts ok_X3_left w_507 rfl rfl ⟨Nat.le_of_ble_eq_true rfl, Nat.le_of_ble_eq_true rfl⟩) ⟨bP.blind, va_recv hG.1 hP (ci := 3) (q0 := k) rfl (wl_at (by omega) hhe), fun U hU hW => ⟨rfl, by rw [hU]; exact hP, kG.warm hW hG⟩⟩ rfl rfl hl.1 rfl (lv_room (Nat.le_of_ble_eq_true rfl)) dX3_seat_32 ⟨Nat.le_of_ble_eq_true rfl, Nat.le_of_ble_eq_true rfl⟩) (fun r hr9 => ?_)
          subst hr9
          refine lv_iconst (v := 1) hx hb dX3_seat_35 (by decide) ?_
          refine lv_aload_n hx hb dX3_seat_36 rfl (lv_at hl 0 rfl) ?_
          refine va_get (D := G.1) (ci := 3) (v := .ref (g (k + 1))) (C := RX3) (T := TX3) (N := 9) hx hb hts inlX3 hown hG.1 hP k (wl_at (by omega) hhe) rfl 0 (by decide) (hts (.fieldLink RX3 9 "SwornLists$Hearing" "order" "[I") w_91) (fun _ h9 => h9) rfl dX3_seat_37 ?_
          refine lv_iload_n hx hb dX3_seat_40 rfl (lv_at hl 3 rfl) ?_
          refine va_iald hx hb hG.1 hP (k + 1) 0 (wl_at (by omega) hor) rfl (vp_in_nI (by omega) (by decide)) dX3_seat_41 ?_
          refine my_bei (v := od i) (congrArg od (nI_clamp (n := i) (by omega))) ?_
          refine my_bei (v := nI (opn i)) ((hod i (by omega)).1) ?_
          refine lv_ishl hx hb dX3_seat_42 ?_
          refine lv_iand hx hb dX3_seat_43 ?_
          refine lv_ior hx hb dX3_seat_44 ?_
          refine my_bei (v := (seF opn (lfV ca mi (s0, s1)) ks (i + 1)).1) ((or_and (by have := (hod i (by omega)).2; omega)).trans (if hz : bt (lfV ca mi (s0, s1)) (opn i) = true then (by rw [if_pos hz, seF_y ⟨by omega, hz⟩]) else (by rw [if_neg hz, seF_n (fun z => hz z.2)]))) ?_
          refine va_put (D := G.1) (ci := 3) (v := .int ((seF opn (lfV ca mi (s0, s1)) ks (i + 1)).1)) (ty := .int) (C := RX3) (T := TX3) (N := 9) hx hb hts inlX3 tyX3 tyX3_ok nmX3 hown hG.1 hP (wl_D hg f_2) hS k (wl_at (by omega) hhe) rfl 8 (by decide) (hts (.fieldLink RX3 73 "SwornLists$Hearing" "sworn" "I") w_515) (fun _ h9 => h9) rfl (by decide +kernel) rfl rfl (Nat.le_of_ble_eq_true rfl) dX3_seat_45 (fun H locs hP _ hS => ?_)
          obtain ⟨f_11, hP, e_11, o_11⟩ := b_put (by omega) hP
          have hhe : f_11 k = eO 3 [.ref (g (k + 1)), .int (nI sl), .int lo, .int ib, .int ca, .int mi, .int s0, .int s1, .int ((seF opn (lfV ca mi (s0, s1)) ks (i + 1)).1)] := e_11
          refine lv_iinc (v := nI (i + 1)) (lv' := [(3, .int (nI (i + 1))), (0, .ref (g k)), (1, .int (nI ks)), (2, .int pas)]) hx hb dX3_seat_48 hl (k := 3) rfl (nI_add i 1) (by decide) rfl (fun ls hl => ?_)
          refine lv_goto (tgt := 7) hx hb dX3_seat_51 (by decide) ?_
          replace hor : f_11 (k + 1) = eI G 24 od := ((o_11 (k + 1) (by omega))).trans hor
          exact ih_1 (i + 1) f_11 _ _ _ (by omega) (by omega) (hhe) (hor) (fun j hj => ((o_11 j (by omega))).trans (o_2 j (by omega))) hP hS (lv_sub hl [1, 2, 3, 0] rfl)
  exact key1 (sl + 1) 0 f_1 _ _ _ (Nat.zero_le _) (by omega) (hhe) (hor) (fun j _ => rfl) hP hS (lv_sub hl [1, 2, 3, 0] rfl)


set_option maxHeartbeats 4000000 in
set_option maxRecDepth 100000 in
theorem r_meets (l : Launch) (G : gW) (g : Nat → Nat) (hg : gOK g) (f : Nat → va_E) (ab2 : Int64) (be2 : Int64) (sn : Int32) (wn : Int32) (sa : Int32) (ly : Int32) (rdy : Int32) (fd : Int32) (ss : Nat → Int32) (t : Nat) (w : Nat) (hmo : f 315 = eO 10 [.ref (g 316), .ref (g 317), .ref (g 318), .long ab2, .long be2, .int sn, .ref (g 319), .ref (g 320), .int wn, .ref (g 321), .ref (g 322), .int sa, .int ly, .int rdy, .int fd, .ref (g 323), .ref (g 324), .ref (g 325), .ref (g 326), .ref (g 327), .ref (g 328), .ref (g 329), .ref (g 330), .ref (g 331), .ref (g 332)]) (hss_ : f 316 = eI G 2246 ss) (ht0 : t < 10) (hw0 : w < 10) : Met l yX11_meets (wsT yX11_meets cX11_meets 6 (some .boolean)) ({ frames := 1, cells := 0, slots := 0, locals := 22 }) (bP G g f [.ref (g 315), .int (nI t), .int (nI w)]) (rQi (fun z9 => ∃ bz : Bool, z9 = b2 (bz = true))) 0 0 fr0 := by
  refine Met.ofW (cc := cX11_meets) (maxL := 6) (ret := (some .boolean)) (by decide) rfl ?_
  intro p e s m args below meth c s₁ B hml hv
  obtain ⟨rfl, hP, hG⟩ := hv
  have hx := B.exec
  have hb := B.bytes
  have hr := B.returns
  have hts := my_hts (atoms_spec (ws := wsT yX11_meets cX11_meets 6 (some .boolean)) B.pre)
  have hown : s.vm.findClass RX11 = some m.cls := findClass_of_methodNamed B.named
  have hlocks := B.notSynchronized
  have hl := lv_entry ([.ref (g 315), .int (nI t), .int (nI w)]) (n := 6) (Nat.le_of_ble_eq_true rfl)
  rw [lg_entry_eq]
  generalize (lg_sl ([.ref (g 315), .int (nI t), .int (nI w)]) ++ List.replicate (6 - (lg_sl ([.ref (g 315), .int (nI t), .int (nI w)])).length) Slot.unset).toArray = ls at hl ⊢
  have hl : lv_has ls 6 [(0, .ref (g 315)), (1, .int (nI t)), (2, .int (nI w))] := hl
  refine lv_aload_n hx hb dX11_meets_0 rfl (lv_at hl 0 rfl) ?_
  refine lv_iload_n hx hb dX11_meets_1 rfl (lv_at hl 1 rfl) ?_
  refine lv_iconst (v := 5) hx hb dX11_meets_2 (by decide) ?_
  refine rd_calli (va_runV (As := [.int (nI t), .int 5]) (rest := []) ⟨hx, hb, hml, hown, hts⟩ (r_ofTrial l G g hg f ab2 be2 sn wn sa ly rdy fd ss t 5 hmo hss_ (by first | assumption | omega | decide)) (my_cwV hts ok_X11_ofTrial w_532 rfl rfl ⟨Nat.le_of_ble_eq_true rfl, Nat.le_of_ble_eq_true rfl⟩) ⟨bP.blind, va_recv hG.1 hP (ci := 10) (q0 := 315) rfl (wl_at (by decide) hmo), fun U hU hW => ⟨rfl, by rw [hU]; exact hP, kG.warm hW hG⟩⟩ rfl rfl hl.1 rfl (lv_room (Nat.le_of_ble_eq_true rfl)) dX11_meets_3 ⟨Nat.le_of_ble_eq_true rfl, Nat.le_of_ble_eq_true rfl⟩) (fun r hr9 => ?_)
  subst hr9
  refine my_bei (v := ss (10 * t + 1551)) (congrArg ss (show 10 * t + 5 + 1546 = 10 * t + 1551 by omega)) ?_
  refine lv_iconst (v := (-1)) hx hb dX11_meets_6 (by decide) ?_
  refine lv_icmp_eq (tgt := 29) hx hb dX11_meets_7 (by decide) (fun c_7 => ?_) (fun c_7 => ?_)
  · refine lv_iconst (v := 0) hx hb dX11_meets_29 (by decide) ?_
    refine my_bei (v := b2 (false = true)) ((b2_f (by decide)).symm) ?_
    refine lv_istore_n (lv' := [(3, .int (b2 (false = true))), (0, .ref (g 315)), (1, .int (nI t)), (2, .int (nI w))]) hx hb dX11_meets_30 rfl hl (by decide) rfl (fun ls hl => ?_)
    refine lv_iconst (v := 0) hx hb dX11_meets_31 (by decide) ?_
    refine lv_istore (lv' := [(4, .int 0), (3, .int (b2 (false = true))), (0, .ref (g 315)), (1, .int (nI t)), (2, .int (nI w))]) hx hb dX11_meets_32 hl (by decide) rfl (fun ls hl => ?_)
    have key1 : ∀ (n9_1 : Nat) (b1 : Bool) (i : Nat) (ls : Array Slot), (i ≤ 2) → 2 - i < n9_1 → lv_has ls 6 [(0, .ref (g 315)), (1, .int (nI t)), (2, .int (nI w)), (3, .int (b2 (b1 = true))), (4, .int (nI i))] → W p l e (headSpec (wsT yX11_meets cX11_meets 6 (some .boolean)) ({ frames := 1, cells := 0, slots := 0, locals := 22 })).room s m ([.ref (g 315), .int (nI t), .int (nI w)] : List Value).toArray below meth c s.heap [] 0 0 (MQ below (rQi (fun z9 => ∃ bz : Bool, z9 = b2 (bz = true))) ([.ref (g 315), .int (nI t), .int (nI w)] : List Value).toArray s 0 0 fr0) (F0 m 34 ls []) := by
      intro n9_1
      induction n9_1 with
      | zero => intro b1 i ls hi hn9_1; exact absurd hn9_1 (Nat.not_lt_zero _)
      | succ n9_1 ih_1 =>
        intro b1 i ls hi hn9_1 hl
        refine lv_iload hx hb dX11_meets_34 (lv_at hl 4 rfl) ?_
        refine lv_iconst (v := 2) hx hb dX11_meets_36 (by decide) ?_
        refine lv_icmp_ge (tgt := 105) hx hb dX11_meets_37 (by decide) (fun c_37 => ?_) (fun c_37 => ?_)
        · have k_37 : 2 ≤ i := (nI_leI (a := 2) (b := i) (by omega) (by omega)).mp c_37
          refine lv_iload_n hx hb dX11_meets_105 rfl (lv_at hl 3 rfl) ?_
          exact W.zret (v := b2 (b1 = true)) hx hb hr (b2_nar) (fun t ht hW => ⟨_, rfl, (⟨b1, rfl⟩), ht⟩) (fun _ h => absurd h List.not_mem_nil) dX11_meets_106
        · have k_37 : ¬ 2 ≤ i := fun z9 => c_37 ((nI_leI (a := 2) (b := i) (by omega) (by omega)).mpr z9)
          refine lv_iconst (v := 0) hx hb dX11_meets_40 (by decide) ?_
          refine lv_istore (lv' := [(5, .int 0), (0, .ref (g 315)), (1, .int (nI t)), (2, .int (nI w)), (3, .int (b2 (b1 = true))), (4, .int (nI i))]) hx hb dX11_meets_41 hl (by decide) rfl (fun ls hl => ?_)
          have key2 : ∀ (n9_2 : Nat) (b2_ : Bool) (i2 : Nat) (ls : Array Slot), (i2 ≤ 2) → 2 - i2 < n9_2 → lv_has ls 6 [(0, .ref (g 315)), (1, .int (nI t)), (2, .int (nI w)), (3, .int (b2 (b2_ = true))), (4, .int (nI i)), (5, .int (nI i2))] → W p l e (headSpec (wsT yX11_meets cX11_meets 6 (some .boolean)) ({ frames := 1, cells := 0, slots := 0, locals := 22 })).room s m ([.ref (g 315), .int (nI t), .int (nI w)] : List Value).toArray below meth c s.heap [] 0 0 (MQ below (rQi (fun z9 => ∃ bz : Bool, z9 = b2 (bz = true))) ([.ref (g 315), .int (nI t), .int (nI w)] : List Value).toArray s 0 0 fr0) (F0 m 43 ls []) := by
            intro n9_2
            induction n9_2 with
            | zero => intro b2_ i2 ls hi2 hn9_2; exact absurd hn9_2 (Nat.not_lt_zero _)
            | succ n9_2 ih_2 =>
              intro b2_ i2 ls hi2 hn9_2 hl
              refine lv_iload hx hb dX11_meets_43 (lv_at hl 5 rfl) ?_
              refine lv_iconst (v := 2) hx hb dX11_meets_45 (by decide) ?_
              refine lv_icmp_ge (tgt := 99) hx hb dX11_meets_46 (by decide) (fun c_46 => ?_) (fun c_46 => ?_)
              · have k_46 : 2 ≤ i2 := (nI_leI (a := 2) (b := i2) (by omega) (by omega)).mp c_46
                refine lv_iinc (v := nI (i + 1)) (lv' := [(4, .int (nI (i + 1))), (0, .ref (g 315)), (1, .int (nI t)), (2, .int (nI w)), (3, .int (b2 (b2_ = true))), (5, .int (nI i2))]) hx hb dX11_meets_99 hl (k := 4) rfl (nI_add i 1) (by decide) rfl (fun ls hl => ?_)
                refine lv_goto (tgt := 34) hx hb dX11_meets_102 (by decide) ?_
                exact ih_1 b2_ (i + 1) _ (by omega) (by omega) (lv_sub hl [1, 2, 3, 4, 0] rfl)
              · have k_46 : ¬ 2 ≤ i2 := fun z9 => c_46 ((nI_leI (a := 2) (b := i2) (by omega) (by omega)).mpr z9)
                refine lv_iload_n hx hb dX11_meets_49 rfl (lv_at hl 3 rfl) ?_
                refine my_ifne (tgt := 87) hx hb dX11_meets_50 (by decide) (fun c_50 => ?_) (fun c_50 => ?_)
                · refine lv_iconst (v := 1) hx hb dX11_meets_87 (by decide) ?_
                  refine my_bei (v := b2 (true = true)) ((b2_t rfl).symm) ?_
                  refine lv_goto (tgt := 92) hx hb dX11_meets_88 (by decide) ?_
                  refine lv_istore_n (lv' := [(3, .int (b2 (true = true))), (0, .ref (g 315)), (1, .int (nI t)), (2, .int (nI w)), (4, .int (nI i)), (5, .int (nI i2))]) hx hb dX11_meets_92 rfl hl (by decide) rfl (fun ls hl => ?_)
                  refine lv_iinc (v := nI (i2 + 1)) (lv' := [(5, .int (nI (i2 + 1))), (3, .int (b2 (true = true))), (0, .ref (g 315)), (1, .int (nI t)), (2, .int (nI w)), (4, .int (nI i))]) hx hb dX11_meets_93 hl (k := 5) rfl (nI_add i2 1) (by decide) rfl (fun ls hl => ?_)
                  refine lv_goto (tgt := 43) hx hb dX11_meets_96 (by decide) ?_
                  exact ih_2 true (i2 + 1) _ (by omega) (by omega) (lv_sub hl [2, 3, 4, 1, 5, 0] rfl)
                · refine lv_aload_n hx hb dX11_meets_53 rfl (lv_at hl 0 rfl) ?_
                  refine lv_iload_n hx hb dX11_meets_54 rfl (lv_at hl 1 rfl) ?_
                  refine lv_iconst (v := 3) hx hb dX11_meets_55 (by decide) ?_
                  refine lv_iload hx hb dX11_meets_56 (lv_at hl 4 rfl) ?_
                  refine lv_iadd hx hb dX11_meets_58 ?_
                  refine my_bei (v := nI (i + 3)) ((nI_add 3 i).trans (congrArg nI (show 3 + i = i + 3 by omega))) ?_
                  refine rd_calli (va_runV (As := [.int (nI t), .int (nI (i + 3))]) (rest := []) ⟨hx, hb, hml, hown, hts⟩ (r_ofTrial l G g hg f ab2 be2 sn wn sa ly rdy fd ss t (i + 3) hmo hss_ (by first | assumption | omega | decide)) (my_cwV hts ok_X11_ofTrial w_532 rfl rfl ⟨Nat.le_of_ble_eq_true rfl, Nat.le_of_ble_eq_true rfl⟩) ⟨bP.blind, va_recv hG.1 hP (ci := 10) (q0 := 315) rfl (wl_at (by decide) hmo), fun U hU hW => ⟨rfl, by rw [hU]; exact hP, kG.warm hW hG⟩⟩ rfl rfl hl.1 rfl (lv_room (Nat.le_of_ble_eq_true rfl)) dX11_meets_59 ⟨Nat.le_of_ble_eq_true rfl, Nat.le_of_ble_eq_true rfl⟩) (fun r hr9 => ?_)
                  subst hr9
                  refine my_bei (v := ss (i + 10 * t + 1549)) (congrArg ss (show 10 * t + (i + 3) + 1546 = i + 10 * t + 1549 by omega)) ?_
                  refine lv_iconst (v := (-1)) hx hb dX11_meets_62 (by decide) ?_
                  refine lv_icmp_eq (tgt := 91) hx hb dX11_meets_63 (by decide) (fun c_63 => ?_) (fun c_63 => ?_)
                  · refine lv_iconst (v := 0) hx hb dX11_meets_91 (by decide) ?_
                    refine my_bei (v := b2 (false = true)) ((b2_f (by decide)).symm) ?_
                    refine lv_istore_n (lv' := [(3, .int (b2 (false = true))), (0, .ref (g 315)), (1, .int (nI t)), (2, .int (nI w)), (4, .int (nI i)), (5, .int (nI i2))]) hx hb dX11_meets_92 rfl hl (by decide) rfl (fun ls hl => ?_)
                    refine lv_iinc (v := nI (i2 + 1)) (lv' := [(5, .int (nI (i2 + 1))), (3, .int (b2 (false = true))), (0, .ref (g 315)), (1, .int (nI t)), (2, .int (nI w)), (4, .int (nI i))]) hx hb dX11_meets_93 hl (k := 5) rfl (nI_add i2 1) (by decide) rfl (fun ls hl => ?_)
                    refine lv_goto (tgt := 43) hx hb dX11_meets_96 (by decide) ?_
                    exact ih_2 false (i2 + 1) _ (by omega) (by omega) (lv_sub hl [2, 3, 4, 1, 5, 0] rfl)
                  · refine lv_aload_n hx hb dX11_meets_66 rfl (lv_at hl 0 rfl) ?_
                    refine lv_iload_n hx hb dX11_meets_67 rfl (lv_at hl 1 rfl) ?_
                    refine lv_iconst (v := 3) hx hb dX11_meets_68 (by decide) ?_
                    refine lv_iload hx hb dX11_meets_69 (lv_at hl 4 rfl) ?_
                    refine lv_iadd hx hb dX11_meets_71 ?_
                    refine my_bei (v := nI (i + 3)) ((nI_add 3 i).trans (congrArg nI (show 3 + i = i + 3 by omega))) ?_
                    refine rd_calli (va_runV (As := [.int (nI t), .int (nI (i + 3))]) (rest := []) ⟨hx, hb, hml, hown, hts⟩ (r_ofTrial l G g hg f ab2 be2 sn wn sa ly rdy fd ss t (i + 3) hmo hss_ (by first | assumption | omega | decide)) (my_cwV hts ok_X11_ofTrial w_532 rfl rfl ⟨Nat.le_of_ble_eq_true rfl, Nat.le_of_ble_eq_true rfl⟩) ⟨bP.blind, va_recv hG.1 hP (ci := 10) (q0 := 315) rfl (wl_at (by decide) hmo), fun U hU hW => ⟨rfl, by rw [hU]; exact hP, kG.warm hW hG⟩⟩ rfl rfl hl.1 rfl (lv_room (Nat.le_of_ble_eq_true rfl)) dX11_meets_72 ⟨Nat.le_of_ble_eq_true rfl, Nat.le_of_ble_eq_true rfl⟩) (fun r hr9 => ?_)
                    subst hr9
                    refine my_bei (v := ss (i + 10 * t + 1549)) (congrArg ss (show 10 * t + (i + 3) + 1546 = i + 10 * t + 1549 by omega)) ?_
                    refine lv_aload_n hx hb dX11_meets_75 rfl (lv_at hl 0 rfl) ?_
                    refine lv_iload_n hx hb dX11_meets_76 rfl (lv_at hl 2 rfl) ?_
                    refine lv_iconst (v := 3) hx hb dX11_meets_77 (by decide) ?_
                    refine lv_iload hx hb dX11_meets_78 (lv_at hl 5 rfl) ?_
                    refine lv_iadd hx hb dX11_meets_80 ?_
                    refine my_bei (v := nI (i2 + 3)) ((nI_add 3 i2).trans (congrArg nI (show 3 + i2 = i2 + 3 by omega))) ?_
                    refine rd_calli (va_runV (As := [.int (nI w), .int (nI (i2 + 3))]) (rest := [.int (ss (i + 10 * t + 1549))]) ⟨hx, hb, hml, hown, hts⟩ (r_ofTrial l G g hg f ab2 be2 sn wn sa ly rdy fd ss w (i2 + 3) hmo hss_ (by first | assumption | omega | decide)) (my_cwV hts ok_X11_ofTrial w_532 rfl rfl ⟨Nat.le_of_ble_eq_true rfl, Nat.le_of_ble_eq_true rfl⟩) ⟨bP.blind, va_recv hG.1 hP (ci := 10) (q0 := 315) rfl (wl_at (by decide) hmo), fun U hU hW => ⟨rfl, by rw [hU]; exact hP, kG.warm hW hG⟩⟩ rfl rfl hl.1 rfl (lv_room (Nat.le_of_ble_eq_true rfl)) dX11_meets_81 ⟨Nat.le_of_ble_eq_true rfl, Nat.le_of_ble_eq_true rfl⟩) (fun r hr9 => ?_)
                    subst hr9
                    refine my_bei (v := ss (i2 + 10 * w + 1549)) (congrArg ss (show 10 * w + (i2 + 3) + 1546 = i2 + 10 * w + 1549 by omega)) ?_
                    refine lv_icmp_ne (tgt := 91) hx hb dX11_meets_84 (by decide) (fun c_84 => ?_) (fun c_84 => ?_)
                    · refine lv_iconst (v := 0) hx hb dX11_meets_91 (by decide) ?_
                      refine my_bei (v := b2 (false = true)) ((b2_f (by decide)).symm) ?_
                      refine lv_istore_n (lv' := [(3, .int (b2 (false = true))), (0, .ref (g 315)), (1, .int (nI t)), (2, .int (nI w)), (4, .int (nI i)), (5, .int (nI i2))]) hx hb dX11_meets_92 rfl hl (by decide) rfl (fun ls hl => ?_)
                      refine lv_iinc (v := nI (i2 + 1)) (lv' := [(5, .int (nI (i2 + 1))), (3, .int (b2 (false = true))), (0, .ref (g 315)), (1, .int (nI t)), (2, .int (nI w)), (4, .int (nI i))]) hx hb dX11_meets_93 hl (k := 5) rfl (nI_add i2 1) (by decide) rfl (fun ls hl => ?_)
                      refine lv_goto (tgt := 43) hx hb dX11_meets_96 (by decide) ?_
                      exact ih_2 false (i2 + 1) _ (by omega) (by omega) (lv_sub hl [2, 3, 4, 1, 5, 0] rfl)
                    · refine lv_iconst (v := 1) hx hb dX11_meets_87 (by decide) ?_
                      refine my_bei (v := b2 (true = true)) ((b2_t rfl).symm) ?_
                      refine lv_goto (tgt := 92) hx hb dX11_meets_88 (by decide) ?_
                      refine lv_istore_n (lv' := [(3, .int (b2 (true = true))), (0, .ref (g 315)), (1, .int (nI t)), (2, .int (nI w)), (4, .int (nI i)), (5, .int (nI i2))]) hx hb dX11_meets_92 rfl hl (by decide) rfl (fun ls hl => ?_)
                      refine lv_iinc (v := nI (i2 + 1)) (lv' := [(5, .int (nI (i2 + 1))), (3, .int (b2 (true = true))), (0, .ref (g 315)), (1, .int (nI t)), (2, .int (nI w)), (4, .int (nI i))]) hx hb dX11_meets_93 hl (k := 5) rfl (nI_add i2 1) (by decide) rfl (fun ls hl => ?_)
                      refine lv_goto (tgt := 43) hx hb dX11_meets_96 (by decide) ?_
                      exact ih_2 true (i2 + 1) _ (by omega) (by omega) (lv_sub hl [2, 3, 4, 1, 5, 0] rfl)
          exact key2 (2 + 1) b1 0 _ (by omega) (by omega) (lv_sub hl [1, 2, 3, 4, 5, 0] rfl)
    exact key1 (2 + 1) false 0 _ (by omega) (by omega) (lv_sub hl [2, 3, 4, 1, 0] rfl)
  · refine lv_aload_n hx hb dX11_meets_10 rfl (lv_at hl 0 rfl) ?_
    refine lv_iload_n hx hb dX11_meets_11 rfl (lv_at hl 1 rfl) ?_
    refine lv_iconst (v := 5) hx hb dX11_meets_12 (by decide) ?_
    refine rd_calli (va_runV (As := [.int (nI t), .int 5]) (rest := []) ⟨hx, hb, hml, hown, hts⟩ (r_ofTrial l G g hg f ab2 be2 sn wn sa ly rdy fd ss t 5 hmo hss_ (by first | assumption | omega | decide)) (my_cwV hts ok_X11_ofTrial w_532 rfl rfl ⟨Nat.le_of_ble_eq_true rfl, Nat.le_of_ble_eq_true rfl⟩) ⟨bP.blind, va_recv hG.1 hP (ci := 10) (q0 := 315) rfl (wl_at (by decide) hmo), fun U hU hW => ⟨rfl, by rw [hU]; exact hP, kG.warm hW hG⟩⟩ rfl rfl hl.1 rfl (lv_room (Nat.le_of_ble_eq_true rfl)) dX11_meets_13 ⟨Nat.le_of_ble_eq_true rfl, Nat.le_of_ble_eq_true rfl⟩) (fun r hr9 => ?_)
    subst hr9
    refine my_bei (v := ss (10 * t + 1551)) (congrArg ss (show 10 * t + 5 + 1546 = 10 * t + 1551 by omega)) ?_
    refine lv_aload_n hx hb dX11_meets_16 rfl (lv_at hl 0 rfl) ?_
    refine lv_iload_n hx hb dX11_meets_17 rfl (lv_at hl 2 rfl) ?_
    refine lv_iconst (v := 5) hx hb dX11_meets_18 (by decide) ?_
    refine rd_calli (va_runV (As := [.int (nI w), .int 5]) (rest := [.int (ss (10 * t + 1551))]) ⟨hx, hb, hml, hown, hts⟩ (r_ofTrial l G g hg f ab2 be2 sn wn sa ly rdy fd ss w 5 hmo hss_ (by first | assumption | omega | decide)) (my_cwV hts ok_X11_ofTrial w_532 rfl rfl ⟨Nat.le_of_ble_eq_true rfl, Nat.le_of_ble_eq_true rfl⟩) ⟨bP.blind, va_recv hG.1 hP (ci := 10) (q0 := 315) rfl (wl_at (by decide) hmo), fun U hU hW => ⟨rfl, by rw [hU]; exact hP, kG.warm hW hG⟩⟩ rfl rfl hl.1 rfl (lv_room (Nat.le_of_ble_eq_true rfl)) dX11_meets_19 ⟨Nat.le_of_ble_eq_true rfl, Nat.le_of_ble_eq_true rfl⟩) (fun r hr9 => ?_)
    subst hr9
    refine my_bei (v := ss (10 * w + 1551)) (congrArg ss (show 10 * w + 5 + 1546 = 10 * w + 1551 by omega)) ?_
    refine lv_icmp_ne (tgt := 29) hx hb dX11_meets_22 (by decide) (fun c_22 => ?_) (fun c_22 => ?_)
    · refine lv_iconst (v := 0) hx hb dX11_meets_29 (by decide) ?_
      refine my_bei (v := b2 (false = true)) ((b2_f (by decide)).symm) ?_
      refine lv_istore_n (lv' := [(3, .int (b2 (false = true))), (0, .ref (g 315)), (1, .int (nI t)), (2, .int (nI w))]) hx hb dX11_meets_30 rfl hl (by decide) rfl (fun ls hl => ?_)
      refine lv_iconst (v := 0) hx hb dX11_meets_31 (by decide) ?_
      refine lv_istore (lv' := [(4, .int 0), (3, .int (b2 (false = true))), (0, .ref (g 315)), (1, .int (nI t)), (2, .int (nI w))]) hx hb dX11_meets_32 hl (by decide) rfl (fun ls hl => ?_)
      have key3 : ∀ (n9_3 : Nat) (b1 : Bool) (i : Nat) (ls : Array Slot), (i ≤ 2) → 2 - i < n9_3 → lv_has ls 6 [(0, .ref (g 315)), (1, .int (nI t)), (2, .int (nI w)), (3, .int (b2 (b1 = true))), (4, .int (nI i))] → W p l e (headSpec (wsT yX11_meets cX11_meets 6 (some .boolean)) ({ frames := 1, cells := 0, slots := 0, locals := 22 })).room s m ([.ref (g 315), .int (nI t), .int (nI w)] : List Value).toArray below meth c s.heap [] 0 0 (MQ below (rQi (fun z9 => ∃ bz : Bool, z9 = b2 (bz = true))) ([.ref (g 315), .int (nI t), .int (nI w)] : List Value).toArray s 0 0 fr0) (F0 m 34 ls []) := by
        intro n9_3
        induction n9_3 with
        | zero => intro b1 i ls hi hn9_3; exact absurd hn9_3 (Nat.not_lt_zero _)
        | succ n9_3 ih_3 =>
          intro b1 i ls hi hn9_3 hl
          refine lv_iload hx hb dX11_meets_34 (lv_at hl 4 rfl) ?_
          refine lv_iconst (v := 2) hx hb dX11_meets_36 (by decide) ?_
          refine lv_icmp_ge (tgt := 105) hx hb dX11_meets_37 (by decide) (fun c_37 => ?_) (fun c_37 => ?_)
          · have k_37 : 2 ≤ i := (nI_leI (a := 2) (b := i) (by omega) (by omega)).mp c_37
            refine lv_iload_n hx hb dX11_meets_105 rfl (lv_at hl 3 rfl) ?_
            exact W.zret (v := b2 (b1 = true)) hx hb hr (b2_nar) (fun t ht hW => ⟨_, rfl, (⟨b1, rfl⟩), ht⟩) (fun _ h => absurd h List.not_mem_nil) dX11_meets_106
          · have k_37 : ¬ 2 ≤ i := fun z9 => c_37 ((nI_leI (a := 2) (b := i) (by omega) (by omega)).mpr z9)
            refine lv_iconst (v := 0) hx hb dX11_meets_40 (by decide) ?_
            refine lv_istore (lv' := [(5, .int 0), (0, .ref (g 315)), (1, .int (nI t)), (2, .int (nI w)), (3, .int (b2 (b1 = true))), (4, .int (nI i))]) hx hb dX11_meets_41 hl (by decide) rfl (fun ls hl => ?_)
            have key4 : ∀ (n9_4 : Nat) (b2_ : Bool) (i2 : Nat) (ls : Array Slot), (i2 ≤ 2) → 2 - i2 < n9_4 → lv_has ls 6 [(0, .ref (g 315)), (1, .int (nI t)), (2, .int (nI w)), (3, .int (b2 (b2_ = true))), (4, .int (nI i)), (5, .int (nI i2))] → W p l e (headSpec (wsT yX11_meets cX11_meets 6 (some .boolean)) ({ frames := 1, cells := 0, slots := 0, locals := 22 })).room s m ([.ref (g 315), .int (nI t), .int (nI w)] : List Value).toArray below meth c s.heap [] 0 0 (MQ below (rQi (fun z9 => ∃ bz : Bool, z9 = b2 (bz = true))) ([.ref (g 315), .int (nI t), .int (nI w)] : List Value).toArray s 0 0 fr0) (F0 m 43 ls []) := by
              intro n9_4
              induction n9_4 with
              | zero => intro b2_ i2 ls hi2 hn9_4; exact absurd hn9_4 (Nat.not_lt_zero _)
              | succ n9_4 ih_4 =>
                intro b2_ i2 ls hi2 hn9_4 hl
                refine lv_iload hx hb dX11_meets_43 (lv_at hl 5 rfl) ?_
                refine lv_iconst (v := 2) hx hb dX11_meets_45 (by decide) ?_
                refine lv_icmp_ge (tgt := 99) hx hb dX11_meets_46 (by decide) (fun c_46 => ?_) (fun c_46 => ?_)
                · have k_46 : 2 ≤ i2 := (nI_leI (a := 2) (b := i2) (by omega) (by omega)).mp c_46
                  refine lv_iinc (v := nI (i + 1)) (lv' := [(4, .int (nI (i + 1))), (0, .ref (g 315)), (1, .int (nI t)), (2, .int (nI w)), (3, .int (b2 (b2_ = true))), (5, .int (nI i2))]) hx hb dX11_meets_99 hl (k := 4) rfl (nI_add i 1) (by decide) rfl (fun ls hl => ?_)
                  refine lv_goto (tgt := 34) hx hb dX11_meets_102 (by decide) ?_
                  exact ih_3 b2_ (i + 1) _ (by omega) (by omega) (lv_sub hl [1, 2, 3, 4, 0] rfl)
                · have k_46 : ¬ 2 ≤ i2 := fun z9 => c_46 ((nI_leI (a := 2) (b := i2) (by omega) (by omega)).mpr z9)
                  refine lv_iload_n hx hb dX11_meets_49 rfl (lv_at hl 3 rfl) ?_
                  refine my_ifne (tgt := 87) hx hb dX11_meets_50 (by decide) (fun c_50 => ?_) (fun c_50 => ?_)
                  · refine lv_iconst (v := 1) hx hb dX11_meets_87 (by decide) ?_
                    refine my_bei (v := b2 (true = true)) ((b2_t rfl).symm) ?_
                    refine lv_goto (tgt := 92) hx hb dX11_meets_88 (by decide) ?_
                    refine lv_istore_n (lv' := [(3, .int (b2 (true = true))), (0, .ref (g 315)), (1, .int (nI t)), (2, .int (nI w)), (4, .int (nI i)), (5, .int (nI i2))]) hx hb dX11_meets_92 rfl hl (by decide) rfl (fun ls hl => ?_)
                    refine lv_iinc (v := nI (i2 + 1)) (lv' := [(5, .int (nI (i2 + 1))), (3, .int (b2 (true = true))), (0, .ref (g 315)), (1, .int (nI t)), (2, .int (nI w)), (4, .int (nI i))]) hx hb dX11_meets_93 hl (k := 5) rfl (nI_add i2 1) (by decide) rfl (fun ls hl => ?_)
                    refine lv_goto (tgt := 43) hx hb dX11_meets_96 (by decide) ?_
                    exact ih_4 true (i2 + 1) _ (by omega) (by omega) (lv_sub hl [2, 3, 4, 1, 5, 0] rfl)
                  · refine lv_aload_n hx hb dX11_meets_53 rfl (lv_at hl 0 rfl) ?_
                    refine lv_iload_n hx hb dX11_meets_54 rfl (lv_at hl 1 rfl) ?_
                    refine lv_iconst (v := 3) hx hb dX11_meets_55 (by decide) ?_
                    refine lv_iload hx hb dX11_meets_56 (lv_at hl 4 rfl) ?_
                    refine lv_iadd hx hb dX11_meets_58 ?_
                    refine my_bei (v := nI (i + 3)) ((nI_add 3 i).trans (congrArg nI (show 3 + i = i + 3 by omega))) ?_
                    refine rd_calli (va_runV (As := [.int (nI t), .int (nI (i + 3))]) (rest := []) ⟨hx, hb, hml, hown, hts⟩ (r_ofTrial l G g hg f ab2 be2 sn wn sa ly rdy fd ss t (i + 3) hmo hss_ (by first | assumption | omega | decide)) (my_cwV hts ok_X11_ofTrial w_532 rfl rfl ⟨Nat.le_of_ble_eq_true rfl, Nat.le_of_ble_eq_true rfl⟩) ⟨bP.blind, va_recv hG.1 hP (ci := 10) (q0 := 315) rfl (wl_at (by decide) hmo), fun U hU hW => ⟨rfl, by rw [hU]; exact hP, kG.warm hW hG⟩⟩ rfl rfl hl.1 rfl (lv_room (Nat.le_of_ble_eq_true rfl)) dX11_meets_59 ⟨Nat.le_of_ble_eq_true rfl, Nat.le_of_ble_eq_true rfl⟩) (fun r hr9 => ?_)
                    subst hr9
                    refine my_bei (v := ss (i + 10 * t + 1549)) (congrArg ss (show 10 * t + (i + 3) + 1546 = i + 10 * t + 1549 by omega)) ?_
                    refine lv_iconst (v := (-1)) hx hb dX11_meets_62 (by decide) ?_
                    refine lv_icmp_eq (tgt := 91) hx hb dX11_meets_63 (by decide) (fun c_63 => ?_) (fun c_63 => ?_)
                    · refine lv_iconst (v := 0) hx hb dX11_meets_91 (by decide) ?_
                      refine my_bei (v := b2 (false = true)) ((b2_f (by decide)).symm) ?_
                      refine lv_istore_n (lv' := [(3, .int (b2 (false = true))), (0, .ref (g 315)), (1, .int (nI t)), (2, .int (nI w)), (4, .int (nI i)), (5, .int (nI i2))]) hx hb dX11_meets_92 rfl hl (by decide) rfl (fun ls hl => ?_)
                      refine lv_iinc (v := nI (i2 + 1)) (lv' := [(5, .int (nI (i2 + 1))), (3, .int (b2 (false = true))), (0, .ref (g 315)), (1, .int (nI t)), (2, .int (nI w)), (4, .int (nI i))]) hx hb dX11_meets_93 hl (k := 5) rfl (nI_add i2 1) (by decide) rfl (fun ls hl => ?_)
                      refine lv_goto (tgt := 43) hx hb dX11_meets_96 (by decide) ?_
                      exact ih_4 false (i2 + 1) _ (by omega) (by omega) (lv_sub hl [2, 3, 4, 1, 5, 0] rfl)
                    · refine lv_aload_n hx hb dX11_meets_66 rfl (lv_at hl 0 rfl) ?_
                      refine lv_iload_n hx hb dX11_meets_67 rfl (lv_at hl 1 rfl) ?_
                      refine lv_iconst (v := 3) hx hb dX11_meets_68 (by decide) ?_
                      refine lv_iload hx hb dX11_meets_69 (lv_at hl 4 rfl) ?_
                      refine lv_iadd hx hb dX11_meets_71 ?_
                      refine my_bei (v := nI (i + 3)) ((nI_add 3 i).trans (congrArg nI (show 3 + i = i + 3 by omega))) ?_
                      refine rd_calli (va_runV (As := [.int (nI t), .int (nI (i + 3))]) (rest := []) ⟨hx, hb, hml, hown, hts⟩ (r_ofTrial l G g hg f ab2 be2 sn wn sa ly rdy fd ss t (i + 3) hmo hss_ (by first | assumption | omega | decide)) (my_cwV hts ok_X11_ofTrial w_532 rfl rfl ⟨Nat.le_of_ble_eq_true rfl, Nat.le_of_ble_eq_true rfl⟩) ⟨bP.blind, va_recv hG.1 hP (ci := 10) (q0 := 315) rfl (wl_at (by decide) hmo), fun U hU hW => ⟨rfl, by rw [hU]; exact hP, kG.warm hW hG⟩⟩ rfl rfl hl.1 rfl (lv_room (Nat.le_of_ble_eq_true rfl)) dX11_meets_72 ⟨Nat.le_of_ble_eq_true rfl, Nat.le_of_ble_eq_true rfl⟩) (fun r hr9 => ?_)
                      subst hr9
                      refine my_bei (v := ss (i + 10 * t + 1549)) (congrArg ss (show 10 * t + (i + 3) + 1546 = i + 10 * t + 1549 by omega)) ?_
                      refine lv_aload_n hx hb dX11_meets_75 rfl (lv_at hl 0 rfl) ?_
                      refine lv_iload_n hx hb dX11_meets_76 rfl (lv_at hl 2 rfl) ?_
                      refine lv_iconst (v := 3) hx hb dX11_meets_77 (by decide) ?_
                      refine lv_iload hx hb dX11_meets_78 (lv_at hl 5 rfl) ?_
                      refine lv_iadd hx hb dX11_meets_80 ?_
                      refine my_bei (v := nI (i2 + 3)) ((nI_add 3 i2).trans (congrArg nI (show 3 + i2 = i2 + 3 by omega))) ?_
                      refine rd_calli (va_runV (As := [.int (nI w), .int (nI (i2 + 3))]) (rest := [.int (ss (i + 10 * t + 1549))]) ⟨hx, hb, hml, hown, hts⟩ (r_ofTrial l G g hg f ab2 be2 sn wn sa ly rdy fd ss w (i2 + 3) hmo hss_ (by first | assumption | omega | decide)) (my_cwV hts ok_X11_ofTrial w_532 rfl rfl ⟨Nat.le_of_ble_eq_true rfl, Nat.le_of_ble_eq_true rfl⟩) ⟨bP.blind, va_recv hG.1 hP (ci := 10) (q0 := 315) rfl (wl_at (by decide) hmo), fun U hU hW => ⟨rfl, by rw [hU]; exact hP, kG.warm hW hG⟩⟩ rfl rfl hl.1 rfl (lv_room (Nat.le_of_ble_eq_true rfl)) dX11_meets_81 ⟨Nat.le_of_ble_eq_true rfl, Nat.le_of_ble_eq_true rfl⟩) (fun r hr9 => ?_)
                      subst hr9
                      refine my_bei (v := ss (i2 + 10 * w + 1549)) (congrArg ss (show 10 * w + (i2 + 3) + 1546 = i2 + 10 * w + 1549 by omega)) ?_
                      refine lv_icmp_ne (tgt := 91) hx hb dX11_meets_84 (by decide) (fun c_84 => ?_) (fun c_84 => ?_)
                      · refine lv_iconst (v := 0) hx hb dX11_meets_91 (by decide) ?_
                        refine my_bei (v := b2 (false = true)) ((b2_f (by decide)).symm) ?_
                        refine lv_istore_n (lv' := [(3, .int (b2 (false = true))), (0, .ref (g 315)), (1, .int (nI t)), (2, .int (nI w)), (4, .int (nI i)), (5, .int (nI i2))]) hx hb dX11_meets_92 rfl hl (by decide) rfl (fun ls hl => ?_)
                        refine lv_iinc (v := nI (i2 + 1)) (lv' := [(5, .int (nI (i2 + 1))), (3, .int (b2 (false = true))), (0, .ref (g 315)), (1, .int (nI t)), (2, .int (nI w)), (4, .int (nI i))]) hx hb dX11_meets_93 hl (k := 5) rfl (nI_add i2 1) (by decide) rfl (fun ls hl => ?_)
                        refine lv_goto (tgt := 43) hx hb dX11_meets_96 (by decide) ?_
                        exact ih_4 false (i2 + 1) _ (by omega) (by omega) (lv_sub hl [2, 3, 4, 1, 5, 0] rfl)
                      · refine lv_iconst (v := 1) hx hb dX11_meets_87 (by decide) ?_
                        refine my_bei (v := b2 (true = true)) ((b2_t rfl).symm) ?_
                        refine lv_goto (tgt := 92) hx hb dX11_meets_88 (by decide) ?_
                        refine lv_istore_n (lv' := [(3, .int (b2 (true = true))), (0, .ref (g 315)), (1, .int (nI t)), (2, .int (nI w)), (4, .int (nI i)), (5, .int (nI i2))]) hx hb dX11_meets_92 rfl hl (by decide) rfl (fun ls hl => ?_)
                        refine lv_iinc (v := nI (i2 + 1)) (lv' := [(5, .int (nI (i2 + 1))), (3, .int (b2 (true = true))), (0, .ref (g 315)), (1, .int (nI t)), (2, .int (nI w)), (4, .int (nI i))]) hx hb dX11_meets_93 hl (k := 5) rfl (nI_add i2 1) (by decide) rfl (fun ls hl => ?_)
                        refine lv_goto (tgt := 43) hx hb dX11_meets_96 (by decide) ?_
                        exact ih_4 true (i2 + 1) _ (by omega) (by omega) (lv_sub hl [2, 3, 4, 1, 5, 0] rfl)
            exact key4 (2 + 1) b1 0 _ (by omega) (by omega) (lv_sub hl [1, 2, 3, 4, 5, 0] rfl)
      exact key3 (2 + 1) false 0 _ (by omega) (by omega) (lv_sub hl [2, 3, 4, 1, 0] rfl)
    · refine lv_iconst (v := 1) hx hb dX11_meets_25 (by decide) ?_
      refine my_bei (v := b2 (true = true)) ((b2_t rfl).symm) ?_
      refine lv_goto (tgt := 30) hx hb dX11_meets_26 (by decide) ?_
      refine lv_istore_n (lv' := [(3, .int (b2 (true = true))), (0, .ref (g 315)), (1, .int (nI t)), (2, .int (nI w))]) hx hb dX11_meets_30 rfl hl (by decide) rfl (fun ls hl => ?_)
      refine lv_iconst (v := 0) hx hb dX11_meets_31 (by decide) ?_
      refine lv_istore (lv' := [(4, .int 0), (3, .int (b2 (true = true))), (0, .ref (g 315)), (1, .int (nI t)), (2, .int (nI w))]) hx hb dX11_meets_32 hl (by decide) rfl (fun ls hl => ?_)
      have key5 : ∀ (n9_5 : Nat) (b1 : Bool) (i : Nat) (ls : Array Slot), (i ≤ 2) → 2 - i < n9_5 → lv_has ls 6 [(0, .ref (g 315)), (1, .int (nI t)), (2, .int (nI w)), (3, .int (b2 (b1 = true))), (4, .int (nI i))] → W p l e (headSpec (wsT yX11_meets cX11_meets 6 (some .boolean)) ({ frames := 1, cells := 0, slots := 0, locals := 22 })).room s m ([.ref (g 315), .int (nI t), .int (nI w)] : List Value).toArray below meth c s.heap [] 0 0 (MQ below (rQi (fun z9 => ∃ bz : Bool, z9 = b2 (bz = true))) ([.ref (g 315), .int (nI t), .int (nI w)] : List Value).toArray s 0 0 fr0) (F0 m 34 ls []) := by
        intro n9_5
        induction n9_5 with
        | zero => intro b1 i ls hi hn9_5; exact absurd hn9_5 (Nat.not_lt_zero _)
        | succ n9_5 ih_5 =>
          intro b1 i ls hi hn9_5 hl
          refine lv_iload hx hb dX11_meets_34 (lv_at hl 4 rfl) ?_
          refine lv_iconst (v := 2) hx hb dX11_meets_36 (by decide) ?_
          refine lv_icmp_ge (tgt := 105) hx hb dX11_meets_37 (by decide) (fun c_37 => ?_) (fun c_37 => ?_)
          · have k_37 : 2 ≤ i := (nI_leI (a := 2) (b := i) (by omega) (by omega)).mp c_37
            refine lv_iload_n hx hb dX11_meets_105 rfl (lv_at hl 3 rfl) ?_
            exact W.zret (v := b2 (b1 = true)) hx hb hr (b2_nar) (fun t ht hW => ⟨_, rfl, (⟨b1, rfl⟩), ht⟩) (fun _ h => absurd h List.not_mem_nil) dX11_meets_106
          · have k_37 : ¬ 2 ≤ i := fun z9 => c_37 ((nI_leI (a := 2) (b := i) (by omega) (by omega)).mpr z9)
            refine lv_iconst (v := 0) hx hb dX11_meets_40 (by decide) ?_
            refine lv_istore (lv' := [(5, .int 0), (0, .ref (g 315)), (1, .int (nI t)), (2, .int (nI w)), (3, .int (b2 (b1 = true))), (4, .int (nI i))]) hx hb dX11_meets_41 hl (by decide) rfl (fun ls hl => ?_)
            have key6 : ∀ (n9_6 : Nat) (b2_ : Bool) (i2 : Nat) (ls : Array Slot), (i2 ≤ 2) → 2 - i2 < n9_6 → lv_has ls 6 [(0, .ref (g 315)), (1, .int (nI t)), (2, .int (nI w)), (3, .int (b2 (b2_ = true))), (4, .int (nI i)), (5, .int (nI i2))] → W p l e (headSpec (wsT yX11_meets cX11_meets 6 (some .boolean)) ({ frames := 1, cells := 0, slots := 0, locals := 22 })).room s m ([.ref (g 315), .int (nI t), .int (nI w)] : List Value).toArray below meth c s.heap [] 0 0 (MQ below (rQi (fun z9 => ∃ bz : Bool, z9 = b2 (bz = true))) ([.ref (g 315), .int (nI t), .int (nI w)] : List Value).toArray s 0 0 fr0) (F0 m 43 ls []) := by
              intro n9_6
              induction n9_6 with
              | zero => intro b2_ i2 ls hi2 hn9_6; exact absurd hn9_6 (Nat.not_lt_zero _)
              | succ n9_6 ih_6 =>
                intro b2_ i2 ls hi2 hn9_6 hl
                refine lv_iload hx hb dX11_meets_43 (lv_at hl 5 rfl) ?_
                refine lv_iconst (v := 2) hx hb dX11_meets_45 (by decide) ?_
                refine lv_icmp_ge (tgt := 99) hx hb dX11_meets_46 (by decide) (fun c_46 => ?_) (fun c_46 => ?_)
                · have k_46 : 2 ≤ i2 := (nI_leI (a := 2) (b := i2) (by omega) (by omega)).mp c_46
                  refine lv_iinc (v := nI (i + 1)) (lv' := [(4, .int (nI (i + 1))), (0, .ref (g 315)), (1, .int (nI t)), (2, .int (nI w)), (3, .int (b2 (b2_ = true))), (5, .int (nI i2))]) hx hb dX11_meets_99 hl (k := 4) rfl (nI_add i 1) (by decide) rfl (fun ls hl => ?_)
                  refine lv_goto (tgt := 34) hx hb dX11_meets_102 (by decide) ?_
                  exact ih_5 b2_ (i + 1) _ (by omega) (by omega) (lv_sub hl [1, 2, 3, 4, 0] rfl)
                · have k_46 : ¬ 2 ≤ i2 := fun z9 => c_46 ((nI_leI (a := 2) (b := i2) (by omega) (by omega)).mpr z9)
                  refine lv_iload_n hx hb dX11_meets_49 rfl (lv_at hl 3 rfl) ?_
                  refine my_ifne (tgt := 87) hx hb dX11_meets_50 (by decide) (fun c_50 => ?_) (fun c_50 => ?_)
                  · refine lv_iconst (v := 1) hx hb dX11_meets_87 (by decide) ?_
                    refine my_bei (v := b2 (true = true)) ((b2_t rfl).symm) ?_
                    refine lv_goto (tgt := 92) hx hb dX11_meets_88 (by decide) ?_
                    refine lv_istore_n (lv' := [(3, .int (b2 (true = true))), (0, .ref (g 315)), (1, .int (nI t)), (2, .int (nI w)), (4, .int (nI i)), (5, .int (nI i2))]) hx hb dX11_meets_92 rfl hl (by decide) rfl (fun ls hl => ?_)
                    refine lv_iinc (v := nI (i2 + 1)) (lv' := [(5, .int (nI (i2 + 1))), (3, .int (b2 (true = true))), (0, .ref (g 315)), (1, .int (nI t)), (2, .int (nI w)), (4, .int (nI i))]) hx hb dX11_meets_93 hl (k := 5) rfl (nI_add i2 1) (by decide) rfl (fun ls hl => ?_)
                    refine lv_goto (tgt := 43) hx hb dX11_meets_96 (by decide) ?_
                    exact ih_6 true (i2 + 1) _ (by omega) (by omega) (lv_sub hl [2, 3, 4, 1, 5, 0] rfl)
                  · refine lv_aload_n hx hb dX11_meets_53 rfl (lv_at hl 0 rfl) ?_
                    refine lv_iload_n hx hb dX11_meets_54 rfl (lv_at hl 1 rfl) ?_
                    refine lv_iconst (v := 3) hx hb dX11_meets_55 (by decide) ?_
                    refine lv_iload hx hb dX11_meets_56 (lv_at hl 4 rfl) ?_
                    refine lv_iadd hx hb dX11_meets_58 ?_
                    refine my_bei (v := nI (i + 3)) ((nI_add 3 i).trans (congrArg nI (show 3 + i = i + 3 by omega))) ?_
                    refine rd_calli (va_runV (As := [.int (nI t), .int (nI (i + 3))]) (rest := []) ⟨hx, hb, hml, hown, hts⟩ (r_ofTrial l G g hg f ab2 be2 sn wn sa ly rdy fd ss t (i + 3) hmo hss_ (by first | assumption | omega | decide)) (my_cwV hts ok_X11_ofTrial w_532 rfl rfl ⟨Nat.le_of_ble_eq_true rfl, Nat.le_of_ble_eq_true rfl⟩) ⟨bP.blind, va_recv hG.1 hP (ci := 10) (q0 := 315) rfl (wl_at (by decide) hmo), fun U hU hW => ⟨rfl, by rw [hU]; exact hP, kG.warm hW hG⟩⟩ rfl rfl hl.1 rfl (lv_room (Nat.le_of_ble_eq_true rfl)) dX11_meets_59 ⟨Nat.le_of_ble_eq_true rfl, Nat.le_of_ble_eq_true rfl⟩) (fun r hr9 => ?_)
                    subst hr9
                    refine my_bei (v := ss (i + 10 * t + 1549)) (congrArg ss (show 10 * t + (i + 3) + 1546 = i + 10 * t + 1549 by omega)) ?_
                    refine lv_iconst (v := (-1)) hx hb dX11_meets_62 (by decide) ?_
                    refine lv_icmp_eq (tgt := 91) hx hb dX11_meets_63 (by decide) (fun c_63 => ?_) (fun c_63 => ?_)
                    · refine lv_iconst (v := 0) hx hb dX11_meets_91 (by decide) ?_
                      refine my_bei (v := b2 (false = true)) ((b2_f (by decide)).symm) ?_
                      refine lv_istore_n (lv' := [(3, .int (b2 (false = true))), (0, .ref (g 315)), (1, .int (nI t)), (2, .int (nI w)), (4, .int (nI i)), (5, .int (nI i2))]) hx hb dX11_meets_92 rfl hl (by decide) rfl (fun ls hl => ?_)
                      refine lv_iinc (v := nI (i2 + 1)) (lv' := [(5, .int (nI (i2 + 1))), (3, .int (b2 (false = true))), (0, .ref (g 315)), (1, .int (nI t)), (2, .int (nI w)), (4, .int (nI i))]) hx hb dX11_meets_93 hl (k := 5) rfl (nI_add i2 1) (by decide) rfl (fun ls hl => ?_)
                      refine lv_goto (tgt := 43) hx hb dX11_meets_96 (by decide) ?_
                      exact ih_6 false (i2 + 1) _ (by omega) (by omega) (lv_sub hl [2, 3, 4, 1, 5, 0] rfl)
                    · refine lv_aload_n hx hb dX11_meets_66 rfl (lv_at hl 0 rfl) ?_
                      refine lv_iload_n hx hb dX11_meets_67 rfl (lv_at hl 1 rfl) ?_
                      refine lv_iconst (v := 3) hx hb dX11_meets_68 (by decide) ?_
                      refine lv_iload hx hb dX11_meets_69 (lv_at hl 4 rfl) ?_
                      refine lv_iadd hx hb dX11_meets_71 ?_
                      refine my_bei (v := nI (i + 3)) ((nI_add 3 i).trans (congrArg nI (show 3 + i = i + 3 by omega))) ?_
                      refine rd_calli (va_runV (As := [.int (nI t), .int (nI (i + 3))]) (rest := []) ⟨hx, hb, hml, hown, hts⟩ (r_ofTrial l G g hg f ab2 be2 sn wn sa ly rdy fd ss t (i + 3) hmo hss_ (by first | assumption | omega | decide)) (my_cwV hts ok_X11_ofTrial w_532 rfl rfl ⟨Nat.le_of_ble_eq_true rfl, Nat.le_of_ble_eq_true rfl⟩) ⟨bP.blind, va_recv hG.1 hP (ci := 10) (q0 := 315) rfl (wl_at (by decide) hmo), fun U hU hW => ⟨rfl, by rw [hU]; exact hP, kG.warm hW hG⟩⟩ rfl rfl hl.1 rfl (lv_room (Nat.le_of_ble_eq_true rfl)) dX11_meets_72 ⟨Nat.le_of_ble_eq_true rfl, Nat.le_of_ble_eq_true rfl⟩) (fun r hr9 => ?_)
                      subst hr9
                      refine my_bei (v := ss (i + 10 * t + 1549)) (congrArg ss (show 10 * t + (i + 3) + 1546 = i + 10 * t + 1549 by omega)) ?_
                      refine lv_aload_n hx hb dX11_meets_75 rfl (lv_at hl 0 rfl) ?_
                      refine lv_iload_n hx hb dX11_meets_76 rfl (lv_at hl 2 rfl) ?_
                      refine lv_iconst (v := 3) hx hb dX11_meets_77 (by decide) ?_
                      refine lv_iload hx hb dX11_meets_78 (lv_at hl 5 rfl) ?_
                      refine lv_iadd hx hb dX11_meets_80 ?_
                      refine my_bei (v := nI (i2 + 3)) ((nI_add 3 i2).trans (congrArg nI (show 3 + i2 = i2 + 3 by omega))) ?_
                      refine rd_calli (va_runV (As := [.int (nI w), .int (nI (i2 + 3))]) (rest := [.int (ss (i + 10 * t + 1549))]) ⟨hx, hb, hml, hown, hts⟩ (r_ofTrial l G g hg f ab2 be2 sn wn sa ly rdy fd ss w (i2 + 3) hmo hss_ (by first | assumption | omega | decide)) (my_cwV hts ok_X11_ofTrial w_532 rfl rfl ⟨Nat.le_of_ble_eq_true rfl, Nat.le_of_ble_eq_true rfl⟩) ⟨bP.blind, va_recv hG.1 hP (ci := 10) (q0 := 315) rfl (wl_at (by decide) hmo), fun U hU hW => ⟨rfl, by rw [hU]; exact hP, kG.warm hW hG⟩⟩ rfl rfl hl.1 rfl (lv_room (Nat.le_of_ble_eq_true rfl)) dX11_meets_81 ⟨Nat.le_of_ble_eq_true rfl, Nat.le_of_ble_eq_true rfl⟩) (fun r hr9 => ?_)
                      subst hr9
                      refine my_bei (v := ss (i2 + 10 * w + 1549)) (congrArg ss (show 10 * w + (i2 + 3) + 1546 = i2 + 10 * w + 1549 by omega)) ?_
                      refine lv_icmp_ne (tgt := 91) hx hb dX11_meets_84 (by decide) (fun c_84 => ?_) (fun c_84 => ?_)
                      · refine lv_iconst (v := 0) hx hb dX11_meets_91 (by decide) ?_
                        refine my_bei (v := b2 (false = true)) ((b2_f (by decide)).symm) ?_
                        refine lv_istore_n (lv' := [(3, .int (b2 (false = true))), (0, .ref (g 315)), (1, .int (nI t)), (2, .int (nI w)), (4, .int (nI i)), (5, .int (nI i2))]) hx hb dX11_meets_92 rfl hl (by decide) rfl (fun ls hl => ?_)
                        refine lv_iinc (v := nI (i2 + 1)) (lv' := [(5, .int (nI (i2 + 1))), (3, .int (b2 (false = true))), (0, .ref (g 315)), (1, .int (nI t)), (2, .int (nI w)), (4, .int (nI i))]) hx hb dX11_meets_93 hl (k := 5) rfl (nI_add i2 1) (by decide) rfl (fun ls hl => ?_)
                        refine lv_goto (tgt := 43) hx hb dX11_meets_96 (by decide) ?_
                        exact ih_6 false (i2 + 1) _ (by omega) (by omega) (lv_sub hl [2, 3, 4, 1, 5, 0] rfl)
                      · refine lv_iconst (v := 1) hx hb dX11_meets_87 (by decide) ?_
                        refine my_bei (v := b2 (true = true)) ((b2_t rfl).symm) ?_
                        refine lv_goto (tgt := 92) hx hb dX11_meets_88 (by decide) ?_
                        refine lv_istore_n (lv' := [(3, .int (b2 (true = true))), (0, .ref (g 315)), (1, .int (nI t)), (2, .int (nI w)), (4, .int (nI i)), (5, .int (nI i2))]) hx hb dX11_meets_92 rfl hl (by decide) rfl (fun ls hl => ?_)
                        refine lv_iinc (v := nI (i2 + 1)) (lv' := [(5, .int (nI (i2 + 1))), (3, .int (b2 (true = true))), (0, .ref (g 315)), (1, .int (nI t)), (2, .int (nI w)), (4, .int (nI i))]) hx hb dX11_meets_93 hl (k := 5) rfl (nI_add i2 1) (by decide) rfl (fun ls hl => ?_)
                        refine lv_goto (tgt := 43) hx hb dX11_meets_96 (by decide) ?_
                        exact ih_6 true (i2 + 1) _ (by omega) (by omega) (lv_sub hl [2, 3, 4, 1, 5, 0] rfl)
            exact key6 (2 + 1) b1 0 _ (by omega) (by omega) (lv_sub hl [1, 2, 3, 4, 5, 0] rfl)
      exact key5 (2 + 1) true 0 _ (by omega) (by omega) (lv_sub hl [2, 3, 4, 1, 0] rfl)
set_option maxHeartbeats 4000000 in
set_option maxRecDepth 100000 in
theorem r_areApart (l : Launch) (G : gW) (g : Nat → Nat) (hg : gOK g) (f : Nat → va_E) (ab2 : Int64) (be2 : Int64) (sn : Int32) (wn : Int32) (sa : Int32) (ly : Int32) (rdy : Int32) (fd : Int32) (ss : Nat → Int32) (wh : Nat → Int32) (w6 : Nat → Int32) (n : Nat) (hmo : f 315 = eO 10 [.ref (g 316), .ref (g 317), .ref (g 318), .long ab2, .long be2, .int sn, .ref (g 319), .ref (g 320), .int wn, .ref (g 321), .ref (g 322), .int sa, .int ly, .int rdy, .int fd, .ref (g 323), .ref (g 324), .ref (g 325), .ref (g 326), .ref (g 327), .ref (g 328), .ref (g 329), .ref (g 330), .ref (g 331), .ref (g 332)]) (hss_ : f 316 = eI G 2246 ss) (hwh_ : f 330 = eI G 6 wh) (hw6_ : f 331 = eI G 6 w6) (hn6 : n ≤ 6) (hwh : ∀ k, k < n → ∃ z, z < 10 ∧ wh k = nI z) : Met l yX11_areApart (wsT yX11_areApart cX11_areApart 7 (some .boolean)) ({ frames := 2, cells := 0, slots := 0, locals := 47 }) (bP G g f [.ref (g 315), .int (nI n)]) (rQi (fun z9 => ∃ bz : Bool, z9 = b2 (bz = true))) 0 0 fr0 := by
  refine Met.ofW (cc := cX11_areApart) (maxL := 7) (ret := (some .boolean)) (by decide) rfl ?_
  intro p e s m args below meth c s₁ B hml hv
  obtain ⟨rfl, hP, hG⟩ := hv
  have hx := B.exec
  have hb := B.bytes
  have hr := B.returns
  have hts := my_hts (atoms_spec (ws := wsT yX11_areApart cX11_areApart 7 (some .boolean)) B.pre)
  have hown : s.vm.findClass RX11 = some m.cls := findClass_of_methodNamed B.named
  have hlocks := B.notSynchronized
  have hl := lv_entry ([.ref (g 315), .int (nI n)]) (n := 7) (Nat.le_of_ble_eq_true rfl)
  rw [lg_entry_eq]
  generalize (lg_sl ([.ref (g 315), .int (nI n)]) ++ List.replicate (7 - (lg_sl ([.ref (g 315), .int (nI n)])).length) Slot.unset).toArray = ls at hl ⊢
  have hl : lv_has ls 7 [(0, .ref (g 315)), (1, .int (nI n))] := hl
  refine lv_iconst (v := 0) hx hb dX11_areApart_0 (by decide) ?_
  refine lv_istore_n (lv' := [(2, .int 0), (0, .ref (g 315)), (1, .int (nI n))]) hx hb dX11_areApart_1 rfl hl (by decide) rfl (fun ls hl => ?_)
  have key1 : ∀ (n9_1 : Nat) (i : Nat) (ls : Array Slot), (i ≤ n) → n - i < n9_1 → lv_has ls 7 [(0, .ref (g 315)), (1, .int (nI n)), (2, .int (nI i))] → W p l e (headSpec (wsT yX11_areApart cX11_areApart 7 (some .boolean)) ({ frames := 2, cells := 0, slots := 0, locals := 47 })).room s m ([.ref (g 315), .int (nI n)] : List Value).toArray below meth c s.heap [] 0 0 (MQ below (rQi (fun z9 => ∃ bz : Bool, z9 = b2 (bz = true))) ([.ref (g 315), .int (nI n)] : List Value).toArray s 0 0 fr0) (F0 m 2 ls []) := by
    intro n9_1
    induction n9_1 with
    | zero => intro i ls hi hn9_1; exact absurd hn9_1 (Nat.not_lt_zero _)
    | succ n9_1 ih_1 =>
      intro i ls hi hn9_1 hl
      refine lv_iload_n hx hb dX11_areApart_2 rfl (lv_at hl 2 rfl) ?_
      refine lv_iload_n hx hb dX11_areApart_3 rfl (lv_at hl 1 rfl) ?_
      refine lv_icmp_ge (tgt := 137) hx hb dX11_areApart_4 (by decide) (fun c_4 => ?_) (fun c_4 => ?_)
      · have k_4 : n ≤ i := (nI_leI (a := n) (b := i) (by omega) (by omega)).mp c_4
        refine lv_iconst (v := 1) hx hb dX11_areApart_137 (by decide) ?_
        exact W.zret (v := 1) hx hb hr (rfl) (fun t ht hW => ⟨_, rfl, (⟨true, (b2_t rfl).symm⟩), ht⟩) (fun _ h => absurd h List.not_mem_nil) dX11_areApart_138
      · have k_4 : ¬ n ≤ i := fun z9 => c_4 ((nI_leI (a := n) (b := i) (by omega) (by omega)).mpr z9)
        refine lv_iconst (v := 0) hx hb dX11_areApart_7 (by decide) ?_
        refine lv_istore_n (lv' := [(3, .int 0), (0, .ref (g 315)), (1, .int (nI n)), (2, .int (nI i))]) hx hb dX11_areApart_8 rfl hl (by decide) rfl (fun ls hl => ?_)
        have key2 : ∀ (n9_2 : Nat) (i2 : Nat) (ls : Array Slot), (i2 ≤ i) → i - i2 < n9_2 → lv_has ls 7 [(0, .ref (g 315)), (1, .int (nI n)), (2, .int (nI i)), (3, .int (nI i2))] → W p l e (headSpec (wsT yX11_areApart cX11_areApart 7 (some .boolean)) ({ frames := 2, cells := 0, slots := 0, locals := 47 })).room s m ([.ref (g 315), .int (nI n)] : List Value).toArray below meth c s.heap [] 0 0 (MQ below (rQi (fun z9 => ∃ bz : Bool, z9 = b2 (bz = true))) ([.ref (g 315), .int (nI n)] : List Value).toArray s 0 0 fr0) (F0 m 9 ls []) := by
          intro n9_2
          induction n9_2 with
          | zero => intro i2 ls hi2 hn9_2; exact absurd hn9_2 (Nat.not_lt_zero _)
          | succ n9_2 ih_2 =>
            intro i2 ls hi2 hn9_2 hl
            refine lv_iload_n hx hb dX11_areApart_9 rfl (lv_at hl 3 rfl) ?_
            refine lv_iload_n hx hb dX11_areApart_10 rfl (lv_at hl 2 rfl) ?_
            refine lv_icmp_ge (tgt := 131) hx hb dX11_areApart_11 (by decide) (fun c_11 => ?_) (fun c_11 => ?_)
            · have k_11 : i ≤ i2 := (nI_leI (a := i) (b := i2) (by omega) (by omega)).mp c_11
              refine lv_iinc (v := nI (i + 1)) (lv' := [(2, .int (nI (i + 1))), (0, .ref (g 315)), (1, .int (nI n)), (3, .int (nI i2))]) hx hb dX11_areApart_131 hl (k := 2) rfl (nI_add i 1) (by decide) rfl (fun ls hl => ?_)
              refine lv_goto (tgt := 2) hx hb dX11_areApart_134 (by decide) ?_
              exact ih_1 (i + 1) _ (by omega) (by omega) (lv_sub hl [1, 2, 0] rfl)
            · have k_11 : ¬ i ≤ i2 := fun z9 => c_11 ((nI_leI (a := i) (b := i2) (by omega) (by omega)).mpr z9)
              refine lv_aload_n hx hb dX11_areApart_14 rfl (lv_at hl 0 rfl) ?_
              refine lv_aload_n hx hb dX11_areApart_15 rfl (lv_at hl 0 rfl) ?_
              refine va_get (D := G.1) (ci := 10) (v := .ref (g 330)) (C := RX11) (T := TX11) (N := 25) hx hb hts inlX11 hown hG.1 hP 315 (wl_at (by decide) hmo) rfl 22 (by decide) (hts (.fieldLink RX11 54 "SwornListsModel" "which" "[I") w_126) (fun _ h9 => h9) rfl dX11_areApart_16 ?_
              refine lv_iload_n hx hb dX11_areApart_19 rfl (lv_at hl 2 rfl) ?_
              obtain ⟨y0, hy0, ey0⟩ := hwh i (by omega)
              refine va_iald hx hb hG.1 hP 330 0 (wl_at (by decide) hwh_) rfl (vp_in_nI (by omega) (by decide)) dX11_areApart_20 ?_
              refine my_bei (v := wh i) (congrArg wh (nI_clamp (n := i) (by omega))) ?_
              refine my_bei (v := nI y0) (ey0) ?_
              refine lv_iconst (v := 0) hx hb dX11_areApart_21 (by decide) ?_
              refine rd_calli (va_runV (As := [.int (nI y0), .int 0]) (rest := []) ⟨hx, hb, hml, hown, hts⟩ (r_ofTrial l G g hg f ab2 be2 sn wn sa ly rdy fd ss y0 0 hmo hss_ (by first | assumption | omega | decide)) (my_cwV hts ok_X11_ofTrial w_532 rfl rfl ⟨Nat.le_of_ble_eq_true rfl, Nat.le_of_ble_eq_true rfl⟩) ⟨bP.blind, va_recv hG.1 hP (ci := 10) (q0 := 315) rfl (wl_at (by decide) hmo), fun U hU hW => ⟨rfl, by rw [hU]; exact hP, kG.warm hW hG⟩⟩ rfl rfl hl.1 rfl (lv_room (Nat.le_of_ble_eq_true rfl)) dX11_areApart_22 ⟨Nat.le_of_ble_eq_true rfl, Nat.le_of_ble_eq_true rfl⟩) (fun r hr9 => ?_)
              subst hr9
              refine my_bei (v := ss (10 * y0 + 1546)) (congrArg ss (show 10 * y0 + 0 + 1546 = 10 * y0 + 1546 by omega)) ?_
              refine lv_aload_n hx hb dX11_areApart_25 rfl (lv_at hl 0 rfl) ?_
              refine va_get (D := G.1) (ci := 10) (v := .ref (g 331)) (C := RX11) (T := TX11) (N := 25) hx hb hts inlX11 hown hG.1 hP 315 (wl_at (by decide) hmo) rfl 23 (by decide) (hts (.fieldLink RX11 57 "SwornListsModel" "waits6" "[I") w_127) (fun _ h9 => h9) rfl dX11_areApart_26 ?_
              refine lv_iload_n hx hb dX11_areApart_29 rfl (lv_at hl 2 rfl) ?_
              refine va_iald hx hb hG.1 hP 331 0 (wl_at (by decide) hw6_) rfl (vp_in_nI (by omega) (by decide)) dX11_areApart_30 ?_
              refine my_bei (v := w6 i) (congrArg w6 (nI_clamp (n := i) (by omega))) ?_
              refine lv_iadd hx hb dX11_areApart_31 ?_
              refine lv_istore (lv' := [(4, .int ((ss (10 * y0 + 1546)) + (w6 i))), (0, .ref (g 315)), (1, .int (nI n)), (2, .int (nI i)), (3, .int (nI i2))]) hx hb dX11_areApart_32 hl (by decide) rfl (fun ls hl => ?_)
              refine lv_aload_n hx hb dX11_areApart_34 rfl (lv_at hl 1 rfl) ?_
              refine lv_aload_n hx hb dX11_areApart_35 rfl (lv_at hl 1 rfl) ?_
              refine va_get (D := G.1) (ci := 10) (v := .ref (g 330)) (C := RX11) (T := TX11) (N := 25) hx hb hts inlX11 hown hG.1 hP 315 (wl_at (by decide) hmo) rfl 22 (by decide) (hts (.fieldLink RX11 54 "SwornListsModel" "which" "[I") w_126) (fun _ h9 => h9) rfl dX11_areApart_36 ?_
              refine lv_iload_n hx hb dX11_areApart_39 rfl (lv_at hl 4 rfl) ?_
              obtain ⟨y1, hy1, ey1⟩ := hwh i2 (by omega)
              refine va_iald hx hb hG.1 hP 330 0 (wl_at (by decide) hwh_) rfl (vp_in_nI (by omega) (by decide)) dX11_areApart_40 ?_
              refine my_bei (v := wh i2) (congrArg wh (nI_clamp (n := i2) (by omega))) ?_
              refine my_bei (v := nI y1) (ey1) ?_
              refine lv_iconst (v := 0) hx hb dX11_areApart_41 (by decide) ?_
              refine rd_calli (va_runV (As := [.int (nI y1), .int 0]) (rest := []) ⟨hx, hb, hml, hown, hts⟩ (r_ofTrial l G g hg f ab2 be2 sn wn sa ly rdy fd ss y1 0 hmo hss_ (by first | assumption | omega | decide)) (my_cwV hts ok_X11_ofTrial w_532 rfl rfl ⟨Nat.le_of_ble_eq_true rfl, Nat.le_of_ble_eq_true rfl⟩) ⟨bP.blind, va_recv hG.1 hP (ci := 10) (q0 := 315) rfl (wl_at (by decide) hmo), fun U hU hW => ⟨rfl, by rw [hU]; exact hP, kG.warm hW hG⟩⟩ rfl rfl hl.1 rfl (lv_room (Nat.le_of_ble_eq_true rfl)) dX11_areApart_42 ⟨Nat.le_of_ble_eq_true rfl, Nat.le_of_ble_eq_true rfl⟩) (fun r hr9 => ?_)
              subst hr9
              refine my_bei (v := ss (10 * y1 + 1546)) (congrArg ss (show 10 * y1 + 0 + 1546 = 10 * y1 + 1546 by omega)) ?_
              refine lv_aload_n hx hb dX11_areApart_45 rfl (lv_at hl 1 rfl) ?_
              refine va_get (D := G.1) (ci := 10) (v := .ref (g 331)) (C := RX11) (T := TX11) (N := 25) hx hb hts inlX11 hown hG.1 hP 315 (wl_at (by decide) hmo) rfl 23 (by decide) (hts (.fieldLink RX11 57 "SwornListsModel" "waits6" "[I") w_127) (fun _ h9 => h9) rfl dX11_areApart_46 ?_
              refine lv_iload_n hx hb dX11_areApart_49 rfl (lv_at hl 4 rfl) ?_
              refine va_iald hx hb hG.1 hP 331 0 (wl_at (by decide) hw6_) rfl (vp_in_nI (by omega) (by decide)) dX11_areApart_50 ?_
              refine my_bei (v := w6 i2) (congrArg w6 (nI_clamp (n := i2) (by omega))) ?_
              refine lv_iadd hx hb dX11_areApart_51 ?_
              refine lv_istore (lv' := [(5, .int ((ss (10 * y1 + 1546)) + (w6 i2))), (4, .int ((ss (10 * y0 + 1546)) + (w6 i))), (0, .ref (g 315)), (1, .int (nI n)), (2, .int (nI i)), (3, .int (nI i2))]) hx hb dX11_areApart_52 hl (by decide) rfl (fun ls hl => ?_)
              refine lv_iload hx hb dX11_areApart_54 (lv_at hl 1 rfl) ?_
              refine lv_iload hx hb dX11_areApart_56 (lv_at hl 0 rfl) ?_
              refine lv_aload_n hx hb dX11_areApart_58 rfl (lv_at hl 2 rfl) ?_
              refine lv_aload_n hx hb dX11_areApart_59 rfl (lv_at hl 2 rfl) ?_
              refine va_get (D := G.1) (ci := 10) (v := .ref (g 330)) (C := RX11) (T := TX11) (N := 25) hx hb hts inlX11 hown hG.1 hP 315 (wl_at (by decide) hmo) rfl 22 (by decide) (hts (.fieldLink RX11 54 "SwornListsModel" "which" "[I") w_126) (fun _ h9 => h9) rfl dX11_areApart_60 ?_
              refine lv_iload_n hx hb dX11_areApart_63 rfl (lv_at hl 5 rfl) ?_
              obtain ⟨y2, hy2, ey2⟩ := hwh i2 (by omega)
              refine va_iald hx hb hG.1 hP 330 0 (wl_at (by decide) hwh_) rfl (vp_in_nI (by omega) (by decide)) dX11_areApart_64 ?_
              refine my_bei (v := wh i2) (congrArg wh (nI_clamp (n := i2) (by omega))) ?_
              refine my_bei (v := nI y2) (ey2) ?_
              refine lv_iconst (v := 1) hx hb dX11_areApart_65 (by decide) ?_
              refine rd_calli (va_runV (As := [.int (nI y2), .int 1]) (rest := [.int ((ss (10 * y1 + 1546)) + (w6 i2)), .int ((ss (10 * y0 + 1546)) + (w6 i))]) ⟨hx, hb, hml, hown, hts⟩ (r_ofTrial l G g hg f ab2 be2 sn wn sa ly rdy fd ss y2 1 hmo hss_ (by first | assumption | omega | decide)) (my_cwV hts ok_X11_ofTrial w_532 rfl rfl ⟨Nat.le_of_ble_eq_true rfl, Nat.le_of_ble_eq_true rfl⟩) ⟨bP.blind, va_recv hG.1 hP (ci := 10) (q0 := 315) rfl (wl_at (by decide) hmo), fun U hU hW => ⟨rfl, by rw [hU]; exact hP, kG.warm hW hG⟩⟩ rfl rfl hl.1 rfl (lv_room (Nat.le_of_ble_eq_true rfl)) dX11_areApart_66 ⟨Nat.le_of_ble_eq_true rfl, Nat.le_of_ble_eq_true rfl⟩) (fun r hr9 => ?_)
              subst hr9
              refine my_bei (v := ss (10 * y2 + 1547)) (congrArg ss (show 10 * y2 + 1 + 1546 = 10 * y2 + 1547 by omega)) ?_
              refine lv_iadd hx hb dX11_areApart_69 ?_
              refine lv_icmp_ge (tgt := 96) hx hb dX11_areApart_70 (by decide) (fun c_70 => ?_) (fun c_70 => ?_)
              · refine lv_iconst (v := 0) hx hb dX11_areApart_96 (by decide) ?_
                refine lv_istore (lv' := [(6, .int 0), (5, .int ((ss (10 * y1 + 1546)) + (w6 i2))), (4, .int ((ss (10 * y0 + 1546)) + (w6 i))), (0, .ref (g 315)), (1, .int (nI n)), (2, .int (nI i)), (3, .int (nI i2))]) hx hb dX11_areApart_97 hl (by decide) rfl (fun ls hl => ?_)
                refine lv_iload hx hb dX11_areApart_99 (lv_at hl 0 rfl) ?_
                refine lv_if_eq (tgt := 125) hx hb dX11_areApart_101 (by decide) (fun c_101 => ?_) (fun c_101 => absurd (by decide) c_101)
                refine lv_iinc (v := nI (i2 + 1)) (lv' := [(3, .int (nI (i2 + 1))), (6, .int 0), (5, .int ((ss (10 * y1 + 1546)) + (w6 i2))), (4, .int ((ss (10 * y0 + 1546)) + (w6 i))), (0, .ref (g 315)), (1, .int (nI n)), (2, .int (nI i))]) hx hb dX11_areApart_125 hl (k := 6) rfl (nI_add i2 1) (by decide) rfl (fun ls hl => ?_)
                refine lv_goto (tgt := 9) hx hb dX11_areApart_128 (by decide) ?_
                exact ih_2 (i2 + 1) _ (by omega) (by omega) (lv_sub hl [4, 5, 6, 0] rfl)
              · refine lv_iload hx hb dX11_areApart_73 (lv_at hl 0 rfl) ?_
                refine lv_iload hx hb dX11_areApart_75 (lv_at hl 1 rfl) ?_
                refine lv_aload_n hx hb dX11_areApart_77 rfl (lv_at hl 2 rfl) ?_
                refine lv_aload_n hx hb dX11_areApart_78 rfl (lv_at hl 2 rfl) ?_
                refine va_get (D := G.1) (ci := 10) (v := .ref (g 330)) (C := RX11) (T := TX11) (N := 25) hx hb hts inlX11 hown hG.1 hP 315 (wl_at (by decide) hmo) rfl 22 (by decide) (hts (.fieldLink RX11 54 "SwornListsModel" "which" "[I") w_126) (fun _ h9 => h9) rfl dX11_areApart_79 ?_
                refine lv_iload_n hx hb dX11_areApart_82 rfl (lv_at hl 4 rfl) ?_
                obtain ⟨y3, hy3, ey3⟩ := hwh i (by omega)
                refine va_iald hx hb hG.1 hP 330 0 (wl_at (by decide) hwh_) rfl (vp_in_nI (by omega) (by decide)) dX11_areApart_83 ?_
                refine my_bei (v := wh i) (congrArg wh (nI_clamp (n := i) (by omega))) ?_
                refine my_bei (v := nI y3) (ey3) ?_
                refine lv_iconst (v := 1) hx hb dX11_areApart_84 (by decide) ?_
                refine rd_calli (va_runV (As := [.int (nI y3), .int 1]) (rest := [.int ((ss (10 * y0 + 1546)) + (w6 i)), .int ((ss (10 * y1 + 1546)) + (w6 i2))]) ⟨hx, hb, hml, hown, hts⟩ (r_ofTrial l G g hg f ab2 be2 sn wn sa ly rdy fd ss y3 1 hmo hss_ (by first | assumption | omega | decide)) (my_cwV hts ok_X11_ofTrial w_532 rfl rfl ⟨Nat.le_of_ble_eq_true rfl, Nat.le_of_ble_eq_true rfl⟩) ⟨bP.blind, va_recv hG.1 hP (ci := 10) (q0 := 315) rfl (wl_at (by decide) hmo), fun U hU hW => ⟨rfl, by rw [hU]; exact hP, kG.warm hW hG⟩⟩ rfl rfl hl.1 rfl (lv_room (Nat.le_of_ble_eq_true rfl)) dX11_areApart_85 ⟨Nat.le_of_ble_eq_true rfl, Nat.le_of_ble_eq_true rfl⟩) (fun r hr9 => ?_)
                subst hr9
                refine my_bei (v := ss (10 * y3 + 1547)) (congrArg ss (show 10 * y3 + 1 + 1546 = 10 * y3 + 1547 by omega)) ?_
                refine lv_iadd hx hb dX11_areApart_88 ?_
                refine lv_icmp_ge (tgt := 96) hx hb dX11_areApart_89 (by decide) (fun c_89 => ?_) (fun c_89 => ?_)
                · refine lv_iconst (v := 0) hx hb dX11_areApart_96 (by decide) ?_
                  refine lv_istore (lv' := [(6, .int 0), (5, .int ((ss (10 * y1 + 1546)) + (w6 i2))), (4, .int ((ss (10 * y0 + 1546)) + (w6 i))), (0, .ref (g 315)), (1, .int (nI n)), (2, .int (nI i)), (3, .int (nI i2))]) hx hb dX11_areApart_97 hl (by decide) rfl (fun ls hl => ?_)
                  refine lv_iload hx hb dX11_areApart_99 (lv_at hl 0 rfl) ?_
                  refine lv_if_eq (tgt := 125) hx hb dX11_areApart_101 (by decide) (fun c_101 => ?_) (fun c_101 => absurd (by decide) c_101)
                  refine lv_iinc (v := nI (i2 + 1)) (lv' := [(3, .int (nI (i2 + 1))), (6, .int 0), (5, .int ((ss (10 * y1 + 1546)) + (w6 i2))), (4, .int ((ss (10 * y0 + 1546)) + (w6 i))), (0, .ref (g 315)), (1, .int (nI n)), (2, .int (nI i))]) hx hb dX11_areApart_125 hl (k := 6) rfl (nI_add i2 1) (by decide) rfl (fun ls hl => ?_)
                  refine lv_goto (tgt := 9) hx hb dX11_areApart_128 (by decide) ?_
                  exact ih_2 (i2 + 1) _ (by omega) (by omega) (lv_sub hl [4, 5, 6, 0] rfl)
                · refine lv_iconst (v := 1) hx hb dX11_areApart_92 (by decide) ?_
                  refine lv_goto (tgt := 97) hx hb dX11_areApart_93 (by decide) ?_
                  refine lv_istore (lv' := [(6, .int 1), (5, .int ((ss (10 * y1 + 1546)) + (w6 i2))), (4, .int ((ss (10 * y0 + 1546)) + (w6 i))), (0, .ref (g 315)), (1, .int (nI n)), (2, .int (nI i)), (3, .int (nI i2))]) hx hb dX11_areApart_97 hl (by decide) rfl (fun ls hl => ?_)
                  refine lv_iload hx hb dX11_areApart_99 (lv_at hl 0 rfl) ?_
                  refine lv_if_eq (tgt := 125) hx hb dX11_areApart_101 (by decide) (fun c_101 => absurd c_101 (by decide)) (fun c_101 => ?_)
                  refine lv_aload_n hx hb dX11_areApart_104 rfl (lv_at hl 3 rfl) ?_
                  refine lv_aload_n hx hb dX11_areApart_105 rfl (lv_at hl 3 rfl) ?_
                  refine va_get (D := G.1) (ci := 10) (v := .ref (g 330)) (C := RX11) (T := TX11) (N := 25) hx hb hts inlX11 hown hG.1 hP 315 (wl_at (by decide) hmo) rfl 22 (by decide) (hts (.fieldLink RX11 54 "SwornListsModel" "which" "[I") w_126) (fun _ h9 => h9) rfl dX11_areApart_106 ?_
                  refine lv_iload_n hx hb dX11_areApart_109 rfl (lv_at hl 5 rfl) ?_
                  obtain ⟨y4, hy4, ey4⟩ := hwh i (by omega)
                  refine va_iald hx hb hG.1 hP 330 0 (wl_at (by decide) hwh_) rfl (vp_in_nI (by omega) (by decide)) dX11_areApart_110 ?_
                  refine my_bei (v := wh i) (congrArg wh (nI_clamp (n := i) (by omega))) ?_
                  refine my_bei (v := nI y4) (ey4) ?_
                  refine lv_aload_n hx hb dX11_areApart_111 rfl (lv_at hl 3 rfl) ?_
                  refine va_get (D := G.1) (ci := 10) (v := .ref (g 330)) (C := RX11) (T := TX11) (N := 25) hx hb hts inlX11 hown hG.1 hP 315 (wl_at (by decide) hmo) rfl 22 (by decide) (hts (.fieldLink RX11 54 "SwornListsModel" "which" "[I") w_126) (fun _ h9 => h9) rfl dX11_areApart_112 ?_
                  refine lv_iload_n hx hb dX11_areApart_115 rfl (lv_at hl 6 rfl) ?_
                  obtain ⟨y5, hy5, ey5⟩ := hwh i2 (by omega)
                  refine va_iald hx hb hG.1 hP 330 0 (wl_at (by decide) hwh_) rfl (vp_in_nI (by omega) (by decide)) dX11_areApart_116 ?_
                  refine my_bei (v := wh i2) (congrArg wh (nI_clamp (n := i2) (by omega))) ?_
                  refine my_bei (v := nI y5) (ey5) ?_
                  refine rd_calli (va_runV (As := [.int (nI y4), .int (nI y5)]) (rest := []) ⟨hx, hb, hml, hown, hts⟩ (r_meets l G g hg f ab2 be2 sn wn sa ly rdy fd ss y4 y5 hmo hss_ (by first | assumption | omega | decide) (by first | assumption | omega | decide)) (my_cwV hts ok_X11_meets w_867 rfl rfl ⟨Nat.le_of_ble_eq_true rfl, Nat.le_of_ble_eq_true rfl⟩) ⟨bP.blind, va_recv hG.1 hP (ci := 10) (q0 := 315) rfl (wl_at (by decide) hmo), fun U hU hW => ⟨rfl, by rw [hU]; exact hP, kG.warm hW hG⟩⟩ rfl rfl hl.1 rfl (lv_room (Nat.le_of_ble_eq_true rfl)) dX11_areApart_117 ⟨Nat.le_of_ble_eq_true rfl, Nat.le_of_ble_eq_true rfl⟩) (fun r hr9 => ?_)
                  obtain ⟨bz3, rfl⟩ := hr9
                  refine my_ifeq (tgt := 125) hx hb dX11_areApart_120 (by decide) (fun c_120 => ?_) (fun c_120 => ?_)
                  · refine lv_iinc (v := nI (i2 + 1)) (lv' := [(3, .int (nI (i2 + 1))), (6, .int 1), (5, .int ((ss (10 * y1 + 1546)) + (w6 i2))), (4, .int ((ss (10 * y0 + 1546)) + (w6 i))), (0, .ref (g 315)), (1, .int (nI n)), (2, .int (nI i))]) hx hb dX11_areApart_125 hl (k := 6) rfl (nI_add i2 1) (by decide) rfl (fun ls hl => ?_)
                    refine lv_goto (tgt := 9) hx hb dX11_areApart_128 (by decide) ?_
                    exact ih_2 (i2 + 1) _ (by omega) (by omega) (lv_sub hl [4, 5, 6, 0] rfl)
                  · refine lv_iconst (v := 0) hx hb dX11_areApart_123 (by decide) ?_
                    exact W.zret (v := 0) hx hb hr (rfl) (fun t ht hW => ⟨_, rfl, (⟨false, (b2_f (by decide)).symm⟩), ht⟩) (fun _ h => absurd h List.not_mem_nil) dX11_areApart_124
        exact key2 (i + 1) 0 _ (by omega) (by omega) (lv_sub hl [1, 2, 3, 0] rfl)
  exact key1 (n + 1) 0 _ (by omega) (by omega) (lv_sub hl [1, 2, 0] rfl)


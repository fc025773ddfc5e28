set_option maxHeartbeats 4000000 in
set_option maxRecDepth 100000 in
theorem p_chance (l : Launch) (G : gW) (sz : Nat) (x : Nat) (ct : Nat) (bk : Nat) (im : Nat) (kp : Nat) (rd : Nat) (fr : Nat) (wt : Nat) (a1 : Int32) (a2 : Int32) (a3 : Int32) (a4 : Int32)  : Met l yX10_chance (wsT yX10_chance cX10_chance 8 (some .int)) ({ frames := 2, cells := 0, slots := 0, locals := 56 }) (wP G [.ref x, .int a1, .int a2, .int a3, .int a4] sz [(x, eO 9 [.ref ct, .ref bk, .ref im, .ref kp, .ref rd, .ref fr, .ref wt]), (fr, eO 2 [.long 0, .long 1])]) (va_Qi (fun (r : Int32) (_ : Unit) => r = if (inB 0 a1 40 = true) ∧ (inB 0 a2 a1 = true) ∧ (inB 0 a3 a1 = true) ∧ (inB 0 a4 40 = true) then (if chS a1 a2 a3 a4 = 0 then 0 else 1) else (-2)) (fun _ _ => True) (va_A [(x, eO 9 [.ref ct, .ref bk, .ref im, .ref kp, .ref rd, .ref fr, .ref wt]), (fr, eO 2 [.long 0, .long 1])] sz)) 0 0 (va_A [(x, eO 9 [.ref ct, .ref bk, .ref im, .ref kp, .ref rd, .ref fr, .ref wt]), (fr, eO 2 [.long 0, .long 1])] sz) := by
  refine Met.ofW (cc := cX10_chance) (maxL := 8) (ret := (some .int)) (by decide) rfl ?_
  intro p e s m args below meth c s₁ B hml hv
  obtain ⟨rfl, hsz, hP, hG, hD0⟩ := hv
  have hx := B.exec
  have hb := B.bytes
  have hr := B.returns
  have hts := my_hts (atoms_spec (ws := wsT yX10_chance cX10_chance 8 (some .int)) B.pre)
  have hown : s.vm.findClass RX10 = some m.cls := findClass_of_methodNamed B.named
  have hlocks := B.notSynchronized
  subst hsz
  have hD := hD0.self (sz := s.heap.size)
  generalize hAe : va_A [(x, eO 9 [.ref ct, .ref bk, .ref im, .ref kp, .ref rd, .ref fr, .ref wt]), (fr, eO 2 [.long 0, .long 1])] s.heap.size = A at hD ⊢
  have hA : ∀ q : Nat, s.heap.size ≤ q → A q := fun q h => by rw [← hAe]; exact Or.inr h
  have hS : va_S A s.heap s.heap [] := va_S.rf
  have hP : va_P G.1 vwCl [(x, eO 9 [.ref ct, .ref bk, .ref im, .ref kp, .ref rd, .ref fr, .ref wt]), (fr, eO 2 [.long 0, .long 1])] s.heap := hP
  have hl := lv_entry ([.ref x, .int a1, .int a2, .int a3, .int a4]) (n := 8) (Nat.le_of_ble_eq_true rfl)
  rw [lg_entry_eq]
  generalize (lg_sl ([.ref x, .int a1, .int a2, .int a3, .int a4]) ++ List.replicate (8 - (lg_sl ([.ref x, .int a1, .int a2, .int a3, .int a4])).length) Slot.unset).toArray = ls at hl ⊢
  have hl : lv_has ls 8 [(0, .ref x), (1, .int a1), (2, .int a2), (3, .int a3), (4, .int a4)] := hl
  refine lv_iload_n hx hb dX10_chance_0 rfl (lv_at hl 1 rfl) ?_
  refine lv_iconst (v := 0) hx hb dX10_chance_1 (by decide) ?_
  refine lv_bipush (v := 40) hx hb dX10_chance_2 (by decide) ?_
  have hPc := hP.sub (ws' := []) [] rfl
  refine rd_calli (va_runS (As := [.int a1, .int 0, .int 40]) (rest := []) ⟨hx, hb, hml, hown, hts⟩ (c_within l G a1 0 40 ) (my_cwS hts ok_X10_within w_134 rfl rfl ⟨Nat.le_of_ble_eq_true rfl, Nat.le_of_ble_eq_true rfl⟩) ⟨rP.blind, fun U hU hW => ⟨rfl, by rw [hU]; exact hPc, kG.warm hW hG⟩⟩ rfl rfl hl.1 rfl (lv_room (Nat.le_of_ble_eq_true rfl)) dX10_chance_4 ⟨Nat.le_of_ble_eq_true rfl, Nat.le_of_ble_eq_true rfl⟩) (fun r hr9 => ?_)
  subst hr9
  refine my_ifeq (tgt := 39) hx hb dX10_chance_7 (by decide) (fun c_7 => ?_) (fun c_7 => ?_)
  · refine lv_bipush (v := (-2)) hx hb dX10_chance_39 (by decide) ?_
    exact W.iret (v := (-2)) hx hb hr (fun t ht hW => ⟨⟨_, (), rfl, (by simp [c_7]), trivial⟩, hS.F ht⟩) hS.2.2 dX10_chance_41
  · refine lv_iload_n hx hb dX10_chance_10 rfl (lv_at hl 2 rfl) ?_
    refine lv_iconst (v := 0) hx hb dX10_chance_11 (by decide) ?_
    refine lv_iload_n hx hb dX10_chance_12 rfl (lv_at hl 1 rfl) ?_
    have hPc := hP.sub (ws' := []) [] rfl
    refine rd_calli (va_runS (As := [.int a2, .int 0, .int a1]) (rest := []) ⟨hx, hb, hml, hown, hts⟩ (c_within l G a2 0 a1 ) (my_cwS hts ok_X10_within w_134 rfl rfl ⟨Nat.le_of_ble_eq_true rfl, Nat.le_of_ble_eq_true rfl⟩) ⟨rP.blind, fun U hU hW => ⟨rfl, by rw [hU]; exact hPc, kG.warm hW hG⟩⟩ rfl rfl hl.1 rfl (lv_room (Nat.le_of_ble_eq_true rfl)) dX10_chance_13 ⟨Nat.le_of_ble_eq_true rfl, Nat.le_of_ble_eq_true rfl⟩) (fun r hr9 => ?_)
    subst hr9
    refine my_ifeq (tgt := 39) hx hb dX10_chance_16 (by decide) (fun c_16 => ?_) (fun c_16 => ?_)
    · refine lv_bipush (v := (-2)) hx hb dX10_chance_39 (by decide) ?_
      exact W.iret (v := (-2)) hx hb hr (fun t ht hW => ⟨⟨_, (), rfl, (by simp [c_7, c_16]), trivial⟩, hS.F ht⟩) hS.2.2 dX10_chance_41
    · refine lv_iload_n hx hb dX10_chance_19 rfl (lv_at hl 3 rfl) ?_
      refine lv_iconst (v := 0) hx hb dX10_chance_20 (by decide) ?_
      refine lv_iload_n hx hb dX10_chance_21 rfl (lv_at hl 1 rfl) ?_
      have hPc := hP.sub (ws' := []) [] rfl
      refine rd_calli (va_runS (As := [.int a3, .int 0, .int a1]) (rest := []) ⟨hx, hb, hml, hown, hts⟩ (c_within l G a3 0 a1 ) (my_cwS hts ok_X10_within w_134 rfl rfl ⟨Nat.le_of_ble_eq_true rfl, Nat.le_of_ble_eq_true rfl⟩) ⟨rP.blind, fun U hU hW => ⟨rfl, by rw [hU]; exact hPc, kG.warm hW hG⟩⟩ rfl rfl hl.1 rfl (lv_room (Nat.le_of_ble_eq_true rfl)) dX10_chance_22 ⟨Nat.le_of_ble_eq_true rfl, Nat.le_of_ble_eq_true rfl⟩) (fun r hr9 => ?_)
      subst hr9
      refine my_ifeq (tgt := 39) hx hb dX10_chance_25 (by decide) (fun c_25 => ?_) (fun c_25 => ?_)
      · refine lv_bipush (v := (-2)) hx hb dX10_chance_39 (by decide) ?_
        exact W.iret (v := (-2)) hx hb hr (fun t ht hW => ⟨⟨_, (), rfl, (by simp [c_7, c_16, c_25]), trivial⟩, hS.F ht⟩) hS.2.2 dX10_chance_41
      · refine lv_iload hx hb dX10_chance_28 (lv_at hl 4 rfl) ?_
        refine lv_iconst (v := 0) hx hb dX10_chance_30 (by decide) ?_
        refine lv_bipush (v := 40) hx hb dX10_chance_31 (by decide) ?_
        have hPc := hP.sub (ws' := []) [] rfl
        refine rd_calli (va_runS (As := [.int a4, .int 0, .int 40]) (rest := []) ⟨hx, hb, hml, hown, hts⟩ (c_within l G a4 0 40 ) (my_cwS hts ok_X10_within w_134 rfl rfl ⟨Nat.le_of_ble_eq_true rfl, Nat.le_of_ble_eq_true rfl⟩) ⟨rP.blind, fun U hU hW => ⟨rfl, by rw [hU]; exact hPc, kG.warm hW hG⟩⟩ rfl rfl hl.1 rfl (lv_room (Nat.le_of_ble_eq_true rfl)) dX10_chance_33 ⟨Nat.le_of_ble_eq_true rfl, Nat.le_of_ble_eq_true rfl⟩) (fun r hr9 => ?_)
        subst hr9
        refine my_ifne (tgt := 42) hx hb dX10_chance_36 (by decide) (fun c_36 => ?_) (fun c_36 => ?_)
        · obtain ⟨N, hN, e1⟩ := inB_nat (B := 40) (by decide) c_7
          subst e1
          obtain ⟨K, hK, e2⟩ := inB_nat (by omega) c_16
          subst e2
          obtain ⟨M, hM, e3⟩ := inB_nat (by omega) c_25
          subst e3
          obtain ⟨D, hD4, e4⟩ := inB_nat (B := 40) (by decide) c_36
          subst e4
          have hSv : chS (nI N) (nI K) (nI M) (nI D) = sm N K M 42 D 0 := by unfold chS; rw [nI_clamp (by omega), nI_clamp (by omega), nI_clamp (by omega), nI_clamp (by omega)]
          refine lv_lconst (v := 0) hx hb dX10_chance_42 (by decide) ?_
          refine my_bel (v := lN 0) (rfl) ?_
          refine lv_lstore (lv' := [(5, .long (lN 0)), (0, .ref x), (1, .int (nI N)), (2, .int (nI K)), (3, .int (nI M)), (4, .int (nI D))]) hx hb dX10_chance_43 hl (by decide) rfl (fun ls hl => ?_)
          refine lv_iload hx hb dX10_chance_45 (lv_at hl 5 rfl) ?_
          refine lv_istore (lv' := [(7, .int (nI D)), (5, .long (lN 0)), (0, .ref x), (1, .int (nI N)), (2, .int (nI K)), (3, .int (nI M)), (4, .int (nI D))]) hx hb dX10_chance_47 hl (by decide) rfl (fun ls hl => ?_)
          have key : ∀ (n : Nat) (f : Nat) (i : Nat) (z : Nat) (H : Heap) (locs : List Loc) (ls : Array Slot), sm N K M f i z = sm N K M 42 D 0 → M + 1 ≤ f + i → i ≤ 41 → z ≤ i * 1099511627776 → f < n → va_P G.1 vwCl [(x, eO 9 [.ref ct, .ref bk, .ref im, .ref kp, .ref rd, .ref fr, .ref wt]), (fr, eO 2 [.long 0, .long 1])] H → va_D A [(x, eO 9 [.ref ct, .ref bk, .ref im, .ref kp, .ref rd, .ref fr, .ref wt]), (fr, eO 2 [.long 0, .long 1])] → va_S A s.heap H locs → lv_has ls 8 [(0, .ref x), (1, .int (nI N)), (2, .int (nI K)), (3, .int (nI M)), (5, .long (lN z)), (7, .int (nI i))] → W p l e (headSpec (wsT yX10_chance cX10_chance 8 (some .int)) ({ frames := 2, cells := 0, slots := 0, locals := 56 })).room s m ([.ref x, .int (nI N), .int (nI K), .int (nI M), .int (nI D)] : List Value).toArray below meth c H locs 0 0 (MQ below (va_Qi (fun (r : Int32) (_ : Unit) => r = if (inB 0 (nI N) 40 = true) ∧ (inB 0 (nI K) (nI N) = true) ∧ (inB 0 (nI M) (nI N) = true) ∧ (inB 0 (nI D) 40 = true) then (if chS (nI N) (nI K) (nI M) (nI D) = 0 then 0 else 1) else (-2)) (fun _ _ => True) A) ([.ref x, .int (nI N), .int (nI K), .int (nI M), .int (nI D)] : List Value).toArray s 0 0 A) (F0 m 49 ls []) := by
            intro n
            induction n with
            | zero => intro f i z H locs ls hv hf hi hz hn; exact absurd hn (Nat.not_lt_zero _)
            | succ n ih =>
              intro f i z H locs ls hv hf hi hz hn hP hD hS hl
              refine lv_iload hx hb dX10_chance_49 (lv_at hl 5 rfl) ?_
              refine lv_iload_n hx hb dX10_chance_51 rfl (lv_at hl 3 rfl) ?_
              refine lv_icmp_gt (tgt := 83) hx hb dX10_chance_52 (by decide) (fun c_52 => ?_) (fun c_52 => ?_)
              · have hMi : M < i := (nI_ltI (by omega) (by omega)).mp c_52
                have hz0 : z = sm N K M 42 D 0 := by rw [← hv, sm_end hMi]
                have hzb : z < 2 ^ 63 := by omega
                have hwb : wz N M < 2 ^ 63 := by have := wz_s (T := M) hN; omega
                have hwp : 0 < wz N M := wz_p hN hM
                refine lv_aload_n hx hb dX10_chance_83 rfl (lv_at hl 0 rfl) ?_
                refine va_get (D := G.1) (ci := 9) (v := .ref fr) (C := RX10) (T := TX10) (N := 7) hx hb hts inlX10 hown hG.1 hP 0 rfl rfl 5 (by decide) (hts (.fieldLink RX10 41 "SwornLists" "fraction" "LSwornLists$Fraction;") w_28) (fun _ h9 => h9) rfl dX10_chance_84 ?_
                refine lv_lload hx hb dX10_chance_87 (lv_at hl 4 rfl) ?_
                refine lv_iload_n hx hb dX10_chance_89 rfl (lv_at hl 1 rfl) ?_
                refine lv_iload_n hx hb dX10_chance_90 rfl (lv_at hl 3 rfl) ?_
                have hPc := hP.sub (ws' := []) [] rfl
                refine rd_calll (va_runS (As := [.int (nI N), .int (nI M)]) (rest := [.long (lN z), .ref fr]) ⟨hx, hb, hml, hown, hts⟩ (c_ways l G N M (by omega) (by omega)) (my_cwS hts ok_X10_ways w_761 rfl rfl ⟨Nat.le_of_ble_eq_true rfl, Nat.le_of_ble_eq_true rfl⟩) ⟨rP.blind, fun U hU hW => ⟨rfl, by rw [hU]; exact hPc, kG.warm hW hG⟩⟩ rfl rfl hl.1 rfl (lv_room (Nat.le_of_ble_eq_true rfl)) dX10_chance_91 ⟨Nat.le_of_ble_eq_true rfl, Nat.le_of_ble_eq_true rfl⟩) (fun r hr9 => ?_)
                subst hr9
                have hPc := hP.sub (ws' := [(fr, eO 2 [.long 0, .long 1])]) [1] rfl
                have hDc := hD.sub (ws' := [(fr, eO 2 [.long 0, .long 1])]) [1] (by decide) rfl
                have hFc := va_free (wc := [(fr, eO 2 [.long 0, .long 1])]) hD hS hA [1] rfl
                refine va_calli (va_runV (As := [.long (lN z), .long (lN (wz N M))]) (rest := []) ⟨hx, hb, hml, hown, hts⟩ (c_become l G H.size fr z (wz N M) (by omega) (by omega) (by omega)) (my_cwV hts ok_X2_become w_764 rfl rfl ⟨Nat.le_of_ble_eq_true rfl, Nat.le_of_ble_eq_true rfl⟩) ⟨wP.blind, va_recv hG.1 hPc (ci := 2) (q0 := 0) rfl rfl, fun U hU hW => ⟨rfl, by rw [hU], by rw [hU]; exact hPc, kG.warm hW hG, hDc.weaken (fun _ _ _ _ => trivial)⟩⟩ rfl rfl hl.1 rfl (lv_room (Nat.le_of_ble_eq_true rfl)) dX10_chance_94 ⟨Nat.le_of_ble_eq_true rfl, Nat.le_of_ble_eq_true rfl⟩) hS (fun q _ h => hFc q h) hFc (fun r u t H1 locs ht hvm hw hB hz1 hk1 hS => ?_)
                obtain ⟨hP, hD⟩ := va_join (wr := [(x, eO 9 [.ref ct, .ref bk, .ref im, .ref kp, .ref rd, .ref fr, .ref wt])]) (w1 := []) hP hD [1] [0] rfl rfl (by decide) (by decide) hk1 hFc my_P0 my_D0
                generalize H1 = H at hP hS ⊢
                have hP : va_P G.1 vwCl [(x, eO 9 [.ref ct, .ref bk, .ref im, .ref kp, .ref rd, .ref fr, .ref wt])] H := hP
                have hD : va_D A [(x, eO 9 [.ref ct, .ref bk, .ref im, .ref kp, .ref rd, .ref fr, .ref wt])] := hD
                subst hw
                exact W.iret (v := if z = 0 then 0 else 1) hx hb hr (fun t ht hW => ⟨⟨_, (), rfl, (by rw [if_pos ⟨c_7, c_16, c_25, c_36⟩, hSv, ← hz0]), trivial⟩, hS.F ht⟩) hS.2.2 dX10_chance_97
              · have hiM : i ≤ M := by
                  have h : ¬ M < i := fun z => c_52 (nI_lt z (by omega))
                  omega
                obtain ⟨f9, hf9⟩ : ∃ f9, f = f9 + 1 := ⟨f - 1, by omega⟩
                subst hf9
                refine lv_lload hx hb dX10_chance_55 (lv_at hl 4 rfl) ?_
                refine lv_iload_n hx hb dX10_chance_57 rfl (lv_at hl 2 rfl) ?_
                refine lv_iload hx hb dX10_chance_58 (lv_at hl 5 rfl) ?_
                have hPc := hP.sub (ws' := []) [] rfl
                refine rd_calll (va_runS (As := [.int (nI K), .int (nI i)]) (rest := [.long (lN z)]) ⟨hx, hb, hml, hown, hts⟩ (c_ways l G K i (by omega) (by omega)) (my_cwS hts ok_X10_ways w_761 rfl rfl ⟨Nat.le_of_ble_eq_true rfl, Nat.le_of_ble_eq_true rfl⟩) ⟨rP.blind, fun U hU hW => ⟨rfl, by rw [hU]; exact hPc, kG.warm hW hG⟩⟩ rfl rfl hl.1 rfl (lv_room (Nat.le_of_ble_eq_true rfl)) dX10_chance_60 ⟨Nat.le_of_ble_eq_true rfl, Nat.le_of_ble_eq_true rfl⟩) (fun r hr9 => ?_)
                subst hr9
                refine lv_iload_n hx hb dX10_chance_63 rfl (lv_at hl 1 rfl) ?_
                refine lv_iload_n hx hb dX10_chance_64 rfl (lv_at hl 2 rfl) ?_
                refine lv_isub hx hb dX10_chance_65 ?_
                refine my_bei (v := nI (N - K)) (pk_sub hK) ?_
                refine lv_iload_n hx hb dX10_chance_66 rfl (lv_at hl 3 rfl) ?_
                refine lv_iload hx hb dX10_chance_67 (lv_at hl 5 rfl) ?_
                refine lv_isub hx hb dX10_chance_69 ?_
                refine my_bei (v := nI (M - i)) (pk_sub hiM) ?_
                have hPc := hP.sub (ws' := []) [] rfl
                refine rd_calll (va_runS (As := [.int (nI (N - K)), .int (nI (M - i))]) (rest := [.long (lN (wz K i)), .long (lN z)]) ⟨hx, hb, hml, hown, hts⟩ (c_ways l G (N - K) (M - i) (by omega) (by omega)) (my_cwS hts ok_X10_ways w_761 rfl rfl ⟨Nat.le_of_ble_eq_true rfl, Nat.le_of_ble_eq_true rfl⟩) ⟨rP.blind, fun U hU hW => ⟨rfl, by rw [hU]; exact hPc, kG.warm hW hG⟩⟩ rfl rfl hl.1 rfl (lv_room (Nat.le_of_ble_eq_true rfl)) dX10_chance_70 ⟨Nat.le_of_ble_eq_true rfl, Nat.le_of_ble_eq_true rfl⟩) (fun r hr9 => ?_)
                subst hr9
                refine lv_lmul hx hb dX10_chance_73 ?_
                refine my_bel (v := lN (wz K i * wz (N - K) (M - i))) (lN_mul _ _) ?_
                refine lv_ladd hx hb dX10_chance_74 ?_
                refine my_bel (v := lN (z + wz K i * wz (N - K) (M - i))) (lN_add _ _) ?_
                refine lv_lstore (lv' := [(5, .long (lN (z + wz K i * wz (N - K) (M - i)))), (0, .ref x), (1, .int (nI N)), (2, .int (nI K)), (3, .int (nI M)), (7, .int (nI i))]) hx hb dX10_chance_75 hl (by decide) rfl (fun ls hl => ?_)
                refine lv_iinc (v := nI (i + 1)) (lv' := [(7, .int (nI (i + 1))), (5, .long (lN (z + wz K i * wz (N - K) (M - i)))), (0, .ref x), (1, .int (nI N)), (2, .int (nI K)), (3, .int (nI M))]) hx hb dX10_chance_77 hl (k := 5) rfl (nI_1 i) (by decide) rfl (fun ls hl => ?_)
                refine lv_goto (tgt := 49) hx hb dX10_chance_80 (by decide) ?_
                exact ih f9 (i + 1) (z + wz K i * wz (N - K) (M - i)) _ _ _ (by rw [← hv, sm_step hiM]) (by omega) (by omega) (by have := wz_m (i := i) (j := M - i) hN hK; omega) (by omega) (hP.sub [0, 1] rfl) (hD.sub [0, 1] (by decide) rfl) hS (lv_sub hl [2, 3, 4, 5, 1, 0] rfl)
          exact key (42 + 1) 42 D 0 _ _ _ (rfl) (by omega) (by omega) (Nat.zero_le _) (by omega) (hP.sub [0, 1] rfl) (hD.sub [0, 1] (by decide) rfl) hS (lv_sub hl [2, 3, 4, 5, 1, 0] rfl)
        · refine lv_bipush (v := (-2)) hx hb dX10_chance_39 (by decide) ?_
          exact W.iret (v := (-2)) hx hb hr (fun t ht hW => ⟨⟨_, (), rfl, (by simp [c_7, c_16, c_25, c_36]), trivial⟩, hS.F ht⟩) hS.2.2 dX10_chance_41
set_option maxHeartbeats 4000000 in
set_option maxRecDepth 100000 in
theorem m_chance (l : Launch) (G : gW) (sz : Nat) (mo : Nat) (st : Nat) (mi : Nat) (mk : Nat) (m6 : Nat) (m7 : Nat) (m9 : Nat) (m10 : Nat) (m15 : Nat) (m16 : Nat) (m17 : Nat) (m18 : Nat) (m19 : Nat) (m20 : Nat) (m21 : Nat) (m22 : Nat) (m23 : Nat) (m24 : Nat) (a1 : Int32) (a2 : Int32) (a3 : Int32) (a4 : Int32)  : Met l yX11_chance (wsT yX11_chance cX11_chance 8 (some .int)) ({ frames := 2, cells := 0, slots := 0, locals := 55 }) (wP G [.ref mo, .int a1, .int a2, .int a3, .int a4] sz [(mo, eO 10 [.ref st, .ref mi, .ref mk, .long 0, .long 1, .int 0, .ref m6, .ref m7, .int 0, .ref m9, .ref m10, .int 0, .int 0, .int 0, .int 0, .ref m15, .ref m16, .ref m17, .ref m18, .ref m19, .ref m20, .ref m21, .ref m22, .ref m23, .ref m24])]) (va_Qi (fun (r : Int32) (_ : Unit) => r = if (inB 0 a1 40 = true) ∧ (inB 0 a2 a1 = true) ∧ (inB 0 a3 a1 = true) ∧ (inB 0 a4 40 = true) then (if chS a1 a2 a3 a4 = 0 then 0 else 1) else (-2)) (fun _ _ => True) (va_A [(mo, eO 10 [.ref st, .ref mi, .ref mk, .long 0, .long 1, .int 0, .ref m6, .ref m7, .int 0, .ref m9, .ref m10, .int 0, .int 0, .int 0, .int 0, .ref m15, .ref m16, .ref m17, .ref m18, .ref m19, .ref m20, .ref m21, .ref m22, .ref m23, .ref m24])] sz)) 0 0 (va_A [(mo, eO 10 [.ref st, .ref mi, .ref mk, .long 0, .long 1, .int 0, .ref m6, .ref m7, .int 0, .ref m9, .ref m10, .int 0, .int 0, .int 0, .int 0, .ref m15, .ref m16, .ref m17, .ref m18, .ref m19, .ref m20, .ref m21, .ref m22, .ref m23, .ref m24])] sz) := by
  refine Met.ofW (cc := cX11_chance) (maxL := 8) (ret := (some .int)) (by decide) rfl ?_
  intro p e s m args below meth c s₁ B hml hv
  obtain ⟨rfl, hsz, hP, hG, hD0⟩ := hv
  have hx := B.exec
  have hb := B.bytes
  have hr := B.returns
  have hts := my_hts (atoms_spec (ws := wsT yX11_chance cX11_chance 8 (some .int)) B.pre)
  have hown : s.vm.findClass RX11 = some m.cls := findClass_of_methodNamed B.named
  have hlocks := B.notSynchronized
  subst hsz
  have hD := hD0.self (sz := s.heap.size)
  generalize hAe : va_A [(mo, eO 10 [.ref st, .ref mi, .ref mk, .long 0, .long 1, .int 0, .ref m6, .ref m7, .int 0, .ref m9, .ref m10, .int 0, .int 0, .int 0, .int 0, .ref m15, .ref m16, .ref m17, .ref m18, .ref m19, .ref m20, .ref m21, .ref m22, .ref m23, .ref m24])] s.heap.size = A at hD ⊢
  have hA : ∀ q : Nat, s.heap.size ≤ q → A q := fun q h => by rw [← hAe]; exact Or.inr h
  have hS : va_S A s.heap s.heap [] := va_S.rf
  have hP : va_P G.1 vwCl [(mo, eO 10 [.ref st, .ref mi, .ref mk, .long 0, .long 1, .int 0, .ref m6, .ref m7, .int 0, .ref m9, .ref m10, .int 0, .int 0, .int 0, .int 0, .ref m15, .ref m16, .ref m17, .ref m18, .ref m19, .ref m20, .ref m21, .ref m22, .ref m23, .ref m24])] s.heap := hP
  have hl := lv_entry ([.ref mo, .int a1, .int a2, .int a3, .int a4]) (n := 8) (Nat.le_of_ble_eq_true rfl)
  rw [lg_entry_eq]
  generalize (lg_sl ([.ref mo, .int a1, .int a2, .int a3, .int a4]) ++ List.replicate (8 - (lg_sl ([.ref mo, .int a1, .int a2, .int a3, .int a4])).length) Slot.unset).toArray = ls at hl ⊢
  have hl : lv_has ls 8 [(0, .ref mo), (1, .int a1), (2, .int a2), (3, .int a3), (4, .int a4)] := hl
  refine lv_iload_n hx hb dX11_chance_0 rfl (lv_at hl 1 rfl) ?_
  refine lv_i2l hx hb dX11_chance_1 rfl ?_
  refine lv_lconst (v := 0) hx hb dX11_chance_2 (by decide) ?_
  refine my_bel (v := Int32.toInt64 0) (by decide) ?_
  refine lv_ldc2 (v := 40) hx hb hown (hts (.constantLong RX11 241 (40)) w_775) dX11_chance_3 ?_
  refine my_bel (v := Int32.toInt64 40) (by decide) ?_
  have hPc := hP.sub (ws' := []) [] rfl
  refine rd_calli (va_runS (As := [.long (Int32.toInt64 a1), .long (Int32.toInt64 0), .long (Int32.toInt64 40)]) (rest := []) ⟨hx, hb, hml, hown, hts⟩ (c_in l G a1 0 40 ) (my_cwS hts ok_X11_in w_162 rfl rfl ⟨Nat.le_of_ble_eq_true rfl, Nat.le_of_ble_eq_true rfl⟩) ⟨rP.blind, fun U hU hW => ⟨rfl, by rw [hU]; exact hPc, kG.warm hW hG⟩⟩ rfl rfl hl.1 rfl (lv_room (Nat.le_of_ble_eq_true rfl)) dX11_chance_6 ⟨Nat.le_of_ble_eq_true rfl, Nat.le_of_ble_eq_true rfl⟩) (fun r hr9 => ?_)
  subst hr9
  refine my_ifeq (tgt := 47) hx hb dX11_chance_9 (by decide) (fun c_9 => ?_) (fun c_9 => ?_)
  · refine lv_bipush (v := (-2)) hx hb dX11_chance_47 (by decide) ?_
    exact W.iret (v := (-2)) hx hb hr (fun t ht hW => ⟨⟨_, (), rfl, (by simp [c_9]), trivial⟩, hS.F ht⟩) hS.2.2 dX11_chance_49
  · refine lv_iload_n hx hb dX11_chance_12 rfl (lv_at hl 2 rfl) ?_
    refine lv_i2l hx hb dX11_chance_13 rfl ?_
    refine lv_lconst (v := 0) hx hb dX11_chance_14 (by decide) ?_
    refine my_bel (v := Int32.toInt64 0) (by decide) ?_
    refine lv_iload_n hx hb dX11_chance_15 rfl (lv_at hl 1 rfl) ?_
    refine lv_i2l hx hb dX11_chance_16 rfl ?_
    have hPc := hP.sub (ws' := []) [] rfl
    refine rd_calli (va_runS (As := [.long (Int32.toInt64 a2), .long (Int32.toInt64 0), .long (Int32.toInt64 a1)]) (rest := []) ⟨hx, hb, hml, hown, hts⟩ (c_in l G a2 0 a1 ) (my_cwS hts ok_X11_in w_162 rfl rfl ⟨Nat.le_of_ble_eq_true rfl, Nat.le_of_ble_eq_true rfl⟩) ⟨rP.blind, fun U hU hW => ⟨rfl, by rw [hU]; exact hPc, kG.warm hW hG⟩⟩ rfl rfl hl.1 rfl (lv_room (Nat.le_of_ble_eq_true rfl)) dX11_chance_17 ⟨Nat.le_of_ble_eq_true rfl, Nat.le_of_ble_eq_true rfl⟩) (fun r hr9 => ?_)
    subst hr9
    refine my_ifeq (tgt := 47) hx hb dX11_chance_20 (by decide) (fun c_20 => ?_) (fun c_20 => ?_)
    · refine lv_bipush (v := (-2)) hx hb dX11_chance_47 (by decide) ?_
      exact W.iret (v := (-2)) hx hb hr (fun t ht hW => ⟨⟨_, (), rfl, (by simp [c_9, c_20]), trivial⟩, hS.F ht⟩) hS.2.2 dX11_chance_49
    · refine lv_iload_n hx hb dX11_chance_23 rfl (lv_at hl 3 rfl) ?_
      refine lv_i2l hx hb dX11_chance_24 rfl ?_
      refine lv_lconst (v := 0) hx hb dX11_chance_25 (by decide) ?_
      refine my_bel (v := Int32.toInt64 0) (by decide) ?_
      refine lv_iload_n hx hb dX11_chance_26 rfl (lv_at hl 1 rfl) ?_
      refine lv_i2l hx hb dX11_chance_27 rfl ?_
      have hPc := hP.sub (ws' := []) [] rfl
      refine rd_calli (va_runS (As := [.long (Int32.toInt64 a3), .long (Int32.toInt64 0), .long (Int32.toInt64 a1)]) (rest := []) ⟨hx, hb, hml, hown, hts⟩ (c_in l G a3 0 a1 ) (my_cwS hts ok_X11_in w_162 rfl rfl ⟨Nat.le_of_ble_eq_true rfl, Nat.le_of_ble_eq_true rfl⟩) ⟨rP.blind, fun U hU hW => ⟨rfl, by rw [hU]; exact hPc, kG.warm hW hG⟩⟩ rfl rfl hl.1 rfl (lv_room (Nat.le_of_ble_eq_true rfl)) dX11_chance_28 ⟨Nat.le_of_ble_eq_true rfl, Nat.le_of_ble_eq_true rfl⟩) (fun r hr9 => ?_)
      subst hr9
      refine my_ifeq (tgt := 47) hx hb dX11_chance_31 (by decide) (fun c_31 => ?_) (fun c_31 => ?_)
      · refine lv_bipush (v := (-2)) hx hb dX11_chance_47 (by decide) ?_
        exact W.iret (v := (-2)) hx hb hr (fun t ht hW => ⟨⟨_, (), rfl, (by simp [c_9, c_20, c_31]), trivial⟩, hS.F ht⟩) hS.2.2 dX11_chance_49
      · refine lv_iload hx hb dX11_chance_34 (lv_at hl 4 rfl) ?_
        refine lv_i2l hx hb dX11_chance_36 rfl ?_
        refine lv_lconst (v := 0) hx hb dX11_chance_37 (by decide) ?_
        refine my_bel (v := Int32.toInt64 0) (by decide) ?_
        refine lv_ldc2 (v := 40) hx hb hown (hts (.constantLong RX11 241 (40)) w_775) dX11_chance_38 ?_
        refine my_bel (v := Int32.toInt64 40) (by decide) ?_
        have hPc := hP.sub (ws' := []) [] rfl
        refine rd_calli (va_runS (As := [.long (Int32.toInt64 a4), .long (Int32.toInt64 0), .long (Int32.toInt64 40)]) (rest := []) ⟨hx, hb, hml, hown, hts⟩ (c_in l G a4 0 40 ) (my_cwS hts ok_X11_in w_162 rfl rfl ⟨Nat.le_of_ble_eq_true rfl, Nat.le_of_ble_eq_true rfl⟩) ⟨rP.blind, fun U hU hW => ⟨rfl, by rw [hU]; exact hPc, kG.warm hW hG⟩⟩ rfl rfl hl.1 rfl (lv_room (Nat.le_of_ble_eq_true rfl)) dX11_chance_41 ⟨Nat.le_of_ble_eq_true rfl, Nat.le_of_ble_eq_true rfl⟩) (fun r hr9 => ?_)
        subst hr9
        refine my_ifne (tgt := 50) hx hb dX11_chance_44 (by decide) (fun c_44 => ?_) (fun c_44 => ?_)
        · obtain ⟨N, hN, e1⟩ := inB_nat (B := 40) (by decide) c_9
          subst e1
          obtain ⟨K, hK, e2⟩ := inB_nat (by omega) c_20
          subst e2
          obtain ⟨M, hM, e3⟩ := inB_nat (by omega) c_31
          subst e3
          obtain ⟨D, hD4, e4⟩ := inB_nat (B := 40) (by decide) c_44
          subst e4
          have hSv : chS (nI N) (nI K) (nI M) (nI D) = sm N K M 42 D 0 := by unfold chS; rw [nI_clamp (by omega), nI_clamp (by omega), nI_clamp (by omega), nI_clamp (by omega)]
          refine lv_lconst (v := 0) hx hb dX11_chance_50 (by decide) ?_
          refine my_bel (v := lN 0) (rfl) ?_
          refine lv_lstore (lv' := [(5, .long (lN 0)), (0, .ref mo), (1, .int (nI N)), (2, .int (nI K)), (3, .int (nI M)), (4, .int (nI D))]) hx hb dX11_chance_51 hl (by decide) rfl (fun ls hl => ?_)
          refine lv_iload hx hb dX11_chance_53 (lv_at hl 5 rfl) ?_
          refine lv_istore (lv' := [(7, .int (nI D)), (5, .long (lN 0)), (0, .ref mo), (1, .int (nI N)), (2, .int (nI K)), (3, .int (nI M)), (4, .int (nI D))]) hx hb dX11_chance_55 hl (by decide) rfl (fun ls hl => ?_)
          have key : ∀ (n : Nat) (f : Nat) (i : Nat) (z : Nat) (H : Heap) (locs : List Loc) (ls : Array Slot), sm N K M f i z = sm N K M 42 D 0 → M + 1 ≤ f + i → i ≤ 41 → z ≤ i * 1099511627776 → f < n → va_P G.1 vwCl [(mo, eO 10 [.ref st, .ref mi, .ref mk, .long 0, .long 1, .int 0, .ref m6, .ref m7, .int 0, .ref m9, .ref m10, .int 0, .int 0, .int 0, .int 0, .ref m15, .ref m16, .ref m17, .ref m18, .ref m19, .ref m20, .ref m21, .ref m22, .ref m23, .ref m24])] H → va_D A [(mo, eO 10 [.ref st, .ref mi, .ref mk, .long 0, .long 1, .int 0, .ref m6, .ref m7, .int 0, .ref m9, .ref m10, .int 0, .int 0, .int 0, .int 0, .ref m15, .ref m16, .ref m17, .ref m18, .ref m19, .ref m20, .ref m21, .ref m22, .ref m23, .ref m24])] → va_S A s.heap H locs → lv_has ls 8 [(0, .ref mo), (1, .int (nI N)), (2, .int (nI K)), (3, .int (nI M)), (5, .long (lN z)), (7, .int (nI i))] → W p l e (headSpec (wsT yX11_chance cX11_chance 8 (some .int)) ({ frames := 2, cells := 0, slots := 0, locals := 55 })).room s m ([.ref mo, .int (nI N), .int (nI K), .int (nI M), .int (nI D)] : List Value).toArray below meth c H locs 0 0 (MQ below (va_Qi (fun (r : Int32) (_ : Unit) => r = if (inB 0 (nI N) 40 = true) ∧ (inB 0 (nI K) (nI N) = true) ∧ (inB 0 (nI M) (nI N) = true) ∧ (inB 0 (nI D) 40 = true) then (if chS (nI N) (nI K) (nI M) (nI D) = 0 then 0 else 1) else (-2)) (fun _ _ => True) A) ([.ref mo, .int (nI N), .int (nI K), .int (nI M), .int (nI D)] : List Value).toArray s 0 0 A) (F0 m 57 ls []) := by
            intro n
            induction n with
            | zero => intro f i z H locs ls hv hf hi hz hn; exact absurd hn (Nat.not_lt_zero _)
            | succ n ih =>
              intro f i z H locs ls hv hf hi hz hn hP hD hS hl
              refine lv_iload hx hb dX11_chance_57 (lv_at hl 5 rfl) ?_
              refine lv_iload_n hx hb dX11_chance_59 rfl (lv_at hl 3 rfl) ?_
              refine lv_icmp_gt (tgt := 91) hx hb dX11_chance_60 (by decide) (fun c_60 => ?_) (fun c_60 => ?_)
              · have hMi : M < i := (nI_ltI (by omega) (by omega)).mp c_60
                have hz0 : z = sm N K M 42 D 0 := by rw [← hv, sm_end hMi]
                have hzb : z < 2 ^ 63 := by omega
                have hwb : wz N M < 2 ^ 63 := by have := wz_s (T := M) hN; omega
                have hwp : 0 < wz N M := wz_p hN hM
                refine lv_aload_n hx hb dX11_chance_91 rfl (lv_at hl 0 rfl) ?_
                refine lv_lload hx hb dX11_chance_92 (lv_at hl 4 rfl) ?_
                refine lv_iload_n hx hb dX11_chance_94 rfl (lv_at hl 1 rfl) ?_
                refine lv_iload_n hx hb dX11_chance_95 rfl (lv_at hl 3 rfl) ?_
                have hPc := hP.sub (ws' := []) [] rfl
                refine rd_calll (va_runS (As := [.int (nI N), .int (nI M)]) (rest := [.long (lN z), .ref mo]) ⟨hx, hb, hml, hown, hts⟩ (c_mways l G N M (by omega) (by omega)) (my_cwS hts ok_X11_ways w_776 rfl rfl ⟨Nat.le_of_ble_eq_true rfl, Nat.le_of_ble_eq_true rfl⟩) ⟨rP.blind, fun U hU hW => ⟨rfl, by rw [hU]; exact hPc, kG.warm hW hG⟩⟩ rfl rfl hl.1 rfl (lv_room (Nat.le_of_ble_eq_true rfl)) dX11_chance_96 ⟨Nat.le_of_ble_eq_true rfl, Nat.le_of_ble_eq_true rfl⟩) (fun r hr9 => ?_)
                subst hr9
                have hPc := hP.sub (ws' := [(mo, eO 10 [.ref st, .ref mi, .ref mk, .long 0, .long 1, .int 0, .ref m6, .ref m7, .int 0, .ref m9, .ref m10, .int 0, .int 0, .int 0, .int 0, .ref m15, .ref m16, .ref m17, .ref m18, .ref m19, .ref m20, .ref m21, .ref m22, .ref m23, .ref m24])]) [0] rfl
                have hDc := hD.sub (ws' := [(mo, eO 10 [.ref st, .ref mi, .ref mk, .long 0, .long 1, .int 0, .ref m6, .ref m7, .int 0, .ref m9, .ref m10, .int 0, .int 0, .int 0, .int 0, .ref m15, .ref m16, .ref m17, .ref m18, .ref m19, .ref m20, .ref m21, .ref m22, .ref m23, .ref m24])]) [0] (by decide) rfl
                have hFc := va_free (wc := [(mo, eO 10 [.ref st, .ref mi, .ref mk, .long 0, .long 1, .int 0, .ref m6, .ref m7, .int 0, .ref m9, .ref m10, .int 0, .int 0, .int 0, .int 0, .ref m15, .ref m16, .ref m17, .ref m18, .ref m19, .ref m20, .ref m21, .ref m22, .ref m23, .ref m24])]) hD hS hA [0] rfl
                refine va_calli (va_runV (As := [.long (lN z), .long (lN (wz N M))]) (rest := []) ⟨hx, hb, hml, hown, hts⟩ (c_told l G H.size mo st mi mk m6 m7 m9 m10 m15 m16 m17 m18 m19 m20 m21 m22 m23 m24 z (wz N M) (by omega) (by omega) (by omega)) (my_cwV hts ok_X11_told w_779 rfl rfl ⟨Nat.le_of_ble_eq_true rfl, Nat.le_of_ble_eq_true rfl⟩) ⟨wP.blind, va_recv hG.1 hPc (ci := 10) (q0 := 0) rfl rfl, fun U hU hW => ⟨rfl, by rw [hU], by rw [hU]; exact hPc, kG.warm hW hG, hDc.weaken (fun _ _ _ _ => trivial)⟩⟩ rfl rfl hl.1 rfl (lv_room (Nat.le_of_ble_eq_true rfl)) dX11_chance_99 ⟨Nat.le_of_ble_eq_true rfl, Nat.le_of_ble_eq_true rfl⟩) hS (fun q _ h => hFc q h) hFc (fun r u t H1 locs ht hvm hw hB hz1 hk1 hS => ?_)
                obtain ⟨hP, hD⟩ := va_join (wr := []) (w1 := []) hP hD [0] [] rfl rfl (by decide) (by decide) hk1 hFc my_P0 my_D0
                generalize H1 = H at hP hS ⊢
                have hP : va_P G.1 vwCl [] H := hP
                have hD : va_D A [] := hD
                subst hw
                exact W.iret (v := if z = 0 then 0 else 1) hx hb hr (fun t ht hW => ⟨⟨_, (), rfl, (by rw [if_pos ⟨c_9, c_20, c_31, c_44⟩, hSv, ← hz0]), trivial⟩, hS.F ht⟩) hS.2.2 dX11_chance_102
              · have hiM : i ≤ M := by
                  have h : ¬ M < i := fun z => c_60 (nI_lt z (by omega))
                  omega
                obtain ⟨f9, hf9⟩ : ∃ f9, f = f9 + 1 := ⟨f - 1, by omega⟩
                subst hf9
                refine lv_lload hx hb dX11_chance_63 (lv_at hl 4 rfl) ?_
                refine lv_iload_n hx hb dX11_chance_65 rfl (lv_at hl 2 rfl) ?_
                refine lv_iload hx hb dX11_chance_66 (lv_at hl 5 rfl) ?_
                have hPc := hP.sub (ws' := []) [] rfl
                refine rd_calll (va_runS (As := [.int (nI K), .int (nI i)]) (rest := [.long (lN z)]) ⟨hx, hb, hml, hown, hts⟩ (c_mways l G K i (by omega) (by omega)) (my_cwS hts ok_X11_ways w_776 rfl rfl ⟨Nat.le_of_ble_eq_true rfl, Nat.le_of_ble_eq_true rfl⟩) ⟨rP.blind, fun U hU hW => ⟨rfl, by rw [hU]; exact hPc, kG.warm hW hG⟩⟩ rfl rfl hl.1 rfl (lv_room (Nat.le_of_ble_eq_true rfl)) dX11_chance_68 ⟨Nat.le_of_ble_eq_true rfl, Nat.le_of_ble_eq_true rfl⟩) (fun r hr9 => ?_)
                subst hr9
                refine lv_iload_n hx hb dX11_chance_71 rfl (lv_at hl 1 rfl) ?_
                refine lv_iload_n hx hb dX11_chance_72 rfl (lv_at hl 2 rfl) ?_
                refine lv_isub hx hb dX11_chance_73 ?_
                refine my_bei (v := nI (N - K)) (pk_sub hK) ?_
                refine lv_iload_n hx hb dX11_chance_74 rfl (lv_at hl 3 rfl) ?_
                refine lv_iload hx hb dX11_chance_75 (lv_at hl 5 rfl) ?_
                refine lv_isub hx hb dX11_chance_77 ?_
                refine my_bei (v := nI (M - i)) (pk_sub hiM) ?_
                have hPc := hP.sub (ws' := []) [] rfl
                refine rd_calll (va_runS (As := [.int (nI (N - K)), .int (nI (M - i))]) (rest := [.long (lN (wz K i)), .long (lN z)]) ⟨hx, hb, hml, hown, hts⟩ (c_mways l G (N - K) (M - i) (by omega) (by omega)) (my_cwS hts ok_X11_ways w_776 rfl rfl ⟨Nat.le_of_ble_eq_true rfl, Nat.le_of_ble_eq_true rfl⟩) ⟨rP.blind, fun U hU hW => ⟨rfl, by rw [hU]; exact hPc, kG.warm hW hG⟩⟩ rfl rfl hl.1 rfl (lv_room (Nat.le_of_ble_eq_true rfl)) dX11_chance_78 ⟨Nat.le_of_ble_eq_true rfl, Nat.le_of_ble_eq_true rfl⟩) (fun r hr9 => ?_)
                subst hr9
                refine lv_lmul hx hb dX11_chance_81 ?_
                refine my_bel (v := lN (wz K i * wz (N - K) (M - i))) (lN_mul _ _) ?_
                refine lv_ladd hx hb dX11_chance_82 ?_
                refine my_bel (v := lN (z + wz K i * wz (N - K) (M - i))) (lN_add _ _) ?_
                refine lv_lstore (lv' := [(5, .long (lN (z + wz K i * wz (N - K) (M - i)))), (0, .ref mo), (1, .int (nI N)), (2, .int (nI K)), (3, .int (nI M)), (7, .int (nI i))]) hx hb dX11_chance_83 hl (by decide) rfl (fun ls hl => ?_)
                refine lv_iinc (v := nI (i + 1)) (lv' := [(7, .int (nI (i + 1))), (5, .long (lN (z + wz K i * wz (N - K) (M - i)))), (0, .ref mo), (1, .int (nI N)), (2, .int (nI K)), (3, .int (nI M))]) hx hb dX11_chance_85 hl (k := 5) rfl (nI_1 i) (by decide) rfl (fun ls hl => ?_)
                refine lv_goto (tgt := 57) hx hb dX11_chance_88 (by decide) ?_
                exact ih f9 (i + 1) (z + wz K i * wz (N - K) (M - i)) _ _ _ (by rw [← hv, sm_step hiM]) (by omega) (by omega) (by have := wz_m (i := i) (j := M - i) hN hK; omega) (by omega) (hP.sub [0] rfl) (hD.sub [0] (by decide) rfl) hS (lv_sub hl [2, 3, 4, 5, 1, 0] rfl)
          exact key (42 + 1) 42 D 0 _ _ _ (rfl) (by omega) (by omega) (Nat.zero_le _) (by omega) (hP.sub [0] rfl) (hD.sub [0] (by decide) rfl) hS (lv_sub hl [2, 3, 4, 5, 1, 0] rfl)
        · refine lv_bipush (v := (-2)) hx hb dX11_chance_47 (by decide) ?_
          exact W.iret (v := (-2)) hx hb hr (fun t ht hW => ⟨⟨_, (), rfl, (by simp [c_9, c_20, c_31, c_44]), trivial⟩, hS.F ht⟩) hS.2.2 dX11_chance_49

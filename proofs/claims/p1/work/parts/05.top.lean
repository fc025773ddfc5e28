set_option maxHeartbeats 4000000 in
set_option maxRecDepth 100000 in
theorem p_person (l : Launch) (G : gW) (sz : Nat) (x : Nat) (ct : Nat) (bk : Nat) (im : Nat) (kp : Nat) (rd : Nat) (fr : Nat) (wt : Nat) (pe : Nat) (fa : Nat) (ro : Nat) (ac : Nat) (tr : Nat) (la : Nat) (tx : Nat) (pea : Nat) (hs : Nat) (sp : Nat) (vl : Nat) (a1 : Int32) (a2 : Int32) (a3 : Int32) (a4 : Int32)  : Met l yX10_person (wsT yX10_person cX10_person 6 (some .int)) ({ frames := 2, cells := 0, slots := 0, locals := 35 }) (wP G [.ref x, .int a1, .int a2, .int a3, .int a4] sz [(x, eO 9 [.ref ct, .ref bk, .ref im, .ref kp, .ref rd, .ref fr, .ref wt]), (bk, eO 0 [.ref pe, .ref fa, .ref ro, .ref ac, .ref tr, .ref la, .ref tx, .int 5, .int 20]), (pe, eO 5 [.int 30, .int 4, .ref pea, .int 0]), (pea, eI G 120 (fun _ => 0)), (ct, eO 1 [.ref bk, .ref hs, .ref sp, .ref vl, .int 0])]) (va_Qi (fun (r : Int32) (_ : Unit) => r = if (inB 0 a1 3 = true) ∧ (inB 0 a2 3 = true) ∧ (inB 0 a3 1000 = true) ∧ (inB 0 a4 99 = true) then 0 else (-2)) (fun _ _ => True) (va_A [(x, eO 9 [.ref ct, .ref bk, .ref im, .ref kp, .ref rd, .ref fr, .ref wt]), (bk, eO 0 [.ref pe, .ref fa, .ref ro, .ref ac, .ref tr, .ref la, .ref tx, .int 5, .int 20]), (pe, eO 5 [.int 30, .int 4, .ref pea, .int 0]), (pea, eI G 120 (fun _ => 0)), (ct, eO 1 [.ref bk, .ref hs, .ref sp, .ref vl, .int 0])] sz)) 0 0 (va_A [(x, eO 9 [.ref ct, .ref bk, .ref im, .ref kp, .ref rd, .ref fr, .ref wt]), (bk, eO 0 [.ref pe, .ref fa, .ref ro, .ref ac, .ref tr, .ref la, .ref tx, .int 5, .int 20]), (pe, eO 5 [.int 30, .int 4, .ref pea, .int 0]), (pea, eI G 120 (fun _ => 0)), (ct, eO 1 [.ref bk, .ref hs, .ref sp, .ref vl, .int 0])] sz) := by
  refine Met.ofW (cc := cX10_person) (maxL := 6) (ret := (some .int)) (by decide) rfl ?_
  intro p e s m args below meth c s₁ B hml hv
  obtain ⟨rfl, hsz, hP, hG, hD0⟩ := hv
  have hx := B.exec
  have hb := B.bytes
  have hr := B.returns
  have hts := my_hts (atoms_spec (ws := wsT yX10_person cX10_person 6 (some .int)) B.pre)
  have hown : s.vm.findClass RX10 = some m.cls := findClass_of_methodNamed B.named
  have hlocks := B.notSynchronized
  subst hsz
  have hD := hD0.self (sz := s.heap.size)
  generalize hAe : va_A [(x, eO 9 [.ref ct, .ref bk, .ref im, .ref kp, .ref rd, .ref fr, .ref wt]), (bk, eO 0 [.ref pe, .ref fa, .ref ro, .ref ac, .ref tr, .ref la, .ref tx, .int 5, .int 20]), (pe, eO 5 [.int 30, .int 4, .ref pea, .int 0]), (pea, eI G 120 (fun _ => 0)), (ct, eO 1 [.ref bk, .ref hs, .ref sp, .ref vl, .int 0])] s.heap.size = A at hD ⊢
  have hA : ∀ q : Nat, s.heap.size ≤ q → A q := fun q h => by rw [← hAe]; exact Or.inr h
  have hS : va_S A s.heap s.heap [] := va_S.rf
  have hP : va_P G.1 vwCl [(x, eO 9 [.ref ct, .ref bk, .ref im, .ref kp, .ref rd, .ref fr, .ref wt]), (bk, eO 0 [.ref pe, .ref fa, .ref ro, .ref ac, .ref tr, .ref la, .ref tx, .int 5, .int 20]), (pe, eO 5 [.int 30, .int 4, .ref pea, .int 0]), (pea, eI G 120 (fun _ => 0)), (ct, eO 1 [.ref bk, .ref hs, .ref sp, .ref vl, .int 0])] s.heap := hP
  have hl := lv_entry ([.ref x, .int a1, .int a2, .int a3, .int a4]) (n := 6) (Nat.le_of_ble_eq_true rfl)
  rw [lg_entry_eq]
  generalize (lg_sl ([.ref x, .int a1, .int a2, .int a3, .int a4]) ++ List.replicate (6 - (lg_sl ([.ref x, .int a1, .int a2, .int a3, .int a4])).length) Slot.unset).toArray = ls at hl ⊢
  have hl : lv_has ls 6 [(0, .ref x), (1, .int a1), (2, .int a2), (3, .int a3), (4, .int a4)] := hl
  refine lv_iload_n hx hb dX10_person_0 rfl (lv_at hl 1 rfl) ?_
  refine lv_iconst (v := 0) hx hb dX10_person_1 (by decide) ?_
  refine lv_iconst (v := 3) hx hb dX10_person_2 (by decide) ?_
  have hPc := hP.sub (ws' := []) [] rfl
  refine rd_calli (va_runS (As := [.int a1, .int 0, .int 3]) (rest := []) ⟨hx, hb, hml, hown, hts⟩ (c_within l G a1 0 3 ) (my_cwS hts ok_X10_within w_134 rfl rfl ⟨Nat.le_of_ble_eq_true rfl, Nat.le_of_ble_eq_true rfl⟩) ⟨rP.blind, fun U hU hW => ⟨rfl, by rw [hU]; exact hPc, kG.warm hW hG⟩⟩ rfl rfl hl.1 rfl (lv_room (Nat.le_of_ble_eq_true rfl)) dX10_person_3 ⟨Nat.le_of_ble_eq_true rfl, Nat.le_of_ble_eq_true rfl⟩) (fun r hr9 => ?_)
  subst hr9
  refine my_ifeq (tgt := 40) hx hb dX10_person_6 (by decide) (fun c_6 => ?_) (fun c_6 => ?_)
  · refine lv_bipush (v := (-2)) hx hb dX10_person_40 (by decide) ?_
    exact W.iret (v := (-2)) hx hb hr (fun t ht hW => ⟨⟨_, (), rfl, (by simp [c_6]), trivial⟩, hS.F ht⟩) hS.2.2 dX10_person_42
  · refine lv_iload_n hx hb dX10_person_9 rfl (lv_at hl 2 rfl) ?_
    refine lv_iconst (v := 0) hx hb dX10_person_10 (by decide) ?_
    refine lv_iconst (v := 3) hx hb dX10_person_11 (by decide) ?_
    have hPc := hP.sub (ws' := []) [] rfl
    refine rd_calli (va_runS (As := [.int a2, .int 0, .int 3]) (rest := []) ⟨hx, hb, hml, hown, hts⟩ (c_within l G a2 0 3 ) (my_cwS hts ok_X10_within w_134 rfl rfl ⟨Nat.le_of_ble_eq_true rfl, Nat.le_of_ble_eq_true rfl⟩) ⟨rP.blind, fun U hU hW => ⟨rfl, by rw [hU]; exact hPc, kG.warm hW hG⟩⟩ rfl rfl hl.1 rfl (lv_room (Nat.le_of_ble_eq_true rfl)) dX10_person_12 ⟨Nat.le_of_ble_eq_true rfl, Nat.le_of_ble_eq_true rfl⟩) (fun r hr9 => ?_)
    subst hr9
    refine my_ifeq (tgt := 40) hx hb dX10_person_15 (by decide) (fun c_15 => ?_) (fun c_15 => ?_)
    · refine lv_bipush (v := (-2)) hx hb dX10_person_40 (by decide) ?_
      exact W.iret (v := (-2)) hx hb hr (fun t ht hW => ⟨⟨_, (), rfl, (by simp [c_6, c_15]), trivial⟩, hS.F ht⟩) hS.2.2 dX10_person_42
    · refine lv_iload_n hx hb dX10_person_18 rfl (lv_at hl 3 rfl) ?_
      refine lv_iconst (v := 0) hx hb dX10_person_19 (by decide) ?_
      refine lv_sipush (v := 1000) hx hb dX10_person_20 (by decide) ?_
      have hPc := hP.sub (ws' := []) [] rfl
      refine rd_calli (va_runS (As := [.int a3, .int 0, .int 1000]) (rest := []) ⟨hx, hb, hml, hown, hts⟩ (c_within l G a3 0 1000 ) (my_cwS hts ok_X10_within w_134 rfl rfl ⟨Nat.le_of_ble_eq_true rfl, Nat.le_of_ble_eq_true rfl⟩) ⟨rP.blind, fun U hU hW => ⟨rfl, by rw [hU]; exact hPc, kG.warm hW hG⟩⟩ rfl rfl hl.1 rfl (lv_room (Nat.le_of_ble_eq_true rfl)) dX10_person_23 ⟨Nat.le_of_ble_eq_true rfl, Nat.le_of_ble_eq_true rfl⟩) (fun r hr9 => ?_)
      subst hr9
      refine my_ifeq (tgt := 40) hx hb dX10_person_26 (by decide) (fun c_26 => ?_) (fun c_26 => ?_)
      · refine lv_bipush (v := (-2)) hx hb dX10_person_40 (by decide) ?_
        exact W.iret (v := (-2)) hx hb hr (fun t ht hW => ⟨⟨_, (), rfl, (by simp [c_6, c_15, c_26]), trivial⟩, hS.F ht⟩) hS.2.2 dX10_person_42
      · refine lv_iload hx hb dX10_person_29 (lv_at hl 4 rfl) ?_
        refine lv_iconst (v := 0) hx hb dX10_person_31 (by decide) ?_
        refine lv_bipush (v := 99) hx hb dX10_person_32 (by decide) ?_
        have hPc := hP.sub (ws' := []) [] rfl
        refine rd_calli (va_runS (As := [.int a4, .int 0, .int 99]) (rest := []) ⟨hx, hb, hml, hown, hts⟩ (c_within l G a4 0 99 ) (my_cwS hts ok_X10_within w_134 rfl rfl ⟨Nat.le_of_ble_eq_true rfl, Nat.le_of_ble_eq_true rfl⟩) ⟨rP.blind, fun U hU hW => ⟨rfl, by rw [hU]; exact hPc, kG.warm hW hG⟩⟩ rfl rfl hl.1 rfl (lv_room (Nat.le_of_ble_eq_true rfl)) dX10_person_34 ⟨Nat.le_of_ble_eq_true rfl, Nat.le_of_ble_eq_true rfl⟩) (fun r hr9 => ?_)
        subst hr9
        refine my_ifne (tgt := 43) hx hb dX10_person_37 (by decide) (fun c_37 => ?_) (fun c_37 => ?_)
        · refine lv_aload_n hx hb dX10_person_43 rfl (lv_at hl 0 rfl) ?_
          refine va_get (D := G.1) (ci := 9) (v := .ref bk) (C := RX10) (T := TX10) (N := 7) hx hb hts inlX10 hown hG.1 hP 0 rfl rfl 1 (by decide) (hts (.fieldLink RX10 20 "SwornLists" "book" "LSwornLists$Book;") w_16) (fun _ h9 => h9) rfl dX10_person_44 ?_
          refine va_getN (D := G.1) (ci := 0) (v := .ref pe) (C := RX0) (T := TX0) (N := 9) (host := RX10) hx hb hts inlX0 hown hG.1 hP 1 rfl rfl 0 (by decide) (va_Nw.use rfl (hG.2.1 (.fieldLinkNest RX10 57 RX0 "people" "LSwornLists$Rows;" RX10) (List.mem_of_getElem? (i := 0) rfl))) (fun _ h9 => h9) rfl dX10_person_47 ?_
          have hPc := hP.sub (ws' := [(pe, eO 5 [.int 30, .int 4, .ref pea, .int 0])]) [2] rfl
          have hDc := hD.sub (ws' := [(pe, eO 5 [.int 30, .int 4, .ref pea, .int 0])]) [2] (by decide) rfl
          have hFc := va_free (wc := [(pe, eO 5 [.int 30, .int 4, .ref pea, .int 0])]) hD hS hA [2] rfl
          refine va_calli (va_runV (As := []) (rest := []) ⟨hx, hb, hml, hown, hts⟩ (c_grow0 l G s.heap.size pe 30 4 pea (by first | assumption | decide | omega)) (my_cwV hts ok_X5_grow w_137 rfl rfl ⟨Nat.le_of_ble_eq_true rfl, Nat.le_of_ble_eq_true rfl⟩) ⟨wP.blind, va_recv hG.1 hPc (ci := 5) (q0 := 0) rfl rfl, fun U hU hW => ⟨rfl, by rw [hU], by rw [hU]; exact hPc, kG.warm hW hG, hDc.weaken (fun _ _ _ _ => trivial)⟩⟩ rfl rfl hl.1 rfl (lv_room (Nat.le_of_ble_eq_true rfl)) dX10_person_50 ⟨Nat.le_of_ble_eq_true rfl, Nat.le_of_ble_eq_true rfl⟩) hS (fun q _ h => hFc q h) hFc (fun r u t H1 locs ht hvm hw hB hz1 hk1 hS => ?_)
          obtain ⟨hP1, hD1⟩ := hB
          rw [ht] at hP1
          try dsimp only at hw
          obtain ⟨hP, hD⟩ := va_join (wr := [(x, eO 9 [.ref ct, .ref bk, .ref im, .ref kp, .ref rd, .ref fr, .ref wt]), (bk, eO 0 [.ref pe, .ref fa, .ref ro, .ref ac, .ref tr, .ref la, .ref tx, .int 5, .int 20]), (pea, eI G 120 (fun _ => 0)), (ct, eO 1 [.ref bk, .ref hs, .ref sp, .ref vl, .int 0])]) (w1 := [(pe, eO 5 [.int 30, .int 4, .ref pea, .int 1])]) hP hD [2] [0, 1, 3, 4] rfl rfl (by decide) (by decide) hk1 hFc hP1 hD1
          generalize H1 = H at hP hS ⊢
          have hP : va_P G.1 vwCl [(x, eO 9 [.ref ct, .ref bk, .ref im, .ref kp, .ref rd, .ref fr, .ref wt]), (bk, eO 0 [.ref pe, .ref fa, .ref ro, .ref ac, .ref tr, .ref la, .ref tx, .int 5, .int 20]), (pea, eI G 120 (fun _ => 0)), (ct, eO 1 [.ref bk, .ref hs, .ref sp, .ref vl, .int 0]), (pe, eO 5 [.int 30, .int 4, .ref pea, .int 1])] H := hP
          have hD : va_D A [(x, eO 9 [.ref ct, .ref bk, .ref im, .ref kp, .ref rd, .ref fr, .ref wt]), (bk, eO 0 [.ref pe, .ref fa, .ref ro, .ref ac, .ref tr, .ref la, .ref tx, .int 5, .int 20]), (pea, eI G 120 (fun _ => 0)), (ct, eO 1 [.ref bk, .ref hs, .ref sp, .ref vl, .int 0]), (pe, eO 5 [.int 30, .int 4, .ref pea, .int 1])] := hD
          subst hw
          refine lv_istore (lv' := [(5, .int 0), (0, .ref x), (1, .int a1), (2, .int a2), (3, .int a3), (4, .int a4)]) hx hb dX10_person_53 hl (by decide) rfl (fun ls hl => ?_)
          refine lv_iload hx hb dX10_person_55 (lv_at hl 0 rfl) ?_
          refine lv_bipush (v := (-4)) hx hb dX10_person_57 (by decide) ?_
          refine lv_icmp_ne (tgt := 65) hx hb dX10_person_59 (by decide) (fun c_59 => ?_) (fun c_59 => absurd c_59 (by decide))
          refine lv_aload_n hx hb dX10_person_65 rfl (lv_at hl 1 rfl) ?_
          refine va_get (D := G.1) (ci := 9) (v := .ref bk) (C := RX10) (T := TX10) (N := 7) hx hb hts inlX10 hown hG.1 hP 0 rfl rfl 1 (by decide) (hts (.fieldLink RX10 20 "SwornLists" "book" "LSwornLists$Book;") w_16) (fun _ h9 => h9) rfl dX10_person_66 ?_
          refine va_getN (D := G.1) (ci := 0) (v := .ref pe) (C := RX0) (T := TX0) (N := 9) (host := RX10) hx hb hts inlX0 hown hG.1 hP 1 rfl rfl 0 (by decide) (va_Nw.use rfl (hG.2.1 (.fieldLinkNest RX10 57 RX0 "people" "LSwornLists$Rows;" RX10) (List.mem_of_getElem? (i := 0) rfl))) (fun _ h9 => h9) rfl dX10_person_69 ?_
          refine lv_iload hx hb dX10_person_72 (lv_at hl 0 rfl) ?_
          refine lv_iconst (v := 0) hx hb dX10_person_74 (by decide) ?_
          refine lv_iload_n hx hb dX10_person_75 rfl (lv_at hl 2 rfl) ?_
          have hPc := hP.sub (ws' := [(pe, eO 5 [.int 30, .int 4, .ref pea, .int 1]), (pea, eI G 120 (fun _ => 0))]) [4, 2] rfl
          have hDc := hD.sub (ws' := [(pe, eO 5 [.int 30, .int 4, .ref pea, .int 1]), (pea, eI G 120 (fun _ => 0))]) [4, 2] (by decide) rfl
          have hFc := va_free (wc := [(pe, eO 5 [.int 30, .int 4, .ref pea, .int 1]), (pea, eI G 120 (fun _ => 0))]) hD hS hA [4, 2] rfl
          refine va_callv (va_runV (As := [.int 0, .int 0, .int a1]) (rest := []) ⟨hx, hb, hml, hown, hts⟩ (c_set0 l G H.size pe 30 4 pea 120 (fun _ => 0) 0 a1 (by first | assumption | decide | omega) (by first | assumption | decide | omega) (by unfold vp_in; decide)) (my_cwV hts ok_X5_set w_142 rfl rfl ⟨Nat.le_of_ble_eq_true rfl, Nat.le_of_ble_eq_true rfl⟩) ⟨wP.blind, va_recv hG.1 hPc (ci := 5) (q0 := 0) rfl rfl, fun U hU hW => ⟨rfl, by rw [hU], by rw [hU]; exact hPc, kG.warm hW hG, hDc.weaken (fun _ _ _ _ => trivial)⟩⟩ rfl rfl hl.1 rfl (lv_room (Nat.le_of_ble_eq_true rfl)) dX10_person_76 ⟨Nat.le_of_ble_eq_true rfl, Nat.le_of_ble_eq_true rfl⟩) hS (fun q _ h => hFc q h) hFc (fun u t H1 locs ht hvm hw hB hz1 hk1 hS => ?_)
          obtain ⟨hP1, hD1⟩ := hB
          rw [ht] at hP1
          try dsimp only at hw
          obtain ⟨hP, hD⟩ := va_join (wr := [(x, eO 9 [.ref ct, .ref bk, .ref im, .ref kp, .ref rd, .ref fr, .ref wt]), (bk, eO 0 [.ref pe, .ref fa, .ref ro, .ref ac, .ref tr, .ref la, .ref tx, .int 5, .int 20]), (ct, eO 1 [.ref bk, .ref hs, .ref sp, .ref vl, .int 0])]) (w1 := [(pe, eO 5 [.int 30, .int 4, .ref pea, .int 1]), (pea, eI G 120 (upd (fun _ => 0) (Int32.toNatClampNeg (0 * 4 + 0)) a1))]) hP hD [4, 2] [0, 1, 3] rfl rfl (by decide) (by decide) hk1 hFc hP1 hD1
          generalize H1 = H at hP hS ⊢
          have hP : va_P G.1 vwCl [(x, eO 9 [.ref ct, .ref bk, .ref im, .ref kp, .ref rd, .ref fr, .ref wt]), (bk, eO 0 [.ref pe, .ref fa, .ref ro, .ref ac, .ref tr, .ref la, .ref tx, .int 5, .int 20]), (ct, eO 1 [.ref bk, .ref hs, .ref sp, .ref vl, .int 0]), (pe, eO 5 [.int 30, .int 4, .ref pea, .int 1]), (pea, eI G 120 (upd (fun _ => 0) (Int32.toNatClampNeg (0 * 4 + 0)) a1))] H := hP
          have hD : va_D A [(x, eO 9 [.ref ct, .ref bk, .ref im, .ref kp, .ref rd, .ref fr, .ref wt]), (bk, eO 0 [.ref pe, .ref fa, .ref ro, .ref ac, .ref tr, .ref la, .ref tx, .int 5, .int 20]), (ct, eO 1 [.ref bk, .ref hs, .ref sp, .ref vl, .int 0]), (pe, eO 5 [.int 30, .int 4, .ref pea, .int 1]), (pea, eI G 120 (upd (fun _ => 0) (Int32.toNatClampNeg (0 * 4 + 0)) a1))] := hD
          refine lv_aload_n hx hb dX10_person_79 rfl (lv_at hl 1 rfl) ?_
          refine va_get (D := G.1) (ci := 9) (v := .ref bk) (C := RX10) (T := TX10) (N := 7) hx hb hts inlX10 hown hG.1 hP 0 rfl rfl 1 (by decide) (hts (.fieldLink RX10 20 "SwornLists" "book" "LSwornLists$Book;") w_16) (fun _ h9 => h9) rfl dX10_person_80 ?_
          refine va_getN (D := G.1) (ci := 0) (v := .ref pe) (C := RX0) (T := TX0) (N := 9) (host := RX10) hx hb hts inlX0 hown hG.1 hP 1 rfl rfl 0 (by decide) (va_Nw.use rfl (hG.2.1 (.fieldLinkNest RX10 57 RX0 "people" "LSwornLists$Rows;" RX10) (List.mem_of_getElem? (i := 0) rfl))) (fun _ h9 => h9) rfl dX10_person_83 ?_
          refine lv_iload hx hb dX10_person_86 (lv_at hl 0 rfl) ?_
          refine lv_iconst (v := 1) hx hb dX10_person_88 (by decide) ?_
          refine lv_iload_n hx hb dX10_person_89 rfl (lv_at hl 3 rfl) ?_
          have hPc := hP.sub (ws' := [(pe, eO 5 [.int 30, .int 4, .ref pea, .int 1]), (pea, eI G 120 (upd (fun _ => 0) (Int32.toNatClampNeg (0 * 4 + 0)) a1))]) [3, 4] rfl
          have hDc := hD.sub (ws' := [(pe, eO 5 [.int 30, .int 4, .ref pea, .int 1]), (pea, eI G 120 (upd (fun _ => 0) (Int32.toNatClampNeg (0 * 4 + 0)) a1))]) [3, 4] (by decide) rfl
          have hFc := va_free (wc := [(pe, eO 5 [.int 30, .int 4, .ref pea, .int 1]), (pea, eI G 120 (upd (fun _ => 0) (Int32.toNatClampNeg (0 * 4 + 0)) a1))]) hD hS hA [3, 4] rfl
          refine va_callv (va_runV (As := [.int 0, .int 1, .int a2]) (rest := []) ⟨hx, hb, hml, hown, hts⟩ (c_set0 l G H.size pe 30 4 pea 120 (upd (fun _ => 0) (Int32.toNatClampNeg (0 * 4 + 0)) a1) 1 a2 (by first | assumption | decide | omega) (by first | assumption | decide | omega) (by unfold vp_in; decide)) (my_cwV hts ok_X5_set w_142 rfl rfl ⟨Nat.le_of_ble_eq_true rfl, Nat.le_of_ble_eq_true rfl⟩) ⟨wP.blind, va_recv hG.1 hPc (ci := 5) (q0 := 0) rfl rfl, fun U hU hW => ⟨rfl, by rw [hU], by rw [hU]; exact hPc, kG.warm hW hG, hDc.weaken (fun _ _ _ _ => trivial)⟩⟩ rfl rfl hl.1 rfl (lv_room (Nat.le_of_ble_eq_true rfl)) dX10_person_90 ⟨Nat.le_of_ble_eq_true rfl, Nat.le_of_ble_eq_true rfl⟩) hS (fun q _ h => hFc q h) hFc (fun u t H1 locs ht hvm hw hB hz1 hk1 hS => ?_)
          obtain ⟨hP1, hD1⟩ := hB
          rw [ht] at hP1
          try dsimp only at hw
          obtain ⟨hP, hD⟩ := va_join (wr := [(x, eO 9 [.ref ct, .ref bk, .ref im, .ref kp, .ref rd, .ref fr, .ref wt]), (bk, eO 0 [.ref pe, .ref fa, .ref ro, .ref ac, .ref tr, .ref la, .ref tx, .int 5, .int 20]), (ct, eO 1 [.ref bk, .ref hs, .ref sp, .ref vl, .int 0])]) (w1 := [(pe, eO 5 [.int 30, .int 4, .ref pea, .int 1]), (pea, eI G 120 (upd (upd (fun _ => 0) (Int32.toNatClampNeg (0 * 4 + 0)) a1) (Int32.toNatClampNeg (0 * 4 + 1)) a2))]) hP hD [3, 4] [0, 1, 2] rfl rfl (by decide) (by decide) hk1 hFc hP1 hD1
          generalize H1 = H at hP hS ⊢
          have hP : va_P G.1 vwCl [(x, eO 9 [.ref ct, .ref bk, .ref im, .ref kp, .ref rd, .ref fr, .ref wt]), (bk, eO 0 [.ref pe, .ref fa, .ref ro, .ref ac, .ref tr, .ref la, .ref tx, .int 5, .int 20]), (ct, eO 1 [.ref bk, .ref hs, .ref sp, .ref vl, .int 0]), (pe, eO 5 [.int 30, .int 4, .ref pea, .int 1]), (pea, eI G 120 (upd (upd (fun _ => 0) (Int32.toNatClampNeg (0 * 4 + 0)) a1) (Int32.toNatClampNeg (0 * 4 + 1)) a2))] H := hP
          have hD : va_D A [(x, eO 9 [.ref ct, .ref bk, .ref im, .ref kp, .ref rd, .ref fr, .ref wt]), (bk, eO 0 [.ref pe, .ref fa, .ref ro, .ref ac, .ref tr, .ref la, .ref tx, .int 5, .int 20]), (ct, eO 1 [.ref bk, .ref hs, .ref sp, .ref vl, .int 0]), (pe, eO 5 [.int 30, .int 4, .ref pea, .int 1]), (pea, eI G 120 (upd (upd (fun _ => 0) (Int32.toNatClampNeg (0 * 4 + 0)) a1) (Int32.toNatClampNeg (0 * 4 + 1)) a2))] := hD
          refine lv_aload_n hx hb dX10_person_93 rfl (lv_at hl 1 rfl) ?_
          refine va_get (D := G.1) (ci := 9) (v := .ref bk) (C := RX10) (T := TX10) (N := 7) hx hb hts inlX10 hown hG.1 hP 0 rfl rfl 1 (by decide) (hts (.fieldLink RX10 20 "SwornLists" "book" "LSwornLists$Book;") w_16) (fun _ h9 => h9) rfl dX10_person_94 ?_
          refine va_getN (D := G.1) (ci := 0) (v := .ref pe) (C := RX0) (T := TX0) (N := 9) (host := RX10) hx hb hts inlX0 hown hG.1 hP 1 rfl rfl 0 (by decide) (va_Nw.use rfl (hG.2.1 (.fieldLinkNest RX10 57 RX0 "people" "LSwornLists$Rows;" RX10) (List.mem_of_getElem? (i := 0) rfl))) (fun _ h9 => h9) rfl dX10_person_97 ?_
          refine lv_iload hx hb dX10_person_100 (lv_at hl 0 rfl) ?_
          refine lv_iconst (v := 2) hx hb dX10_person_102 (by decide) ?_
          refine lv_iload_n hx hb dX10_person_103 rfl (lv_at hl 4 rfl) ?_
          have hPc := hP.sub (ws' := [(pe, eO 5 [.int 30, .int 4, .ref pea, .int 1]), (pea, eI G 120 (upd (upd (fun _ => 0) (Int32.toNatClampNeg (0 * 4 + 0)) a1) (Int32.toNatClampNeg (0 * 4 + 1)) a2))]) [3, 4] rfl
          have hDc := hD.sub (ws' := [(pe, eO 5 [.int 30, .int 4, .ref pea, .int 1]), (pea, eI G 120 (upd (upd (fun _ => 0) (Int32.toNatClampNeg (0 * 4 + 0)) a1) (Int32.toNatClampNeg (0 * 4 + 1)) a2))]) [3, 4] (by decide) rfl
          have hFc := va_free (wc := [(pe, eO 5 [.int 30, .int 4, .ref pea, .int 1]), (pea, eI G 120 (upd (upd (fun _ => 0) (Int32.toNatClampNeg (0 * 4 + 0)) a1) (Int32.toNatClampNeg (0 * 4 + 1)) a2))]) hD hS hA [3, 4] rfl
          refine va_callv (va_runV (As := [.int 0, .int 2, .int a3]) (rest := []) ⟨hx, hb, hml, hown, hts⟩ (c_set0 l G H.size pe 30 4 pea 120 (upd (upd (fun _ => 0) (Int32.toNatClampNeg (0 * 4 + 0)) a1) (Int32.toNatClampNeg (0 * 4 + 1)) a2) 2 a3 (by first | assumption | decide | omega) (by first | assumption | decide | omega) (by unfold vp_in; decide)) (my_cwV hts ok_X5_set w_142 rfl rfl ⟨Nat.le_of_ble_eq_true rfl, Nat.le_of_ble_eq_true rfl⟩) ⟨wP.blind, va_recv hG.1 hPc (ci := 5) (q0 := 0) rfl rfl, fun U hU hW => ⟨rfl, by rw [hU], by rw [hU]; exact hPc, kG.warm hW hG, hDc.weaken (fun _ _ _ _ => trivial)⟩⟩ rfl rfl hl.1 rfl (lv_room (Nat.le_of_ble_eq_true rfl)) dX10_person_104 ⟨Nat.le_of_ble_eq_true rfl, Nat.le_of_ble_eq_true rfl⟩) hS (fun q _ h => hFc q h) hFc (fun u t H1 locs ht hvm hw hB hz1 hk1 hS => ?_)
          obtain ⟨hP1, hD1⟩ := hB
          rw [ht] at hP1
          try dsimp only at hw
          obtain ⟨hP, hD⟩ := va_join (wr := [(x, eO 9 [.ref ct, .ref bk, .ref im, .ref kp, .ref rd, .ref fr, .ref wt]), (bk, eO 0 [.ref pe, .ref fa, .ref ro, .ref ac, .ref tr, .ref la, .ref tx, .int 5, .int 20]), (ct, eO 1 [.ref bk, .ref hs, .ref sp, .ref vl, .int 0])]) (w1 := [(pe, eO 5 [.int 30, .int 4, .ref pea, .int 1]), (pea, eI G 120 (upd (upd (upd (fun _ => 0) (Int32.toNatClampNeg (0 * 4 + 0)) a1) (Int32.toNatClampNeg (0 * 4 + 1)) a2) (Int32.toNatClampNeg (0 * 4 + 2)) a3))]) hP hD [3, 4] [0, 1, 2] rfl rfl (by decide) (by decide) hk1 hFc hP1 hD1
          generalize H1 = H at hP hS ⊢
          have hP : va_P G.1 vwCl [(x, eO 9 [.ref ct, .ref bk, .ref im, .ref kp, .ref rd, .ref fr, .ref wt]), (bk, eO 0 [.ref pe, .ref fa, .ref ro, .ref ac, .ref tr, .ref la, .ref tx, .int 5, .int 20]), (ct, eO 1 [.ref bk, .ref hs, .ref sp, .ref vl, .int 0]), (pe, eO 5 [.int 30, .int 4, .ref pea, .int 1]), (pea, eI G 120 (upd (upd (upd (fun _ => 0) (Int32.toNatClampNeg (0 * 4 + 0)) a1) (Int32.toNatClampNeg (0 * 4 + 1)) a2) (Int32.toNatClampNeg (0 * 4 + 2)) a3))] H := hP
          have hD : va_D A [(x, eO 9 [.ref ct, .ref bk, .ref im, .ref kp, .ref rd, .ref fr, .ref wt]), (bk, eO 0 [.ref pe, .ref fa, .ref ro, .ref ac, .ref tr, .ref la, .ref tx, .int 5, .int 20]), (ct, eO 1 [.ref bk, .ref hs, .ref sp, .ref vl, .int 0]), (pe, eO 5 [.int 30, .int 4, .ref pea, .int 1]), (pea, eI G 120 (upd (upd (upd (fun _ => 0) (Int32.toNatClampNeg (0 * 4 + 0)) a1) (Int32.toNatClampNeg (0 * 4 + 1)) a2) (Int32.toNatClampNeg (0 * 4 + 2)) a3))] := hD
          refine lv_aload_n hx hb dX10_person_107 rfl (lv_at hl 1 rfl) ?_
          refine va_get (D := G.1) (ci := 9) (v := .ref bk) (C := RX10) (T := TX10) (N := 7) hx hb hts inlX10 hown hG.1 hP 0 rfl rfl 1 (by decide) (hts (.fieldLink RX10 20 "SwornLists" "book" "LSwornLists$Book;") w_16) (fun _ h9 => h9) rfl dX10_person_108 ?_
          refine va_getN (D := G.1) (ci := 0) (v := .ref pe) (C := RX0) (T := TX0) (N := 9) (host := RX10) hx hb hts inlX0 hown hG.1 hP 1 rfl rfl 0 (by decide) (va_Nw.use rfl (hG.2.1 (.fieldLinkNest RX10 57 RX0 "people" "LSwornLists$Rows;" RX10) (List.mem_of_getElem? (i := 0) rfl))) (fun _ h9 => h9) rfl dX10_person_111 ?_
          refine lv_iload hx hb dX10_person_114 (lv_at hl 0 rfl) ?_
          refine lv_iconst (v := 3) hx hb dX10_person_116 (by decide) ?_
          refine lv_iload hx hb dX10_person_117 (lv_at hl 5 rfl) ?_
          have hPc := hP.sub (ws' := [(pe, eO 5 [.int 30, .int 4, .ref pea, .int 1]), (pea, eI G 120 (upd (upd (upd (fun _ => 0) (Int32.toNatClampNeg (0 * 4 + 0)) a1) (Int32.toNatClampNeg (0 * 4 + 1)) a2) (Int32.toNatClampNeg (0 * 4 + 2)) a3))]) [3, 4] rfl
          have hDc := hD.sub (ws' := [(pe, eO 5 [.int 30, .int 4, .ref pea, .int 1]), (pea, eI G 120 (upd (upd (upd (fun _ => 0) (Int32.toNatClampNeg (0 * 4 + 0)) a1) (Int32.toNatClampNeg (0 * 4 + 1)) a2) (Int32.toNatClampNeg (0 * 4 + 2)) a3))]) [3, 4] (by decide) rfl
          have hFc := va_free (wc := [(pe, eO 5 [.int 30, .int 4, .ref pea, .int 1]), (pea, eI G 120 (upd (upd (upd (fun _ => 0) (Int32.toNatClampNeg (0 * 4 + 0)) a1) (Int32.toNatClampNeg (0 * 4 + 1)) a2) (Int32.toNatClampNeg (0 * 4 + 2)) a3))]) hD hS hA [3, 4] rfl
          refine va_callv (va_runV (As := [.int 0, .int 3, .int a4]) (rest := []) ⟨hx, hb, hml, hown, hts⟩ (c_set0 l G H.size pe 30 4 pea 120 (upd (upd (upd (fun _ => 0) (Int32.toNatClampNeg (0 * 4 + 0)) a1) (Int32.toNatClampNeg (0 * 4 + 1)) a2) (Int32.toNatClampNeg (0 * 4 + 2)) a3) 3 a4 (by first | assumption | decide | omega) (by first | assumption | decide | omega) (by unfold vp_in; decide)) (my_cwV hts ok_X5_set w_142 rfl rfl ⟨Nat.le_of_ble_eq_true rfl, Nat.le_of_ble_eq_true rfl⟩) ⟨wP.blind, va_recv hG.1 hPc (ci := 5) (q0 := 0) rfl rfl, fun U hU hW => ⟨rfl, by rw [hU], by rw [hU]; exact hPc, kG.warm hW hG, hDc.weaken (fun _ _ _ _ => trivial)⟩⟩ rfl rfl hl.1 rfl (lv_room (Nat.le_of_ble_eq_true rfl)) dX10_person_119 ⟨Nat.le_of_ble_eq_true rfl, Nat.le_of_ble_eq_true rfl⟩) hS (fun q _ h => hFc q h) hFc (fun u t H1 locs ht hvm hw hB hz1 hk1 hS => ?_)
          obtain ⟨hP1, hD1⟩ := hB
          rw [ht] at hP1
          try dsimp only at hw
          obtain ⟨hP, hD⟩ := va_join (wr := [(x, eO 9 [.ref ct, .ref bk, .ref im, .ref kp, .ref rd, .ref fr, .ref wt]), (bk, eO 0 [.ref pe, .ref fa, .ref ro, .ref ac, .ref tr, .ref la, .ref tx, .int 5, .int 20]), (ct, eO 1 [.ref bk, .ref hs, .ref sp, .ref vl, .int 0])]) (w1 := [(pe, eO 5 [.int 30, .int 4, .ref pea, .int 1]), (pea, eI G 120 (upd (upd (upd (upd (fun _ => 0) (Int32.toNatClampNeg (0 * 4 + 0)) a1) (Int32.toNatClampNeg (0 * 4 + 1)) a2) (Int32.toNatClampNeg (0 * 4 + 2)) a3) (Int32.toNatClampNeg (0 * 4 + 3)) a4))]) hP hD [3, 4] [0, 1, 2] rfl rfl (by decide) (by decide) hk1 hFc hP1 hD1
          generalize H1 = H at hP hS ⊢
          have hP : va_P G.1 vwCl [(x, eO 9 [.ref ct, .ref bk, .ref im, .ref kp, .ref rd, .ref fr, .ref wt]), (bk, eO 0 [.ref pe, .ref fa, .ref ro, .ref ac, .ref tr, .ref la, .ref tx, .int 5, .int 20]), (ct, eO 1 [.ref bk, .ref hs, .ref sp, .ref vl, .int 0]), (pe, eO 5 [.int 30, .int 4, .ref pea, .int 1]), (pea, eI G 120 (upd (upd (upd (upd (fun _ => 0) (Int32.toNatClampNeg (0 * 4 + 0)) a1) (Int32.toNatClampNeg (0 * 4 + 1)) a2) (Int32.toNatClampNeg (0 * 4 + 2)) a3) (Int32.toNatClampNeg (0 * 4 + 3)) a4))] H := hP
          have hD : va_D A [(x, eO 9 [.ref ct, .ref bk, .ref im, .ref kp, .ref rd, .ref fr, .ref wt]), (bk, eO 0 [.ref pe, .ref fa, .ref ro, .ref ac, .ref tr, .ref la, .ref tx, .int 5, .int 20]), (ct, eO 1 [.ref bk, .ref hs, .ref sp, .ref vl, .int 0]), (pe, eO 5 [.int 30, .int 4, .ref pea, .int 1]), (pea, eI G 120 (upd (upd (upd (upd (fun _ => 0) (Int32.toNatClampNeg (0 * 4 + 0)) a1) (Int32.toNatClampNeg (0 * 4 + 1)) a2) (Int32.toNatClampNeg (0 * 4 + 2)) a3) (Int32.toNatClampNeg (0 * 4 + 3)) a4))] := hD
          refine lv_aload_n hx hb dX10_person_122 rfl (lv_at hl 1 rfl) ?_
          refine va_get (D := G.1) (ci := 9) (v := .ref ct) (C := RX10) (T := TX10) (N := 7) hx hb hts inlX10 hown hG.1 hP 0 rfl rfl 0 (by decide) (hts (.fieldLink RX10 12 "SwornLists" "court" "LSwornLists$Court;") w_15) (fun _ h9 => h9) rfl dX10_person_123 ?_
          refine lv_iconst (v := 0) hx hb dX10_person_126 (by decide) ?_
          have hPc := hP.sub (ws' := [(ct, eO 1 [.ref bk, .ref hs, .ref sp, .ref vl, .int 0])]) [2] rfl
          have hDc := hD.sub (ws' := [(ct, eO 1 [.ref bk, .ref hs, .ref sp, .ref vl, .int 0])]) [2] (by decide) rfl
          have hFc := va_free (wc := [(ct, eO 1 [.ref bk, .ref hs, .ref sp, .ref vl, .int 0])]) hD hS hA [2] rfl
          refine va_callv (va_runV (As := [.int 0]) (rest := []) ⟨hx, hb, hml, hown, hts⟩ (c_unsettle0 l G H.size ct bk hs sp vl ) (my_cwV hts ok_X1_unsettle w_146 rfl rfl ⟨Nat.le_of_ble_eq_true rfl, Nat.le_of_ble_eq_true rfl⟩) ⟨wP.blind, va_recv hG.1 hPc (ci := 1) (q0 := 0) rfl rfl, fun U hU hW => ⟨rfl, by rw [hU], by rw [hU]; exact hPc, kG.warm hW hG, hDc.weaken (fun _ _ _ _ => trivial)⟩⟩ rfl rfl hl.1 rfl (lv_room (Nat.le_of_ble_eq_true rfl)) dX10_person_127 ⟨Nat.le_of_ble_eq_true rfl, Nat.le_of_ble_eq_true rfl⟩) hS (fun q _ h => hFc q h) hFc (fun u t H1 locs ht hvm hw hB hz1 hk1 hS => ?_)
          obtain ⟨hP1, hD1⟩ := hB
          rw [ht] at hP1
          try dsimp only at hw
          obtain ⟨hP, hD⟩ := va_join (wr := [(x, eO 9 [.ref ct, .ref bk, .ref im, .ref kp, .ref rd, .ref fr, .ref wt]), (bk, eO 0 [.ref pe, .ref fa, .ref ro, .ref ac, .ref tr, .ref la, .ref tx, .int 5, .int 20]), (pe, eO 5 [.int 30, .int 4, .ref pea, .int 1]), (pea, eI G 120 (upd (upd (upd (upd (fun _ => 0) (Int32.toNatClampNeg (0 * 4 + 0)) a1) (Int32.toNatClampNeg (0 * 4 + 1)) a2) (Int32.toNatClampNeg (0 * 4 + 2)) a3) (Int32.toNatClampNeg (0 * 4 + 3)) a4))]) (w1 := [(ct, eO 1 [.ref bk, .ref hs, .ref sp, .ref vl, .int 0])]) hP hD [2] [0, 1, 3, 4] rfl rfl (by decide) (by decide) hk1 hFc hP1 hD1
          generalize H1 = H at hP hS ⊢
          have hP : va_P G.1 vwCl [(x, eO 9 [.ref ct, .ref bk, .ref im, .ref kp, .ref rd, .ref fr, .ref wt]), (bk, eO 0 [.ref pe, .ref fa, .ref ro, .ref ac, .ref tr, .ref la, .ref tx, .int 5, .int 20]), (pe, eO 5 [.int 30, .int 4, .ref pea, .int 1]), (pea, eI G 120 (upd (upd (upd (upd (fun _ => 0) (Int32.toNatClampNeg (0 * 4 + 0)) a1) (Int32.toNatClampNeg (0 * 4 + 1)) a2) (Int32.toNatClampNeg (0 * 4 + 2)) a3) (Int32.toNatClampNeg (0 * 4 + 3)) a4)), (ct, eO 1 [.ref bk, .ref hs, .ref sp, .ref vl, .int 0])] H := hP
          have hD : va_D A [(x, eO 9 [.ref ct, .ref bk, .ref im, .ref kp, .ref rd, .ref fr, .ref wt]), (bk, eO 0 [.ref pe, .ref fa, .ref ro, .ref ac, .ref tr, .ref la, .ref tx, .int 5, .int 20]), (pe, eO 5 [.int 30, .int 4, .ref pea, .int 1]), (pea, eI G 120 (upd (upd (upd (upd (fun _ => 0) (Int32.toNatClampNeg (0 * 4 + 0)) a1) (Int32.toNatClampNeg (0 * 4 + 1)) a2) (Int32.toNatClampNeg (0 * 4 + 2)) a3) (Int32.toNatClampNeg (0 * 4 + 3)) a4)), (ct, eO 1 [.ref bk, .ref hs, .ref sp, .ref vl, .int 0])] := hD
          refine lv_iload hx hb dX10_person_130 (lv_at hl 0 rfl) ?_
          exact W.iret (v := 0) hx hb hr (fun t ht hW => ⟨⟨_, (), rfl, (by simp [c_6, c_15, c_26, c_37]), trivial⟩, hS.F ht⟩) hS.2.2 dX10_person_132
        · refine lv_bipush (v := (-2)) hx hb dX10_person_40 (by decide) ?_
          exact W.iret (v := (-2)) hx hb hr (fun t ht hW => ⟨⟨_, (), rfl, (by simp [c_6, c_15, c_26, c_37]), trivial⟩, hS.F ht⟩) hS.2.2 dX10_person_42
set_option maxHeartbeats 4000000 in
set_option maxRecDepth 100000 in
theorem p_kin (l : Launch) (G : gW) (x : Nat) (ct : Nat) (bk : Nat) (im : Nat) (kp : Nat) (rd : Nat) (fr : Nat) (wt : Nat) (pe : Nat) (fa : Nat) (ro : Nat) (ac : Nat) (tr : Nat) (la : Nat) (tx : Nat) (pea : Nat) (a1 : Int32) (a2 : Int32) (a3 : Int32)  : Met l yX10_kin (wsT yX10_kin cX10_kin 5 (some .int)) ({ frames := 1, cells := 0, slots := 0, locals := 21 }) (rP G [.ref x, .int a1, .int a2, .int a3] [(x, eO 9 [.ref ct, .ref bk, .ref im, .ref kp, .ref rd, .ref fr, .ref wt]), (bk, eO 0 [.ref pe, .ref fa, .ref ro, .ref ac, .ref tr, .ref la, .ref tx, .int 5, .int 20]), (pe, eO 5 [.int 30, .int 4, .ref pea, .int 0])]) (rQi (fun r => r = (-2))) 0 0 fr0 := by
  refine Met.ofW (cc := cX10_kin) (maxL := 5) (ret := (some .int)) (by decide) rfl ?_
  intro p e s m args below meth c s₁ B hml hv
  obtain ⟨rfl, hP, hG⟩ := hv
  have hx := B.exec
  have hb := B.bytes
  have hr := B.returns
  have hts := my_hts (atoms_spec (ws := wsT yX10_kin cX10_kin 5 (some .int)) B.pre)
  have hown : s.vm.findClass RX10 = some m.cls := findClass_of_methodNamed B.named
  have hlocks := B.notSynchronized
  have hP : va_P G.1 vwCl [(x, eO 9 [.ref ct, .ref bk, .ref im, .ref kp, .ref rd, .ref fr, .ref wt]), (bk, eO 0 [.ref pe, .ref fa, .ref ro, .ref ac, .ref tr, .ref la, .ref tx, .int 5, .int 20]), (pe, eO 5 [.int 30, .int 4, .ref pea, .int 0])] s.heap := hP
  have hl := lv_entry ([.ref x, .int a1, .int a2, .int a3]) (n := 5) (Nat.le_of_ble_eq_true rfl)
  rw [lg_entry_eq]
  generalize (lg_sl ([.ref x, .int a1, .int a2, .int a3]) ++ List.replicate (5 - (lg_sl ([.ref x, .int a1, .int a2, .int a3])).length) Slot.unset).toArray = ls at hl ⊢
  have hl : lv_has ls 5 [(0, .ref x), (1, .int a1), (2, .int a2), (3, .int a3)] := hl
  refine lv_aload_n hx hb dX10_kin_0 rfl (lv_at hl 0 rfl) ?_
  refine va_get (D := G.1) (ci := 9) (v := .ref bk) (C := RX10) (T := TX10) (N := 7) hx hb hts inlX10 hown hG.1 hP 0 rfl rfl 1 (by decide) (hts (.fieldLink RX10 20 "SwornLists" "book" "LSwornLists$Book;") w_16) (fun _ h9 => h9) rfl dX10_kin_1 ?_
  refine va_getN (D := G.1) (ci := 0) (v := .ref pe) (C := RX0) (T := TX0) (N := 9) (host := RX10) hx hb hts inlX0 hown hG.1 hP 1 rfl rfl 0 (by decide) (va_Nw.use rfl (hG.2.1 (.fieldLinkNest RX10 57 RX0 "people" "LSwornLists$Rows;" RX10) (List.mem_of_getElem? (i := 0) rfl))) (fun _ h9 => h9) rfl dX10_kin_4 ?_
  refine lv_iload_n hx hb dX10_kin_7 rfl (lv_at hl 1 rfl) ?_
  have hPc := hP.sub (ws' := [(pe, eO 5 [.int 30, .int 4, .ref pea, .int 0])]) [2] rfl
  refine rd_calli (va_runV (As := [.int a1]) (rest := []) ⟨hx, hb, hml, hown, hts⟩ (c_has0 l G pe 30 4 pea a1 ) (my_cwV hts ok_X5_has w_174 rfl rfl ⟨Nat.le_of_ble_eq_true rfl, Nat.le_of_ble_eq_true rfl⟩) ⟨rP.blind, va_recv hG.1 hPc (ci := 5) (q0 := 0) rfl rfl, fun U hU hW => ⟨rfl, by rw [hU]; exact hPc, kG.warm hW hG⟩⟩ rfl rfl hl.1 rfl (lv_room (Nat.le_of_ble_eq_true rfl)) dX10_kin_8 ⟨Nat.le_of_ble_eq_true rfl, Nat.le_of_ble_eq_true rfl⟩) (fun r hr9 => ?_)
  subst hr9
  refine lv_if_eq (tgt := 31) hx hb dX10_kin_11 (by decide) (fun c_11 => ?_) (fun c_11 => absurd (by decide) c_11)
  refine lv_bipush (v := (-2)) hx hb dX10_kin_31 (by decide) ?_
  exact W.iret (v := (-2)) hx hb hr (fun t ht hW => ⟨_, rfl, (rfl), ht⟩) (fun _ h => absurd h List.not_mem_nil) dX10_kin_33
set_option maxHeartbeats 4000000 in
set_option maxRecDepth 100000 in
theorem p_roll (l : Launch) (G : gW) (sz : Nat) (x : Nat) (ct : Nat) (bk : Nat) (im : Nat) (kp : Nat) (rd : Nat) (fr : Nat) (wt : Nat) (pe : Nat) (fa : Nat) (ro : Nat) (ac : Nat) (tr : Nat) (la : Nat) (tx : Nat) (pea : Nat) (roa : Nat) (hs : Nat) (sp : Nat) (vl : Nat) (a1 : Int32) (a2 : Int32) (a3 : Int32)  : Met l yX10_roll (wsT yX10_roll cX10_roll 5 (some .int)) ({ frames := 2, cells := 0, slots := 0, locals := 42 }) (wP G [.ref x, .int a1, .int a2, .int a3] sz [(x, eO 9 [.ref ct, .ref bk, .ref im, .ref kp, .ref rd, .ref fr, .ref wt]), (bk, eO 0 [.ref pe, .ref fa, .ref ro, .ref ac, .ref tr, .ref la, .ref tx, .int 5, .int 20]), (pe, eO 5 [.int 30, .int 4, .ref pea, .int 0]), (ro, eO 5 [.int 4, .int 3, .ref roa, .int 0]), (roa, eI G 12 (fun _ => 0)), (ct, eO 1 [.ref bk, .ref hs, .ref sp, .ref vl, .int 0])]) (va_Qi (fun (r : Int32) (_ : Unit) => r = if a1 = 0 ∧ (inB 0 a2 199 = true) ∧ (inB 0 a3 9999 = true) then 0 else (-2)) (fun _ _ => True) (va_A [(x, eO 9 [.ref ct, .ref bk, .ref im, .ref kp, .ref rd, .ref fr, .ref wt]), (bk, eO 0 [.ref pe, .ref fa, .ref ro, .ref ac, .ref tr, .ref la, .ref tx, .int 5, .int 20]), (pe, eO 5 [.int 30, .int 4, .ref pea, .int 0]), (ro, eO 5 [.int 4, .int 3, .ref roa, .int 0]), (roa, eI G 12 (fun _ => 0)), (ct, eO 1 [.ref bk, .ref hs, .ref sp, .ref vl, .int 0])] sz)) 0 0 (va_A [(x, eO 9 [.ref ct, .ref bk, .ref im, .ref kp, .ref rd, .ref fr, .ref wt]), (bk, eO 0 [.ref pe, .ref fa, .ref ro, .ref ac, .ref tr, .ref la, .ref tx, .int 5, .int 20]), (pe, eO 5 [.int 30, .int 4, .ref pea, .int 0]), (ro, eO 5 [.int 4, .int 3, .ref roa, .int 0]), (roa, eI G 12 (fun _ => 0)), (ct, eO 1 [.ref bk, .ref hs, .ref sp, .ref vl, .int 0])] sz) := by
  refine Met.ofW (cc := cX10_roll) (maxL := 5) (ret := (some .int)) (by decide) rfl ?_
  intro p e s m args below meth c s₁ B hml hv
  obtain ⟨rfl, hsz, hP, hG, hD0⟩ := hv
  have hx := B.exec
  have hb := B.bytes
  have hr := B.returns
  have hts := my_hts (atoms_spec (ws := wsT yX10_roll cX10_roll 5 (some .int)) B.pre)
  have hown : s.vm.findClass RX10 = some m.cls := findClass_of_methodNamed B.named
  have hlocks := B.notSynchronized
  subst hsz
  have hD := hD0.self (sz := s.heap.size)
  generalize hAe : va_A [(x, eO 9 [.ref ct, .ref bk, .ref im, .ref kp, .ref rd, .ref fr, .ref wt]), (bk, eO 0 [.ref pe, .ref fa, .ref ro, .ref ac, .ref tr, .ref la, .ref tx, .int 5, .int 20]), (pe, eO 5 [.int 30, .int 4, .ref pea, .int 0]), (ro, eO 5 [.int 4, .int 3, .ref roa, .int 0]), (roa, eI G 12 (fun _ => 0)), (ct, eO 1 [.ref bk, .ref hs, .ref sp, .ref vl, .int 0])] s.heap.size = A at hD ⊢
  have hA : ∀ q : Nat, s.heap.size ≤ q → A q := fun q h => by rw [← hAe]; exact Or.inr h
  have hS : va_S A s.heap s.heap [] := va_S.rf
  have hP : va_P G.1 vwCl [(x, eO 9 [.ref ct, .ref bk, .ref im, .ref kp, .ref rd, .ref fr, .ref wt]), (bk, eO 0 [.ref pe, .ref fa, .ref ro, .ref ac, .ref tr, .ref la, .ref tx, .int 5, .int 20]), (pe, eO 5 [.int 30, .int 4, .ref pea, .int 0]), (ro, eO 5 [.int 4, .int 3, .ref roa, .int 0]), (roa, eI G 12 (fun _ => 0)), (ct, eO 1 [.ref bk, .ref hs, .ref sp, .ref vl, .int 0])] s.heap := hP
  have hl := lv_entry ([.ref x, .int a1, .int a2, .int a3]) (n := 5) (Nat.le_of_ble_eq_true rfl)
  rw [lg_entry_eq]
  generalize (lg_sl ([.ref x, .int a1, .int a2, .int a3]) ++ List.replicate (5 - (lg_sl ([.ref x, .int a1, .int a2, .int a3])).length) Slot.unset).toArray = ls at hl ⊢
  have hl : lv_has ls 5 [(0, .ref x), (1, .int a1), (2, .int a2), (3, .int a3)] := hl
  refine lv_iload_n hx hb dX10_roll_0 rfl (lv_at hl 1 rfl) ?_
  refine lv_aload_n hx hb dX10_roll_1 rfl (lv_at hl 0 rfl) ?_
  refine va_get (D := G.1) (ci := 9) (v := .ref bk) (C := RX10) (T := TX10) (N := 7) hx hb hts inlX10 hown hG.1 hP 0 rfl rfl 1 (by decide) (hts (.fieldLink RX10 20 "SwornLists" "book" "LSwornLists$Book;") w_16) (fun _ h9 => h9) rfl dX10_roll_2 ?_
  have hPc := hP.sub (ws' := [(bk, eO 0 [.ref pe, .ref fa, .ref ro, .ref ac, .ref tr, .ref la, .ref tx, .int 5, .int 20]), (pe, eO 5 [.int 30, .int 4, .ref pea, .int 0])]) [1, 2] rfl
  refine rd_calli (va_runV (As := []) (rest := [.int a1]) ⟨hx, hb, hml, hown, hts⟩ (c_everyone0 l G bk pe fa ro ac tr la tx pea ) (my_cwV hts ok_X0_everyone w_198 rfl rfl ⟨Nat.le_of_ble_eq_true rfl, Nat.le_of_ble_eq_true rfl⟩) ⟨rP.blind, va_recv hG.1 hPc (ci := 0) (q0 := 0) rfl rfl, fun U hU hW => ⟨rfl, by rw [hU]; exact hPc, kG.warm hW hG⟩⟩ rfl rfl hl.1 rfl (lv_room (Nat.le_of_ble_eq_true rfl)) dX10_roll_5 ⟨Nat.le_of_ble_eq_true rfl, Nat.le_of_ble_eq_true rfl⟩) (fun r hr9 => ?_)
  subst hr9
  refine lv_iconst (v := (-1)) hx hb dX10_roll_8 (by decide) ?_
  refine lv_ixor hx hb dX10_roll_9 ?_
  refine my_bei (v := (-1)) (by decide) ?_
  refine lv_iand hx hb dX10_roll_10 ?_
  refine my_bei (v := a1) (andm1 a1) ?_
  refine lv_if_ne (tgt := 32) hx hb dX10_roll_11 (by decide) (fun c_11 => ?_) (fun c_11 => ?_)
  · refine lv_bipush (v := (-2)) hx hb dX10_roll_32 (by decide) ?_
    exact W.iret (v := (-2)) hx hb hr (fun t ht hW => ⟨⟨_, (), rfl, (by simp [c_11]), trivial⟩, hS.F ht⟩) hS.2.2 dX10_roll_34
  · refine lv_iload_n hx hb dX10_roll_14 rfl (lv_at hl 2 rfl) ?_
    refine lv_iconst (v := 0) hx hb dX10_roll_15 (by decide) ?_
    refine lv_sipush (v := 199) hx hb dX10_roll_16 (by decide) ?_
    have hPc := hP.sub (ws' := []) [] rfl
    refine rd_calli (va_runS (As := [.int a2, .int 0, .int 199]) (rest := []) ⟨hx, hb, hml, hown, hts⟩ (c_within l G a2 0 199 ) (my_cwS hts ok_X10_within w_134 rfl rfl ⟨Nat.le_of_ble_eq_true rfl, Nat.le_of_ble_eq_true rfl⟩) ⟨rP.blind, fun U hU hW => ⟨rfl, by rw [hU]; exact hPc, kG.warm hW hG⟩⟩ rfl rfl hl.1 rfl (lv_room (Nat.le_of_ble_eq_true rfl)) dX10_roll_19 ⟨Nat.le_of_ble_eq_true rfl, Nat.le_of_ble_eq_true rfl⟩) (fun r hr9 => ?_)
    subst hr9
    refine my_ifeq (tgt := 32) hx hb dX10_roll_22 (by decide) (fun c_22 => ?_) (fun c_22 => ?_)
    · refine lv_bipush (v := (-2)) hx hb dX10_roll_32 (by decide) ?_
      exact W.iret (v := (-2)) hx hb hr (fun t ht hW => ⟨⟨_, (), rfl, (by simp [c_11, c_22]), trivial⟩, hS.F ht⟩) hS.2.2 dX10_roll_34
    · refine lv_iload_n hx hb dX10_roll_25 rfl (lv_at hl 3 rfl) ?_
      have hPc := hP.sub (ws' := []) [] rfl
      refine rd_calli (va_runS (As := [.int a3]) (rest := []) ⟨hx, hb, hml, hown, hts⟩ (c_isDay l G a3 ) (my_cwS hts ok_X10_isDay w_178 rfl rfl ⟨Nat.le_of_ble_eq_true rfl, Nat.le_of_ble_eq_true rfl⟩) ⟨rP.blind, fun U hU hW => ⟨rfl, by rw [hU]; exact hPc, kG.warm hW hG⟩⟩ rfl rfl hl.1 rfl (lv_room (Nat.le_of_ble_eq_true rfl)) dX10_roll_26 ⟨Nat.le_of_ble_eq_true rfl, Nat.le_of_ble_eq_true rfl⟩) (fun r hr9 => ?_)
      subst hr9
      refine my_ifne (tgt := 35) hx hb dX10_roll_29 (by decide) (fun c_29 => ?_) (fun c_29 => ?_)
      · refine lv_aload_n hx hb dX10_roll_35 rfl (lv_at hl 0 rfl) ?_
        refine va_get (D := G.1) (ci := 9) (v := .ref bk) (C := RX10) (T := TX10) (N := 7) hx hb hts inlX10 hown hG.1 hP 0 rfl rfl 1 (by decide) (hts (.fieldLink RX10 20 "SwornLists" "book" "LSwornLists$Book;") w_16) (fun _ h9 => h9) rfl dX10_roll_36 ?_
        refine va_getN (D := G.1) (ci := 0) (v := .ref ro) (C := RX0) (T := TX0) (N := 9) (host := RX10) hx hb hts inlX0 hown hG.1 hP 1 rfl rfl 2 (by decide) (va_Nw.use rfl (hG.2.1 (.fieldLinkNest RX10 88 RX0 "rolls" "LSwornLists$Rows;" RX10) (List.mem_of_getElem? (i := 3) rfl))) (fun _ h9 => h9) rfl dX10_roll_39 ?_
        have hPc := hP.sub (ws' := [(ro, eO 5 [.int 4, .int 3, .ref roa, .int 0])]) [3] rfl
        have hDc := hD.sub (ws' := [(ro, eO 5 [.int 4, .int 3, .ref roa, .int 0])]) [3] (by decide) rfl
        have hFc := va_free (wc := [(ro, eO 5 [.int 4, .int 3, .ref roa, .int 0])]) hD hS hA [3] rfl
        refine va_calli (va_runV (As := []) (rest := []) ⟨hx, hb, hml, hown, hts⟩ (c_grow0 l G s.heap.size ro 4 3 roa (by first | assumption | decide | omega)) (my_cwV hts ok_X5_grow w_137 rfl rfl ⟨Nat.le_of_ble_eq_true rfl, Nat.le_of_ble_eq_true rfl⟩) ⟨wP.blind, va_recv hG.1 hPc (ci := 5) (q0 := 0) rfl rfl, fun U hU hW => ⟨rfl, by rw [hU], by rw [hU]; exact hPc, kG.warm hW hG, hDc.weaken (fun _ _ _ _ => trivial)⟩⟩ rfl rfl hl.1 rfl (lv_room (Nat.le_of_ble_eq_true rfl)) dX10_roll_42 ⟨Nat.le_of_ble_eq_true rfl, Nat.le_of_ble_eq_true rfl⟩) hS (fun q _ h => hFc q h) hFc (fun r u t H1 locs ht hvm hw hB hz1 hk1 hS => ?_)
        obtain ⟨hP1, hD1⟩ := hB
        rw [ht] at hP1
        try dsimp only at hw
        obtain ⟨hP, hD⟩ := va_join (wr := [(x, eO 9 [.ref ct, .ref bk, .ref im, .ref kp, .ref rd, .ref fr, .ref wt]), (bk, eO 0 [.ref pe, .ref fa, .ref ro, .ref ac, .ref tr, .ref la, .ref tx, .int 5, .int 20]), (pe, eO 5 [.int 30, .int 4, .ref pea, .int 0]), (roa, eI G 12 (fun _ => 0)), (ct, eO 1 [.ref bk, .ref hs, .ref sp, .ref vl, .int 0])]) (w1 := [(ro, eO 5 [.int 4, .int 3, .ref roa, .int 1])]) hP hD [3] [0, 1, 2, 4, 5] rfl rfl (by decide) (by decide) hk1 hFc hP1 hD1
        generalize H1 = H at hP hS ⊢
        have hP : va_P G.1 vwCl [(x, eO 9 [.ref ct, .ref bk, .ref im, .ref kp, .ref rd, .ref fr, .ref wt]), (bk, eO 0 [.ref pe, .ref fa, .ref ro, .ref ac, .ref tr, .ref la, .ref tx, .int 5, .int 20]), (pe, eO 5 [.int 30, .int 4, .ref pea, .int 0]), (roa, eI G 12 (fun _ => 0)), (ct, eO 1 [.ref bk, .ref hs, .ref sp, .ref vl, .int 0]), (ro, eO 5 [.int 4, .int 3, .ref roa, .int 1])] H := hP
        have hD : va_D A [(x, eO 9 [.ref ct, .ref bk, .ref im, .ref kp, .ref rd, .ref fr, .ref wt]), (bk, eO 0 [.ref pe, .ref fa, .ref ro, .ref ac, .ref tr, .ref la, .ref tx, .int 5, .int 20]), (pe, eO 5 [.int 30, .int 4, .ref pea, .int 0]), (roa, eI G 12 (fun _ => 0)), (ct, eO 1 [.ref bk, .ref hs, .ref sp, .ref vl, .int 0]), (ro, eO 5 [.int 4, .int 3, .ref roa, .int 1])] := hD
        subst hw
        refine lv_istore (lv' := [(4, .int 0), (0, .ref x), (1, .int a1), (2, .int a2), (3, .int a3)]) hx hb dX10_roll_45 hl (by decide) rfl (fun ls hl => ?_)
        refine lv_iload hx hb dX10_roll_47 (lv_at hl 0 rfl) ?_
        refine lv_bipush (v := (-4)) hx hb dX10_roll_49 (by decide) ?_
        refine lv_icmp_ne (tgt := 57) hx hb dX10_roll_51 (by decide) (fun c_51 => ?_) (fun c_51 => absurd c_51 (by decide))
        refine lv_aload_n hx hb dX10_roll_57 rfl (lv_at hl 1 rfl) ?_
        refine va_get (D := G.1) (ci := 9) (v := .ref bk) (C := RX10) (T := TX10) (N := 7) hx hb hts inlX10 hown hG.1 hP 0 rfl rfl 1 (by decide) (hts (.fieldLink RX10 20 "SwornLists" "book" "LSwornLists$Book;") w_16) (fun _ h9 => h9) rfl dX10_roll_58 ?_
        refine va_getN (D := G.1) (ci := 0) (v := .ref ro) (C := RX0) (T := TX0) (N := 9) (host := RX10) hx hb hts inlX0 hown hG.1 hP 1 rfl rfl 2 (by decide) (va_Nw.use rfl (hG.2.1 (.fieldLinkNest RX10 88 RX0 "rolls" "LSwornLists$Rows;" RX10) (List.mem_of_getElem? (i := 3) rfl))) (fun _ h9 => h9) rfl dX10_roll_61 ?_
        refine lv_iload hx hb dX10_roll_64 (lv_at hl 0 rfl) ?_
        refine lv_iconst (v := 0) hx hb dX10_roll_66 (by decide) ?_
        refine lv_iload_n hx hb dX10_roll_67 rfl (lv_at hl 2 rfl) ?_
        have hPc := hP.sub (ws' := [(ro, eO 5 [.int 4, .int 3, .ref roa, .int 1]), (roa, eI G 12 (fun _ => 0))]) [5, 3] rfl
        have hDc := hD.sub (ws' := [(ro, eO 5 [.int 4, .int 3, .ref roa, .int 1]), (roa, eI G 12 (fun _ => 0))]) [5, 3] (by decide) rfl
        have hFc := va_free (wc := [(ro, eO 5 [.int 4, .int 3, .ref roa, .int 1]), (roa, eI G 12 (fun _ => 0))]) hD hS hA [5, 3] rfl
        refine va_callv (va_runV (As := [.int 0, .int 0, .int a1]) (rest := []) ⟨hx, hb, hml, hown, hts⟩ (c_set0 l G H.size ro 4 3 roa 12 (fun _ => 0) 0 a1 (by first | assumption | decide | omega) (by first | assumption | decide | omega) (by unfold vp_in; decide)) (my_cwV hts ok_X5_set w_142 rfl rfl ⟨Nat.le_of_ble_eq_true rfl, Nat.le_of_ble_eq_true rfl⟩) ⟨wP.blind, va_recv hG.1 hPc (ci := 5) (q0 := 0) rfl rfl, fun U hU hW => ⟨rfl, by rw [hU], by rw [hU]; exact hPc, kG.warm hW hG, hDc.weaken (fun _ _ _ _ => trivial)⟩⟩ rfl rfl hl.1 rfl (lv_room (Nat.le_of_ble_eq_true rfl)) dX10_roll_68 ⟨Nat.le_of_ble_eq_true rfl, Nat.le_of_ble_eq_true rfl⟩) hS (fun q _ h => hFc q h) hFc (fun u t H1 locs ht hvm hw hB hz1 hk1 hS => ?_)
        obtain ⟨hP1, hD1⟩ := hB
        rw [ht] at hP1
        try dsimp only at hw
        obtain ⟨hP, hD⟩ := va_join (wr := [(x, eO 9 [.ref ct, .ref bk, .ref im, .ref kp, .ref rd, .ref fr, .ref wt]), (bk, eO 0 [.ref pe, .ref fa, .ref ro, .ref ac, .ref tr, .ref la, .ref tx, .int 5, .int 20]), (pe, eO 5 [.int 30, .int 4, .ref pea, .int 0]), (ct, eO 1 [.ref bk, .ref hs, .ref sp, .ref vl, .int 0])]) (w1 := [(ro, eO 5 [.int 4, .int 3, .ref roa, .int 1]), (roa, eI G 12 (upd (fun _ => 0) (Int32.toNatClampNeg (0 * 3 + 0)) a1))]) hP hD [5, 3] [0, 1, 2, 4] rfl rfl (by decide) (by decide) hk1 hFc hP1 hD1
        generalize H1 = H at hP hS ⊢
        have hP : va_P G.1 vwCl [(x, eO 9 [.ref ct, .ref bk, .ref im, .ref kp, .ref rd, .ref fr, .ref wt]), (bk, eO 0 [.ref pe, .ref fa, .ref ro, .ref ac, .ref tr, .ref la, .ref tx, .int 5, .int 20]), (pe, eO 5 [.int 30, .int 4, .ref pea, .int 0]), (ct, eO 1 [.ref bk, .ref hs, .ref sp, .ref vl, .int 0]), (ro, eO 5 [.int 4, .int 3, .ref roa, .int 1]), (roa, eI G 12 (upd (fun _ => 0) (Int32.toNatClampNeg (0 * 3 + 0)) a1))] H := hP
        have hD : va_D A [(x, eO 9 [.ref ct, .ref bk, .ref im, .ref kp, .ref rd, .ref fr, .ref wt]), (bk, eO 0 [.ref pe, .ref fa, .ref ro, .ref ac, .ref tr, .ref la, .ref tx, .int 5, .int 20]), (pe, eO 5 [.int 30, .int 4, .ref pea, .int 0]), (ct, eO 1 [.ref bk, .ref hs, .ref sp, .ref vl, .int 0]), (ro, eO 5 [.int 4, .int 3, .ref roa, .int 1]), (roa, eI G 12 (upd (fun _ => 0) (Int32.toNatClampNeg (0 * 3 + 0)) a1))] := hD
        refine lv_aload_n hx hb dX10_roll_71 rfl (lv_at hl 1 rfl) ?_
        refine va_get (D := G.1) (ci := 9) (v := .ref bk) (C := RX10) (T := TX10) (N := 7) hx hb hts inlX10 hown hG.1 hP 0 rfl rfl 1 (by decide) (hts (.fieldLink RX10 20 "SwornLists" "book" "LSwornLists$Book;") w_16) (fun _ h9 => h9) rfl dX10_roll_72 ?_
        refine va_getN (D := G.1) (ci := 0) (v := .ref ro) (C := RX0) (T := TX0) (N := 9) (host := RX10) hx hb hts inlX0 hown hG.1 hP 1 rfl rfl 2 (by decide) (va_Nw.use rfl (hG.2.1 (.fieldLinkNest RX10 88 RX0 "rolls" "LSwornLists$Rows;" RX10) (List.mem_of_getElem? (i := 3) rfl))) (fun _ h9 => h9) rfl dX10_roll_75 ?_
        refine lv_iload hx hb dX10_roll_78 (lv_at hl 0 rfl) ?_
        refine lv_iconst (v := 1) hx hb dX10_roll_80 (by decide) ?_
        refine lv_iload_n hx hb dX10_roll_81 rfl (lv_at hl 3 rfl) ?_
        have hPc := hP.sub (ws' := [(ro, eO 5 [.int 4, .int 3, .ref roa, .int 1]), (roa, eI G 12 (upd (fun _ => 0) (Int32.toNatClampNeg (0 * 3 + 0)) a1))]) [4, 5] rfl
        have hDc := hD.sub (ws' := [(ro, eO 5 [.int 4, .int 3, .ref roa, .int 1]), (roa, eI G 12 (upd (fun _ => 0) (Int32.toNatClampNeg (0 * 3 + 0)) a1))]) [4, 5] (by decide) rfl
        have hFc := va_free (wc := [(ro, eO 5 [.int 4, .int 3, .ref roa, .int 1]), (roa, eI G 12 (upd (fun _ => 0) (Int32.toNatClampNeg (0 * 3 + 0)) a1))]) hD hS hA [4, 5] rfl
        refine va_callv (va_runV (As := [.int 0, .int 1, .int a2]) (rest := []) ⟨hx, hb, hml, hown, hts⟩ (c_set0 l G H.size ro 4 3 roa 12 (upd (fun _ => 0) (Int32.toNatClampNeg (0 * 3 + 0)) a1) 1 a2 (by first | assumption | decide | omega) (by first | assumption | decide | omega) (by unfold vp_in; decide)) (my_cwV hts ok_X5_set w_142 rfl rfl ⟨Nat.le_of_ble_eq_true rfl, Nat.le_of_ble_eq_true rfl⟩) ⟨wP.blind, va_recv hG.1 hPc (ci := 5) (q0 := 0) rfl rfl, fun U hU hW => ⟨rfl, by rw [hU], by rw [hU]; exact hPc, kG.warm hW hG, hDc.weaken (fun _ _ _ _ => trivial)⟩⟩ rfl rfl hl.1 rfl (lv_room (Nat.le_of_ble_eq_true rfl)) dX10_roll_82 ⟨Nat.le_of_ble_eq_true rfl, Nat.le_of_ble_eq_true rfl⟩) hS (fun q _ h => hFc q h) hFc (fun u t H1 locs ht hvm hw hB hz1 hk1 hS => ?_)
        obtain ⟨hP1, hD1⟩ := hB
        rw [ht] at hP1
        try dsimp only at hw
        obtain ⟨hP, hD⟩ := va_join (wr := [(x, eO 9 [.ref ct, .ref bk, .ref im, .ref kp, .ref rd, .ref fr, .ref wt]), (bk, eO 0 [.ref pe, .ref fa, .ref ro, .ref ac, .ref tr, .ref la, .ref tx, .int 5, .int 20]), (pe, eO 5 [.int 30, .int 4, .ref pea, .int 0]), (ct, eO 1 [.ref bk, .ref hs, .ref sp, .ref vl, .int 0])]) (w1 := [(ro, eO 5 [.int 4, .int 3, .ref roa, .int 1]), (roa, eI G 12 (upd (upd (fun _ => 0) (Int32.toNatClampNeg (0 * 3 + 0)) a1) (Int32.toNatClampNeg (0 * 3 + 1)) a2))]) hP hD [4, 5] [0, 1, 2, 3] rfl rfl (by decide) (by decide) hk1 hFc hP1 hD1
        generalize H1 = H at hP hS ⊢
        have hP : va_P G.1 vwCl [(x, eO 9 [.ref ct, .ref bk, .ref im, .ref kp, .ref rd, .ref fr, .ref wt]), (bk, eO 0 [.ref pe, .ref fa, .ref ro, .ref ac, .ref tr, .ref la, .ref tx, .int 5, .int 20]), (pe, eO 5 [.int 30, .int 4, .ref pea, .int 0]), (ct, eO 1 [.ref bk, .ref hs, .ref sp, .ref vl, .int 0]), (ro, eO 5 [.int 4, .int 3, .ref roa, .int 1]), (roa, eI G 12 (upd (upd (fun _ => 0) (Int32.toNatClampNeg (0 * 3 + 0)) a1) (Int32.toNatClampNeg (0 * 3 + 1)) a2))] H := hP
        have hD : va_D A [(x, eO 9 [.ref ct, .ref bk, .ref im, .ref kp, .ref rd, .ref fr, .ref wt]), (bk, eO 0 [.ref pe, .ref fa, .ref ro, .ref ac, .ref tr, .ref la, .ref tx, .int 5, .int 20]), (pe, eO 5 [.int 30, .int 4, .ref pea, .int 0]), (ct, eO 1 [.ref bk, .ref hs, .ref sp, .ref vl, .int 0]), (ro, eO 5 [.int 4, .int 3, .ref roa, .int 1]), (roa, eI G 12 (upd (upd (fun _ => 0) (Int32.toNatClampNeg (0 * 3 + 0)) a1) (Int32.toNatClampNeg (0 * 3 + 1)) a2))] := hD
        refine lv_aload_n hx hb dX10_roll_85 rfl (lv_at hl 1 rfl) ?_
        refine va_get (D := G.1) (ci := 9) (v := .ref bk) (C := RX10) (T := TX10) (N := 7) hx hb hts inlX10 hown hG.1 hP 0 rfl rfl 1 (by decide) (hts (.fieldLink RX10 20 "SwornLists" "book" "LSwornLists$Book;") w_16) (fun _ h9 => h9) rfl dX10_roll_86 ?_
        refine va_getN (D := G.1) (ci := 0) (v := .ref ro) (C := RX0) (T := TX0) (N := 9) (host := RX10) hx hb hts inlX0 hown hG.1 hP 1 rfl rfl 2 (by decide) (va_Nw.use rfl (hG.2.1 (.fieldLinkNest RX10 88 RX0 "rolls" "LSwornLists$Rows;" RX10) (List.mem_of_getElem? (i := 3) rfl))) (fun _ h9 => h9) rfl dX10_roll_89 ?_
        refine lv_iload hx hb dX10_roll_92 (lv_at hl 0 rfl) ?_
        refine lv_iconst (v := 2) hx hb dX10_roll_94 (by decide) ?_
        refine lv_iload_n hx hb dX10_roll_95 rfl (lv_at hl 4 rfl) ?_
        have hPc := hP.sub (ws' := [(ro, eO 5 [.int 4, .int 3, .ref roa, .int 1]), (roa, eI G 12 (upd (upd (fun _ => 0) (Int32.toNatClampNeg (0 * 3 + 0)) a1) (Int32.toNatClampNeg (0 * 3 + 1)) a2))]) [4, 5] rfl
        have hDc := hD.sub (ws' := [(ro, eO 5 [.int 4, .int 3, .ref roa, .int 1]), (roa, eI G 12 (upd (upd (fun _ => 0) (Int32.toNatClampNeg (0 * 3 + 0)) a1) (Int32.toNatClampNeg (0 * 3 + 1)) a2))]) [4, 5] (by decide) rfl
        have hFc := va_free (wc := [(ro, eO 5 [.int 4, .int 3, .ref roa, .int 1]), (roa, eI G 12 (upd (upd (fun _ => 0) (Int32.toNatClampNeg (0 * 3 + 0)) a1) (Int32.toNatClampNeg (0 * 3 + 1)) a2))]) hD hS hA [4, 5] rfl
        refine va_callv (va_runV (As := [.int 0, .int 2, .int a3]) (rest := []) ⟨hx, hb, hml, hown, hts⟩ (c_set0 l G H.size ro 4 3 roa 12 (upd (upd (fun _ => 0) (Int32.toNatClampNeg (0 * 3 + 0)) a1) (Int32.toNatClampNeg (0 * 3 + 1)) a2) 2 a3 (by first | assumption | decide | omega) (by first | assumption | decide | omega) (by unfold vp_in; decide)) (my_cwV hts ok_X5_set w_142 rfl rfl ⟨Nat.le_of_ble_eq_true rfl, Nat.le_of_ble_eq_true rfl⟩) ⟨wP.blind, va_recv hG.1 hPc (ci := 5) (q0 := 0) rfl rfl, fun U hU hW => ⟨rfl, by rw [hU], by rw [hU]; exact hPc, kG.warm hW hG, hDc.weaken (fun _ _ _ _ => trivial)⟩⟩ rfl rfl hl.1 rfl (lv_room (Nat.le_of_ble_eq_true rfl)) dX10_roll_96 ⟨Nat.le_of_ble_eq_true rfl, Nat.le_of_ble_eq_true rfl⟩) hS (fun q _ h => hFc q h) hFc (fun u t H1 locs ht hvm hw hB hz1 hk1 hS => ?_)
        obtain ⟨hP1, hD1⟩ := hB
        rw [ht] at hP1
        try dsimp only at hw
        obtain ⟨hP, hD⟩ := va_join (wr := [(x, eO 9 [.ref ct, .ref bk, .ref im, .ref kp, .ref rd, .ref fr, .ref wt]), (bk, eO 0 [.ref pe, .ref fa, .ref ro, .ref ac, .ref tr, .ref la, .ref tx, .int 5, .int 20]), (pe, eO 5 [.int 30, .int 4, .ref pea, .int 0]), (ct, eO 1 [.ref bk, .ref hs, .ref sp, .ref vl, .int 0])]) (w1 := [(ro, eO 5 [.int 4, .int 3, .ref roa, .int 1]), (roa, eI G 12 (upd (upd (upd (fun _ => 0) (Int32.toNatClampNeg (0 * 3 + 0)) a1) (Int32.toNatClampNeg (0 * 3 + 1)) a2) (Int32.toNatClampNeg (0 * 3 + 2)) a3))]) hP hD [4, 5] [0, 1, 2, 3] rfl rfl (by decide) (by decide) hk1 hFc hP1 hD1
        generalize H1 = H at hP hS ⊢
        have hP : va_P G.1 vwCl [(x, eO 9 [.ref ct, .ref bk, .ref im, .ref kp, .ref rd, .ref fr, .ref wt]), (bk, eO 0 [.ref pe, .ref fa, .ref ro, .ref ac, .ref tr, .ref la, .ref tx, .int 5, .int 20]), (pe, eO 5 [.int 30, .int 4, .ref pea, .int 0]), (ct, eO 1 [.ref bk, .ref hs, .ref sp, .ref vl, .int 0]), (ro, eO 5 [.int 4, .int 3, .ref roa, .int 1]), (roa, eI G 12 (upd (upd (upd (fun _ => 0) (Int32.toNatClampNeg (0 * 3 + 0)) a1) (Int32.toNatClampNeg (0 * 3 + 1)) a2) (Int32.toNatClampNeg (0 * 3 + 2)) a3))] H := hP
        have hD : va_D A [(x, eO 9 [.ref ct, .ref bk, .ref im, .ref kp, .ref rd, .ref fr, .ref wt]), (bk, eO 0 [.ref pe, .ref fa, .ref ro, .ref ac, .ref tr, .ref la, .ref tx, .int 5, .int 20]), (pe, eO 5 [.int 30, .int 4, .ref pea, .int 0]), (ct, eO 1 [.ref bk, .ref hs, .ref sp, .ref vl, .int 0]), (ro, eO 5 [.int 4, .int 3, .ref roa, .int 1]), (roa, eI G 12 (upd (upd (upd (fun _ => 0) (Int32.toNatClampNeg (0 * 3 + 0)) a1) (Int32.toNatClampNeg (0 * 3 + 1)) a2) (Int32.toNatClampNeg (0 * 3 + 2)) a3))] := hD
        refine lv_aload_n hx hb dX10_roll_99 rfl (lv_at hl 1 rfl) ?_
        refine va_get (D := G.1) (ci := 9) (v := .ref ct) (C := RX10) (T := TX10) (N := 7) hx hb hts inlX10 hown hG.1 hP 0 rfl rfl 0 (by decide) (hts (.fieldLink RX10 12 "SwornLists" "court" "LSwornLists$Court;") w_15) (fun _ h9 => h9) rfl dX10_roll_100 ?_
        refine lv_iconst (v := 0) hx hb dX10_roll_103 (by decide) ?_
        have hPc := hP.sub (ws' := [(ct, eO 1 [.ref bk, .ref hs, .ref sp, .ref vl, .int 0])]) [3] rfl
        have hDc := hD.sub (ws' := [(ct, eO 1 [.ref bk, .ref hs, .ref sp, .ref vl, .int 0])]) [3] (by decide) rfl
        have hFc := va_free (wc := [(ct, eO 1 [.ref bk, .ref hs, .ref sp, .ref vl, .int 0])]) hD hS hA [3] rfl
        refine va_callv (va_runV (As := [.int 0]) (rest := []) ⟨hx, hb, hml, hown, hts⟩ (c_unsettle0 l G H.size ct bk hs sp vl ) (my_cwV hts ok_X1_unsettle w_146 rfl rfl ⟨Nat.le_of_ble_eq_true rfl, Nat.le_of_ble_eq_true rfl⟩) ⟨wP.blind, va_recv hG.1 hPc (ci := 1) (q0 := 0) rfl rfl, fun U hU hW => ⟨rfl, by rw [hU], by rw [hU]; exact hPc, kG.warm hW hG, hDc.weaken (fun _ _ _ _ => trivial)⟩⟩ rfl rfl hl.1 rfl (lv_room (Nat.le_of_ble_eq_true rfl)) dX10_roll_104 ⟨Nat.le_of_ble_eq_true rfl, Nat.le_of_ble_eq_true rfl⟩) hS (fun q _ h => hFc q h) hFc (fun u t H1 locs ht hvm hw hB hz1 hk1 hS => ?_)
        obtain ⟨hP1, hD1⟩ := hB
        rw [ht] at hP1
        try dsimp only at hw
        obtain ⟨hP, hD⟩ := va_join (wr := [(x, eO 9 [.ref ct, .ref bk, .ref im, .ref kp, .ref rd, .ref fr, .ref wt]), (bk, eO 0 [.ref pe, .ref fa, .ref ro, .ref ac, .ref tr, .ref la, .ref tx, .int 5, .int 20]), (pe, eO 5 [.int 30, .int 4, .ref pea, .int 0]), (ro, eO 5 [.int 4, .int 3, .ref roa, .int 1]), (roa, eI G 12 (upd (upd (upd (fun _ => 0) (Int32.toNatClampNeg (0 * 3 + 0)) a1) (Int32.toNatClampNeg (0 * 3 + 1)) a2) (Int32.toNatClampNeg (0 * 3 + 2)) a3))]) (w1 := [(ct, eO 1 [.ref bk, .ref hs, .ref sp, .ref vl, .int 0])]) hP hD [3] [0, 1, 2, 4, 5] rfl rfl (by decide) (by decide) hk1 hFc hP1 hD1
        generalize H1 = H at hP hS ⊢
        have hP : va_P G.1 vwCl [(x, eO 9 [.ref ct, .ref bk, .ref im, .ref kp, .ref rd, .ref fr, .ref wt]), (bk, eO 0 [.ref pe, .ref fa, .ref ro, .ref ac, .ref tr, .ref la, .ref tx, .int 5, .int 20]), (pe, eO 5 [.int 30, .int 4, .ref pea, .int 0]), (ro, eO 5 [.int 4, .int 3, .ref roa, .int 1]), (roa, eI G 12 (upd (upd (upd (fun _ => 0) (Int32.toNatClampNeg (0 * 3 + 0)) a1) (Int32.toNatClampNeg (0 * 3 + 1)) a2) (Int32.toNatClampNeg (0 * 3 + 2)) a3)), (ct, eO 1 [.ref bk, .ref hs, .ref sp, .ref vl, .int 0])] H := hP
        have hD : va_D A [(x, eO 9 [.ref ct, .ref bk, .ref im, .ref kp, .ref rd, .ref fr, .ref wt]), (bk, eO 0 [.ref pe, .ref fa, .ref ro, .ref ac, .ref tr, .ref la, .ref tx, .int 5, .int 20]), (pe, eO 5 [.int 30, .int 4, .ref pea, .int 0]), (ro, eO 5 [.int 4, .int 3, .ref roa, .int 1]), (roa, eI G 12 (upd (upd (upd (fun _ => 0) (Int32.toNatClampNeg (0 * 3 + 0)) a1) (Int32.toNatClampNeg (0 * 3 + 1)) a2) (Int32.toNatClampNeg (0 * 3 + 2)) a3)), (ct, eO 1 [.ref bk, .ref hs, .ref sp, .ref vl, .int 0])] := hD
        refine lv_iload hx hb dX10_roll_107 (lv_at hl 0 rfl) ?_
        exact W.iret (v := 0) hx hb hr (fun t ht hW => ⟨⟨_, (), rfl, (by simp [c_11, c_22, c_29]), trivial⟩, hS.F ht⟩) hS.2.2 dX10_roll_109
      · refine lv_bipush (v := (-2)) hx hb dX10_roll_32 (by decide) ?_
        exact W.iret (v := (-2)) hx hb hr (fun t ht hW => ⟨⟨_, (), rfl, (by simp [c_11, c_22, c_29]), trivial⟩, hS.F ht⟩) hS.2.2 dX10_roll_34
set_option maxHeartbeats 4000000 in
set_option maxRecDepth 100000 in
theorem p_rollOf (l : Launch) (G : gW) (x : Nat) (ct : Nat) (bk : Nat) (im : Nat) (kp : Nat) (rd : Nat) (fr : Nat) (wt : Nat) (pe : Nat) (fa : Nat) (ro : Nat) (ac : Nat) (tr : Nat) (la : Nat) (tx : Nat) (roa : Nat) (pea : Nat) (a1 : Int32)  : Met l yX10_rollOf (wsT yX10_rollOf cX10_rollOf 2 (some .int)) ({ frames := 3, cells := 0, slots := 0, locals := 64 }) (rP G [.ref x, .int a1] [(x, eO 9 [.ref ct, .ref bk, .ref im, .ref kp, .ref rd, .ref fr, .ref wt]), (bk, eO 0 [.ref pe, .ref fa, .ref ro, .ref ac, .ref tr, .ref la, .ref tx, .int 5, .int 20]), (ro, eO 5 [.int 4, .int 3, .ref roa, .int 0]), (pe, eO 5 [.int 30, .int 4, .ref pea, .int 0])]) (rQi (fun r => r = if inB 0 a1 9999 = true then 0 else (-2))) 0 0 fr0 := by
  refine Met.ofW (cc := cX10_rollOf) (maxL := 2) (ret := (some .int)) (by decide) rfl ?_
  intro p e s m args below meth c s₁ B hml hv
  obtain ⟨rfl, hP, hG⟩ := hv
  have hx := B.exec
  have hb := B.bytes
  have hr := B.returns
  have hts := my_hts (atoms_spec (ws := wsT yX10_rollOf cX10_rollOf 2 (some .int)) B.pre)
  have hown : s.vm.findClass RX10 = some m.cls := findClass_of_methodNamed B.named
  have hlocks := B.notSynchronized
  have hP : va_P G.1 vwCl [(x, eO 9 [.ref ct, .ref bk, .ref im, .ref kp, .ref rd, .ref fr, .ref wt]), (bk, eO 0 [.ref pe, .ref fa, .ref ro, .ref ac, .ref tr, .ref la, .ref tx, .int 5, .int 20]), (ro, eO 5 [.int 4, .int 3, .ref roa, .int 0]), (pe, eO 5 [.int 30, .int 4, .ref pea, .int 0])] s.heap := hP
  have hl := lv_entry ([.ref x, .int a1]) (n := 2) (Nat.le_of_ble_eq_true rfl)
  rw [lg_entry_eq]
  generalize (lg_sl ([.ref x, .int a1]) ++ List.replicate (2 - (lg_sl ([.ref x, .int a1])).length) Slot.unset).toArray = ls at hl ⊢
  have hl : lv_has ls 2 [(0, .ref x), (1, .int a1)] := hl
  refine lv_iload_n hx hb dX10_rollOf_0 rfl (lv_at hl 1 rfl) ?_
  have hPc := hP.sub (ws' := []) [] rfl
  refine rd_calli (va_runS (As := [.int a1]) (rest := []) ⟨hx, hb, hml, hown, hts⟩ (c_isDay l G a1 ) (my_cwS hts ok_X10_isDay w_178 rfl rfl ⟨Nat.le_of_ble_eq_true rfl, Nat.le_of_ble_eq_true rfl⟩) ⟨rP.blind, fun U hU hW => ⟨rfl, by rw [hU]; exact hPc, kG.warm hW hG⟩⟩ rfl rfl hl.1 rfl (lv_room (Nat.le_of_ble_eq_true rfl)) dX10_rollOf_1 ⟨Nat.le_of_ble_eq_true rfl, Nat.le_of_ble_eq_true rfl⟩) (fun r hr9 => ?_)
  subst hr9
  refine my_ifeq (tgt := 18) hx hb dX10_rollOf_4 (by decide) (fun c_4 => ?_) (fun c_4 => ?_)
  · refine lv_bipush (v := (-2)) hx hb dX10_rollOf_18 (by decide) ?_
    exact W.iret (v := (-2)) hx hb hr (fun t ht hW => ⟨_, rfl, (by simp [c_4]), ht⟩) (fun _ h => absurd h List.not_mem_nil) dX10_rollOf_20
  · refine lv_aload_n hx hb dX10_rollOf_7 rfl (lv_at hl 0 rfl) ?_
    refine va_get (D := G.1) (ci := 9) (v := .ref bk) (C := RX10) (T := TX10) (N := 7) hx hb hts inlX10 hown hG.1 hP 0 rfl rfl 1 (by decide) (hts (.fieldLink RX10 20 "SwornLists" "book" "LSwornLists$Book;") w_16) (fun _ h9 => h9) rfl dX10_rollOf_8 ?_
    refine lv_iload_n hx hb dX10_rollOf_11 rfl (lv_at hl 1 rfl) ?_
    have hPc := hP.sub (ws' := [(bk, eO 0 [.ref pe, .ref fa, .ref ro, .ref ac, .ref tr, .ref la, .ref tx, .int 5, .int 20]), (ro, eO 5 [.int 4, .int 3, .ref roa, .int 0]), (pe, eO 5 [.int 30, .int 4, .ref pea, .int 0])]) [1, 2, 3] rfl
    refine rd_calli (va_runV (As := [.int a1]) (rest := []) ⟨hx, hb, hml, hown, hts⟩ (c_listedOn0 l G bk pe fa ro ac tr la tx roa pea a1 ) (my_cwV hts ok_X0_listedOn w_221 rfl rfl ⟨Nat.le_of_ble_eq_true rfl, Nat.le_of_ble_eq_true rfl⟩) ⟨rP.blind, va_recv hG.1 hPc (ci := 0) (q0 := 0) rfl rfl, fun U hU hW => ⟨rfl, by rw [hU]; exact hPc, kG.warm hW hG⟩⟩ rfl rfl hl.1 rfl (lv_room (Nat.le_of_ble_eq_true rfl)) dX10_rollOf_12 ⟨Nat.le_of_ble_eq_true rfl, Nat.le_of_ble_eq_true rfl⟩) (fun r hr9 => ?_)
    subst hr9
    refine lv_goto (tgt := 20) hx hb dX10_rollOf_15 (by decide) ?_
    exact W.iret (v := 0) hx hb hr (fun t ht hW => ⟨_, rfl, (by simp [c_4]), ht⟩) (fun _ h => absurd h List.not_mem_nil) dX10_rollOf_20
set_option maxHeartbeats 4000000 in
set_option maxRecDepth 100000 in
theorem p_write (l : Launch) (G : gW) (sz : Nat) (x : Nat) (ct : Nat) (bk : Nat) (im : Nat) (kp : Nat) (rd : Nat) (fr : Nat) (wt : Nat) (pe : Nat) (fa : Nat) (ro : Nat) (ac : Nat) (tr : Nat) (la : Nat) (tx : Nat) (txa : Nat) (txb : Nat) (q : Nat) (qs : Nat) (qp : Nat) (tf : Nat → Option Nat) (a1 : Int32) (a2 : Int32) (hq : inB 0 a1 3 = true → tf (Int32.toNatClampNeg a1) = some q) : Met l yX10_write (wsT yX10_write cX10_write 3 (some .int)) ({ frames := 2, cells := 0, slots := 0, locals := 42 }) (wP G [.ref x, .int a1, .int a2] sz [(x, eO 9 [.ref ct, .ref bk, .ref im, .ref kp, .ref rd, .ref fr, .ref wt]), (bk, eO 0 [.ref pe, .ref fa, .ref ro, .ref ac, .ref tr, .ref la, .ref tx, .int 5, .int 20]), (tx, eO 6 [.ref txa, .ref txb]), (txa, eA G 5 4 tf), (q, eO 7 [.ref qs, .ref qp, .int 0, .int 0]), (qs, eI G 50 (fun _ => 0))]) (va_Qi (fun (r : Int32) (_ : Unit) => r = if (inB 0 a1 3 = true) ∧ (inB 0 a2 127 = true) then 1 else (-2)) (fun _ _ => True) (va_A [(x, eO 9 [.ref ct, .ref bk, .ref im, .ref kp, .ref rd, .ref fr, .ref wt]), (bk, eO 0 [.ref pe, .ref fa, .ref ro, .ref ac, .ref tr, .ref la, .ref tx, .int 5, .int 20]), (tx, eO 6 [.ref txa, .ref txb]), (txa, eA G 5 4 tf), (q, eO 7 [.ref qs, .ref qp, .int 0, .int 0]), (qs, eI G 50 (fun _ => 0))] sz)) 0 0 (va_A [(x, eO 9 [.ref ct, .ref bk, .ref im, .ref kp, .ref rd, .ref fr, .ref wt]), (bk, eO 0 [.ref pe, .ref fa, .ref ro, .ref ac, .ref tr, .ref la, .ref tx, .int 5, .int 20]), (tx, eO 6 [.ref txa, .ref txb]), (txa, eA G 5 4 tf), (q, eO 7 [.ref qs, .ref qp, .int 0, .int 0]), (qs, eI G 50 (fun _ => 0))] sz) := by
  refine Met.ofW (cc := cX10_write) (maxL := 3) (ret := (some .int)) (by decide) rfl ?_
  intro p e s m args below meth c s₁ B hml hv
  obtain ⟨rfl, hsz, hP, hG, hD0⟩ := hv
  have hx := B.exec
  have hb := B.bytes
  have hr := B.returns
  have hts := my_hts (atoms_spec (ws := wsT yX10_write cX10_write 3 (some .int)) B.pre)
  have hown : s.vm.findClass RX10 = some m.cls := findClass_of_methodNamed B.named
  have hlocks := B.notSynchronized
  subst hsz
  have hD := hD0.self (sz := s.heap.size)
  generalize hAe : va_A [(x, eO 9 [.ref ct, .ref bk, .ref im, .ref kp, .ref rd, .ref fr, .ref wt]), (bk, eO 0 [.ref pe, .ref fa, .ref ro, .ref ac, .ref tr, .ref la, .ref tx, .int 5, .int 20]), (tx, eO 6 [.ref txa, .ref txb]), (txa, eA G 5 4 tf), (q, eO 7 [.ref qs, .ref qp, .int 0, .int 0]), (qs, eI G 50 (fun _ => 0))] s.heap.size = A at hD ⊢
  have hA : ∀ q : Nat, s.heap.size ≤ q → A q := fun q h => by rw [← hAe]; exact Or.inr h
  have hS : va_S A s.heap s.heap [] := va_S.rf
  have hP : va_P G.1 vwCl [(x, eO 9 [.ref ct, .ref bk, .ref im, .ref kp, .ref rd, .ref fr, .ref wt]), (bk, eO 0 [.ref pe, .ref fa, .ref ro, .ref ac, .ref tr, .ref la, .ref tx, .int 5, .int 20]), (tx, eO 6 [.ref txa, .ref txb]), (txa, eA G 5 4 tf), (q, eO 7 [.ref qs, .ref qp, .int 0, .int 0]), (qs, eI G 50 (fun _ => 0))] s.heap := hP
  have hl := lv_entry ([.ref x, .int a1, .int a2]) (n := 3) (Nat.le_of_ble_eq_true rfl)
  rw [lg_entry_eq]
  generalize (lg_sl ([.ref x, .int a1, .int a2]) ++ List.replicate (3 - (lg_sl ([.ref x, .int a1, .int a2])).length) Slot.unset).toArray = ls at hl ⊢
  have hl : lv_has ls 3 [(0, .ref x), (1, .int a1), (2, .int a2)] := hl
  refine lv_iload_n hx hb dX10_write_0 rfl (lv_at hl 1 rfl) ?_
  have hPc := hP.sub (ws' := []) [] rfl
  refine rd_calli (va_runS (As := [.int a1]) (rest := []) ⟨hx, hb, hml, hown, hts⟩ (c_isText l G a1 ) (my_cwS hts ok_X10_isText w_242 rfl rfl ⟨Nat.le_of_ble_eq_true rfl, Nat.le_of_ble_eq_true rfl⟩) ⟨rP.blind, fun U hU hW => ⟨rfl, by rw [hU]; exact hPc, kG.warm hW hG⟩⟩ rfl rfl hl.1 rfl (lv_room (Nat.le_of_ble_eq_true rfl)) dX10_write_1 ⟨Nat.le_of_ble_eq_true rfl, Nat.le_of_ble_eq_true rfl⟩) (fun r hr9 => ?_)
  subst hr9
  refine my_ifeq (tgt := 17) hx hb dX10_write_4 (by decide) (fun c_4 => ?_) (fun c_4 => ?_)
  · refine lv_bipush (v := (-2)) hx hb dX10_write_17 (by decide) ?_
    exact W.iret (v := (-2)) hx hb hr (fun t ht hW => ⟨⟨_, (), rfl, (by simp [c_4]), trivial⟩, hS.F ht⟩) hS.2.2 dX10_write_19
  · refine lv_iload_n hx hb dX10_write_7 rfl (lv_at hl 2 rfl) ?_
    refine lv_iconst (v := 0) hx hb dX10_write_8 (by decide) ?_
    refine lv_bipush (v := 127) hx hb dX10_write_9 (by decide) ?_
    have hPc := hP.sub (ws' := []) [] rfl
    refine rd_calli (va_runS (As := [.int a2, .int 0, .int 127]) (rest := []) ⟨hx, hb, hml, hown, hts⟩ (c_within l G a2 0 127 ) (my_cwS hts ok_X10_within w_134 rfl rfl ⟨Nat.le_of_ble_eq_true rfl, Nat.le_of_ble_eq_true rfl⟩) ⟨rP.blind, fun U hU hW => ⟨rfl, by rw [hU]; exact hPc, kG.warm hW hG⟩⟩ rfl rfl hl.1 rfl (lv_room (Nat.le_of_ble_eq_true rfl)) dX10_write_11 ⟨Nat.le_of_ble_eq_true rfl, Nat.le_of_ble_eq_true rfl⟩) (fun r hr9 => ?_)
    subst hr9
    refine my_ifne (tgt := 20) hx hb dX10_write_14 (by decide) (fun c_14 => ?_) (fun c_14 => ?_)
    · refine lv_aload_n hx hb dX10_write_20 rfl (lv_at hl 0 rfl) ?_
      refine va_get (D := G.1) (ci := 9) (v := .ref bk) (C := RX10) (T := TX10) (N := 7) hx hb hts inlX10 hown hG.1 hP 0 rfl rfl 1 (by decide) (hts (.fieldLink RX10 20 "SwornLists" "book" "LSwornLists$Book;") w_16) (fun _ h9 => h9) rfl dX10_write_21 ?_
      refine va_getN (D := G.1) (ci := 0) (v := .ref tx) (C := RX0) (T := TX0) (N := 9) (host := RX10) hx hb hts inlX0 hown hG.1 hP 1 rfl rfl 6 (by decide) (va_Nw.use rfl (hG.2.1 (.fieldLinkNest RX10 98 RX0 "texts" "LSwornLists$Shelf;" RX10) (List.mem_of_getElem? (i := 9) rfl))) (fun _ h9 => h9) rfl dX10_write_24 ?_
      refine lv_iload_n hx hb dX10_write_27 rfl (lv_at hl 1 rfl) ?_
      have hPc := hP.sub (ws' := [(tx, eO 6 [.ref txa, .ref txb]), (txa, eA G 5 4 tf)]) [2, 3] rfl
      refine rd_calla (va_runV (As := [.int a1]) (rest := []) ⟨hx, hb, hml, hown, hts⟩ (c_get l G tx txa txb tf a1 q (by first | assumption | decide | omega) (by first | assumption | decide | omega)) (my_cwV hts ok_X6_get w_245 rfl rfl ⟨Nat.le_of_ble_eq_true rfl, Nat.le_of_ble_eq_true rfl⟩) ⟨rP.blind, va_recv hG.1 hPc (ci := 6) (q0 := 0) rfl rfl, fun U hU hW => ⟨rfl, by rw [hU]; exact hPc, kG.warm hW hG⟩⟩ rfl rfl hl.1 rfl (lv_room (Nat.le_of_ble_eq_true rfl)) dX10_write_28 ⟨Nat.le_of_ble_eq_true rfl, Nat.le_of_ble_eq_true rfl⟩) (fun r hr9 => ?_)
      subst hr9
      refine lv_iload_n hx hb dX10_write_31 rfl (lv_at hl 2 rfl) ?_
      have hPc := hP.sub (ws' := [(q, eO 7 [.ref qs, .ref qp, .int 0, .int 0]), (qs, eI G 50 (fun _ => 0))]) [4, 5] rfl
      have hDc := hD.sub (ws' := [(q, eO 7 [.ref qs, .ref qp, .int 0, .int 0]), (qs, eI G 50 (fun _ => 0))]) [4, 5] (by decide) rfl
      have hFc := va_free (wc := [(q, eO 7 [.ref qs, .ref qp, .int 0, .int 0]), (qs, eI G 50 (fun _ => 0))]) hD hS hA [4, 5] rfl
      refine va_calli (va_runV (As := [.int a2]) (rest := []) ⟨hx, hb, hml, hown, hts⟩ (c_put0 l G s.heap.size q qs qp a2 ) (my_cwV hts ok_X8_put w_249 rfl rfl ⟨Nat.le_of_ble_eq_true rfl, Nat.le_of_ble_eq_true rfl⟩) ⟨wP.blind, va_recv hG.1 hPc (ci := 7) (q0 := 0) rfl rfl, fun U hU hW => ⟨rfl, by rw [hU], by rw [hU]; exact hPc, kG.warm hW hG, hDc.weaken (fun _ _ _ _ => trivial)⟩⟩ rfl rfl hl.1 rfl (lv_room (Nat.le_of_ble_eq_true rfl)) dX10_write_32 ⟨Nat.le_of_ble_eq_true rfl, Nat.le_of_ble_eq_true rfl⟩) hS (fun q _ h => hFc q h) hFc (fun r u t H1 locs ht hvm hw hB hz1 hk1 hS => ?_)
      obtain ⟨hP, hD⟩ := va_join (wr := [(x, eO 9 [.ref ct, .ref bk, .ref im, .ref kp, .ref rd, .ref fr, .ref wt]), (bk, eO 0 [.ref pe, .ref fa, .ref ro, .ref ac, .ref tr, .ref la, .ref tx, .int 5, .int 20]), (tx, eO 6 [.ref txa, .ref txb]), (txa, eA G 5 4 tf)]) (w1 := []) hP hD [4, 5] [0, 1, 2, 3] rfl rfl (by decide) (by decide) hk1 hFc my_P0 my_D0
      generalize H1 = H at hP hS ⊢
      have hP : va_P G.1 vwCl [(x, eO 9 [.ref ct, .ref bk, .ref im, .ref kp, .ref rd, .ref fr, .ref wt]), (bk, eO 0 [.ref pe, .ref fa, .ref ro, .ref ac, .ref tr, .ref la, .ref tx, .int 5, .int 20]), (tx, eO 6 [.ref txa, .ref txb]), (txa, eA G 5 4 tf)] H := hP
      have hD : va_D A [(x, eO 9 [.ref ct, .ref bk, .ref im, .ref kp, .ref rd, .ref fr, .ref wt]), (bk, eO 0 [.ref pe, .ref fa, .ref ro, .ref ac, .ref tr, .ref la, .ref tx, .int 5, .int 20]), (tx, eO 6 [.ref txa, .ref txb]), (txa, eA G 5 4 tf)] := hD
      subst hw
      exact W.iret (v := 1) hx hb hr (fun t ht hW => ⟨⟨_, (), rfl, (by simp [c_4, c_14]), trivial⟩, hS.F ht⟩) hS.2.2 dX10_write_35
    · refine lv_bipush (v := (-2)) hx hb dX10_write_17 (by decide) ?_
      exact W.iret (v := (-2)) hx hb hr (fun t ht hW => ⟨⟨_, (), rfl, (by simp [c_4, c_14]), trivial⟩, hS.F ht⟩) hS.2.2 dX10_write_19
set_option maxHeartbeats 4000000 in
set_option maxRecDepth 100000 in
theorem p_erase (l : Launch) (G : gW) (sz : Nat) (x : Nat) (ct : Nat) (bk : Nat) (im : Nat) (kp : Nat) (rd : Nat) (fr : Nat) (wt : Nat) (pe : Nat) (fa : Nat) (ro : Nat) (ac : Nat) (tr : Nat) (la : Nat) (tx : Nat) (txa : Nat) (txb : Nat) (q : Nat) (qs : Nat) (qp : Nat) (tf : Nat → Option Nat) (a1 : Int32) (hq : inB 0 a1 3 = true → tf (Int32.toNatClampNeg a1) = some q) : Met l yX10_erase (wsT yX10_erase cX10_erase 2 (some .int)) ({ frames := 2, cells := 0, slots := 0, locals := 42 }) (wP G [.ref x, .int a1] sz [(x, eO 9 [.ref ct, .ref bk, .ref im, .ref kp, .ref rd, .ref fr, .ref wt]), (bk, eO 0 [.ref pe, .ref fa, .ref ro, .ref ac, .ref tr, .ref la, .ref tx, .int 5, .int 20]), (tx, eO 6 [.ref txa, .ref txb]), (txa, eA G 5 4 tf), (q, eO 7 [.ref qs, .ref qp, .int 0, .int 0])]) (va_Qi (fun (r : Int32) (_ : Unit) => r = if inB 0 a1 3 = true then 0 else (-2)) (fun _ _ => True) (va_A [(x, eO 9 [.ref ct, .ref bk, .ref im, .ref kp, .ref rd, .ref fr, .ref wt]), (bk, eO 0 [.ref pe, .ref fa, .ref ro, .ref ac, .ref tr, .ref la, .ref tx, .int 5, .int 20]), (tx, eO 6 [.ref txa, .ref txb]), (txa, eA G 5 4 tf), (q, eO 7 [.ref qs, .ref qp, .int 0, .int 0])] sz)) 0 0 (va_A [(x, eO 9 [.ref ct, .ref bk, .ref im, .ref kp, .ref rd, .ref fr, .ref wt]), (bk, eO 0 [.ref pe, .ref fa, .ref ro, .ref ac, .ref tr, .ref la, .ref tx, .int 5, .int 20]), (tx, eO 6 [.ref txa, .ref txb]), (txa, eA G 5 4 tf), (q, eO 7 [.ref qs, .ref qp, .int 0, .int 0])] sz) := by
  refine Met.ofW (cc := cX10_erase) (maxL := 2) (ret := (some .int)) (by decide) rfl ?_
  intro p e s m args below meth c s₁ B hml hv
  obtain ⟨rfl, hsz, hP, hG, hD0⟩ := hv
  have hx := B.exec
  have hb := B.bytes
  have hr := B.returns
  have hts := my_hts (atoms_spec (ws := wsT yX10_erase cX10_erase 2 (some .int)) B.pre)
  have hown : s.vm.findClass RX10 = some m.cls := findClass_of_methodNamed B.named
  have hlocks := B.notSynchronized
  subst hsz
  have hD := hD0.self (sz := s.heap.size)
  generalize hAe : va_A [(x, eO 9 [.ref ct, .ref bk, .ref im, .ref kp, .ref rd, .ref fr, .ref wt]), (bk, eO 0 [.ref pe, .ref fa, .ref ro, .ref ac, .ref tr, .ref la, .ref tx, .int 5, .int 20]), (tx, eO 6 [.ref txa, .ref txb]), (txa, eA G 5 4 tf), (q, eO 7 [.ref qs, .ref qp, .int 0, .int 0])] s.heap.size = A at hD ⊢
  have hA : ∀ q : Nat, s.heap.size ≤ q → A q := fun q h => by rw [← hAe]; exact Or.inr h
  have hS : va_S A s.heap s.heap [] := va_S.rf
  have hP : va_P G.1 vwCl [(x, eO 9 [.ref ct, .ref bk, .ref im, .ref kp, .ref rd, .ref fr, .ref wt]), (bk, eO 0 [.ref pe, .ref fa, .ref ro, .ref ac, .ref tr, .ref la, .ref tx, .int 5, .int 20]), (tx, eO 6 [.ref txa, .ref txb]), (txa, eA G 5 4 tf), (q, eO 7 [.ref qs, .ref qp, .int 0, .int 0])] s.heap := hP
  have hl := lv_entry ([.ref x, .int a1]) (n := 2) (Nat.le_of_ble_eq_true rfl)
  rw [lg_entry_eq]
  generalize (lg_sl ([.ref x, .int a1]) ++ List.replicate (2 - (lg_sl ([.ref x, .int a1])).length) Slot.unset).toArray = ls at hl ⊢
  have hl : lv_has ls 2 [(0, .ref x), (1, .int a1)] := hl
  refine lv_iload_n hx hb dX10_erase_0 rfl (lv_at hl 1 rfl) ?_
  have hPc := hP.sub (ws' := []) [] rfl
  refine rd_calli (va_runS (As := [.int a1]) (rest := []) ⟨hx, hb, hml, hown, hts⟩ (c_isText l G a1 ) (my_cwS hts ok_X10_isText w_242 rfl rfl ⟨Nat.le_of_ble_eq_true rfl, Nat.le_of_ble_eq_true rfl⟩) ⟨rP.blind, fun U hU hW => ⟨rfl, by rw [hU]; exact hPc, kG.warm hW hG⟩⟩ rfl rfl hl.1 rfl (lv_room (Nat.le_of_ble_eq_true rfl)) dX10_erase_1 ⟨Nat.le_of_ble_eq_true rfl, Nat.le_of_ble_eq_true rfl⟩) (fun r hr9 => ?_)
  subst hr9
  refine my_ifeq (tgt := 24) hx hb dX10_erase_4 (by decide) (fun c_4 => ?_) (fun c_4 => ?_)
  · refine lv_bipush (v := (-2)) hx hb dX10_erase_24 (by decide) ?_
    exact W.iret (v := (-2)) hx hb hr (fun t ht hW => ⟨⟨_, (), rfl, (by simp [c_4]), trivial⟩, hS.F ht⟩) hS.2.2 dX10_erase_26
  · refine lv_aload_n hx hb dX10_erase_7 rfl (lv_at hl 0 rfl) ?_
    refine va_get (D := G.1) (ci := 9) (v := .ref bk) (C := RX10) (T := TX10) (N := 7) hx hb hts inlX10 hown hG.1 hP 0 rfl rfl 1 (by decide) (hts (.fieldLink RX10 20 "SwornLists" "book" "LSwornLists$Book;") w_16) (fun _ h9 => h9) rfl dX10_erase_8 ?_
    refine va_getN (D := G.1) (ci := 0) (v := .ref tx) (C := RX0) (T := TX0) (N := 9) (host := RX10) hx hb hts inlX0 hown hG.1 hP 1 rfl rfl 6 (by decide) (va_Nw.use rfl (hG.2.1 (.fieldLinkNest RX10 98 RX0 "texts" "LSwornLists$Shelf;" RX10) (List.mem_of_getElem? (i := 9) rfl))) (fun _ h9 => h9) rfl dX10_erase_11 ?_
    refine lv_iload_n hx hb dX10_erase_14 rfl (lv_at hl 1 rfl) ?_
    have hPc := hP.sub (ws' := [(tx, eO 6 [.ref txa, .ref txb]), (txa, eA G 5 4 tf)]) [2, 3] rfl
    refine rd_calla (va_runV (As := [.int a1]) (rest := []) ⟨hx, hb, hml, hown, hts⟩ (c_get l G tx txa txb tf a1 q (by first | assumption | decide | omega) (by first | assumption | decide | omega)) (my_cwV hts ok_X6_get w_245 rfl rfl ⟨Nat.le_of_ble_eq_true rfl, Nat.le_of_ble_eq_true rfl⟩) ⟨rP.blind, va_recv hG.1 hPc (ci := 6) (q0 := 0) rfl rfl, fun U hU hW => ⟨rfl, by rw [hU]; exact hPc, kG.warm hW hG⟩⟩ rfl rfl hl.1 rfl (lv_room (Nat.le_of_ble_eq_true rfl)) dX10_erase_15 ⟨Nat.le_of_ble_eq_true rfl, Nat.le_of_ble_eq_true rfl⟩) (fun r hr9 => ?_)
    subst hr9
    have hPc := hP.sub (ws' := [(q, eO 7 [.ref qs, .ref qp, .int 0, .int 0])]) [4] rfl
    have hDc := hD.sub (ws' := [(q, eO 7 [.ref qs, .ref qp, .int 0, .int 0])]) [4] (by decide) rfl
    have hFc := va_free (wc := [(q, eO 7 [.ref qs, .ref qp, .int 0, .int 0])]) hD hS hA [4] rfl
    refine va_calli (va_runV (As := []) (rest := []) ⟨hx, hb, hml, hown, hts⟩ (c_clear0 l G s.heap.size q qs qp ) (my_cwV hts ok_X8_clear w_266 rfl rfl ⟨Nat.le_of_ble_eq_true rfl, Nat.le_of_ble_eq_true rfl⟩) ⟨wP.blind, va_recv hG.1 hPc (ci := 7) (q0 := 0) rfl rfl, fun U hU hW => ⟨rfl, by rw [hU], by rw [hU]; exact hPc, kG.warm hW hG, hDc.weaken (fun _ _ _ _ => trivial)⟩⟩ rfl rfl hl.1 rfl (lv_room (Nat.le_of_ble_eq_true rfl)) dX10_erase_18 ⟨Nat.le_of_ble_eq_true rfl, Nat.le_of_ble_eq_true rfl⟩) hS (fun q _ h => hFc q h) hFc (fun r u t H1 locs ht hvm hw hB hz1 hk1 hS => ?_)
    obtain ⟨hP, hD⟩ := va_join (wr := [(x, eO 9 [.ref ct, .ref bk, .ref im, .ref kp, .ref rd, .ref fr, .ref wt]), (bk, eO 0 [.ref pe, .ref fa, .ref ro, .ref ac, .ref tr, .ref la, .ref tx, .int 5, .int 20]), (tx, eO 6 [.ref txa, .ref txb]), (txa, eA G 5 4 tf)]) (w1 := []) hP hD [4] [0, 1, 2, 3] rfl rfl (by decide) (by decide) hk1 hFc my_P0 my_D0
    generalize H1 = H at hP hS ⊢
    have hP : va_P G.1 vwCl [(x, eO 9 [.ref ct, .ref bk, .ref im, .ref kp, .ref rd, .ref fr, .ref wt]), (bk, eO 0 [.ref pe, .ref fa, .ref ro, .ref ac, .ref tr, .ref la, .ref tx, .int 5, .int 20]), (tx, eO 6 [.ref txa, .ref txb]), (txa, eA G 5 4 tf)] H := hP
    have hD : va_D A [(x, eO 9 [.ref ct, .ref bk, .ref im, .ref kp, .ref rd, .ref fr, .ref wt]), (bk, eO 0 [.ref pe, .ref fa, .ref ro, .ref ac, .ref tr, .ref la, .ref tx, .int 5, .int 20]), (tx, eO 6 [.ref txa, .ref txb]), (txa, eA G 5 4 tf)] := hD
    subst hw
    refine lv_goto (tgt := 26) hx hb dX10_erase_21 (by decide) ?_
    exact W.iret (v := 0) hx hb hr (fun t ht hW => ⟨⟨_, (), rfl, (by simp [c_4]), trivial⟩, hS.F ht⟩) hS.2.2 dX10_erase_26
set_option maxHeartbeats 4000000 in
set_option maxRecDepth 100000 in
theorem p_fault (l : Launch) (G : gW) (sz : Nat) (x : Nat) (ct : Nat) (bk : Nat) (im : Nat) (kp : Nat) (rd : Nat) (fr : Nat) (wt : Nat) (pe : Nat) (fa : Nat) (ro : Nat) (ac : Nat) (tr : Nat) (la : Nat) (tx : Nat) (txa : Nat) (txb : Nat) (q : Nat) (qs : Nat) (qp : Nat) (mk : Nat) (tf : Nat → Option Nat) (a1 : Int32) (hq : inB 0 a1 3 = true → tf (Int32.toNatClampNeg a1) = some q) : Met l yX10_fault (wsT yX10_fault cX10_fault 2 (some .int)) ({ frames := 2, cells := 0, slots := 0, locals := 44 }) (wP G [.ref x, .int a1] sz [(x, eO 9 [.ref ct, .ref bk, .ref im, .ref kp, .ref rd, .ref fr, .ref wt]), (bk, eO 0 [.ref pe, .ref fa, .ref ro, .ref ac, .ref tr, .ref la, .ref tx, .int 5, .int 20]), (tx, eO 6 [.ref txa, .ref txb]), (txa, eA G 5 4 tf), (q, eO 7 [.ref qs, .ref qp, .int 0, .int 0]), (rd, eO 4 [.ref mk, .int 0, .int 0, .int 0, .int 0])]) (va_Qi (fun (r : Int32) (_ : Unit) => r = if inB 0 a1 3 = true then 1 else (-2)) (fun _ _ => True) (va_A [(x, eO 9 [.ref ct, .ref bk, .ref im, .ref kp, .ref rd, .ref fr, .ref wt]), (bk, eO 0 [.ref pe, .ref fa, .ref ro, .ref ac, .ref tr, .ref la, .ref tx, .int 5, .int 20]), (tx, eO 6 [.ref txa, .ref txb]), (txa, eA G 5 4 tf), (q, eO 7 [.ref qs, .ref qp, .int 0, .int 0]), (rd, eO 4 [.ref mk, .int 0, .int 0, .int 0, .int 0])] sz)) 0 0 (va_A [(x, eO 9 [.ref ct, .ref bk, .ref im, .ref kp, .ref rd, .ref fr, .ref wt]), (bk, eO 0 [.ref pe, .ref fa, .ref ro, .ref ac, .ref tr, .ref la, .ref tx, .int 5, .int 20]), (tx, eO 6 [.ref txa, .ref txb]), (txa, eA G 5 4 tf), (q, eO 7 [.ref qs, .ref qp, .int 0, .int 0]), (rd, eO 4 [.ref mk, .int 0, .int 0, .int 0, .int 0])] sz) := by
  refine Met.ofW (cc := cX10_fault) (maxL := 2) (ret := (some .int)) (by decide) rfl ?_
  intro p e s m args below meth c s₁ B hml hv
  obtain ⟨rfl, hsz, hP, hG, hD0⟩ := hv
  have hx := B.exec
  have hb := B.bytes
  have hr := B.returns
  have hts := my_hts (atoms_spec (ws := wsT yX10_fault cX10_fault 2 (some .int)) B.pre)
  have hown : s.vm.findClass RX10 = some m.cls := findClass_of_methodNamed B.named
  have hlocks := B.notSynchronized
  subst hsz
  have hD := hD0.self (sz := s.heap.size)
  generalize hAe : va_A [(x, eO 9 [.ref ct, .ref bk, .ref im, .ref kp, .ref rd, .ref fr, .ref wt]), (bk, eO 0 [.ref pe, .ref fa, .ref ro, .ref ac, .ref tr, .ref la, .ref tx, .int 5, .int 20]), (tx, eO 6 [.ref txa, .ref txb]), (txa, eA G 5 4 tf), (q, eO 7 [.ref qs, .ref qp, .int 0, .int 0]), (rd, eO 4 [.ref mk, .int 0, .int 0, .int 0, .int 0])] s.heap.size = A at hD ⊢
  have hA : ∀ q : Nat, s.heap.size ≤ q → A q := fun q h => by rw [← hAe]; exact Or.inr h
  have hS : va_S A s.heap s.heap [] := va_S.rf
  have hP : va_P G.1 vwCl [(x, eO 9 [.ref ct, .ref bk, .ref im, .ref kp, .ref rd, .ref fr, .ref wt]), (bk, eO 0 [.ref pe, .ref fa, .ref ro, .ref ac, .ref tr, .ref la, .ref tx, .int 5, .int 20]), (tx, eO 6 [.ref txa, .ref txb]), (txa, eA G 5 4 tf), (q, eO 7 [.ref qs, .ref qp, .int 0, .int 0]), (rd, eO 4 [.ref mk, .int 0, .int 0, .int 0, .int 0])] s.heap := hP
  have hl := lv_entry ([.ref x, .int a1]) (n := 2) (Nat.le_of_ble_eq_true rfl)
  rw [lg_entry_eq]
  generalize (lg_sl ([.ref x, .int a1]) ++ List.replicate (2 - (lg_sl ([.ref x, .int a1])).length) Slot.unset).toArray = ls at hl ⊢
  have hl : lv_has ls 2 [(0, .ref x), (1, .int a1)] := hl
  refine lv_iload_n hx hb dX10_fault_0 rfl (lv_at hl 1 rfl) ?_
  have hPc := hP.sub (ws' := []) [] rfl
  refine rd_calli (va_runS (As := [.int a1]) (rest := []) ⟨hx, hb, hml, hown, hts⟩ (c_isText l G a1 ) (my_cwS hts ok_X10_isText w_242 rfl rfl ⟨Nat.le_of_ble_eq_true rfl, Nat.le_of_ble_eq_true rfl⟩) ⟨rP.blind, fun U hU hW => ⟨rfl, by rw [hU]; exact hPc, kG.warm hW hG⟩⟩ rfl rfl hl.1 rfl (lv_room (Nat.le_of_ble_eq_true rfl)) dX10_fault_1 ⟨Nat.le_of_ble_eq_true rfl, Nat.le_of_ble_eq_true rfl⟩) (fun r hr9 => ?_)
  subst hr9
  refine my_ifeq (tgt := 28) hx hb dX10_fault_4 (by decide) (fun c_4 => ?_) (fun c_4 => ?_)
  · refine lv_bipush (v := (-2)) hx hb dX10_fault_28 (by decide) ?_
    exact W.iret (v := (-2)) hx hb hr (fun t ht hW => ⟨⟨_, (), rfl, (by simp [c_4]), trivial⟩, hS.F ht⟩) hS.2.2 dX10_fault_30
  · refine lv_aload_n hx hb dX10_fault_7 rfl (lv_at hl 0 rfl) ?_
    refine va_get (D := G.1) (ci := 9) (v := .ref rd) (C := RX10) (T := TX10) (N := 7) hx hb hts inlX10 hown hG.1 hP 0 rfl rfl 4 (by decide) (hts (.fieldLink RX10 34 "SwornLists" "reader" "LSwornLists$Reader;") w_24) (fun _ h9 => h9) rfl dX10_fault_8 ?_
    refine lv_aload_n hx hb dX10_fault_11 rfl (lv_at hl 0 rfl) ?_
    refine va_get (D := G.1) (ci := 9) (v := .ref bk) (C := RX10) (T := TX10) (N := 7) hx hb hts inlX10 hown hG.1 hP 0 rfl rfl 1 (by decide) (hts (.fieldLink RX10 20 "SwornLists" "book" "LSwornLists$Book;") w_16) (fun _ h9 => h9) rfl dX10_fault_12 ?_
    refine va_getN (D := G.1) (ci := 0) (v := .ref tx) (C := RX0) (T := TX0) (N := 9) (host := RX10) hx hb hts inlX0 hown hG.1 hP 1 rfl rfl 6 (by decide) (va_Nw.use rfl (hG.2.1 (.fieldLinkNest RX10 98 RX0 "texts" "LSwornLists$Shelf;" RX10) (List.mem_of_getElem? (i := 9) rfl))) (fun _ h9 => h9) rfl dX10_fault_15 ?_
    refine lv_iload_n hx hb dX10_fault_18 rfl (lv_at hl 1 rfl) ?_
    have hPc := hP.sub (ws' := [(tx, eO 6 [.ref txa, .ref txb]), (txa, eA G 5 4 tf)]) [2, 3] rfl
    refine rd_calla (va_runV (As := [.int a1]) (rest := [.ref rd]) ⟨hx, hb, hml, hown, hts⟩ (c_get l G tx txa txb tf a1 q (by first | assumption | decide | omega) (by first | assumption | decide | omega)) (my_cwV hts ok_X6_get w_245 rfl rfl ⟨Nat.le_of_ble_eq_true rfl, Nat.le_of_ble_eq_true rfl⟩) ⟨rP.blind, va_recv hG.1 hPc (ci := 6) (q0 := 0) rfl rfl, fun U hU hW => ⟨rfl, by rw [hU]; exact hPc, kG.warm hW hG⟩⟩ rfl rfl hl.1 rfl (lv_room (Nat.le_of_ble_eq_true rfl)) dX10_fault_19 ⟨Nat.le_of_ble_eq_true rfl, Nat.le_of_ble_eq_true rfl⟩) (fun r hr9 => ?_)
    subst hr9
    have hPc := hP.sub (ws' := [(rd, eO 4 [.ref mk, .int 0, .int 0, .int 0, .int 0]), (q, eO 7 [.ref qs, .ref qp, .int 0, .int 0])]) [5, 4] rfl
    have hDc := hD.sub (ws' := [(rd, eO 4 [.ref mk, .int 0, .int 0, .int 0, .int 0]), (q, eO 7 [.ref qs, .ref qp, .int 0, .int 0])]) [5, 4] (by decide) rfl
    have hFc := va_free (wc := [(rd, eO 4 [.ref mk, .int 0, .int 0, .int 0, .int 0]), (q, eO 7 [.ref qs, .ref qp, .int 0, .int 0])]) hD hS hA [5, 4] rfl
    refine va_calli (va_runV (As := [.ref q]) (rest := []) ⟨hx, hb, hml, hown, hts⟩ (c_read0 l G s.heap.size rd q mk qs qp ) (my_cwV hts ok_X4_read w_278 rfl rfl ⟨Nat.le_of_ble_eq_true rfl, Nat.le_of_ble_eq_true rfl⟩) ⟨wP.blind, va_recv hG.1 hPc (ci := 4) (q0 := 0) rfl rfl, fun U hU hW => ⟨rfl, by rw [hU], by rw [hU]; exact hPc, kG.warm hW hG, hDc.weaken (fun _ _ _ _ => trivial)⟩⟩ rfl rfl hl.1 rfl (lv_room (Nat.le_of_ble_eq_true rfl)) dX10_fault_22 ⟨Nat.le_of_ble_eq_true rfl, Nat.le_of_ble_eq_true rfl⟩) hS (fun q _ h => hFc q h) hFc (fun r u t H1 locs ht hvm hw hB hz1 hk1 hS => ?_)
    obtain ⟨hP1, hD1⟩ := hB
    rw [ht] at hP1
    try dsimp only at hw
    obtain ⟨hP, hD⟩ := va_join (wr := [(x, eO 9 [.ref ct, .ref bk, .ref im, .ref kp, .ref rd, .ref fr, .ref wt]), (bk, eO 0 [.ref pe, .ref fa, .ref ro, .ref ac, .ref tr, .ref la, .ref tx, .int 5, .int 20]), (tx, eO 6 [.ref txa, .ref txb]), (txa, eA G 5 4 tf)]) (w1 := [(rd, eO 4 [.ref mk, .int 0, .int 0, .int 0, .int 1]), (q, eO 7 [.ref qs, .ref qp, .int 0, .int 0])]) hP hD [5, 4] [0, 1, 2, 3] rfl rfl (by decide) (by decide) hk1 hFc hP1 hD1
    generalize H1 = H at hP hS ⊢
    have hP : va_P G.1 vwCl [(x, eO 9 [.ref ct, .ref bk, .ref im, .ref kp, .ref rd, .ref fr, .ref wt]), (bk, eO 0 [.ref pe, .ref fa, .ref ro, .ref ac, .ref tr, .ref la, .ref tx, .int 5, .int 20]), (tx, eO 6 [.ref txa, .ref txb]), (txa, eA G 5 4 tf), (rd, eO 4 [.ref mk, .int 0, .int 0, .int 0, .int 1]), (q, eO 7 [.ref qs, .ref qp, .int 0, .int 0])] H := hP
    have hD : va_D A [(x, eO 9 [.ref ct, .ref bk, .ref im, .ref kp, .ref rd, .ref fr, .ref wt]), (bk, eO 0 [.ref pe, .ref fa, .ref ro, .ref ac, .ref tr, .ref la, .ref tx, .int 5, .int 20]), (tx, eO 6 [.ref txa, .ref txb]), (txa, eA G 5 4 tf), (rd, eO 4 [.ref mk, .int 0, .int 0, .int 0, .int 1]), (q, eO 7 [.ref qs, .ref qp, .int 0, .int 0])] := hD
    subst hw
    refine lv_goto (tgt := 30) hx hb dX10_fault_25 (by decide) ?_
    exact W.iret (v := 1) hx hb hr (fun t ht hW => ⟨⟨_, (), rfl, (by simp [c_4]), trivial⟩, hS.F ht⟩) hS.2.2 dX10_fault_30
set_option maxHeartbeats 4000000 in
set_option maxRecDepth 100000 in
theorem p_tells (l : Launch) (G : gW) (x : Nat) (ct : Nat) (bk : Nat) (im : Nat) (kp : Nat) (rd : Nat) (fr : Nat) (wt : Nat) (pe : Nat) (fa : Nat) (ro : Nat) (ac : Nat) (tr : Nat) (la : Nat) (tx : Nat) (pea : Nat) (a1 : Int32) (a2 : Int32) (a3 : Int32)  : Met l yX10_tells (wsT yX10_tells cX10_tells 5 (some .long)) ({ frames := 2, cells := 0, slots := 0, locals := 42 }) (rP G [.ref x, .int a1, .int a2, .int a3] [(x, eO 9 [.ref ct, .ref bk, .ref im, .ref kp, .ref rd, .ref fr, .ref wt]), (bk, eO 0 [.ref pe, .ref fa, .ref ro, .ref ac, .ref tr, .ref la, .ref tx, .int 5, .int 20]), (pe, eO 5 [.int 30, .int 4, .ref pea, .int 0])]) (rQl (fun r => r = (-2000000000000000000))) 0 0 fr0 := by
  refine Met.ofW (cc := cX10_tells) (maxL := 5) (ret := (some .long)) (by decide) rfl ?_
  intro p e s m args below meth c s₁ B hml hv
  obtain ⟨rfl, hP, hG⟩ := hv
  have hx := B.exec
  have hb := B.bytes
  have hr := B.returns
  have hts := my_hts (atoms_spec (ws := wsT yX10_tells cX10_tells 5 (some .long)) B.pre)
  have hown : s.vm.findClass RX10 = some m.cls := findClass_of_methodNamed B.named
  have hlocks := B.notSynchronized
  have hP : va_P G.1 vwCl [(x, eO 9 [.ref ct, .ref bk, .ref im, .ref kp, .ref rd, .ref fr, .ref wt]), (bk, eO 0 [.ref pe, .ref fa, .ref ro, .ref ac, .ref tr, .ref la, .ref tx, .int 5, .int 20]), (pe, eO 5 [.int 30, .int 4, .ref pea, .int 0])] s.heap := hP
  have hl := lv_entry ([.ref x, .int a1, .int a2, .int a3]) (n := 5) (Nat.le_of_ble_eq_true rfl)
  rw [lg_entry_eq]
  generalize (lg_sl ([.ref x, .int a1, .int a2, .int a3]) ++ List.replicate (5 - (lg_sl ([.ref x, .int a1, .int a2, .int a3])).length) Slot.unset).toArray = ls at hl ⊢
  have hl : lv_has ls 5 [(0, .ref x), (1, .int a1), (2, .int a2), (3, .int a3)] := hl
  refine lv_iload_n hx hb dX10_tells_0 rfl (lv_at hl 1 rfl) ?_
  have hPc := hP.sub (ws' := []) [] rfl
  refine rd_calli (va_runS (As := [.int a1]) (rest := []) ⟨hx, hb, hml, hown, hts⟩ (c_isText l G a1 ) (my_cwS hts ok_X10_isText w_242 rfl rfl ⟨Nat.le_of_ble_eq_true rfl, Nat.le_of_ble_eq_true rfl⟩) ⟨rP.blind, fun U hU hW => ⟨rfl, by rw [hU]; exact hPc, kG.warm hW hG⟩⟩ rfl rfl hl.1 rfl (lv_room (Nat.le_of_ble_eq_true rfl)) dX10_tells_1 ⟨Nat.le_of_ble_eq_true rfl, Nat.le_of_ble_eq_true rfl⟩) (fun r hr9 => ?_)
  subst hr9
  refine my_ifeq (tgt := 28) hx hb dX10_tells_4 (by decide) (fun c_4 => ?_) (fun c_4 => ?_)
  · refine lv_ldc2 (v := (-2000000000000000000)) hx hb hown (hts (.constantLong RX10 120 (-2000000000000000000)) w_382) dX10_tells_28 ?_
    exact W.lret (v := (-2000000000000000000)) hx hb hr (fun t ht hW => ⟨_, rfl, (rfl), ht⟩) (fun _ h => absurd h List.not_mem_nil) dX10_tells_31
  · refine lv_aload_n hx hb dX10_tells_7 rfl (lv_at hl 0 rfl) ?_
    refine va_get (D := G.1) (ci := 9) (v := .ref bk) (C := RX10) (T := TX10) (N := 7) hx hb hts inlX10 hown hG.1 hP 0 rfl rfl 1 (by decide) (hts (.fieldLink RX10 20 "SwornLists" "book" "LSwornLists$Book;") w_16) (fun _ h9 => h9) rfl dX10_tells_8 ?_
    refine va_getN (D := G.1) (ci := 0) (v := .ref pe) (C := RX0) (T := TX0) (N := 9) (host := RX10) hx hb hts inlX0 hown hG.1 hP 1 rfl rfl 0 (by decide) (va_Nw.use rfl (hG.2.1 (.fieldLinkNest RX10 57 RX0 "people" "LSwornLists$Rows;" RX10) (List.mem_of_getElem? (i := 0) rfl))) (fun _ h9 => h9) rfl dX10_tells_11 ?_
    refine lv_iload_n hx hb dX10_tells_14 rfl (lv_at hl 2 rfl) ?_
    have hPc := hP.sub (ws' := [(pe, eO 5 [.int 30, .int 4, .ref pea, .int 0])]) [2] rfl
    refine rd_calli (va_runV (As := [.int a2]) (rest := []) ⟨hx, hb, hml, hown, hts⟩ (c_has0 l G pe 30 4 pea a2 ) (my_cwV hts ok_X5_has w_174 rfl rfl ⟨Nat.le_of_ble_eq_true rfl, Nat.le_of_ble_eq_true rfl⟩) ⟨rP.blind, va_recv hG.1 hPc (ci := 5) (q0 := 0) rfl rfl, fun U hU hW => ⟨rfl, by rw [hU]; exact hPc, kG.warm hW hG⟩⟩ rfl rfl hl.1 rfl (lv_room (Nat.le_of_ble_eq_true rfl)) dX10_tells_15 ⟨Nat.le_of_ble_eq_true rfl, Nat.le_of_ble_eq_true rfl⟩) (fun r hr9 => ?_)
    subst hr9
    refine lv_if_eq (tgt := 28) hx hb dX10_tells_18 (by decide) (fun c_18 => ?_) (fun c_18 => absurd (by decide) c_18)
    refine lv_ldc2 (v := (-2000000000000000000)) hx hb hown (hts (.constantLong RX10 120 (-2000000000000000000)) w_382) dX10_tells_28 ?_
    exact W.lret (v := (-2000000000000000000)) hx hb hr (fun t ht hW => ⟨_, rfl, (rfl), ht⟩) (fun _ h => absurd h List.not_mem_nil) dX10_tells_31
set_option maxHeartbeats 4000000 in
set_option maxRecDepth 100000 in
theorem p_act (l : Launch) (G : gW) (sz : Nat) (x : Nat) (ct : Nat) (bk : Nat) (im : Nat) (kp : Nat) (rd : Nat) (fr : Nat) (wt : Nat) (pe : Nat) (fa : Nat) (ro : Nat) (ac : Nat) (tr : Nat) (la : Nat) (tx : Nat) (txa : Nat) (txb : Nat) (q : Nat) (qs : Nat) (qp : Nat) (mk : Nat) (tf : Nat → Option Nat) (a1 : Int32) (a2 : Int32) (a3 : Int32) (hq : inB 0 a1 3 = true → tf (Int32.toNatClampNeg a1) = some q) : Met l yX10_act (wsT yX10_act cX10_act 6 (some .int)) ({ frames := 2, cells := 0, slots := 0, locals := 44 }) (wP G [.ref x, .int a1, .int a2, .int a3] sz [(x, eO 9 [.ref ct, .ref bk, .ref im, .ref kp, .ref rd, .ref fr, .ref wt]), (bk, eO 0 [.ref pe, .ref fa, .ref ro, .ref ac, .ref tr, .ref la, .ref tx, .int 5, .int 20]), (tx, eO 6 [.ref txa, .ref txb]), (txa, eA G 5 4 tf), (q, eO 7 [.ref qs, .ref qp, .int 0, .int 0]), (rd, eO 4 [.ref mk, .int 0, .int 0, .int 0, .int 0])]) (va_Qi (fun (r : Int32) (_ : Unit) => r = if (inB 0 a1 3 = true) ∧ (inB 0 a2 1 = true) ∧ (inB 0 a3 9999 = true) then (-3) else (-2)) (fun _ _ => True) (va_A [(x, eO 9 [.ref ct, .ref bk, .ref im, .ref kp, .ref rd, .ref fr, .ref wt]), (bk, eO 0 [.ref pe, .ref fa, .ref ro, .ref ac, .ref tr, .ref la, .ref tx, .int 5, .int 20]), (tx, eO 6 [.ref txa, .ref txb]), (txa, eA G 5 4 tf), (q, eO 7 [.ref qs, .ref qp, .int 0, .int 0]), (rd, eO 4 [.ref mk, .int 0, .int 0, .int 0, .int 0])] sz)) 0 0 (va_A [(x, eO 9 [.ref ct, .ref bk, .ref im, .ref kp, .ref rd, .ref fr, .ref wt]), (bk, eO 0 [.ref pe, .ref fa, .ref ro, .ref ac, .ref tr, .ref la, .ref tx, .int 5, .int 20]), (tx, eO 6 [.ref txa, .ref txb]), (txa, eA G 5 4 tf), (q, eO 7 [.ref qs, .ref qp, .int 0, .int 0]), (rd, eO 4 [.ref mk, .int 0, .int 0, .int 0, .int 0])] sz) := by
  refine Met.ofW (cc := cX10_act) (maxL := 6) (ret := (some .int)) (by decide) rfl ?_
  intro p e s m args below meth c s₁ B hml hv
  obtain ⟨rfl, hsz, hP, hG, hD0⟩ := hv
  have hx := B.exec
  have hb := B.bytes
  have hr := B.returns
  have hts := my_hts (atoms_spec (ws := wsT yX10_act cX10_act 6 (some .int)) B.pre)
  have hown : s.vm.findClass RX10 = some m.cls := findClass_of_methodNamed B.named
  have hlocks := B.notSynchronized
  subst hsz
  have hD := hD0.self (sz := s.heap.size)
  generalize hAe : va_A [(x, eO 9 [.ref ct, .ref bk, .ref im, .ref kp, .ref rd, .ref fr, .ref wt]), (bk, eO 0 [.ref pe, .ref fa, .ref ro, .ref ac, .ref tr, .ref la, .ref tx, .int 5, .int 20]), (tx, eO 6 [.ref txa, .ref txb]), (txa, eA G 5 4 tf), (q, eO 7 [.ref qs, .ref qp, .int 0, .int 0]), (rd, eO 4 [.ref mk, .int 0, .int 0, .int 0, .int 0])] s.heap.size = A at hD ⊢
  have hA : ∀ q : Nat, s.heap.size ≤ q → A q := fun q h => by rw [← hAe]; exact Or.inr h
  have hS : va_S A s.heap s.heap [] := va_S.rf
  have hP : va_P G.1 vwCl [(x, eO 9 [.ref ct, .ref bk, .ref im, .ref kp, .ref rd, .ref fr, .ref wt]), (bk, eO 0 [.ref pe, .ref fa, .ref ro, .ref ac, .ref tr, .ref la, .ref tx, .int 5, .int 20]), (tx, eO 6 [.ref txa, .ref txb]), (txa, eA G 5 4 tf), (q, eO 7 [.ref qs, .ref qp, .int 0, .int 0]), (rd, eO 4 [.ref mk, .int 0, .int 0, .int 0, .int 0])] s.heap := hP
  have hl := lv_entry ([.ref x, .int a1, .int a2, .int a3]) (n := 6) (Nat.le_of_ble_eq_true rfl)
  rw [lg_entry_eq]
  generalize (lg_sl ([.ref x, .int a1, .int a2, .int a3]) ++ List.replicate (6 - (lg_sl ([.ref x, .int a1, .int a2, .int a3])).length) Slot.unset).toArray = ls at hl ⊢
  have hl : lv_has ls 6 [(0, .ref x), (1, .int a1), (2, .int a2), (3, .int a3)] := hl
  refine lv_iload_n hx hb dX10_act_0 rfl (lv_at hl 1 rfl) ?_
  have hPc := hP.sub (ws' := []) [] rfl
  refine rd_calli (va_runS (As := [.int a1]) (rest := []) ⟨hx, hb, hml, hown, hts⟩ (c_isText l G a1 ) (my_cwS hts ok_X10_isText w_242 rfl rfl ⟨Nat.le_of_ble_eq_true rfl, Nat.le_of_ble_eq_true rfl⟩) ⟨rP.blind, fun U hU hW => ⟨rfl, by rw [hU]; exact hPc, kG.warm hW hG⟩⟩ rfl rfl hl.1 rfl (lv_room (Nat.le_of_ble_eq_true rfl)) dX10_act_1 ⟨Nat.le_of_ble_eq_true rfl, Nat.le_of_ble_eq_true rfl⟩) (fun r hr9 => ?_)
  subst hr9
  refine my_ifeq (tgt := 21) hx hb dX10_act_4 (by decide) (fun c_4 => ?_) (fun c_4 => ?_)
  · refine lv_bipush (v := (-2)) hx hb dX10_act_21 (by decide) ?_
    exact W.iret (v := (-2)) hx hb hr (fun t ht hW => ⟨⟨_, (), rfl, (by simp [c_4]), trivial⟩, hS.F ht⟩) hS.2.2 dX10_act_23
  · refine lv_iload_n hx hb dX10_act_7 rfl (lv_at hl 2 rfl) ?_
    have hPc := hP.sub (ws' := []) [] rfl
    refine rd_calli (va_runS (As := [.int a2]) (rest := []) ⟨hx, hb, hml, hown, hts⟩ (c_isSort l G a2 ) (my_cwS hts ok_X10_isSort w_591 rfl rfl ⟨Nat.le_of_ble_eq_true rfl, Nat.le_of_ble_eq_true rfl⟩) ⟨rP.blind, fun U hU hW => ⟨rfl, by rw [hU]; exact hPc, kG.warm hW hG⟩⟩ rfl rfl hl.1 rfl (lv_room (Nat.le_of_ble_eq_true rfl)) dX10_act_8 ⟨Nat.le_of_ble_eq_true rfl, Nat.le_of_ble_eq_true rfl⟩) (fun r hr9 => ?_)
    subst hr9
    refine my_ifeq (tgt := 21) hx hb dX10_act_11 (by decide) (fun c_11 => ?_) (fun c_11 => ?_)
    · refine lv_bipush (v := (-2)) hx hb dX10_act_21 (by decide) ?_
      exact W.iret (v := (-2)) hx hb hr (fun t ht hW => ⟨⟨_, (), rfl, (by simp [c_4, c_11]), trivial⟩, hS.F ht⟩) hS.2.2 dX10_act_23
    · refine lv_iload_n hx hb dX10_act_14 rfl (lv_at hl 3 rfl) ?_
      have hPc := hP.sub (ws' := []) [] rfl
      refine rd_calli (va_runS (As := [.int a3]) (rest := []) ⟨hx, hb, hml, hown, hts⟩ (c_isDay l G a3 ) (my_cwS hts ok_X10_isDay w_178 rfl rfl ⟨Nat.le_of_ble_eq_true rfl, Nat.le_of_ble_eq_true rfl⟩) ⟨rP.blind, fun U hU hW => ⟨rfl, by rw [hU]; exact hPc, kG.warm hW hG⟩⟩ rfl rfl hl.1 rfl (lv_room (Nat.le_of_ble_eq_true rfl)) dX10_act_15 ⟨Nat.le_of_ble_eq_true rfl, Nat.le_of_ble_eq_true rfl⟩) (fun r hr9 => ?_)
      subst hr9
      refine my_ifne (tgt := 24) hx hb dX10_act_18 (by decide) (fun c_18 => ?_) (fun c_18 => ?_)
      · refine lv_aload_n hx hb dX10_act_24 rfl (lv_at hl 0 rfl) ?_
        refine va_get (D := G.1) (ci := 9) (v := .ref bk) (C := RX10) (T := TX10) (N := 7) hx hb hts inlX10 hown hG.1 hP 0 rfl rfl 1 (by decide) (hts (.fieldLink RX10 20 "SwornLists" "book" "LSwornLists$Book;") w_16) (fun _ h9 => h9) rfl dX10_act_25 ?_
        refine va_getN (D := G.1) (ci := 0) (v := .ref tx) (C := RX0) (T := TX0) (N := 9) (host := RX10) hx hb hts inlX0 hown hG.1 hP 1 rfl rfl 6 (by decide) (va_Nw.use rfl (hG.2.1 (.fieldLinkNest RX10 98 RX0 "texts" "LSwornLists$Shelf;" RX10) (List.mem_of_getElem? (i := 9) rfl))) (fun _ h9 => h9) rfl dX10_act_28 ?_
        refine lv_iload_n hx hb dX10_act_31 rfl (lv_at hl 1 rfl) ?_
        have hPc := hP.sub (ws' := [(tx, eO 6 [.ref txa, .ref txb]), (txa, eA G 5 4 tf)]) [2, 3] rfl
        refine rd_calla (va_runV (As := [.int a1]) (rest := []) ⟨hx, hb, hml, hown, hts⟩ (c_get l G tx txa txb tf a1 q (by first | assumption | decide | omega) (by first | assumption | decide | omega)) (my_cwV hts ok_X6_get w_245 rfl rfl ⟨Nat.le_of_ble_eq_true rfl, Nat.le_of_ble_eq_true rfl⟩) ⟨rP.blind, va_recv hG.1 hPc (ci := 6) (q0 := 0) rfl rfl, fun U hU hW => ⟨rfl, by rw [hU]; exact hPc, kG.warm hW hG⟩⟩ rfl rfl hl.1 rfl (lv_room (Nat.le_of_ble_eq_true rfl)) dX10_act_32 ⟨Nat.le_of_ble_eq_true rfl, Nat.le_of_ble_eq_true rfl⟩) (fun r hr9 => ?_)
        subst hr9
        refine lv_astore (lv' := [(4, .ref q), (0, .ref x), (1, .int a1), (2, .int a2), (3, .int a3)]) hx hb dX10_act_35 hl (by decide) rfl (fun ls hl => ?_)
        refine lv_aload_n hx hb dX10_act_37 rfl (lv_at hl 1 rfl) ?_
        refine va_get (D := G.1) (ci := 9) (v := .ref rd) (C := RX10) (T := TX10) (N := 7) hx hb hts inlX10 hown hG.1 hP 0 rfl rfl 4 (by decide) (hts (.fieldLink RX10 34 "SwornLists" "reader" "LSwornLists$Reader;") w_24) (fun _ h9 => h9) rfl dX10_act_38 ?_
        refine lv_aload hx hb dX10_act_41 (lv_at hl 0 rfl) ?_
        have hPc := hP.sub (ws' := [(rd, eO 4 [.ref mk, .int 0, .int 0, .int 0, .int 0]), (q, eO 7 [.ref qs, .ref qp, .int 0, .int 0])]) [5, 4] rfl
        have hDc := hD.sub (ws' := [(rd, eO 4 [.ref mk, .int 0, .int 0, .int 0, .int 0]), (q, eO 7 [.ref qs, .ref qp, .int 0, .int 0])]) [5, 4] (by decide) rfl
        have hFc := va_free (wc := [(rd, eO 4 [.ref mk, .int 0, .int 0, .int 0, .int 0]), (q, eO 7 [.ref qs, .ref qp, .int 0, .int 0])]) hD hS hA [5, 4] rfl
        refine va_calli (va_runV (As := [.ref q]) (rest := []) ⟨hx, hb, hml, hown, hts⟩ (c_read0 l G s.heap.size rd q mk qs qp ) (my_cwV hts ok_X4_read w_278 rfl rfl ⟨Nat.le_of_ble_eq_true rfl, Nat.le_of_ble_eq_true rfl⟩) ⟨wP.blind, va_recv hG.1 hPc (ci := 4) (q0 := 0) rfl rfl, fun U hU hW => ⟨rfl, by rw [hU], by rw [hU]; exact hPc, kG.warm hW hG, hDc.weaken (fun _ _ _ _ => trivial)⟩⟩ rfl rfl hl.1 rfl (lv_room (Nat.le_of_ble_eq_true rfl)) dX10_act_43 ⟨Nat.le_of_ble_eq_true rfl, Nat.le_of_ble_eq_true rfl⟩) hS (fun q _ h => hFc q h) hFc (fun r u t H1 locs ht hvm hw hB hz1 hk1 hS => ?_)
        obtain ⟨hP1, hD1⟩ := hB
        rw [ht] at hP1
        try dsimp only at hw
        obtain ⟨hP, hD⟩ := va_join (wr := [(x, eO 9 [.ref ct, .ref bk, .ref im, .ref kp, .ref rd, .ref fr, .ref wt]), (bk, eO 0 [.ref pe, .ref fa, .ref ro, .ref ac, .ref tr, .ref la, .ref tx, .int 5, .int 20]), (tx, eO 6 [.ref txa, .ref txb]), (txa, eA G 5 4 tf)]) (w1 := [(rd, eO 4 [.ref mk, .int 0, .int 0, .int 0, .int 1]), (q, eO 7 [.ref qs, .ref qp, .int 0, .int 0])]) hP hD [5, 4] [0, 1, 2, 3] rfl rfl (by decide) (by decide) hk1 hFc hP1 hD1
        generalize H1 = H at hP hS ⊢
        have hP : va_P G.1 vwCl [(x, eO 9 [.ref ct, .ref bk, .ref im, .ref kp, .ref rd, .ref fr, .ref wt]), (bk, eO 0 [.ref pe, .ref fa, .ref ro, .ref ac, .ref tr, .ref la, .ref tx, .int 5, .int 20]), (tx, eO 6 [.ref txa, .ref txb]), (txa, eA G 5 4 tf), (rd, eO 4 [.ref mk, .int 0, .int 0, .int 0, .int 1]), (q, eO 7 [.ref qs, .ref qp, .int 0, .int 0])] H := hP
        have hD : va_D A [(x, eO 9 [.ref ct, .ref bk, .ref im, .ref kp, .ref rd, .ref fr, .ref wt]), (bk, eO 0 [.ref pe, .ref fa, .ref ro, .ref ac, .ref tr, .ref la, .ref tx, .int 5, .int 20]), (tx, eO 6 [.ref txa, .ref txb]), (txa, eA G 5 4 tf), (rd, eO 4 [.ref mk, .int 0, .int 0, .int 0, .int 1]), (q, eO 7 [.ref qs, .ref qp, .int 0, .int 0])] := hD
        subst hw
        refine lv_iconst (v := (-1)) hx hb dX10_act_46 (by decide) ?_
        refine lv_icmp_eq (tgt := 53) hx hb dX10_act_47 (by decide) (fun c_47 => absurd c_47 (by decide)) (fun c_47 => ?_)
        refine lv_bipush (v := (-3)) hx hb dX10_act_50 (by decide) ?_
        exact W.iret (v := (-3)) hx hb hr (fun t ht hW => ⟨⟨_, (), rfl, (by simp [c_4, c_11, c_18]), trivial⟩, hS.F ht⟩) hS.2.2 dX10_act_52
      · refine lv_bipush (v := (-2)) hx hb dX10_act_21 (by decide) ?_
        exact W.iret (v := (-2)) hx hb hr (fun t ht hW => ⟨⟨_, (), rfl, (by simp [c_4, c_11, c_18]), trivial⟩, hS.F ht⟩) hS.2.2 dX10_act_23
set_option maxHeartbeats 4000000 in
set_option maxRecDepth 100000 in
theorem p_strikeOut (l : Launch) (G : gW) (x : Nat) (ct : Nat) (bk : Nat) (im : Nat) (kp : Nat) (rd : Nat) (fr : Nat) (wt : Nat) (pe : Nat) (fa : Nat) (ro : Nat) (ac : Nat) (tr : Nat) (la : Nat) (tx : Nat) (aca : Nat) (a1 : Int32) (a2 : Int32)  : Met l yX10_strikeOut (wsT yX10_strikeOut cX10_strikeOut 3 (some .int)) ({ frames := 1, cells := 0, slots := 0, locals := 21 }) (rP G [.ref x, .int a1, .int a2] [(x, eO 9 [.ref ct, .ref bk, .ref im, .ref kp, .ref rd, .ref fr, .ref wt]), (bk, eO 0 [.ref pe, .ref fa, .ref ro, .ref ac, .ref tr, .ref la, .ref tx, .int 5, .int 20]), (ac, eO 5 [.int 20, .int 3, .ref aca, .int 0])]) (rQi (fun r => r = (-2))) 0 0 fr0 := by
  refine Met.ofW (cc := cX10_strikeOut) (maxL := 3) (ret := (some .int)) (by decide) rfl ?_
  intro p e s m args below meth c s₁ B hml hv
  obtain ⟨rfl, hP, hG⟩ := hv
  have hx := B.exec
  have hb := B.bytes
  have hr := B.returns
  have hts := my_hts (atoms_spec (ws := wsT yX10_strikeOut cX10_strikeOut 3 (some .int)) B.pre)
  have hown : s.vm.findClass RX10 = some m.cls := findClass_of_methodNamed B.named
  have hlocks := B.notSynchronized
  have hP : va_P G.1 vwCl [(x, eO 9 [.ref ct, .ref bk, .ref im, .ref kp, .ref rd, .ref fr, .ref wt]), (bk, eO 0 [.ref pe, .ref fa, .ref ro, .ref ac, .ref tr, .ref la, .ref tx, .int 5, .int 20]), (ac, eO 5 [.int 20, .int 3, .ref aca, .int 0])] s.heap := hP
  have hl := lv_entry ([.ref x, .int a1, .int a2]) (n := 3) (Nat.le_of_ble_eq_true rfl)
  rw [lg_entry_eq]
  generalize (lg_sl ([.ref x, .int a1, .int a2]) ++ List.replicate (3 - (lg_sl ([.ref x, .int a1, .int a2])).length) Slot.unset).toArray = ls at hl ⊢
  have hl : lv_has ls 3 [(0, .ref x), (1, .int a1), (2, .int a2)] := hl
  refine lv_aload_n hx hb dX10_strikeOut_0 rfl (lv_at hl 0 rfl) ?_
  refine va_get (D := G.1) (ci := 9) (v := .ref bk) (C := RX10) (T := TX10) (N := 7) hx hb hts inlX10 hown hG.1 hP 0 rfl rfl 1 (by decide) (hts (.fieldLink RX10 20 "SwornLists" "book" "LSwornLists$Book;") w_16) (fun _ h9 => h9) rfl dX10_strikeOut_1 ?_
  refine va_getN (D := G.1) (ci := 0) (v := .ref ac) (C := RX0) (T := TX0) (N := 9) (host := RX10) hx hb hts inlX0 hown hG.1 hP 1 rfl rfl 3 (by decide) (va_Nw.use rfl (hG.2.1 (.fieldLinkNest RX10 134 RX0 "acts" "LSwornLists$Rows;" RX10) (List.mem_of_getElem? (i := 4) rfl))) (fun _ h9 => h9) rfl dX10_strikeOut_4 ?_
  refine lv_iload_n hx hb dX10_strikeOut_7 rfl (lv_at hl 1 rfl) ?_
  have hPc := hP.sub (ws' := [(ac, eO 5 [.int 20, .int 3, .ref aca, .int 0])]) [2] rfl
  refine rd_calli (va_runV (As := [.int a1]) (rest := []) ⟨hx, hb, hml, hown, hts⟩ (c_has0 l G ac 20 3 aca a1 ) (my_cwV hts ok_X5_has w_174 rfl rfl ⟨Nat.le_of_ble_eq_true rfl, Nat.le_of_ble_eq_true rfl⟩) ⟨rP.blind, va_recv hG.1 hPc (ci := 5) (q0 := 0) rfl rfl, fun U hU hW => ⟨rfl, by rw [hU]; exact hPc, kG.warm hW hG⟩⟩ rfl rfl hl.1 rfl (lv_room (Nat.le_of_ble_eq_true rfl)) dX10_strikeOut_8 ⟨Nat.le_of_ble_eq_true rfl, Nat.le_of_ble_eq_true rfl⟩) (fun r hr9 => ?_)
  subst hr9
  refine lv_if_eq (tgt := 21) hx hb dX10_strikeOut_11 (by decide) (fun c_11 => ?_) (fun c_11 => absurd (by decide) c_11)
  refine lv_bipush (v := (-2)) hx hb dX10_strikeOut_21 (by decide) ?_
  exact W.iret (v := (-2)) hx hb hr (fun t ht hW => ⟨_, rfl, (rfl), ht⟩) (fun _ h => absurd h List.not_mem_nil) dX10_strikeOut_23
set_option maxHeartbeats 4000000 in
set_option maxRecDepth 100000 in
theorem p_force (l : Launch) (G : gW) (x : Nat) (ct : Nat) (bk : Nat) (im : Nat) (kp : Nat) (rd : Nat) (fr : Nat) (wt : Nat) (pe : Nat) (fa : Nat) (ro : Nat) (ac : Nat) (tr : Nat) (la : Nat) (tx : Nat) (aca : Nat) (a1 : Int32) (a2 : Int32)  : Met l yX10_force (wsT yX10_force cX10_force 3 (some .int)) ({ frames := 2, cells := 0, slots := 0, locals := 46 }) (rP G [.ref x, .int a1, .int a2] [(x, eO 9 [.ref ct, .ref bk, .ref im, .ref kp, .ref rd, .ref fr, .ref wt]), (bk, eO 0 [.ref pe, .ref fa, .ref ro, .ref ac, .ref tr, .ref la, .ref tx, .int 5, .int 20]), (ac, eO 5 [.int 20, .int 3, .ref aca, .int 0])]) (rQi (fun r => r = if (inB 0 a1 1 = true) ∧ (inB 0 a2 9999 = true) then (-1) else (-2))) 0 0 fr0 := by
  refine Met.ofW (cc := cX10_force) (maxL := 3) (ret := (some .int)) (by decide) rfl ?_
  intro p e s m args below meth c s₁ B hml hv
  obtain ⟨rfl, hP, hG⟩ := hv
  have hx := B.exec
  have hb := B.bytes
  have hr := B.returns
  have hts := my_hts (atoms_spec (ws := wsT yX10_force cX10_force 3 (some .int)) B.pre)
  have hown : s.vm.findClass RX10 = some m.cls := findClass_of_methodNamed B.named
  have hlocks := B.notSynchronized
  have hP : va_P G.1 vwCl [(x, eO 9 [.ref ct, .ref bk, .ref im, .ref kp, .ref rd, .ref fr, .ref wt]), (bk, eO 0 [.ref pe, .ref fa, .ref ro, .ref ac, .ref tr, .ref la, .ref tx, .int 5, .int 20]), (ac, eO 5 [.int 20, .int 3, .ref aca, .int 0])] s.heap := hP
  have hl := lv_entry ([.ref x, .int a1, .int a2]) (n := 3) (Nat.le_of_ble_eq_true rfl)
  rw [lg_entry_eq]
  generalize (lg_sl ([.ref x, .int a1, .int a2]) ++ List.replicate (3 - (lg_sl ([.ref x, .int a1, .int a2])).length) Slot.unset).toArray = ls at hl ⊢
  have hl : lv_has ls 3 [(0, .ref x), (1, .int a1), (2, .int a2)] := hl
  refine lv_iload_n hx hb dX10_force_0 rfl (lv_at hl 1 rfl) ?_
  have hPc := hP.sub (ws' := []) [] rfl
  refine rd_calli (va_runS (As := [.int a1]) (rest := []) ⟨hx, hb, hml, hown, hts⟩ (c_isSort l G a1 ) (my_cwS hts ok_X10_isSort w_591 rfl rfl ⟨Nat.le_of_ble_eq_true rfl, Nat.le_of_ble_eq_true rfl⟩) ⟨rP.blind, fun U hU hW => ⟨rfl, by rw [hU]; exact hPc, kG.warm hW hG⟩⟩ rfl rfl hl.1 rfl (lv_room (Nat.le_of_ble_eq_true rfl)) dX10_force_1 ⟨Nat.le_of_ble_eq_true rfl, Nat.le_of_ble_eq_true rfl⟩) (fun r hr9 => ?_)
  subst hr9
  refine my_ifeq (tgt := 26) hx hb dX10_force_4 (by decide) (fun c_4 => ?_) (fun c_4 => ?_)
  · refine lv_bipush (v := (-2)) hx hb dX10_force_26 (by decide) ?_
    exact W.iret (v := (-2)) hx hb hr (fun t ht hW => ⟨_, rfl, (by simp [c_4]), ht⟩) (fun _ h => absurd h List.not_mem_nil) dX10_force_28
  · refine lv_iload_n hx hb dX10_force_7 rfl (lv_at hl 2 rfl) ?_
    have hPc := hP.sub (ws' := []) [] rfl
    refine rd_calli (va_runS (As := [.int a2]) (rest := []) ⟨hx, hb, hml, hown, hts⟩ (c_isDay l G a2 ) (my_cwS hts ok_X10_isDay w_178 rfl rfl ⟨Nat.le_of_ble_eq_true rfl, Nat.le_of_ble_eq_true rfl⟩) ⟨rP.blind, fun U hU hW => ⟨rfl, by rw [hU]; exact hPc, kG.warm hW hG⟩⟩ rfl rfl hl.1 rfl (lv_room (Nat.le_of_ble_eq_true rfl)) dX10_force_8 ⟨Nat.le_of_ble_eq_true rfl, Nat.le_of_ble_eq_true rfl⟩) (fun r hr9 => ?_)
    subst hr9
    refine my_ifeq (tgt := 26) hx hb dX10_force_11 (by decide) (fun c_11 => ?_) (fun c_11 => ?_)
    · refine lv_bipush (v := (-2)) hx hb dX10_force_26 (by decide) ?_
      exact W.iret (v := (-2)) hx hb hr (fun t ht hW => ⟨_, rfl, (by simp [c_4, c_11]), ht⟩) (fun _ h => absurd h List.not_mem_nil) dX10_force_28
    · refine lv_aload_n hx hb dX10_force_14 rfl (lv_at hl 0 rfl) ?_
      refine va_get (D := G.1) (ci := 9) (v := .ref bk) (C := RX10) (T := TX10) (N := 7) hx hb hts inlX10 hown hG.1 hP 0 rfl rfl 1 (by decide) (hts (.fieldLink RX10 20 "SwornLists" "book" "LSwornLists$Book;") w_16) (fun _ h9 => h9) rfl dX10_force_15 ?_
      refine lv_iload_n hx hb dX10_force_18 rfl (lv_at hl 1 rfl) ?_
      refine lv_iload_n hx hb dX10_force_19 rfl (lv_at hl 2 rfl) ?_
      have hPc := hP.sub (ws' := [(bk, eO 0 [.ref pe, .ref fa, .ref ro, .ref ac, .ref tr, .ref la, .ref tx, .int 5, .int 20]), (ac, eO 5 [.int 20, .int 3, .ref aca, .int 0])]) [1, 2] rfl
      refine rd_calli (va_runV (As := [.int a1, .int a2]) (rest := []) ⟨hx, hb, hml, hown, hts⟩ (c_inForce0 l G bk pe fa ro ac tr la tx aca a1 a2 ) (my_cwV hts ok_X0_inForce w_619 rfl rfl ⟨Nat.le_of_ble_eq_true rfl, Nat.le_of_ble_eq_true rfl⟩) ⟨rP.blind, va_recv hG.1 hPc (ci := 0) (q0 := 0) rfl rfl, fun U hU hW => ⟨rfl, by rw [hU]; exact hPc, kG.warm hW hG⟩⟩ rfl rfl hl.1 rfl (lv_room (Nat.le_of_ble_eq_true rfl)) dX10_force_20 ⟨Nat.le_of_ble_eq_true rfl, Nat.le_of_ble_eq_true rfl⟩) (fun r hr9 => ?_)
      subst hr9
      refine lv_goto (tgt := 28) hx hb dX10_force_23 (by decide) ?_
      exact W.iret (v := (-1)) hx hb hr (fun t ht hW => ⟨_, rfl, (by simp [c_4, c_11]), ht⟩) (fun _ h => absurd h List.not_mem_nil) dX10_force_28
set_option maxHeartbeats 4000000 in
set_option maxRecDepth 100000 in
theorem p_may (l : Launch) (G : gW) (x : Nat) (ct : Nat) (bk : Nat) (im : Nat) (kp : Nat) (rd : Nat) (fr : Nat) (wt : Nat) (pe : Nat) (fa : Nat) (ro : Nat) (ac : Nat) (tr : Nat) (la : Nat) (tx : Nat) (pea : Nat) (a1 : Int32) (a2 : Int32) (a3 : Int32)  : Met l yX10_may (wsT yX10_may cX10_may 4 (some .int)) ({ frames := 1, cells := 0, slots := 0, locals := 21 }) (rP G [.ref x, .int a1, .int a2, .int a3] [(x, eO 9 [.ref ct, .ref bk, .ref im, .ref kp, .ref rd, .ref fr, .ref wt]), (bk, eO 0 [.ref pe, .ref fa, .ref ro, .ref ac, .ref tr, .ref la, .ref tx, .int 5, .int 20]), (pe, eO 5 [.int 30, .int 4, .ref pea, .int 0])]) (rQi (fun r => r = (-2))) 0 0 fr0 := by
  refine Met.ofW (cc := cX10_may) (maxL := 4) (ret := (some .int)) (by decide) rfl ?_
  intro p e s m args below meth c s₁ B hml hv
  obtain ⟨rfl, hP, hG⟩ := hv
  have hx := B.exec
  have hb := B.bytes
  have hr := B.returns
  have hts := my_hts (atoms_spec (ws := wsT yX10_may cX10_may 4 (some .int)) B.pre)
  have hown : s.vm.findClass RX10 = some m.cls := findClass_of_methodNamed B.named
  have hlocks := B.notSynchronized
  have hP : va_P G.1 vwCl [(x, eO 9 [.ref ct, .ref bk, .ref im, .ref kp, .ref rd, .ref fr, .ref wt]), (bk, eO 0 [.ref pe, .ref fa, .ref ro, .ref ac, .ref tr, .ref la, .ref tx, .int 5, .int 20]), (pe, eO 5 [.int 30, .int 4, .ref pea, .int 0])] s.heap := hP
  have hl := lv_entry ([.ref x, .int a1, .int a2, .int a3]) (n := 4) (Nat.le_of_ble_eq_true rfl)
  rw [lg_entry_eq]
  generalize (lg_sl ([.ref x, .int a1, .int a2, .int a3]) ++ List.replicate (4 - (lg_sl ([.ref x, .int a1, .int a2, .int a3])).length) Slot.unset).toArray = ls at hl ⊢
  have hl : lv_has ls 4 [(0, .ref x), (1, .int a1), (2, .int a2), (3, .int a3)] := hl
  refine lv_aload_n hx hb dX10_may_0 rfl (lv_at hl 0 rfl) ?_
  refine va_get (D := G.1) (ci := 9) (v := .ref bk) (C := RX10) (T := TX10) (N := 7) hx hb hts inlX10 hown hG.1 hP 0 rfl rfl 1 (by decide) (hts (.fieldLink RX10 20 "SwornLists" "book" "LSwornLists$Book;") w_16) (fun _ h9 => h9) rfl dX10_may_1 ?_
  refine va_getN (D := G.1) (ci := 0) (v := .ref pe) (C := RX0) (T := TX0) (N := 9) (host := RX10) hx hb hts inlX0 hown hG.1 hP 1 rfl rfl 0 (by decide) (va_Nw.use rfl (hG.2.1 (.fieldLinkNest RX10 57 RX0 "people" "LSwornLists$Rows;" RX10) (List.mem_of_getElem? (i := 0) rfl))) (fun _ h9 => h9) rfl dX10_may_4 ?_
  refine lv_iload_n hx hb dX10_may_7 rfl (lv_at hl 1 rfl) ?_
  have hPc := hP.sub (ws' := [(pe, eO 5 [.int 30, .int 4, .ref pea, .int 0])]) [2] rfl
  refine rd_calli (va_runV (As := [.int a1]) (rest := []) ⟨hx, hb, hml, hown, hts⟩ (c_has0 l G pe 30 4 pea a1 ) (my_cwV hts ok_X5_has w_174 rfl rfl ⟨Nat.le_of_ble_eq_true rfl, Nat.le_of_ble_eq_true rfl⟩) ⟨rP.blind, va_recv hG.1 hPc (ci := 5) (q0 := 0) rfl rfl, fun U hU hW => ⟨rfl, by rw [hU]; exact hPc, kG.warm hW hG⟩⟩ rfl rfl hl.1 rfl (lv_room (Nat.le_of_ble_eq_true rfl)) dX10_may_8 ⟨Nat.le_of_ble_eq_true rfl, Nat.le_of_ble_eq_true rfl⟩) (fun r hr9 => ?_)
  subst hr9
  refine lv_if_eq (tgt := 28) hx hb dX10_may_11 (by decide) (fun c_11 => ?_) (fun c_11 => absurd (by decide) c_11)
  refine lv_bipush (v := (-2)) hx hb dX10_may_28 (by decide) ?_
  exact W.iret (v := (-2)) hx hb hr (fun t ht hW => ⟨_, rfl, (rfl), ht⟩) (fun _ h => absurd h List.not_mem_nil) dX10_may_30
set_option maxHeartbeats 4000000 in
set_option maxRecDepth 100000 in
theorem p_trial (l : Launch) (G : gW) (sz : Nat) (x : Nat) (ct : Nat) (bk : Nat) (im : Nat) (kp : Nat) (rd : Nat) (fr : Nat) (wt : Nat) (pe : Nat) (fa : Nat) (ro : Nat) (ac : Nat) (tr : Nat) (la : Nat) (tx : Nat) (tra : Nat) (a1 : Int32) (a2 : Int32) (a3 : Int32) (a4 : Int32) (a5 : Int32) (a6 : Int32) (a7 : Int32) (a8 : Int32) (a9 : Int32)  : Met l yX10_trial (wsT yX10_trial cX10_trial 12 (some .int)) ({ frames := 3, cells := 0, slots := 0, locals := 64 }) (wP G [.ref x, .int a1, .int a2, .int a3, .int a4, .int a5, .int a6, .int a7, .int a8, .int a9] sz [(x, eO 9 [.ref ct, .ref bk, .ref im, .ref kp, .ref rd, .ref fr, .ref wt]), (bk, eO 0 [.ref pe, .ref fa, .ref ro, .ref ac, .ref tr, .ref la, .ref tx, .int 5, .int 20]), (tr, eO 5 [.int 10, .int 70, .ref tra, .int 0]), (tra, eI G 700 (fun _ => 0))]) (va_Qi (fun (r : Int32) (_ : Unit) => r = if (inB 0 a1 9999 = true) ∧ (inB 1 a2 9 = true) ∧ (inB 1 a3 8 = true) ∧ (inB (-1) a4 9 = true) ∧ (inB (-1) a5 9 = true) ∧ (inB (-1) a6 3 = true) ∧ (inB 0 a7 4 = true) ∧ (inB 1 a9 24 = true) then 0 else (-2)) (fun _ _ => True) (va_A [(x, eO 9 [.ref ct, .ref bk, .ref im, .ref kp, .ref rd, .ref fr, .ref wt]), (bk, eO 0 [.ref pe, .ref fa, .ref ro, .ref ac, .ref tr, .ref la, .ref tx, .int 5, .int 20]), (tr, eO 5 [.int 10, .int 70, .ref tra, .int 0]), (tra, eI G 700 (fun _ => 0))] sz)) 0 0 (va_A [(x, eO 9 [.ref ct, .ref bk, .ref im, .ref kp, .ref rd, .ref fr, .ref wt]), (bk, eO 0 [.ref pe, .ref fa, .ref ro, .ref ac, .ref tr, .ref la, .ref tx, .int 5, .int 20]), (tr, eO 5 [.int 10, .int 70, .ref tra, .int 0]), (tra, eI G 700 (fun _ => 0))] sz) := by
  refine Met.ofW (cc := cX10_trial) (maxL := 12) (ret := (some .int)) (by decide) rfl ?_
  intro p e s m args below meth c s₁ B hml hv
  obtain ⟨rfl, hsz, hP, hG, hD0⟩ := hv
  have hx := B.exec
  have hb := B.bytes
  have hr := B.returns
  have hts := my_hts (atoms_spec (ws := wsT yX10_trial cX10_trial 12 (some .int)) B.pre)
  have hown : s.vm.findClass RX10 = some m.cls := findClass_of_methodNamed B.named
  have hlocks := B.notSynchronized
  subst hsz
  have hD := hD0.self (sz := s.heap.size)
  generalize hAe : va_A [(x, eO 9 [.ref ct, .ref bk, .ref im, .ref kp, .ref rd, .ref fr, .ref wt]), (bk, eO 0 [.ref pe, .ref fa, .ref ro, .ref ac, .ref tr, .ref la, .ref tx, .int 5, .int 20]), (tr, eO 5 [.int 10, .int 70, .ref tra, .int 0]), (tra, eI G 700 (fun _ => 0))] s.heap.size = A at hD ⊢
  have hA : ∀ q : Nat, s.heap.size ≤ q → A q := fun q h => by rw [← hAe]; exact Or.inr h
  have hS : va_S A s.heap s.heap [] := va_S.rf
  have hP : va_P G.1 vwCl [(x, eO 9 [.ref ct, .ref bk, .ref im, .ref kp, .ref rd, .ref fr, .ref wt]), (bk, eO 0 [.ref pe, .ref fa, .ref ro, .ref ac, .ref tr, .ref la, .ref tx, .int 5, .int 20]), (tr, eO 5 [.int 10, .int 70, .ref tra, .int 0]), (tra, eI G 700 (fun _ => 0))] s.heap := hP
  have hl := lv_entry ([.ref x, .int a1, .int a2, .int a3, .int a4, .int a5, .int a6, .int a7, .int a8, .int a9]) (n := 12) (Nat.le_of_ble_eq_true rfl)
  rw [lg_entry_eq]
  generalize (lg_sl ([.ref x, .int a1, .int a2, .int a3, .int a4, .int a5, .int a6, .int a7, .int a8, .int a9]) ++ List.replicate (12 - (lg_sl ([.ref x, .int a1, .int a2, .int a3, .int a4, .int a5, .int a6, .int a7, .int a8, .int a9])).length) Slot.unset).toArray = ls at hl ⊢
  have hl : lv_has ls 12 [(0, .ref x), (1, .int a1), (2, .int a2), (3, .int a3), (4, .int a4), (5, .int a5), (6, .int a6), (7, .int a7), (8, .int a8), (9, .int a9)] := hl
  refine lv_aload_n hx hb dX10_trial_0 rfl (lv_at hl 0 rfl) ?_
  refine lv_iload_n hx hb dX10_trial_1 rfl (lv_at hl 1 rfl) ?_
  have hPc := hP.sub (ws' := [(x, eO 9 [.ref ct, .ref bk, .ref im, .ref kp, .ref rd, .ref fr, .ref wt]), (bk, eO 0 [.ref pe, .ref fa, .ref ro, .ref ac, .ref tr, .ref la, .ref tx, .int 5, .int 20]), (tr, eO 5 [.int 10, .int 70, .ref tra, .int 0])]) [0, 1, 2] rfl
  refine rd_calli (va_runV (As := [.int a1]) (rest := []) ⟨hx, hb, hml, hown, hts⟩ (c_isNextDay0 l G x ct bk im kp rd fr wt pe fa ro ac tr la tx tra a1 ) (my_cwV hts ok_X10_isNextDay w_638 rfl rfl ⟨Nat.le_of_ble_eq_true rfl, Nat.le_of_ble_eq_true rfl⟩) ⟨rP.blind, va_recv hG.1 hPc (ci := 9) (q0 := 0) rfl rfl, fun U hU hW => ⟨rfl, by rw [hU]; exact hPc, kG.warm hW hG⟩⟩ rfl rfl hl.1 rfl (lv_room (Nat.le_of_ble_eq_true rfl)) dX10_trial_2 ⟨Nat.le_of_ble_eq_true rfl, Nat.le_of_ble_eq_true rfl⟩) (fun r hr9 => ?_)
  subst hr9
  refine my_ifeq (tgt := 81) hx hb dX10_trial_5 (by decide) (fun c_5 => ?_) (fun c_5 => ?_)
  · refine lv_bipush (v := (-2)) hx hb dX10_trial_81 (by decide) ?_
    exact W.iret (v := (-2)) hx hb hr (fun t ht hW => ⟨⟨_, (), rfl, (by simp [c_5]), trivial⟩, hS.F ht⟩) hS.2.2 dX10_trial_83
  · refine lv_iload_n hx hb dX10_trial_8 rfl (lv_at hl 2 rfl) ?_
    refine lv_iconst (v := 1) hx hb dX10_trial_9 (by decide) ?_
    refine lv_bipush (v := 9) hx hb dX10_trial_10 (by decide) ?_
    have hPc := hP.sub (ws' := []) [] rfl
    refine rd_calli (va_runS (As := [.int a2, .int 1, .int 9]) (rest := []) ⟨hx, hb, hml, hown, hts⟩ (c_within l G a2 1 9 ) (my_cwS hts ok_X10_within w_134 rfl rfl ⟨Nat.le_of_ble_eq_true rfl, Nat.le_of_ble_eq_true rfl⟩) ⟨rP.blind, fun U hU hW => ⟨rfl, by rw [hU]; exact hPc, kG.warm hW hG⟩⟩ rfl rfl hl.1 rfl (lv_room (Nat.le_of_ble_eq_true rfl)) dX10_trial_12 ⟨Nat.le_of_ble_eq_true rfl, Nat.le_of_ble_eq_true rfl⟩) (fun r hr9 => ?_)
    subst hr9
    refine my_ifeq (tgt := 81) hx hb dX10_trial_15 (by decide) (fun c_15 => ?_) (fun c_15 => ?_)
    · refine lv_bipush (v := (-2)) hx hb dX10_trial_81 (by decide) ?_
      exact W.iret (v := (-2)) hx hb hr (fun t ht hW => ⟨⟨_, (), rfl, (by simp [c_5, c_15]), trivial⟩, hS.F ht⟩) hS.2.2 dX10_trial_83
    · refine lv_iload_n hx hb dX10_trial_18 rfl (lv_at hl 3 rfl) ?_
      refine lv_iconst (v := 1) hx hb dX10_trial_19 (by decide) ?_
      refine lv_bipush (v := 8) hx hb dX10_trial_20 (by decide) ?_
      have hPc := hP.sub (ws' := []) [] rfl
      refine rd_calli (va_runS (As := [.int a3, .int 1, .int 8]) (rest := []) ⟨hx, hb, hml, hown, hts⟩ (c_within l G a3 1 8 ) (my_cwS hts ok_X10_within w_134 rfl rfl ⟨Nat.le_of_ble_eq_true rfl, Nat.le_of_ble_eq_true rfl⟩) ⟨rP.blind, fun U hU hW => ⟨rfl, by rw [hU]; exact hPc, kG.warm hW hG⟩⟩ rfl rfl hl.1 rfl (lv_room (Nat.le_of_ble_eq_true rfl)) dX10_trial_22 ⟨Nat.le_of_ble_eq_true rfl, Nat.le_of_ble_eq_true rfl⟩) (fun r hr9 => ?_)
      subst hr9
      refine my_ifeq (tgt := 81) hx hb dX10_trial_25 (by decide) (fun c_25 => ?_) (fun c_25 => ?_)
      · refine lv_bipush (v := (-2)) hx hb dX10_trial_81 (by decide) ?_
        exact W.iret (v := (-2)) hx hb hr (fun t ht hW => ⟨⟨_, (), rfl, (by simp [c_5, c_15, c_25]), trivial⟩, hS.F ht⟩) hS.2.2 dX10_trial_83
      · refine lv_iload hx hb dX10_trial_28 (lv_at hl 4 rfl) ?_
        refine lv_iconst (v := (-1)) hx hb dX10_trial_30 (by decide) ?_
        refine lv_bipush (v := 9) hx hb dX10_trial_31 (by decide) ?_
        have hPc := hP.sub (ws' := []) [] rfl
        refine rd_calli (va_runS (As := [.int a4, .int (-1), .int 9]) (rest := []) ⟨hx, hb, hml, hown, hts⟩ (c_within l G a4 (-1) 9 ) (my_cwS hts ok_X10_within w_134 rfl rfl ⟨Nat.le_of_ble_eq_true rfl, Nat.le_of_ble_eq_true rfl⟩) ⟨rP.blind, fun U hU hW => ⟨rfl, by rw [hU]; exact hPc, kG.warm hW hG⟩⟩ rfl rfl hl.1 rfl (lv_room (Nat.le_of_ble_eq_true rfl)) dX10_trial_33 ⟨Nat.le_of_ble_eq_true rfl, Nat.le_of_ble_eq_true rfl⟩) (fun r hr9 => ?_)
        subst hr9
        refine my_ifeq (tgt := 81) hx hb dX10_trial_36 (by decide) (fun c_36 => ?_) (fun c_36 => ?_)
        · refine lv_bipush (v := (-2)) hx hb dX10_trial_81 (by decide) ?_
          exact W.iret (v := (-2)) hx hb hr (fun t ht hW => ⟨⟨_, (), rfl, (by simp [c_5, c_15, c_25, c_36]), trivial⟩, hS.F ht⟩) hS.2.2 dX10_trial_83
        · refine lv_iload hx hb dX10_trial_39 (lv_at hl 5 rfl) ?_
          refine lv_iconst (v := (-1)) hx hb dX10_trial_41 (by decide) ?_
          refine lv_bipush (v := 9) hx hb dX10_trial_42 (by decide) ?_
          have hPc := hP.sub (ws' := []) [] rfl
          refine rd_calli (va_runS (As := [.int a5, .int (-1), .int 9]) (rest := []) ⟨hx, hb, hml, hown, hts⟩ (c_within l G a5 (-1) 9 ) (my_cwS hts ok_X10_within w_134 rfl rfl ⟨Nat.le_of_ble_eq_true rfl, Nat.le_of_ble_eq_true rfl⟩) ⟨rP.blind, fun U hU hW => ⟨rfl, by rw [hU]; exact hPc, kG.warm hW hG⟩⟩ rfl rfl hl.1 rfl (lv_room (Nat.le_of_ble_eq_true rfl)) dX10_trial_44 ⟨Nat.le_of_ble_eq_true rfl, Nat.le_of_ble_eq_true rfl⟩) (fun r hr9 => ?_)
          subst hr9
          refine my_ifeq (tgt := 81) hx hb dX10_trial_47 (by decide) (fun c_47 => ?_) (fun c_47 => ?_)
          · refine lv_bipush (v := (-2)) hx hb dX10_trial_81 (by decide) ?_
            exact W.iret (v := (-2)) hx hb hr (fun t ht hW => ⟨⟨_, (), rfl, (by simp [c_5, c_15, c_25, c_36, c_47]), trivial⟩, hS.F ht⟩) hS.2.2 dX10_trial_83
          · refine lv_iload hx hb dX10_trial_50 (lv_at hl 6 rfl) ?_
            refine lv_iconst (v := (-1)) hx hb dX10_trial_52 (by decide) ?_
            refine lv_iconst (v := 3) hx hb dX10_trial_53 (by decide) ?_
            have hPc := hP.sub (ws' := []) [] rfl
            refine rd_calli (va_runS (As := [.int a6, .int (-1), .int 3]) (rest := []) ⟨hx, hb, hml, hown, hts⟩ (c_within l G a6 (-1) 3 ) (my_cwS hts ok_X10_within w_134 rfl rfl ⟨Nat.le_of_ble_eq_true rfl, Nat.le_of_ble_eq_true rfl⟩) ⟨rP.blind, fun U hU hW => ⟨rfl, by rw [hU]; exact hPc, kG.warm hW hG⟩⟩ rfl rfl hl.1 rfl (lv_room (Nat.le_of_ble_eq_true rfl)) dX10_trial_54 ⟨Nat.le_of_ble_eq_true rfl, Nat.le_of_ble_eq_true rfl⟩) (fun r hr9 => ?_)
            subst hr9
            refine my_ifeq (tgt := 81) hx hb dX10_trial_57 (by decide) (fun c_57 => ?_) (fun c_57 => ?_)
            · refine lv_bipush (v := (-2)) hx hb dX10_trial_81 (by decide) ?_
              exact W.iret (v := (-2)) hx hb hr (fun t ht hW => ⟨⟨_, (), rfl, (by simp [c_5, c_15, c_25, c_36, c_47, c_57]), trivial⟩, hS.F ht⟩) hS.2.2 dX10_trial_83
            · refine lv_iload hx hb dX10_trial_60 (lv_at hl 7 rfl) ?_
              refine lv_iconst (v := 0) hx hb dX10_trial_62 (by decide) ?_
              refine lv_iconst (v := 4) hx hb dX10_trial_63 (by decide) ?_
              have hPc := hP.sub (ws' := []) [] rfl
              refine rd_calli (va_runS (As := [.int a7, .int 0, .int 4]) (rest := []) ⟨hx, hb, hml, hown, hts⟩ (c_within l G a7 0 4 ) (my_cwS hts ok_X10_within w_134 rfl rfl ⟨Nat.le_of_ble_eq_true rfl, Nat.le_of_ble_eq_true rfl⟩) ⟨rP.blind, fun U hU hW => ⟨rfl, by rw [hU]; exact hPc, kG.warm hW hG⟩⟩ rfl rfl hl.1 rfl (lv_room (Nat.le_of_ble_eq_true rfl)) dX10_trial_64 ⟨Nat.le_of_ble_eq_true rfl, Nat.le_of_ble_eq_true rfl⟩) (fun r hr9 => ?_)
              subst hr9
              refine my_ifeq (tgt := 81) hx hb dX10_trial_67 (by decide) (fun c_67 => ?_) (fun c_67 => ?_)
              · refine lv_bipush (v := (-2)) hx hb dX10_trial_81 (by decide) ?_
                exact W.iret (v := (-2)) hx hb hr (fun t ht hW => ⟨⟨_, (), rfl, (by simp [c_5, c_15, c_25, c_36, c_47, c_57, c_67]), trivial⟩, hS.F ht⟩) hS.2.2 dX10_trial_83
              · refine lv_iload hx hb dX10_trial_70 (lv_at hl 9 rfl) ?_
                refine lv_iconst (v := 1) hx hb dX10_trial_72 (by decide) ?_
                refine lv_bipush (v := 24) hx hb dX10_trial_73 (by decide) ?_
                have hPc := hP.sub (ws' := []) [] rfl
                refine rd_calli (va_runS (As := [.int a9, .int 1, .int 24]) (rest := []) ⟨hx, hb, hml, hown, hts⟩ (c_within l G a9 1 24 ) (my_cwS hts ok_X10_within w_134 rfl rfl ⟨Nat.le_of_ble_eq_true rfl, Nat.le_of_ble_eq_true rfl⟩) ⟨rP.blind, fun U hU hW => ⟨rfl, by rw [hU]; exact hPc, kG.warm hW hG⟩⟩ rfl rfl hl.1 rfl (lv_room (Nat.le_of_ble_eq_true rfl)) dX10_trial_75 ⟨Nat.le_of_ble_eq_true rfl, Nat.le_of_ble_eq_true rfl⟩) (fun r hr9 => ?_)
                subst hr9
                refine my_ifne (tgt := 84) hx hb dX10_trial_78 (by decide) (fun c_78 => ?_) (fun c_78 => ?_)
                · refine lv_aload_n hx hb dX10_trial_84 rfl (lv_at hl 0 rfl) ?_
                  refine va_get (D := G.1) (ci := 9) (v := .ref bk) (C := RX10) (T := TX10) (N := 7) hx hb hts inlX10 hown hG.1 hP 0 rfl rfl 1 (by decide) (hts (.fieldLink RX10 20 "SwornLists" "book" "LSwornLists$Book;") w_16) (fun _ h9 => h9) rfl dX10_trial_85 ?_
                  refine va_getN (D := G.1) (ci := 0) (v := .ref tr) (C := RX0) (T := TX0) (N := 9) (host := RX10) hx hb hts inlX0 hown hG.1 hP 1 rfl rfl 4 (by decide) (va_Nw.use rfl (hG.2.1 (.fieldLinkNest RX10 162 RX0 "trials" "LSwornLists$Rows;" RX10) (List.mem_of_getElem? (i := 7) rfl))) (fun _ h9 => h9) rfl dX10_trial_88 ?_
                  refine lv_astore (lv' := [(10, .ref tr), (0, .ref x), (1, .int a1), (2, .int a2), (3, .int a3), (4, .int a4), (5, .int a5), (6, .int a6), (7, .int a7), (8, .int a8), (9, .int a9)]) hx hb dX10_trial_91 hl (by decide) rfl (fun ls hl => ?_)
                  refine lv_aload hx hb dX10_trial_93 (lv_at hl 0 rfl) ?_
                  have hPc := hP.sub (ws' := [(tr, eO 5 [.int 10, .int 70, .ref tra, .int 0])]) [2] rfl
                  have hDc := hD.sub (ws' := [(tr, eO 5 [.int 10, .int 70, .ref tra, .int 0])]) [2] (by decide) rfl
                  have hFc := va_free (wc := [(tr, eO 5 [.int 10, .int 70, .ref tra, .int 0])]) hD hS hA [2] rfl
                  refine va_calli (va_runV (As := []) (rest := []) ⟨hx, hb, hml, hown, hts⟩ (c_grow0 l G s.heap.size tr 10 70 tra (by first | assumption | decide | omega)) (my_cwV hts ok_X5_grow w_137 rfl rfl ⟨Nat.le_of_ble_eq_true rfl, Nat.le_of_ble_eq_true rfl⟩) ⟨wP.blind, va_recv hG.1 hPc (ci := 5) (q0 := 0) rfl rfl, fun U hU hW => ⟨rfl, by rw [hU], by rw [hU]; exact hPc, kG.warm hW hG, hDc.weaken (fun _ _ _ _ => trivial)⟩⟩ rfl rfl hl.1 rfl (lv_room (Nat.le_of_ble_eq_true rfl)) dX10_trial_95 ⟨Nat.le_of_ble_eq_true rfl, Nat.le_of_ble_eq_true rfl⟩) hS (fun q _ h => hFc q h) hFc (fun r u t H1 locs ht hvm hw hB hz1 hk1 hS => ?_)
                  obtain ⟨hP1, hD1⟩ := hB
                  rw [ht] at hP1
                  try dsimp only at hw
                  obtain ⟨hP, hD⟩ := va_join (wr := [(x, eO 9 [.ref ct, .ref bk, .ref im, .ref kp, .ref rd, .ref fr, .ref wt]), (bk, eO 0 [.ref pe, .ref fa, .ref ro, .ref ac, .ref tr, .ref la, .ref tx, .int 5, .int 20]), (tra, eI G 700 (fun _ => 0))]) (w1 := [(tr, eO 5 [.int 10, .int 70, .ref tra, .int 1])]) hP hD [2] [0, 1, 3] rfl rfl (by decide) (by decide) hk1 hFc hP1 hD1
                  generalize H1 = H at hP hS ⊢
                  have hP : va_P G.1 vwCl [(x, eO 9 [.ref ct, .ref bk, .ref im, .ref kp, .ref rd, .ref fr, .ref wt]), (bk, eO 0 [.ref pe, .ref fa, .ref ro, .ref ac, .ref tr, .ref la, .ref tx, .int 5, .int 20]), (tra, eI G 700 (fun _ => 0)), (tr, eO 5 [.int 10, .int 70, .ref tra, .int 1])] H := hP
                  have hD : va_D A [(x, eO 9 [.ref ct, .ref bk, .ref im, .ref kp, .ref rd, .ref fr, .ref wt]), (bk, eO 0 [.ref pe, .ref fa, .ref ro, .ref ac, .ref tr, .ref la, .ref tx, .int 5, .int 20]), (tra, eI G 700 (fun _ => 0)), (tr, eO 5 [.int 10, .int 70, .ref tra, .int 1])] := hD
                  subst hw
                  refine lv_istore (lv' := [(11, .int 0), (10, .ref tr), (0, .ref x), (1, .int a1), (2, .int a2), (3, .int a3), (4, .int a4), (5, .int a5), (6, .int a6), (7, .int a7), (8, .int a8), (9, .int a9)]) hx hb dX10_trial_98 hl (by decide) rfl (fun ls hl => ?_)
                  refine lv_iload hx hb dX10_trial_100 (lv_at hl 0 rfl) ?_
                  refine lv_bipush (v := (-4)) hx hb dX10_trial_102 (by decide) ?_
                  refine lv_icmp_ne (tgt := 110) hx hb dX10_trial_104 (by decide) (fun c_104 => ?_) (fun c_104 => absurd c_104 (by decide))
                  refine lv_aload hx hb dX10_trial_110 (lv_at hl 1 rfl) ?_
                  refine lv_iload hx hb dX10_trial_112 (lv_at hl 0 rfl) ?_
                  refine lv_iconst (v := 0) hx hb dX10_trial_114 (by decide) ?_
                  refine lv_iload_n hx hb dX10_trial_115 rfl (lv_at hl 3 rfl) ?_
                  have hPc := hP.sub (ws' := [(tr, eO 5 [.int 10, .int 70, .ref tra, .int 1]), (tra, eI G 700 (fun _ => 0))]) [3, 2] rfl
                  have hDc := hD.sub (ws' := [(tr, eO 5 [.int 10, .int 70, .ref tra, .int 1]), (tra, eI G 700 (fun _ => 0))]) [3, 2] (by decide) rfl
                  have hFc := va_free (wc := [(tr, eO 5 [.int 10, .int 70, .ref tra, .int 1]), (tra, eI G 700 (fun _ => 0))]) hD hS hA [3, 2] rfl
                  refine va_callv (va_runV (As := [.int 0, .int 0, .int a1]) (rest := []) ⟨hx, hb, hml, hown, hts⟩ (c_set0 l G H.size tr 10 70 tra 700 (fun _ => 0) 0 a1 (by first | assumption | decide | omega) (by first | assumption | decide | omega) (by unfold vp_in; decide)) (my_cwV hts ok_X5_set w_142 rfl rfl ⟨Nat.le_of_ble_eq_true rfl, Nat.le_of_ble_eq_true rfl⟩) ⟨wP.blind, va_recv hG.1 hPc (ci := 5) (q0 := 0) rfl rfl, fun U hU hW => ⟨rfl, by rw [hU], by rw [hU]; exact hPc, kG.warm hW hG, hDc.weaken (fun _ _ _ _ => trivial)⟩⟩ rfl rfl hl.1 rfl (lv_room (Nat.le_of_ble_eq_true rfl)) dX10_trial_116 ⟨Nat.le_of_ble_eq_true rfl, Nat.le_of_ble_eq_true rfl⟩) hS (fun q _ h => hFc q h) hFc (fun u t H1 locs ht hvm hw hB hz1 hk1 hS => ?_)
                  obtain ⟨hP1, hD1⟩ := hB
                  rw [ht] at hP1
                  try dsimp only at hw
                  obtain ⟨hP, hD⟩ := va_join (wr := [(x, eO 9 [.ref ct, .ref bk, .ref im, .ref kp, .ref rd, .ref fr, .ref wt]), (bk, eO 0 [.ref pe, .ref fa, .ref ro, .ref ac, .ref tr, .ref la, .ref tx, .int 5, .int 20])]) (w1 := [(tr, eO 5 [.int 10, .int 70, .ref tra, .int 1]), (tra, eI G 700 (upd (fun _ => 0) (Int32.toNatClampNeg (0 * 70 + 0)) a1))]) hP hD [3, 2] [0, 1] rfl rfl (by decide) (by decide) hk1 hFc hP1 hD1
                  generalize H1 = H at hP hS ⊢
                  have hP : va_P G.1 vwCl [(x, eO 9 [.ref ct, .ref bk, .ref im, .ref kp, .ref rd, .ref fr, .ref wt]), (bk, eO 0 [.ref pe, .ref fa, .ref ro, .ref ac, .ref tr, .ref la, .ref tx, .int 5, .int 20]), (tr, eO 5 [.int 10, .int 70, .ref tra, .int 1]), (tra, eI G 700 (upd (fun _ => 0) (Int32.toNatClampNeg (0 * 70 + 0)) a1))] H := hP
                  have hD : va_D A [(x, eO 9 [.ref ct, .ref bk, .ref im, .ref kp, .ref rd, .ref fr, .ref wt]), (bk, eO 0 [.ref pe, .ref fa, .ref ro, .ref ac, .ref tr, .ref la, .ref tx, .int 5, .int 20]), (tr, eO 5 [.int 10, .int 70, .ref tra, .int 1]), (tra, eI G 700 (upd (fun _ => 0) (Int32.toNatClampNeg (0 * 70 + 0)) a1))] := hD
                  refine lv_aload hx hb dX10_trial_119 (lv_at hl 1 rfl) ?_
                  refine lv_iload hx hb dX10_trial_121 (lv_at hl 0 rfl) ?_
                  refine lv_iconst (v := 1) hx hb dX10_trial_123 (by decide) ?_
                  refine lv_iload_n hx hb dX10_trial_124 rfl (lv_at hl 4 rfl) ?_
                  have hPc := hP.sub (ws' := [(tr, eO 5 [.int 10, .int 70, .ref tra, .int 1]), (tra, eI G 700 (upd (fun _ => 0) (Int32.toNatClampNeg (0 * 70 + 0)) a1))]) [2, 3] rfl
                  have hDc := hD.sub (ws' := [(tr, eO 5 [.int 10, .int 70, .ref tra, .int 1]), (tra, eI G 700 (upd (fun _ => 0) (Int32.toNatClampNeg (0 * 70 + 0)) a1))]) [2, 3] (by decide) rfl
                  have hFc := va_free (wc := [(tr, eO 5 [.int 10, .int 70, .ref tra, .int 1]), (tra, eI G 700 (upd (fun _ => 0) (Int32.toNatClampNeg (0 * 70 + 0)) a1))]) hD hS hA [2, 3] rfl
                  refine va_callv (va_runV (As := [.int 0, .int 1, .int a2]) (rest := []) ⟨hx, hb, hml, hown, hts⟩ (c_set0 l G H.size tr 10 70 tra 700 (upd (fun _ => 0) (Int32.toNatClampNeg (0 * 70 + 0)) a1) 1 a2 (by first | assumption | decide | omega) (by first | assumption | decide | omega) (by unfold vp_in; decide)) (my_cwV hts ok_X5_set w_142 rfl rfl ⟨Nat.le_of_ble_eq_true rfl, Nat.le_of_ble_eq_true rfl⟩) ⟨wP.blind, va_recv hG.1 hPc (ci := 5) (q0 := 0) rfl rfl, fun U hU hW => ⟨rfl, by rw [hU], by rw [hU]; exact hPc, kG.warm hW hG, hDc.weaken (fun _ _ _ _ => trivial)⟩⟩ rfl rfl hl.1 rfl (lv_room (Nat.le_of_ble_eq_true rfl)) dX10_trial_125 ⟨Nat.le_of_ble_eq_true rfl, Nat.le_of_ble_eq_true rfl⟩) hS (fun q _ h => hFc q h) hFc (fun u t H1 locs ht hvm hw hB hz1 hk1 hS => ?_)
                  obtain ⟨hP1, hD1⟩ := hB
                  rw [ht] at hP1
                  try dsimp only at hw
                  obtain ⟨hP, hD⟩ := va_join (wr := [(x, eO 9 [.ref ct, .ref bk, .ref im, .ref kp, .ref rd, .ref fr, .ref wt]), (bk, eO 0 [.ref pe, .ref fa, .ref ro, .ref ac, .ref tr, .ref la, .ref tx, .int 5, .int 20])]) (w1 := [(tr, eO 5 [.int 10, .int 70, .ref tra, .int 1]), (tra, eI G 700 (upd (upd (fun _ => 0) (Int32.toNatClampNeg (0 * 70 + 0)) a1) (Int32.toNatClampNeg (0 * 70 + 1)) a2))]) hP hD [2, 3] [0, 1] rfl rfl (by decide) (by decide) hk1 hFc hP1 hD1
                  generalize H1 = H at hP hS ⊢
                  have hP : va_P G.1 vwCl [(x, eO 9 [.ref ct, .ref bk, .ref im, .ref kp, .ref rd, .ref fr, .ref wt]), (bk, eO 0 [.ref pe, .ref fa, .ref ro, .ref ac, .ref tr, .ref la, .ref tx, .int 5, .int 20]), (tr, eO 5 [.int 10, .int 70, .ref tra, .int 1]), (tra, eI G 700 (upd (upd (fun _ => 0) (Int32.toNatClampNeg (0 * 70 + 0)) a1) (Int32.toNatClampNeg (0 * 70 + 1)) a2))] H := hP
                  have hD : va_D A [(x, eO 9 [.ref ct, .ref bk, .ref im, .ref kp, .ref rd, .ref fr, .ref wt]), (bk, eO 0 [.ref pe, .ref fa, .ref ro, .ref ac, .ref tr, .ref la, .ref tx, .int 5, .int 20]), (tr, eO 5 [.int 10, .int 70, .ref tra, .int 1]), (tra, eI G 700 (upd (upd (fun _ => 0) (Int32.toNatClampNeg (0 * 70 + 0)) a1) (Int32.toNatClampNeg (0 * 70 + 1)) a2))] := hD
                  refine lv_aload hx hb dX10_trial_128 (lv_at hl 1 rfl) ?_
                  refine lv_iload hx hb dX10_trial_130 (lv_at hl 0 rfl) ?_
                  refine lv_iconst (v := 2) hx hb dX10_trial_132 (by decide) ?_
                  refine lv_iload_n hx hb dX10_trial_133 rfl (lv_at hl 5 rfl) ?_
                  have hPc := hP.sub (ws' := [(tr, eO 5 [.int 10, .int 70, .ref tra, .int 1]), (tra, eI G 700 (upd (upd (fun _ => 0) (Int32.toNatClampNeg (0 * 70 + 0)) a1) (Int32.toNatClampNeg (0 * 70 + 1)) a2))]) [2, 3] rfl
                  have hDc := hD.sub (ws' := [(tr, eO 5 [.int 10, .int 70, .ref tra, .int 1]), (tra, eI G 700 (upd (upd (fun _ => 0) (Int32.toNatClampNeg (0 * 70 + 0)) a1) (Int32.toNatClampNeg (0 * 70 + 1)) a2))]) [2, 3] (by decide) rfl
                  have hFc := va_free (wc := [(tr, eO 5 [.int 10, .int 70, .ref tra, .int 1]), (tra, eI G 700 (upd (upd (fun _ => 0) (Int32.toNatClampNeg (0 * 70 + 0)) a1) (Int32.toNatClampNeg (0 * 70 + 1)) a2))]) hD hS hA [2, 3] rfl
                  refine va_callv (va_runV (As := [.int 0, .int 2, .int a3]) (rest := []) ⟨hx, hb, hml, hown, hts⟩ (c_set0 l G H.size tr 10 70 tra 700 (upd (upd (fun _ => 0) (Int32.toNatClampNeg (0 * 70 + 0)) a1) (Int32.toNatClampNeg (0 * 70 + 1)) a2) 2 a3 (by first | assumption | decide | omega) (by first | assumption | decide | omega) (by unfold vp_in; decide)) (my_cwV hts ok_X5_set w_142 rfl rfl ⟨Nat.le_of_ble_eq_true rfl, Nat.le_of_ble_eq_true rfl⟩) ⟨wP.blind, va_recv hG.1 hPc (ci := 5) (q0 := 0) rfl rfl, fun U hU hW => ⟨rfl, by rw [hU], by rw [hU]; exact hPc, kG.warm hW hG, hDc.weaken (fun _ _ _ _ => trivial)⟩⟩ rfl rfl hl.1 rfl (lv_room (Nat.le_of_ble_eq_true rfl)) dX10_trial_134 ⟨Nat.le_of_ble_eq_true rfl, Nat.le_of_ble_eq_true rfl⟩) hS (fun q _ h => hFc q h) hFc (fun u t H1 locs ht hvm hw hB hz1 hk1 hS => ?_)
                  obtain ⟨hP1, hD1⟩ := hB
                  rw [ht] at hP1
                  try dsimp only at hw
                  obtain ⟨hP, hD⟩ := va_join (wr := [(x, eO 9 [.ref ct, .ref bk, .ref im, .ref kp, .ref rd, .ref fr, .ref wt]), (bk, eO 0 [.ref pe, .ref fa, .ref ro, .ref ac, .ref tr, .ref la, .ref tx, .int 5, .int 20])]) (w1 := [(tr, eO 5 [.int 10, .int 70, .ref tra, .int 1]), (tra, eI G 700 (upd (upd (upd (fun _ => 0) (Int32.toNatClampNeg (0 * 70 + 0)) a1) (Int32.toNatClampNeg (0 * 70 + 1)) a2) (Int32.toNatClampNeg (0 * 70 + 2)) a3))]) hP hD [2, 3] [0, 1] rfl rfl (by decide) (by decide) hk1 hFc hP1 hD1
                  generalize H1 = H at hP hS ⊢
                  have hP : va_P G.1 vwCl [(x, eO 9 [.ref ct, .ref bk, .ref im, .ref kp, .ref rd, .ref fr, .ref wt]), (bk, eO 0 [.ref pe, .ref fa, .ref ro, .ref ac, .ref tr, .ref la, .ref tx, .int 5, .int 20]), (tr, eO 5 [.int 10, .int 70, .ref tra, .int 1]), (tra, eI G 700 (upd (upd (upd (fun _ => 0) (Int32.toNatClampNeg (0 * 70 + 0)) a1) (Int32.toNatClampNeg (0 * 70 + 1)) a2) (Int32.toNatClampNeg (0 * 70 + 2)) a3))] H := hP
                  have hD : va_D A [(x, eO 9 [.ref ct, .ref bk, .ref im, .ref kp, .ref rd, .ref fr, .ref wt]), (bk, eO 0 [.ref pe, .ref fa, .ref ro, .ref ac, .ref tr, .ref la, .ref tx, .int 5, .int 20]), (tr, eO 5 [.int 10, .int 70, .ref tra, .int 1]), (tra, eI G 700 (upd (upd (upd (fun _ => 0) (Int32.toNatClampNeg (0 * 70 + 0)) a1) (Int32.toNatClampNeg (0 * 70 + 1)) a2) (Int32.toNatClampNeg (0 * 70 + 2)) a3))] := hD
                  refine lv_aload hx hb dX10_trial_137 (lv_at hl 1 rfl) ?_
                  refine lv_iload hx hb dX10_trial_139 (lv_at hl 0 rfl) ?_
                  refine lv_iconst (v := 3) hx hb dX10_trial_141 (by decide) ?_
                  refine lv_iload hx hb dX10_trial_142 (lv_at hl 6 rfl) ?_
                  have hPc := hP.sub (ws' := [(tr, eO 5 [.int 10, .int 70, .ref tra, .int 1]), (tra, eI G 700 (upd (upd (upd (fun _ => 0) (Int32.toNatClampNeg (0 * 70 + 0)) a1) (Int32.toNatClampNeg (0 * 70 + 1)) a2) (Int32.toNatClampNeg (0 * 70 + 2)) a3))]) [2, 3] rfl
                  have hDc := hD.sub (ws' := [(tr, eO 5 [.int 10, .int 70, .ref tra, .int 1]), (tra, eI G 700 (upd (upd (upd (fun _ => 0) (Int32.toNatClampNeg (0 * 70 + 0)) a1) (Int32.toNatClampNeg (0 * 70 + 1)) a2) (Int32.toNatClampNeg (0 * 70 + 2)) a3))]) [2, 3] (by decide) rfl
                  have hFc := va_free (wc := [(tr, eO 5 [.int 10, .int 70, .ref tra, .int 1]), (tra, eI G 700 (upd (upd (upd (fun _ => 0) (Int32.toNatClampNeg (0 * 70 + 0)) a1) (Int32.toNatClampNeg (0 * 70 + 1)) a2) (Int32.toNatClampNeg (0 * 70 + 2)) a3))]) hD hS hA [2, 3] rfl
                  refine va_callv (va_runV (As := [.int 0, .int 3, .int a4]) (rest := []) ⟨hx, hb, hml, hown, hts⟩ (c_set0 l G H.size tr 10 70 tra 700 (upd (upd (upd (fun _ => 0) (Int32.toNatClampNeg (0 * 70 + 0)) a1) (Int32.toNatClampNeg (0 * 70 + 1)) a2) (Int32.toNatClampNeg (0 * 70 + 2)) a3) 3 a4 (by first | assumption | decide | omega) (by first | assumption | decide | omega) (by unfold vp_in; decide)) (my_cwV hts ok_X5_set w_142 rfl rfl ⟨Nat.le_of_ble_eq_true rfl, Nat.le_of_ble_eq_true rfl⟩) ⟨wP.blind, va_recv hG.1 hPc (ci := 5) (q0 := 0) rfl rfl, fun U hU hW => ⟨rfl, by rw [hU], by rw [hU]; exact hPc, kG.warm hW hG, hDc.weaken (fun _ _ _ _ => trivial)⟩⟩ rfl rfl hl.1 rfl (lv_room (Nat.le_of_ble_eq_true rfl)) dX10_trial_144 ⟨Nat.le_of_ble_eq_true rfl, Nat.le_of_ble_eq_true rfl⟩) hS (fun q _ h => hFc q h) hFc (fun u t H1 locs ht hvm hw hB hz1 hk1 hS => ?_)
                  obtain ⟨hP1, hD1⟩ := hB
                  rw [ht] at hP1
                  try dsimp only at hw
                  obtain ⟨hP, hD⟩ := va_join (wr := [(x, eO 9 [.ref ct, .ref bk, .ref im, .ref kp, .ref rd, .ref fr, .ref wt]), (bk, eO 0 [.ref pe, .ref fa, .ref ro, .ref ac, .ref tr, .ref la, .ref tx, .int 5, .int 20])]) (w1 := [(tr, eO 5 [.int 10, .int 70, .ref tra, .int 1]), (tra, eI G 700 (upd (upd (upd (upd (fun _ => 0) (Int32.toNatClampNeg (0 * 70 + 0)) a1) (Int32.toNatClampNeg (0 * 70 + 1)) a2) (Int32.toNatClampNeg (0 * 70 + 2)) a3) (Int32.toNatClampNeg (0 * 70 + 3)) a4))]) hP hD [2, 3] [0, 1] rfl rfl (by decide) (by decide) hk1 hFc hP1 hD1
                  generalize H1 = H at hP hS ⊢
                  have hP : va_P G.1 vwCl [(x, eO 9 [.ref ct, .ref bk, .ref im, .ref kp, .ref rd, .ref fr, .ref wt]), (bk, eO 0 [.ref pe, .ref fa, .ref ro, .ref ac, .ref tr, .ref la, .ref tx, .int 5, .int 20]), (tr, eO 5 [.int 10, .int 70, .ref tra, .int 1]), (tra, eI G 700 (upd (upd (upd (upd (fun _ => 0) (Int32.toNatClampNeg (0 * 70 + 0)) a1) (Int32.toNatClampNeg (0 * 70 + 1)) a2) (Int32.toNatClampNeg (0 * 70 + 2)) a3) (Int32.toNatClampNeg (0 * 70 + 3)) a4))] H := hP
                  have hD : va_D A [(x, eO 9 [.ref ct, .ref bk, .ref im, .ref kp, .ref rd, .ref fr, .ref wt]), (bk, eO 0 [.ref pe, .ref fa, .ref ro, .ref ac, .ref tr, .ref la, .ref tx, .int 5, .int 20]), (tr, eO 5 [.int 10, .int 70, .ref tra, .int 1]), (tra, eI G 700 (upd (upd (upd (upd (fun _ => 0) (Int32.toNatClampNeg (0 * 70 + 0)) a1) (Int32.toNatClampNeg (0 * 70 + 1)) a2) (Int32.toNatClampNeg (0 * 70 + 2)) a3) (Int32.toNatClampNeg (0 * 70 + 3)) a4))] := hD
                  refine lv_aload hx hb dX10_trial_147 (lv_at hl 1 rfl) ?_
                  refine lv_iload hx hb dX10_trial_149 (lv_at hl 0 rfl) ?_
                  refine lv_iconst (v := 4) hx hb dX10_trial_151 (by decide) ?_
                  refine lv_iload hx hb dX10_trial_152 (lv_at hl 7 rfl) ?_
                  have hPc := hP.sub (ws' := [(tr, eO 5 [.int 10, .int 70, .ref tra, .int 1]), (tra, eI G 700 (upd (upd (upd (upd (fun _ => 0) (Int32.toNatClampNeg (0 * 70 + 0)) a1) (Int32.toNatClampNeg (0 * 70 + 1)) a2) (Int32.toNatClampNeg (0 * 70 + 2)) a3) (Int32.toNatClampNeg (0 * 70 + 3)) a4))]) [2, 3] rfl
                  have hDc := hD.sub (ws' := [(tr, eO 5 [.int 10, .int 70, .ref tra, .int 1]), (tra, eI G 700 (upd (upd (upd (upd (fun _ => 0) (Int32.toNatClampNeg (0 * 70 + 0)) a1) (Int32.toNatClampNeg (0 * 70 + 1)) a2) (Int32.toNatClampNeg (0 * 70 + 2)) a3) (Int32.toNatClampNeg (0 * 70 + 3)) a4))]) [2, 3] (by decide) rfl
                  have hFc := va_free (wc := [(tr, eO 5 [.int 10, .int 70, .ref tra, .int 1]), (tra, eI G 700 (upd (upd (upd (upd (fun _ => 0) (Int32.toNatClampNeg (0 * 70 + 0)) a1) (Int32.toNatClampNeg (0 * 70 + 1)) a2) (Int32.toNatClampNeg (0 * 70 + 2)) a3) (Int32.toNatClampNeg (0 * 70 + 3)) a4))]) hD hS hA [2, 3] rfl
                  refine va_callv (va_runV (As := [.int 0, .int 4, .int a5]) (rest := []) ⟨hx, hb, hml, hown, hts⟩ (c_set0 l G H.size tr 10 70 tra 700 (upd (upd (upd (upd (fun _ => 0) (Int32.toNatClampNeg (0 * 70 + 0)) a1) (Int32.toNatClampNeg (0 * 70 + 1)) a2) (Int32.toNatClampNeg (0 * 70 + 2)) a3) (Int32.toNatClampNeg (0 * 70 + 3)) a4) 4 a5 (by first | assumption | decide | omega) (by first | assumption | decide | omega) (by unfold vp_in; decide)) (my_cwV hts ok_X5_set w_142 rfl rfl ⟨Nat.le_of_ble_eq_true rfl, Nat.le_of_ble_eq_true rfl⟩) ⟨wP.blind, va_recv hG.1 hPc (ci := 5) (q0 := 0) rfl rfl, fun U hU hW => ⟨rfl, by rw [hU], by rw [hU]; exact hPc, kG.warm hW hG, hDc.weaken (fun _ _ _ _ => trivial)⟩⟩ rfl rfl hl.1 rfl (lv_room (Nat.le_of_ble_eq_true rfl)) dX10_trial_154 ⟨Nat.le_of_ble_eq_true rfl, Nat.le_of_ble_eq_true rfl⟩) hS (fun q _ h => hFc q h) hFc (fun u t H1 locs ht hvm hw hB hz1 hk1 hS => ?_)
                  obtain ⟨hP1, hD1⟩ := hB
                  rw [ht] at hP1
                  try dsimp only at hw
                  obtain ⟨hP, hD⟩ := va_join (wr := [(x, eO 9 [.ref ct, .ref bk, .ref im, .ref kp, .ref rd, .ref fr, .ref wt]), (bk, eO 0 [.ref pe, .ref fa, .ref ro, .ref ac, .ref tr, .ref la, .ref tx, .int 5, .int 20])]) (w1 := [(tr, eO 5 [.int 10, .int 70, .ref tra, .int 1]), (tra, eI G 700 (upd (upd (upd (upd (upd (fun _ => 0) (Int32.toNatClampNeg (0 * 70 + 0)) a1) (Int32.toNatClampNeg (0 * 70 + 1)) a2) (Int32.toNatClampNeg (0 * 70 + 2)) a3) (Int32.toNatClampNeg (0 * 70 + 3)) a4) (Int32.toNatClampNeg (0 * 70 + 4)) a5))]) hP hD [2, 3] [0, 1] rfl rfl (by decide) (by decide) hk1 hFc hP1 hD1
                  generalize H1 = H at hP hS ⊢
                  have hP : va_P G.1 vwCl [(x, eO 9 [.ref ct, .ref bk, .ref im, .ref kp, .ref rd, .ref fr, .ref wt]), (bk, eO 0 [.ref pe, .ref fa, .ref ro, .ref ac, .ref tr, .ref la, .ref tx, .int 5, .int 20]), (tr, eO 5 [.int 10, .int 70, .ref tra, .int 1]), (tra, eI G 700 (upd (upd (upd (upd (upd (fun _ => 0) (Int32.toNatClampNeg (0 * 70 + 0)) a1) (Int32.toNatClampNeg (0 * 70 + 1)) a2) (Int32.toNatClampNeg (0 * 70 + 2)) a3) (Int32.toNatClampNeg (0 * 70 + 3)) a4) (Int32.toNatClampNeg (0 * 70 + 4)) a5))] H := hP
                  have hD : va_D A [(x, eO 9 [.ref ct, .ref bk, .ref im, .ref kp, .ref rd, .ref fr, .ref wt]), (bk, eO 0 [.ref pe, .ref fa, .ref ro, .ref ac, .ref tr, .ref la, .ref tx, .int 5, .int 20]), (tr, eO 5 [.int 10, .int 70, .ref tra, .int 1]), (tra, eI G 700 (upd (upd (upd (upd (upd (fun _ => 0) (Int32.toNatClampNeg (0 * 70 + 0)) a1) (Int32.toNatClampNeg (0 * 70 + 1)) a2) (Int32.toNatClampNeg (0 * 70 + 2)) a3) (Int32.toNatClampNeg (0 * 70 + 3)) a4) (Int32.toNatClampNeg (0 * 70 + 4)) a5))] := hD
                  refine lv_aload hx hb dX10_trial_157 (lv_at hl 1 rfl) ?_
                  refine lv_iload hx hb dX10_trial_159 (lv_at hl 0 rfl) ?_
                  refine lv_iconst (v := 5) hx hb dX10_trial_161 (by decide) ?_
                  refine lv_iload hx hb dX10_trial_162 (lv_at hl 8 rfl) ?_
                  have hPc := hP.sub (ws' := [(tr, eO 5 [.int 10, .int 70, .ref tra, .int 1]), (tra, eI G 700 (upd (upd (upd (upd (upd (fun _ => 0) (Int32.toNatClampNeg (0 * 70 + 0)) a1) (Int32.toNatClampNeg (0 * 70 + 1)) a2) (Int32.toNatClampNeg (0 * 70 + 2)) a3) (Int32.toNatClampNeg (0 * 70 + 3)) a4) (Int32.toNatClampNeg (0 * 70 + 4)) a5))]) [2, 3] rfl
                  have hDc := hD.sub (ws' := [(tr, eO 5 [.int 10, .int 70, .ref tra, .int 1]), (tra, eI G 700 (upd (upd (upd (upd (upd (fun _ => 0) (Int32.toNatClampNeg (0 * 70 + 0)) a1) (Int32.toNatClampNeg (0 * 70 + 1)) a2) (Int32.toNatClampNeg (0 * 70 + 2)) a3) (Int32.toNatClampNeg (0 * 70 + 3)) a4) (Int32.toNatClampNeg (0 * 70 + 4)) a5))]) [2, 3] (by decide) rfl
                  have hFc := va_free (wc := [(tr, eO 5 [.int 10, .int 70, .ref tra, .int 1]), (tra, eI G 700 (upd (upd (upd (upd (upd (fun _ => 0) (Int32.toNatClampNeg (0 * 70 + 0)) a1) (Int32.toNatClampNeg (0 * 70 + 1)) a2) (Int32.toNatClampNeg (0 * 70 + 2)) a3) (Int32.toNatClampNeg (0 * 70 + 3)) a4) (Int32.toNatClampNeg (0 * 70 + 4)) a5))]) hD hS hA [2, 3] rfl
                  refine va_callv (va_runV (As := [.int 0, .int 5, .int a6]) (rest := []) ⟨hx, hb, hml, hown, hts⟩ (c_set0 l G H.size tr 10 70 tra 700 (upd (upd (upd (upd (upd (fun _ => 0) (Int32.toNatClampNeg (0 * 70 + 0)) a1) (Int32.toNatClampNeg (0 * 70 + 1)) a2) (Int32.toNatClampNeg (0 * 70 + 2)) a3) (Int32.toNatClampNeg (0 * 70 + 3)) a4) (Int32.toNatClampNeg (0 * 70 + 4)) a5) 5 a6 (by first | assumption | decide | omega) (by first | assumption | decide | omega) (by unfold vp_in; decide)) (my_cwV hts ok_X5_set w_142 rfl rfl ⟨Nat.le_of_ble_eq_true rfl, Nat.le_of_ble_eq_true rfl⟩) ⟨wP.blind, va_recv hG.1 hPc (ci := 5) (q0 := 0) rfl rfl, fun U hU hW => ⟨rfl, by rw [hU], by rw [hU]; exact hPc, kG.warm hW hG, hDc.weaken (fun _ _ _ _ => trivial)⟩⟩ rfl rfl hl.1 rfl (lv_room (Nat.le_of_ble_eq_true rfl)) dX10_trial_164 ⟨Nat.le_of_ble_eq_true rfl, Nat.le_of_ble_eq_true rfl⟩) hS (fun q _ h => hFc q h) hFc (fun u t H1 locs ht hvm hw hB hz1 hk1 hS => ?_)
                  obtain ⟨hP1, hD1⟩ := hB
                  rw [ht] at hP1
                  try dsimp only at hw
                  obtain ⟨hP, hD⟩ := va_join (wr := [(x, eO 9 [.ref ct, .ref bk, .ref im, .ref kp, .ref rd, .ref fr, .ref wt]), (bk, eO 0 [.ref pe, .ref fa, .ref ro, .ref ac, .ref tr, .ref la, .ref tx, .int 5, .int 20])]) (w1 := [(tr, eO 5 [.int 10, .int 70, .ref tra, .int 1]), (tra, eI G 700 (upd (upd (upd (upd (upd (upd (fun _ => 0) (Int32.toNatClampNeg (0 * 70 + 0)) a1) (Int32.toNatClampNeg (0 * 70 + 1)) a2) (Int32.toNatClampNeg (0 * 70 + 2)) a3) (Int32.toNatClampNeg (0 * 70 + 3)) a4) (Int32.toNatClampNeg (0 * 70 + 4)) a5) (Int32.toNatClampNeg (0 * 70 + 5)) a6))]) hP hD [2, 3] [0, 1] rfl rfl (by decide) (by decide) hk1 hFc hP1 hD1
                  generalize H1 = H at hP hS ⊢
                  have hP : va_P G.1 vwCl [(x, eO 9 [.ref ct, .ref bk, .ref im, .ref kp, .ref rd, .ref fr, .ref wt]), (bk, eO 0 [.ref pe, .ref fa, .ref ro, .ref ac, .ref tr, .ref la, .ref tx, .int 5, .int 20]), (tr, eO 5 [.int 10, .int 70, .ref tra, .int 1]), (tra, eI G 700 (upd (upd (upd (upd (upd (upd (fun _ => 0) (Int32.toNatClampNeg (0 * 70 + 0)) a1) (Int32.toNatClampNeg (0 * 70 + 1)) a2) (Int32.toNatClampNeg (0 * 70 + 2)) a3) (Int32.toNatClampNeg (0 * 70 + 3)) a4) (Int32.toNatClampNeg (0 * 70 + 4)) a5) (Int32.toNatClampNeg (0 * 70 + 5)) a6))] H := hP
                  have hD : va_D A [(x, eO 9 [.ref ct, .ref bk, .ref im, .ref kp, .ref rd, .ref fr, .ref wt]), (bk, eO 0 [.ref pe, .ref fa, .ref ro, .ref ac, .ref tr, .ref la, .ref tx, .int 5, .int 20]), (tr, eO 5 [.int 10, .int 70, .ref tra, .int 1]), (tra, eI G 700 (upd (upd (upd (upd (upd (upd (fun _ => 0) (Int32.toNatClampNeg (0 * 70 + 0)) a1) (Int32.toNatClampNeg (0 * 70 + 1)) a2) (Int32.toNatClampNeg (0 * 70 + 2)) a3) (Int32.toNatClampNeg (0 * 70 + 3)) a4) (Int32.toNatClampNeg (0 * 70 + 4)) a5) (Int32.toNatClampNeg (0 * 70 + 5)) a6))] := hD
                  refine lv_aload hx hb dX10_trial_167 (lv_at hl 1 rfl) ?_
                  refine lv_iload hx hb dX10_trial_169 (lv_at hl 0 rfl) ?_
                  refine lv_bipush (v := 6) hx hb dX10_trial_171 (by decide) ?_
                  refine lv_iload hx hb dX10_trial_173 (lv_at hl 9 rfl) ?_
                  have hPc := hP.sub (ws' := [(tr, eO 5 [.int 10, .int 70, .ref tra, .int 1]), (tra, eI G 700 (upd (upd (upd (upd (upd (upd (fun _ => 0) (Int32.toNatClampNeg (0 * 70 + 0)) a1) (Int32.toNatClampNeg (0 * 70 + 1)) a2) (Int32.toNatClampNeg (0 * 70 + 2)) a3) (Int32.toNatClampNeg (0 * 70 + 3)) a4) (Int32.toNatClampNeg (0 * 70 + 4)) a5) (Int32.toNatClampNeg (0 * 70 + 5)) a6))]) [2, 3] rfl
                  have hDc := hD.sub (ws' := [(tr, eO 5 [.int 10, .int 70, .ref tra, .int 1]), (tra, eI G 700 (upd (upd (upd (upd (upd (upd (fun _ => 0) (Int32.toNatClampNeg (0 * 70 + 0)) a1) (Int32.toNatClampNeg (0 * 70 + 1)) a2) (Int32.toNatClampNeg (0 * 70 + 2)) a3) (Int32.toNatClampNeg (0 * 70 + 3)) a4) (Int32.toNatClampNeg (0 * 70 + 4)) a5) (Int32.toNatClampNeg (0 * 70 + 5)) a6))]) [2, 3] (by decide) rfl
                  have hFc := va_free (wc := [(tr, eO 5 [.int 10, .int 70, .ref tra, .int 1]), (tra, eI G 700 (upd (upd (upd (upd (upd (upd (fun _ => 0) (Int32.toNatClampNeg (0 * 70 + 0)) a1) (Int32.toNatClampNeg (0 * 70 + 1)) a2) (Int32.toNatClampNeg (0 * 70 + 2)) a3) (Int32.toNatClampNeg (0 * 70 + 3)) a4) (Int32.toNatClampNeg (0 * 70 + 4)) a5) (Int32.toNatClampNeg (0 * 70 + 5)) a6))]) hD hS hA [2, 3] rfl
                  refine va_callv (va_runV (As := [.int 0, .int 6, .int a7]) (rest := []) ⟨hx, hb, hml, hown, hts⟩ (c_set0 l G H.size tr 10 70 tra 700 (upd (upd (upd (upd (upd (upd (fun _ => 0) (Int32.toNatClampNeg (0 * 70 + 0)) a1) (Int32.toNatClampNeg (0 * 70 + 1)) a2) (Int32.toNatClampNeg (0 * 70 + 2)) a3) (Int32.toNatClampNeg (0 * 70 + 3)) a4) (Int32.toNatClampNeg (0 * 70 + 4)) a5) (Int32.toNatClampNeg (0 * 70 + 5)) a6) 6 a7 (by first | assumption | decide | omega) (by first | assumption | decide | omega) (by unfold vp_in; decide)) (my_cwV hts ok_X5_set w_142 rfl rfl ⟨Nat.le_of_ble_eq_true rfl, Nat.le_of_ble_eq_true rfl⟩) ⟨wP.blind, va_recv hG.1 hPc (ci := 5) (q0 := 0) rfl rfl, fun U hU hW => ⟨rfl, by rw [hU], by rw [hU]; exact hPc, kG.warm hW hG, hDc.weaken (fun _ _ _ _ => trivial)⟩⟩ rfl rfl hl.1 rfl (lv_room (Nat.le_of_ble_eq_true rfl)) dX10_trial_175 ⟨Nat.le_of_ble_eq_true rfl, Nat.le_of_ble_eq_true rfl⟩) hS (fun q _ h => hFc q h) hFc (fun u t H1 locs ht hvm hw hB hz1 hk1 hS => ?_)
                  obtain ⟨hP1, hD1⟩ := hB
                  rw [ht] at hP1
                  try dsimp only at hw
                  obtain ⟨hP, hD⟩ := va_join (wr := [(x, eO 9 [.ref ct, .ref bk, .ref im, .ref kp, .ref rd, .ref fr, .ref wt]), (bk, eO 0 [.ref pe, .ref fa, .ref ro, .ref ac, .ref tr, .ref la, .ref tx, .int 5, .int 20])]) (w1 := [(tr, eO 5 [.int 10, .int 70, .ref tra, .int 1]), (tra, eI G 700 (upd (upd (upd (upd (upd (upd (upd (fun _ => 0) (Int32.toNatClampNeg (0 * 70 + 0)) a1) (Int32.toNatClampNeg (0 * 70 + 1)) a2) (Int32.toNatClampNeg (0 * 70 + 2)) a3) (Int32.toNatClampNeg (0 * 70 + 3)) a4) (Int32.toNatClampNeg (0 * 70 + 4)) a5) (Int32.toNatClampNeg (0 * 70 + 5)) a6) (Int32.toNatClampNeg (0 * 70 + 6)) a7))]) hP hD [2, 3] [0, 1] rfl rfl (by decide) (by decide) hk1 hFc hP1 hD1
                  generalize H1 = H at hP hS ⊢
                  have hP : va_P G.1 vwCl [(x, eO 9 [.ref ct, .ref bk, .ref im, .ref kp, .ref rd, .ref fr, .ref wt]), (bk, eO 0 [.ref pe, .ref fa, .ref ro, .ref ac, .ref tr, .ref la, .ref tx, .int 5, .int 20]), (tr, eO 5 [.int 10, .int 70, .ref tra, .int 1]), (tra, eI G 700 (upd (upd (upd (upd (upd (upd (upd (fun _ => 0) (Int32.toNatClampNeg (0 * 70 + 0)) a1) (Int32.toNatClampNeg (0 * 70 + 1)) a2) (Int32.toNatClampNeg (0 * 70 + 2)) a3) (Int32.toNatClampNeg (0 * 70 + 3)) a4) (Int32.toNatClampNeg (0 * 70 + 4)) a5) (Int32.toNatClampNeg (0 * 70 + 5)) a6) (Int32.toNatClampNeg (0 * 70 + 6)) a7))] H := hP
                  have hD : va_D A [(x, eO 9 [.ref ct, .ref bk, .ref im, .ref kp, .ref rd, .ref fr, .ref wt]), (bk, eO 0 [.ref pe, .ref fa, .ref ro, .ref ac, .ref tr, .ref la, .ref tx, .int 5, .int 20]), (tr, eO 5 [.int 10, .int 70, .ref tra, .int 1]), (tra, eI G 700 (upd (upd (upd (upd (upd (upd (upd (fun _ => 0) (Int32.toNatClampNeg (0 * 70 + 0)) a1) (Int32.toNatClampNeg (0 * 70 + 1)) a2) (Int32.toNatClampNeg (0 * 70 + 2)) a3) (Int32.toNatClampNeg (0 * 70 + 3)) a4) (Int32.toNatClampNeg (0 * 70 + 4)) a5) (Int32.toNatClampNeg (0 * 70 + 5)) a6) (Int32.toNatClampNeg (0 * 70 + 6)) a7))] := hD
                  refine lv_aload hx hb dX10_trial_178 (lv_at hl 1 rfl) ?_
                  refine lv_iload hx hb dX10_trial_180 (lv_at hl 0 rfl) ?_
                  refine lv_bipush (v := 7) hx hb dX10_trial_182 (by decide) ?_
                  refine lv_iload hx hb dX10_trial_184 (lv_at hl 10 rfl) ?_
                  have hPc := hP.sub (ws' := [(tr, eO 5 [.int 10, .int 70, .ref tra, .int 1]), (tra, eI G 700 (upd (upd (upd (upd (upd (upd (upd (fun _ => 0) (Int32.toNatClampNeg (0 * 70 + 0)) a1) (Int32.toNatClampNeg (0 * 70 + 1)) a2) (Int32.toNatClampNeg (0 * 70 + 2)) a3) (Int32.toNatClampNeg (0 * 70 + 3)) a4) (Int32.toNatClampNeg (0 * 70 + 4)) a5) (Int32.toNatClampNeg (0 * 70 + 5)) a6) (Int32.toNatClampNeg (0 * 70 + 6)) a7))]) [2, 3] rfl
                  have hDc := hD.sub (ws' := [(tr, eO 5 [.int 10, .int 70, .ref tra, .int 1]), (tra, eI G 700 (upd (upd (upd (upd (upd (upd (upd (fun _ => 0) (Int32.toNatClampNeg (0 * 70 + 0)) a1) (Int32.toNatClampNeg (0 * 70 + 1)) a2) (Int32.toNatClampNeg (0 * 70 + 2)) a3) (Int32.toNatClampNeg (0 * 70 + 3)) a4) (Int32.toNatClampNeg (0 * 70 + 4)) a5) (Int32.toNatClampNeg (0 * 70 + 5)) a6) (Int32.toNatClampNeg (0 * 70 + 6)) a7))]) [2, 3] (by decide) rfl
                  have hFc := va_free (wc := [(tr, eO 5 [.int 10, .int 70, .ref tra, .int 1]), (tra, eI G 700 (upd (upd (upd (upd (upd (upd (upd (fun _ => 0) (Int32.toNatClampNeg (0 * 70 + 0)) a1) (Int32.toNatClampNeg (0 * 70 + 1)) a2) (Int32.toNatClampNeg (0 * 70 + 2)) a3) (Int32.toNatClampNeg (0 * 70 + 3)) a4) (Int32.toNatClampNeg (0 * 70 + 4)) a5) (Int32.toNatClampNeg (0 * 70 + 5)) a6) (Int32.toNatClampNeg (0 * 70 + 6)) a7))]) hD hS hA [2, 3] rfl
                  refine va_callv (va_runV (As := [.int 0, .int 7, .int a8]) (rest := []) ⟨hx, hb, hml, hown, hts⟩ (c_set0 l G H.size tr 10 70 tra 700 (upd (upd (upd (upd (upd (upd (upd (fun _ => 0) (Int32.toNatClampNeg (0 * 70 + 0)) a1) (Int32.toNatClampNeg (0 * 70 + 1)) a2) (Int32.toNatClampNeg (0 * 70 + 2)) a3) (Int32.toNatClampNeg (0 * 70 + 3)) a4) (Int32.toNatClampNeg (0 * 70 + 4)) a5) (Int32.toNatClampNeg (0 * 70 + 5)) a6) (Int32.toNatClampNeg (0 * 70 + 6)) a7) 7 a8 (by first | assumption | decide | omega) (by first | assumption | decide | omega) (by unfold vp_in; decide)) (my_cwV hts ok_X5_set w_142 rfl rfl ⟨Nat.le_of_ble_eq_true rfl, Nat.le_of_ble_eq_true rfl⟩) ⟨wP.blind, va_recv hG.1 hPc (ci := 5) (q0 := 0) rfl rfl, fun U hU hW => ⟨rfl, by rw [hU], by rw [hU]; exact hPc, kG.warm hW hG, hDc.weaken (fun _ _ _ _ => trivial)⟩⟩ rfl rfl hl.1 rfl (lv_room (Nat.le_of_ble_eq_true rfl)) dX10_trial_186 ⟨Nat.le_of_ble_eq_true rfl, Nat.le_of_ble_eq_true rfl⟩) hS (fun q _ h => hFc q h) hFc (fun u t H1 locs ht hvm hw hB hz1 hk1 hS => ?_)
                  obtain ⟨hP1, hD1⟩ := hB
                  rw [ht] at hP1
                  try dsimp only at hw
                  obtain ⟨hP, hD⟩ := va_join (wr := [(x, eO 9 [.ref ct, .ref bk, .ref im, .ref kp, .ref rd, .ref fr, .ref wt]), (bk, eO 0 [.ref pe, .ref fa, .ref ro, .ref ac, .ref tr, .ref la, .ref tx, .int 5, .int 20])]) (w1 := [(tr, eO 5 [.int 10, .int 70, .ref tra, .int 1]), (tra, eI G 700 (upd (upd (upd (upd (upd (upd (upd (upd (fun _ => 0) (Int32.toNatClampNeg (0 * 70 + 0)) a1) (Int32.toNatClampNeg (0 * 70 + 1)) a2) (Int32.toNatClampNeg (0 * 70 + 2)) a3) (Int32.toNatClampNeg (0 * 70 + 3)) a4) (Int32.toNatClampNeg (0 * 70 + 4)) a5) (Int32.toNatClampNeg (0 * 70 + 5)) a6) (Int32.toNatClampNeg (0 * 70 + 6)) a7) (Int32.toNatClampNeg (0 * 70 + 7)) a8))]) hP hD [2, 3] [0, 1] rfl rfl (by decide) (by decide) hk1 hFc hP1 hD1
                  generalize H1 = H at hP hS ⊢
                  have hP : va_P G.1 vwCl [(x, eO 9 [.ref ct, .ref bk, .ref im, .ref kp, .ref rd, .ref fr, .ref wt]), (bk, eO 0 [.ref pe, .ref fa, .ref ro, .ref ac, .ref tr, .ref la, .ref tx, .int 5, .int 20]), (tr, eO 5 [.int 10, .int 70, .ref tra, .int 1]), (tra, eI G 700 (upd (upd (upd (upd (upd (upd (upd (upd (fun _ => 0) (Int32.toNatClampNeg (0 * 70 + 0)) a1) (Int32.toNatClampNeg (0 * 70 + 1)) a2) (Int32.toNatClampNeg (0 * 70 + 2)) a3) (Int32.toNatClampNeg (0 * 70 + 3)) a4) (Int32.toNatClampNeg (0 * 70 + 4)) a5) (Int32.toNatClampNeg (0 * 70 + 5)) a6) (Int32.toNatClampNeg (0 * 70 + 6)) a7) (Int32.toNatClampNeg (0 * 70 + 7)) a8))] H := hP
                  have hD : va_D A [(x, eO 9 [.ref ct, .ref bk, .ref im, .ref kp, .ref rd, .ref fr, .ref wt]), (bk, eO 0 [.ref pe, .ref fa, .ref ro, .ref ac, .ref tr, .ref la, .ref tx, .int 5, .int 20]), (tr, eO 5 [.int 10, .int 70, .ref tra, .int 1]), (tra, eI G 700 (upd (upd (upd (upd (upd (upd (upd (upd (fun _ => 0) (Int32.toNatClampNeg (0 * 70 + 0)) a1) (Int32.toNatClampNeg (0 * 70 + 1)) a2) (Int32.toNatClampNeg (0 * 70 + 2)) a3) (Int32.toNatClampNeg (0 * 70 + 3)) a4) (Int32.toNatClampNeg (0 * 70 + 4)) a5) (Int32.toNatClampNeg (0 * 70 + 5)) a6) (Int32.toNatClampNeg (0 * 70 + 6)) a7) (Int32.toNatClampNeg (0 * 70 + 7)) a8))] := hD
                  refine lv_aload hx hb dX10_trial_189 (lv_at hl 1 rfl) ?_
                  refine lv_iload hx hb dX10_trial_191 (lv_at hl 0 rfl) ?_
                  refine lv_bipush (v := 8) hx hb dX10_trial_193 (by decide) ?_
                  refine lv_iload hx hb dX10_trial_195 (lv_at hl 11 rfl) ?_
                  have hPc := hP.sub (ws' := [(tr, eO 5 [.int 10, .int 70, .ref tra, .int 1]), (tra, eI G 700 (upd (upd (upd (upd (upd (upd (upd (upd (fun _ => 0) (Int32.toNatClampNeg (0 * 70 + 0)) a1) (Int32.toNatClampNeg (0 * 70 + 1)) a2) (Int32.toNatClampNeg (0 * 70 + 2)) a3) (Int32.toNatClampNeg (0 * 70 + 3)) a4) (Int32.toNatClampNeg (0 * 70 + 4)) a5) (Int32.toNatClampNeg (0 * 70 + 5)) a6) (Int32.toNatClampNeg (0 * 70 + 6)) a7) (Int32.toNatClampNeg (0 * 70 + 7)) a8))]) [2, 3] rfl
                  have hDc := hD.sub (ws' := [(tr, eO 5 [.int 10, .int 70, .ref tra, .int 1]), (tra, eI G 700 (upd (upd (upd (upd (upd (upd (upd (upd (fun _ => 0) (Int32.toNatClampNeg (0 * 70 + 0)) a1) (Int32.toNatClampNeg (0 * 70 + 1)) a2) (Int32.toNatClampNeg (0 * 70 + 2)) a3) (Int32.toNatClampNeg (0 * 70 + 3)) a4) (Int32.toNatClampNeg (0 * 70 + 4)) a5) (Int32.toNatClampNeg (0 * 70 + 5)) a6) (Int32.toNatClampNeg (0 * 70 + 6)) a7) (Int32.toNatClampNeg (0 * 70 + 7)) a8))]) [2, 3] (by decide) rfl
                  have hFc := va_free (wc := [(tr, eO 5 [.int 10, .int 70, .ref tra, .int 1]), (tra, eI G 700 (upd (upd (upd (upd (upd (upd (upd (upd (fun _ => 0) (Int32.toNatClampNeg (0 * 70 + 0)) a1) (Int32.toNatClampNeg (0 * 70 + 1)) a2) (Int32.toNatClampNeg (0 * 70 + 2)) a3) (Int32.toNatClampNeg (0 * 70 + 3)) a4) (Int32.toNatClampNeg (0 * 70 + 4)) a5) (Int32.toNatClampNeg (0 * 70 + 5)) a6) (Int32.toNatClampNeg (0 * 70 + 6)) a7) (Int32.toNatClampNeg (0 * 70 + 7)) a8))]) hD hS hA [2, 3] rfl
                  refine va_callv (va_runV (As := [.int 0, .int 8, .int a9]) (rest := []) ⟨hx, hb, hml, hown, hts⟩ (c_set0 l G H.size tr 10 70 tra 700 (upd (upd (upd (upd (upd (upd (upd (upd (fun _ => 0) (Int32.toNatClampNeg (0 * 70 + 0)) a1) (Int32.toNatClampNeg (0 * 70 + 1)) a2) (Int32.toNatClampNeg (0 * 70 + 2)) a3) (Int32.toNatClampNeg (0 * 70 + 3)) a4) (Int32.toNatClampNeg (0 * 70 + 4)) a5) (Int32.toNatClampNeg (0 * 70 + 5)) a6) (Int32.toNatClampNeg (0 * 70 + 6)) a7) (Int32.toNatClampNeg (0 * 70 + 7)) a8) 8 a9 (by first | assumption | decide | omega) (by first | assumption | decide | omega) (by unfold vp_in; decide)) (my_cwV hts ok_X5_set w_142 rfl rfl ⟨Nat.le_of_ble_eq_true rfl, Nat.le_of_ble_eq_true rfl⟩) ⟨wP.blind, va_recv hG.1 hPc (ci := 5) (q0 := 0) rfl rfl, fun U hU hW => ⟨rfl, by rw [hU], by rw [hU]; exact hPc, kG.warm hW hG, hDc.weaken (fun _ _ _ _ => trivial)⟩⟩ rfl rfl hl.1 rfl (lv_room (Nat.le_of_ble_eq_true rfl)) dX10_trial_197 ⟨Nat.le_of_ble_eq_true rfl, Nat.le_of_ble_eq_true rfl⟩) hS (fun q _ h => hFc q h) hFc (fun u t H1 locs ht hvm hw hB hz1 hk1 hS => ?_)
                  obtain ⟨hP1, hD1⟩ := hB
                  rw [ht] at hP1
                  try dsimp only at hw
                  obtain ⟨hP, hD⟩ := va_join (wr := [(x, eO 9 [.ref ct, .ref bk, .ref im, .ref kp, .ref rd, .ref fr, .ref wt]), (bk, eO 0 [.ref pe, .ref fa, .ref ro, .ref ac, .ref tr, .ref la, .ref tx, .int 5, .int 20])]) (w1 := [(tr, eO 5 [.int 10, .int 70, .ref tra, .int 1]), (tra, eI G 700 (upd (upd (upd (upd (upd (upd (upd (upd (upd (fun _ => 0) (Int32.toNatClampNeg (0 * 70 + 0)) a1) (Int32.toNatClampNeg (0 * 70 + 1)) a2) (Int32.toNatClampNeg (0 * 70 + 2)) a3) (Int32.toNatClampNeg (0 * 70 + 3)) a4) (Int32.toNatClampNeg (0 * 70 + 4)) a5) (Int32.toNatClampNeg (0 * 70 + 5)) a6) (Int32.toNatClampNeg (0 * 70 + 6)) a7) (Int32.toNatClampNeg (0 * 70 + 7)) a8) (Int32.toNatClampNeg (0 * 70 + 8)) a9))]) hP hD [2, 3] [0, 1] rfl rfl (by decide) (by decide) hk1 hFc hP1 hD1
                  generalize H1 = H at hP hS ⊢
                  have hP : va_P G.1 vwCl [(x, eO 9 [.ref ct, .ref bk, .ref im, .ref kp, .ref rd, .ref fr, .ref wt]), (bk, eO 0 [.ref pe, .ref fa, .ref ro, .ref ac, .ref tr, .ref la, .ref tx, .int 5, .int 20]), (tr, eO 5 [.int 10, .int 70, .ref tra, .int 1]), (tra, eI G 700 (upd (upd (upd (upd (upd (upd (upd (upd (upd (fun _ => 0) (Int32.toNatClampNeg (0 * 70 + 0)) a1) (Int32.toNatClampNeg (0 * 70 + 1)) a2) (Int32.toNatClampNeg (0 * 70 + 2)) a3) (Int32.toNatClampNeg (0 * 70 + 3)) a4) (Int32.toNatClampNeg (0 * 70 + 4)) a5) (Int32.toNatClampNeg (0 * 70 + 5)) a6) (Int32.toNatClampNeg (0 * 70 + 6)) a7) (Int32.toNatClampNeg (0 * 70 + 7)) a8) (Int32.toNatClampNeg (0 * 70 + 8)) a9))] H := hP
                  have hD : va_D A [(x, eO 9 [.ref ct, .ref bk, .ref im, .ref kp, .ref rd, .ref fr, .ref wt]), (bk, eO 0 [.ref pe, .ref fa, .ref ro, .ref ac, .ref tr, .ref la, .ref tx, .int 5, .int 20]), (tr, eO 5 [.int 10, .int 70, .ref tra, .int 1]), (tra, eI G 700 (upd (upd (upd (upd (upd (upd (upd (upd (upd (fun _ => 0) (Int32.toNatClampNeg (0 * 70 + 0)) a1) (Int32.toNatClampNeg (0 * 70 + 1)) a2) (Int32.toNatClampNeg (0 * 70 + 2)) a3) (Int32.toNatClampNeg (0 * 70 + 3)) a4) (Int32.toNatClampNeg (0 * 70 + 4)) a5) (Int32.toNatClampNeg (0 * 70 + 5)) a6) (Int32.toNatClampNeg (0 * 70 + 6)) a7) (Int32.toNatClampNeg (0 * 70 + 7)) a8) (Int32.toNatClampNeg (0 * 70 + 8)) a9))] := hD
                  refine lv_iload hx hb dX10_trial_200 (lv_at hl 0 rfl) ?_
                  exact W.iret (v := 0) hx hb hr (fun t ht hW => ⟨⟨_, (), rfl, (by simp [c_5, c_15, c_25, c_36, c_47, c_57, c_67, c_78]), trivial⟩, hS.F ht⟩) hS.2.2 dX10_trial_202
                · refine lv_bipush (v := (-2)) hx hb dX10_trial_81 (by decide) ?_
                  exact W.iret (v := (-2)) hx hb hr (fun t ht hW => ⟨⟨_, (), rfl, (by simp [c_5, c_15, c_25, c_36, c_47, c_57, c_67, c_78]), trivial⟩, hS.F ht⟩) hS.2.2 dX10_trial_83
set_option maxHeartbeats 4000000 in
set_option maxRecDepth 100000 in
theorem p_away (l : Launch) (G : gW) (x : Nat) (ct : Nat) (bk : Nat) (im : Nat) (kp : Nat) (rd : Nat) (fr : Nat) (wt : Nat) (pe : Nat) (fa : Nat) (ro : Nat) (ac : Nat) (tr : Nat) (la : Nat) (tx : Nat) (tra : Nat) (a1 : Int32) (a2 : Int32) (a3 : Int32)  : Met l yX10_away (wsT yX10_away cX10_away 5 (some .int)) ({ frames := 1, cells := 0, slots := 0, locals := 21 }) (rP G [.ref x, .int a1, .int a2, .int a3] [(x, eO 9 [.ref ct, .ref bk, .ref im, .ref kp, .ref rd, .ref fr, .ref wt]), (bk, eO 0 [.ref pe, .ref fa, .ref ro, .ref ac, .ref tr, .ref la, .ref tx, .int 5, .int 20]), (tr, eO 5 [.int 10, .int 70, .ref tra, .int 0])]) (rQi (fun r => r = (-2))) 0 0 fr0 := by
  refine Met.ofW (cc := cX10_away) (maxL := 5) (ret := (some .int)) (by decide) rfl ?_
  intro p e s m args below meth c s₁ B hml hv
  obtain ⟨rfl, hP, hG⟩ := hv
  have hx := B.exec
  have hb := B.bytes
  have hr := B.returns
  have hts := my_hts (atoms_spec (ws := wsT yX10_away cX10_away 5 (some .int)) B.pre)
  have hown : s.vm.findClass RX10 = some m.cls := findClass_of_methodNamed B.named
  have hlocks := B.notSynchronized
  have hP : va_P G.1 vwCl [(x, eO 9 [.ref ct, .ref bk, .ref im, .ref kp, .ref rd, .ref fr, .ref wt]), (bk, eO 0 [.ref pe, .ref fa, .ref ro, .ref ac, .ref tr, .ref la, .ref tx, .int 5, .int 20]), (tr, eO 5 [.int 10, .int 70, .ref tra, .int 0])] s.heap := hP
  have hl := lv_entry ([.ref x, .int a1, .int a2, .int a3]) (n := 5) (Nat.le_of_ble_eq_true rfl)
  rw [lg_entry_eq]
  generalize (lg_sl ([.ref x, .int a1, .int a2, .int a3]) ++ List.replicate (5 - (lg_sl ([.ref x, .int a1, .int a2, .int a3])).length) Slot.unset).toArray = ls at hl ⊢
  have hl : lv_has ls 5 [(0, .ref x), (1, .int a1), (2, .int a2), (3, .int a3)] := hl
  refine lv_aload_n hx hb dX10_away_0 rfl (lv_at hl 0 rfl) ?_
  refine va_get (D := G.1) (ci := 9) (v := .ref bk) (C := RX10) (T := TX10) (N := 7) hx hb hts inlX10 hown hG.1 hP 0 rfl rfl 1 (by decide) (hts (.fieldLink RX10 20 "SwornLists" "book" "LSwornLists$Book;") w_16) (fun _ h9 => h9) rfl dX10_away_1 ?_
  refine va_getN (D := G.1) (ci := 0) (v := .ref tr) (C := RX0) (T := TX0) (N := 9) (host := RX10) hx hb hts inlX0 hown hG.1 hP 1 rfl rfl 4 (by decide) (va_Nw.use rfl (hG.2.1 (.fieldLinkNest RX10 162 RX0 "trials" "LSwornLists$Rows;" RX10) (List.mem_of_getElem? (i := 7) rfl))) (fun _ h9 => h9) rfl dX10_away_4 ?_
  refine lv_iload_n hx hb dX10_away_7 rfl (lv_at hl 1 rfl) ?_
  have hPc := hP.sub (ws' := [(tr, eO 5 [.int 10, .int 70, .ref tra, .int 0])]) [2] rfl
  refine rd_calli (va_runV (As := [.int a1]) (rest := []) ⟨hx, hb, hml, hown, hts⟩ (c_has0 l G tr 10 70 tra a1 ) (my_cwV hts ok_X5_has w_174 rfl rfl ⟨Nat.le_of_ble_eq_true rfl, Nat.le_of_ble_eq_true rfl⟩) ⟨rP.blind, va_recv hG.1 hPc (ci := 5) (q0 := 0) rfl rfl, fun U hU hW => ⟨rfl, by rw [hU]; exact hPc, kG.warm hW hG⟩⟩ rfl rfl hl.1 rfl (lv_room (Nat.le_of_ble_eq_true rfl)) dX10_away_8 ⟨Nat.le_of_ble_eq_true rfl, Nat.le_of_ble_eq_true rfl⟩) (fun r hr9 => ?_)
  subst hr9
  refine lv_if_eq (tgt := 28) hx hb dX10_away_11 (by decide) (fun c_11 => ?_) (fun c_11 => absurd (by decide) c_11)
  refine lv_bipush (v := (-2)) hx hb dX10_away_28 (by decide) ?_
  exact W.iret (v := (-2)) hx hb hr (fun t ht hW => ⟨_, rfl, (rfl), ht⟩) (fun _ h => absurd h List.not_mem_nil) dX10_away_30
set_option maxHeartbeats 4000000 in
set_option maxRecDepth 100000 in
theorem p_like (l : Launch) (G : gW) (x : Nat) (ct : Nat) (bk : Nat) (im : Nat) (kp : Nat) (rd : Nat) (fr : Nat) (wt : Nat) (pe : Nat) (fa : Nat) (ro : Nat) (ac : Nat) (tr : Nat) (la : Nat) (tx : Nat) (tra : Nat) (a1 : Int32) (a2 : Int32) (a3 : Int32) (a4 : Int32)  : Met l yX10_like (wsT yX10_like cX10_like 7 (some .int)) ({ frames := 1, cells := 0, slots := 0, locals := 21 }) (rP G [.ref x, .int a1, .int a2, .int a3, .int a4] [(x, eO 9 [.ref ct, .ref bk, .ref im, .ref kp, .ref rd, .ref fr, .ref wt]), (bk, eO 0 [.ref pe, .ref fa, .ref ro, .ref ac, .ref tr, .ref la, .ref tx, .int 5, .int 20]), (tr, eO 5 [.int 10, .int 70, .ref tra, .int 0])]) (rQi (fun r => r = (-1000))) 0 0 fr0 := by
  refine Met.ofW (cc := cX10_like) (maxL := 7) (ret := (some .int)) (by decide) rfl ?_
  intro p e s m args below meth c s₁ B hml hv
  obtain ⟨rfl, hP, hG⟩ := hv
  have hx := B.exec
  have hb := B.bytes
  have hr := B.returns
  have hts := my_hts (atoms_spec (ws := wsT yX10_like cX10_like 7 (some .int)) B.pre)
  have hown : s.vm.findClass RX10 = some m.cls := findClass_of_methodNamed B.named
  have hlocks := B.notSynchronized
  have hP : va_P G.1 vwCl [(x, eO 9 [.ref ct, .ref bk, .ref im, .ref kp, .ref rd, .ref fr, .ref wt]), (bk, eO 0 [.ref pe, .ref fa, .ref ro, .ref ac, .ref tr, .ref la, .ref tx, .int 5, .int 20]), (tr, eO 5 [.int 10, .int 70, .ref tra, .int 0])] s.heap := hP
  have hl := lv_entry ([.ref x, .int a1, .int a2, .int a3, .int a4]) (n := 7) (Nat.le_of_ble_eq_true rfl)
  rw [lg_entry_eq]
  generalize (lg_sl ([.ref x, .int a1, .int a2, .int a3, .int a4]) ++ List.replicate (7 - (lg_sl ([.ref x, .int a1, .int a2, .int a3, .int a4])).length) Slot.unset).toArray = ls at hl ⊢
  have hl : lv_has ls 7 [(0, .ref x), (1, .int a1), (2, .int a2), (3, .int a3), (4, .int a4)] := hl
  refine lv_aload_n hx hb dX10_like_0 rfl (lv_at hl 0 rfl) ?_
  refine va_get (D := G.1) (ci := 9) (v := .ref bk) (C := RX10) (T := TX10) (N := 7) hx hb hts inlX10 hown hG.1 hP 0 rfl rfl 1 (by decide) (hts (.fieldLink RX10 20 "SwornLists" "book" "LSwornLists$Book;") w_16) (fun _ h9 => h9) rfl dX10_like_1 ?_
  refine va_getN (D := G.1) (ci := 0) (v := .ref tr) (C := RX0) (T := TX0) (N := 9) (host := RX10) hx hb hts inlX0 hown hG.1 hP 1 rfl rfl 4 (by decide) (va_Nw.use rfl (hG.2.1 (.fieldLinkNest RX10 162 RX0 "trials" "LSwornLists$Rows;" RX10) (List.mem_of_getElem? (i := 7) rfl))) (fun _ h9 => h9) rfl dX10_like_4 ?_
  refine lv_iload_n hx hb dX10_like_7 rfl (lv_at hl 1 rfl) ?_
  have hPc := hP.sub (ws' := [(tr, eO 5 [.int 10, .int 70, .ref tra, .int 0])]) [2] rfl
  refine rd_calli (va_runV (As := [.int a1]) (rest := []) ⟨hx, hb, hml, hown, hts⟩ (c_has0 l G tr 10 70 tra a1 ) (my_cwV hts ok_X5_has w_174 rfl rfl ⟨Nat.le_of_ble_eq_true rfl, Nat.le_of_ble_eq_true rfl⟩) ⟨rP.blind, va_recv hG.1 hPc (ci := 5) (q0 := 0) rfl rfl, fun U hU hW => ⟨rfl, by rw [hU]; exact hPc, kG.warm hW hG⟩⟩ rfl rfl hl.1 rfl (lv_room (Nat.le_of_ble_eq_true rfl)) dX10_like_8 ⟨Nat.le_of_ble_eq_true rfl, Nat.le_of_ble_eq_true rfl⟩) (fun r hr9 => ?_)
  subst hr9
  refine lv_if_eq (tgt := 49) hx hb dX10_like_11 (by decide) (fun c_11 => ?_) (fun c_11 => absurd (by decide) c_11)
  refine lv_sipush (v := (-1000)) hx hb dX10_like_49 (by decide) ?_
  exact W.iret (v := (-1000)) hx hb hr (fun t ht hW => ⟨_, rfl, (rfl), ht⟩) (fun _ h => absurd h List.not_mem_nil) dX10_like_52
set_option maxHeartbeats 4000000 in
set_option maxRecDepth 100000 in
theorem p_box (l : Launch) (G : gW) (x : Nat) (ct : Nat) (bk : Nat) (im : Nat) (kp : Nat) (rd : Nat) (fr : Nat) (wt : Nat) (pe : Nat) (fa : Nat) (ro : Nat) (ac : Nat) (tr : Nat) (la : Nat) (tx : Nat) (tra : Nat) (a1 : Int32)  : Met l yX10_box (wsT yX10_box cX10_box 2 (some .int)) ({ frames := 1, cells := 0, slots := 0, locals := 21 }) (rP G [.ref x, .int a1] [(x, eO 9 [.ref ct, .ref bk, .ref im, .ref kp, .ref rd, .ref fr, .ref wt]), (bk, eO 0 [.ref pe, .ref fa, .ref ro, .ref ac, .ref tr, .ref la, .ref tx, .int 5, .int 20]), (tr, eO 5 [.int 10, .int 70, .ref tra, .int 0])]) (rQi (fun r => r = (-2))) 0 0 fr0 := by
  refine Met.ofW (cc := cX10_box) (maxL := 2) (ret := (some .int)) (by decide) rfl ?_
  intro p e s m args below meth c s₁ B hml hv
  obtain ⟨rfl, hP, hG⟩ := hv
  have hx := B.exec
  have hb := B.bytes
  have hr := B.returns
  have hts := my_hts (atoms_spec (ws := wsT yX10_box cX10_box 2 (some .int)) B.pre)
  have hown : s.vm.findClass RX10 = some m.cls := findClass_of_methodNamed B.named
  have hlocks := B.notSynchronized
  have hP : va_P G.1 vwCl [(x, eO 9 [.ref ct, .ref bk, .ref im, .ref kp, .ref rd, .ref fr, .ref wt]), (bk, eO 0 [.ref pe, .ref fa, .ref ro, .ref ac, .ref tr, .ref la, .ref tx, .int 5, .int 20]), (tr, eO 5 [.int 10, .int 70, .ref tra, .int 0])] s.heap := hP
  have hl := lv_entry ([.ref x, .int a1]) (n := 2) (Nat.le_of_ble_eq_true rfl)
  rw [lg_entry_eq]
  generalize (lg_sl ([.ref x, .int a1]) ++ List.replicate (2 - (lg_sl ([.ref x, .int a1])).length) Slot.unset).toArray = ls at hl ⊢
  have hl : lv_has ls 2 [(0, .ref x), (1, .int a1)] := hl
  refine lv_aload_n hx hb dX10_box_0 rfl (lv_at hl 0 rfl) ?_
  refine va_get (D := G.1) (ci := 9) (v := .ref bk) (C := RX10) (T := TX10) (N := 7) hx hb hts inlX10 hown hG.1 hP 0 rfl rfl 1 (by decide) (hts (.fieldLink RX10 20 "SwornLists" "book" "LSwornLists$Book;") w_16) (fun _ h9 => h9) rfl dX10_box_1 ?_
  refine va_getN (D := G.1) (ci := 0) (v := .ref tr) (C := RX0) (T := TX0) (N := 9) (host := RX10) hx hb hts inlX0 hown hG.1 hP 1 rfl rfl 4 (by decide) (va_Nw.use rfl (hG.2.1 (.fieldLinkNest RX10 162 RX0 "trials" "LSwornLists$Rows;" RX10) (List.mem_of_getElem? (i := 7) rfl))) (fun _ h9 => h9) rfl dX10_box_4 ?_
  refine lv_iload_n hx hb dX10_box_7 rfl (lv_at hl 1 rfl) ?_
  have hPc := hP.sub (ws' := [(tr, eO 5 [.int 10, .int 70, .ref tra, .int 0])]) [2] rfl
  refine rd_calli (va_runV (As := [.int a1]) (rest := []) ⟨hx, hb, hml, hown, hts⟩ (c_has0 l G tr 10 70 tra a1 ) (my_cwV hts ok_X5_has w_174 rfl rfl ⟨Nat.le_of_ble_eq_true rfl, Nat.le_of_ble_eq_true rfl⟩) ⟨rP.blind, va_recv hG.1 hPc (ci := 5) (q0 := 0) rfl rfl, fun U hU hW => ⟨rfl, by rw [hU]; exact hPc, kG.warm hW hG⟩⟩ rfl rfl hl.1 rfl (lv_room (Nat.le_of_ble_eq_true rfl)) dX10_box_8 ⟨Nat.le_of_ble_eq_true rfl, Nat.le_of_ble_eq_true rfl⟩) (fun r hr9 => ?_)
  subst hr9
  refine lv_if_ne (tgt := 17) hx hb dX10_box_11 (by decide) (fun c_11 => absurd (by decide) c_11) (fun c_11 => ?_)
  refine lv_bipush (v := (-2)) hx hb dX10_box_14 (by decide) ?_
  exact W.iret (v := (-2)) hx hb hr (fun t ht hW => ⟨_, rfl, (rfl), ht⟩) (fun _ h => absurd h List.not_mem_nil) dX10_box_16
set_option maxHeartbeats 4000000 in
set_option maxRecDepth 100000 in
theorem p_drawn (l : Launch) (G : gW) (x : Nat) (ct : Nat) (bk : Nat) (im : Nat) (kp : Nat) (rd : Nat) (fr : Nat) (wt : Nat) (pe : Nat) (fa : Nat) (ro : Nat) (ac : Nat) (tr : Nat) (la : Nat) (tx : Nat) (tra : Nat) (a1 : Int32) (a2 : Int32)  : Met l yX10_drawn (wsT yX10_drawn cX10_drawn 3 (some .int)) ({ frames := 1, cells := 0, slots := 0, locals := 21 }) (rP G [.ref x, .int a1, .int a2] [(x, eO 9 [.ref ct, .ref bk, .ref im, .ref kp, .ref rd, .ref fr, .ref wt]), (bk, eO 0 [.ref pe, .ref fa, .ref ro, .ref ac, .ref tr, .ref la, .ref tx, .int 5, .int 20]), (tr, eO 5 [.int 10, .int 70, .ref tra, .int 0])]) (rQi (fun r => r = (-2))) 0 0 fr0 := by
  refine Met.ofW (cc := cX10_drawn) (maxL := 3) (ret := (some .int)) (by decide) rfl ?_
  intro p e s m args below meth c s₁ B hml hv
  obtain ⟨rfl, hP, hG⟩ := hv
  have hx := B.exec
  have hb := B.bytes
  have hr := B.returns
  have hts := my_hts (atoms_spec (ws := wsT yX10_drawn cX10_drawn 3 (some .int)) B.pre)
  have hown : s.vm.findClass RX10 = some m.cls := findClass_of_methodNamed B.named
  have hlocks := B.notSynchronized
  have hP : va_P G.1 vwCl [(x, eO 9 [.ref ct, .ref bk, .ref im, .ref kp, .ref rd, .ref fr, .ref wt]), (bk, eO 0 [.ref pe, .ref fa, .ref ro, .ref ac, .ref tr, .ref la, .ref tx, .int 5, .int 20]), (tr, eO 5 [.int 10, .int 70, .ref tra, .int 0])] s.heap := hP
  have hl := lv_entry ([.ref x, .int a1, .int a2]) (n := 3) (Nat.le_of_ble_eq_true rfl)
  rw [lg_entry_eq]
  generalize (lg_sl ([.ref x, .int a1, .int a2]) ++ List.replicate (3 - (lg_sl ([.ref x, .int a1, .int a2])).length) Slot.unset).toArray = ls at hl ⊢
  have hl : lv_has ls 3 [(0, .ref x), (1, .int a1), (2, .int a2)] := hl
  refine lv_aload_n hx hb dX10_drawn_0 rfl (lv_at hl 0 rfl) ?_
  refine va_get (D := G.1) (ci := 9) (v := .ref bk) (C := RX10) (T := TX10) (N := 7) hx hb hts inlX10 hown hG.1 hP 0 rfl rfl 1 (by decide) (hts (.fieldLink RX10 20 "SwornLists" "book" "LSwornLists$Book;") w_16) (fun _ h9 => h9) rfl dX10_drawn_1 ?_
  refine va_getN (D := G.1) (ci := 0) (v := .ref tr) (C := RX0) (T := TX0) (N := 9) (host := RX10) hx hb hts inlX0 hown hG.1 hP 1 rfl rfl 4 (by decide) (va_Nw.use rfl (hG.2.1 (.fieldLinkNest RX10 162 RX0 "trials" "LSwornLists$Rows;" RX10) (List.mem_of_getElem? (i := 7) rfl))) (fun _ h9 => h9) rfl dX10_drawn_4 ?_
  refine lv_iload_n hx hb dX10_drawn_7 rfl (lv_at hl 1 rfl) ?_
  have hPc := hP.sub (ws' := [(tr, eO 5 [.int 10, .int 70, .ref tra, .int 0])]) [2] rfl
  refine rd_calli (va_runV (As := [.int a1]) (rest := []) ⟨hx, hb, hml, hown, hts⟩ (c_has0 l G tr 10 70 tra a1 ) (my_cwV hts ok_X5_has w_174 rfl rfl ⟨Nat.le_of_ble_eq_true rfl, Nat.le_of_ble_eq_true rfl⟩) ⟨rP.blind, va_recv hG.1 hPc (ci := 5) (q0 := 0) rfl rfl, fun U hU hW => ⟨rfl, by rw [hU]; exact hPc, kG.warm hW hG⟩⟩ rfl rfl hl.1 rfl (lv_room (Nat.le_of_ble_eq_true rfl)) dX10_drawn_8 ⟨Nat.le_of_ble_eq_true rfl, Nat.le_of_ble_eq_true rfl⟩) (fun r hr9 => ?_)
  subst hr9
  refine lv_if_eq (tgt := 18) hx hb dX10_drawn_11 (by decide) (fun c_11 => ?_) (fun c_11 => absurd (by decide) c_11)
  refine lv_bipush (v := (-2)) hx hb dX10_drawn_18 (by decide) ?_
  exact W.iret (v := (-2)) hx hb hr (fun t ht hW => ⟨_, rfl, (rfl), ht⟩) (fun _ h => absurd h List.not_mem_nil) dX10_drawn_20
set_option maxHeartbeats 4000000 in
set_option maxRecDepth 100000 in
theorem p_slip (l : Launch) (G : gW) (x : Nat) (ct : Nat) (bk : Nat) (im : Nat) (kp : Nat) (rd : Nat) (fr : Nat) (wt : Nat) (pe : Nat) (fa : Nat) (ro : Nat) (ac : Nat) (tr : Nat) (la : Nat) (tx : Nat) (tra : Nat) (a1 : Int32) (a2 : Int32)  : Met l yX10_slip (wsT yX10_slip cX10_slip 3 (some .int)) ({ frames := 1, cells := 0, slots := 0, locals := 21 }) (rP G [.ref x, .int a1, .int a2] [(x, eO 9 [.ref ct, .ref bk, .ref im, .ref kp, .ref rd, .ref fr, .ref wt]), (bk, eO 0 [.ref pe, .ref fa, .ref ro, .ref ac, .ref tr, .ref la, .ref tx, .int 5, .int 20]), (tr, eO 5 [.int 10, .int 70, .ref tra, .int 0])]) (rQi (fun r => r = (-2))) 0 0 fr0 := by
  refine Met.ofW (cc := cX10_slip) (maxL := 3) (ret := (some .int)) (by decide) rfl ?_
  intro p e s m args below meth c s₁ B hml hv
  obtain ⟨rfl, hP, hG⟩ := hv
  have hx := B.exec
  have hb := B.bytes
  have hr := B.returns
  have hts := my_hts (atoms_spec (ws := wsT yX10_slip cX10_slip 3 (some .int)) B.pre)
  have hown : s.vm.findClass RX10 = some m.cls := findClass_of_methodNamed B.named
  have hlocks := B.notSynchronized
  have hP : va_P G.1 vwCl [(x, eO 9 [.ref ct, .ref bk, .ref im, .ref kp, .ref rd, .ref fr, .ref wt]), (bk, eO 0 [.ref pe, .ref fa, .ref ro, .ref ac, .ref tr, .ref la, .ref tx, .int 5, .int 20]), (tr, eO 5 [.int 10, .int 70, .ref tra, .int 0])] s.heap := hP
  have hl := lv_entry ([.ref x, .int a1, .int a2]) (n := 3) (Nat.le_of_ble_eq_true rfl)
  rw [lg_entry_eq]
  generalize (lg_sl ([.ref x, .int a1, .int a2]) ++ List.replicate (3 - (lg_sl ([.ref x, .int a1, .int a2])).length) Slot.unset).toArray = ls at hl ⊢
  have hl : lv_has ls 3 [(0, .ref x), (1, .int a1), (2, .int a2)] := hl
  refine lv_aload_n hx hb dX10_slip_0 rfl (lv_at hl 0 rfl) ?_
  refine va_get (D := G.1) (ci := 9) (v := .ref bk) (C := RX10) (T := TX10) (N := 7) hx hb hts inlX10 hown hG.1 hP 0 rfl rfl 1 (by decide) (hts (.fieldLink RX10 20 "SwornLists" "book" "LSwornLists$Book;") w_16) (fun _ h9 => h9) rfl dX10_slip_1 ?_
  refine va_getN (D := G.1) (ci := 0) (v := .ref tr) (C := RX0) (T := TX0) (N := 9) (host := RX10) hx hb hts inlX0 hown hG.1 hP 1 rfl rfl 4 (by decide) (va_Nw.use rfl (hG.2.1 (.fieldLinkNest RX10 162 RX0 "trials" "LSwornLists$Rows;" RX10) (List.mem_of_getElem? (i := 7) rfl))) (fun _ h9 => h9) rfl dX10_slip_4 ?_
  refine lv_iload_n hx hb dX10_slip_7 rfl (lv_at hl 1 rfl) ?_
  have hPc := hP.sub (ws' := [(tr, eO 5 [.int 10, .int 70, .ref tra, .int 0])]) [2] rfl
  refine rd_calli (va_runV (As := [.int a1]) (rest := []) ⟨hx, hb, hml, hown, hts⟩ (c_has0 l G tr 10 70 tra a1 ) (my_cwV hts ok_X5_has w_174 rfl rfl ⟨Nat.le_of_ble_eq_true rfl, Nat.le_of_ble_eq_true rfl⟩) ⟨rP.blind, va_recv hG.1 hPc (ci := 5) (q0 := 0) rfl rfl, fun U hU hW => ⟨rfl, by rw [hU]; exact hPc, kG.warm hW hG⟩⟩ rfl rfl hl.1 rfl (lv_room (Nat.le_of_ble_eq_true rfl)) dX10_slip_8 ⟨Nat.le_of_ble_eq_true rfl, Nat.le_of_ble_eq_true rfl⟩) (fun r hr9 => ?_)
  subst hr9
  refine lv_if_eq (tgt := 28) hx hb dX10_slip_11 (by decide) (fun c_11 => ?_) (fun c_11 => absurd (by decide) c_11)
  refine lv_bipush (v := (-2)) hx hb dX10_slip_28 (by decide) ?_
  exact W.iret (v := (-2)) hx hb hr (fun t ht hW => ⟨_, rfl, (rfl), ht⟩) (fun _ h => absurd h List.not_mem_nil) dX10_slip_30
set_option maxHeartbeats 4000000 in
set_option maxRecDepth 100000 in
theorem p_jury (l : Launch) (G : gW) (x : Nat) (ct : Nat) (bk : Nat) (im : Nat) (kp : Nat) (rd : Nat) (fr : Nat) (wt : Nat) (pe : Nat) (fa : Nat) (ro : Nat) (ac : Nat) (tr : Nat) (la : Nat) (tx : Nat) (tra : Nat) (a1 : Int32)  : Met l yX10_jury (wsT yX10_jury cX10_jury 2 (some .int)) ({ frames := 1, cells := 0, slots := 0, locals := 21 }) (rP G [.ref x, .int a1] [(x, eO 9 [.ref ct, .ref bk, .ref im, .ref kp, .ref rd, .ref fr, .ref wt]), (bk, eO 0 [.ref pe, .ref fa, .ref ro, .ref ac, .ref tr, .ref la, .ref tx, .int 5, .int 20]), (tr, eO 5 [.int 10, .int 70, .ref tra, .int 0])]) (rQi (fun r => r = (-2))) 0 0 fr0 := by
  refine Met.ofW (cc := cX10_jury) (maxL := 2) (ret := (some .int)) (by decide) rfl ?_
  intro p e s m args below meth c s₁ B hml hv
  obtain ⟨rfl, hP, hG⟩ := hv
  have hx := B.exec
  have hb := B.bytes
  have hr := B.returns
  have hts := my_hts (atoms_spec (ws := wsT yX10_jury cX10_jury 2 (some .int)) B.pre)
  have hown : s.vm.findClass RX10 = some m.cls := findClass_of_methodNamed B.named
  have hlocks := B.notSynchronized
  have hP : va_P G.1 vwCl [(x, eO 9 [.ref ct, .ref bk, .ref im, .ref kp, .ref rd, .ref fr, .ref wt]), (bk, eO 0 [.ref pe, .ref fa, .ref ro, .ref ac, .ref tr, .ref la, .ref tx, .int 5, .int 20]), (tr, eO 5 [.int 10, .int 70, .ref tra, .int 0])] s.heap := hP
  have hl := lv_entry ([.ref x, .int a1]) (n := 2) (Nat.le_of_ble_eq_true rfl)
  rw [lg_entry_eq]
  generalize (lg_sl ([.ref x, .int a1]) ++ List.replicate (2 - (lg_sl ([.ref x, .int a1])).length) Slot.unset).toArray = ls at hl ⊢
  have hl : lv_has ls 2 [(0, .ref x), (1, .int a1)] := hl
  refine lv_aload_n hx hb dX10_jury_0 rfl (lv_at hl 0 rfl) ?_
  refine va_get (D := G.1) (ci := 9) (v := .ref bk) (C := RX10) (T := TX10) (N := 7) hx hb hts inlX10 hown hG.1 hP 0 rfl rfl 1 (by decide) (hts (.fieldLink RX10 20 "SwornLists" "book" "LSwornLists$Book;") w_16) (fun _ h9 => h9) rfl dX10_jury_1 ?_
  refine va_getN (D := G.1) (ci := 0) (v := .ref tr) (C := RX0) (T := TX0) (N := 9) (host := RX10) hx hb hts inlX0 hown hG.1 hP 1 rfl rfl 4 (by decide) (va_Nw.use rfl (hG.2.1 (.fieldLinkNest RX10 162 RX0 "trials" "LSwornLists$Rows;" RX10) (List.mem_of_getElem? (i := 7) rfl))) (fun _ h9 => h9) rfl dX10_jury_4 ?_
  refine lv_iload_n hx hb dX10_jury_7 rfl (lv_at hl 1 rfl) ?_
  have hPc := hP.sub (ws' := [(tr, eO 5 [.int 10, .int 70, .ref tra, .int 0])]) [2] rfl
  refine rd_calli (va_runV (As := [.int a1]) (rest := []) ⟨hx, hb, hml, hown, hts⟩ (c_has0 l G tr 10 70 tra a1 ) (my_cwV hts ok_X5_has w_174 rfl rfl ⟨Nat.le_of_ble_eq_true rfl, Nat.le_of_ble_eq_true rfl⟩) ⟨rP.blind, va_recv hG.1 hPc (ci := 5) (q0 := 0) rfl rfl, fun U hU hW => ⟨rfl, by rw [hU]; exact hPc, kG.warm hW hG⟩⟩ rfl rfl hl.1 rfl (lv_room (Nat.le_of_ble_eq_true rfl)) dX10_jury_8 ⟨Nat.le_of_ble_eq_true rfl, Nat.le_of_ble_eq_true rfl⟩) (fun r hr9 => ?_)
  subst hr9
  refine lv_if_ne (tgt := 17) hx hb dX10_jury_11 (by decide) (fun c_11 => absurd (by decide) c_11) (fun c_11 => ?_)
  refine lv_bipush (v := (-2)) hx hb dX10_jury_14 (by decide) ?_
  exact W.iret (v := (-2)) hx hb hr (fun t ht hW => ⟨_, rfl, (rfl), ht⟩) (fun _ h => absurd h List.not_mem_nil) dX10_jury_16
set_option maxHeartbeats 4000000 in
set_option maxRecDepth 100000 in
theorem p_about (l : Launch) (G : gW) (x : Nat) (ct : Nat) (bk : Nat) (im : Nat) (kp : Nat) (rd : Nat) (fr : Nat) (wt : Nat) (pe : Nat) (fa : Nat) (ro : Nat) (ac : Nat) (tr : Nat) (la : Nat) (tx : Nat) (tra : Nat) (a1 : Int32) (a2 : Int32)  : Met l yX10_about (wsT yX10_about cX10_about 3 (some .int)) ({ frames := 1, cells := 0, slots := 0, locals := 21 }) (rP G [.ref x, .int a1, .int a2] [(x, eO 9 [.ref ct, .ref bk, .ref im, .ref kp, .ref rd, .ref fr, .ref wt]), (bk, eO 0 [.ref pe, .ref fa, .ref ro, .ref ac, .ref tr, .ref la, .ref tx, .int 5, .int 20]), (tr, eO 5 [.int 10, .int 70, .ref tra, .int 0])]) (rQi (fun r => r = (-2000000000))) 0 0 fr0 := by
  refine Met.ofW (cc := cX10_about) (maxL := 3) (ret := (some .int)) (by decide) rfl ?_
  intro p e s m args below meth c s₁ B hml hv
  obtain ⟨rfl, hP, hG⟩ := hv
  have hx := B.exec
  have hb := B.bytes
  have hr := B.returns
  have hts := my_hts (atoms_spec (ws := wsT yX10_about cX10_about 3 (some .int)) B.pre)
  have hown : s.vm.findClass RX10 = some m.cls := findClass_of_methodNamed B.named
  have hlocks := B.notSynchronized
  have hP : va_P G.1 vwCl [(x, eO 9 [.ref ct, .ref bk, .ref im, .ref kp, .ref rd, .ref fr, .ref wt]), (bk, eO 0 [.ref pe, .ref fa, .ref ro, .ref ac, .ref tr, .ref la, .ref tx, .int 5, .int 20]), (tr, eO 5 [.int 10, .int 70, .ref tra, .int 0])] s.heap := hP
  have hl := lv_entry ([.ref x, .int a1, .int a2]) (n := 3) (Nat.le_of_ble_eq_true rfl)
  rw [lg_entry_eq]
  generalize (lg_sl ([.ref x, .int a1, .int a2]) ++ List.replicate (3 - (lg_sl ([.ref x, .int a1, .int a2])).length) Slot.unset).toArray = ls at hl ⊢
  have hl : lv_has ls 3 [(0, .ref x), (1, .int a1), (2, .int a2)] := hl
  refine lv_aload_n hx hb dX10_about_0 rfl (lv_at hl 0 rfl) ?_
  refine va_get (D := G.1) (ci := 9) (v := .ref bk) (C := RX10) (T := TX10) (N := 7) hx hb hts inlX10 hown hG.1 hP 0 rfl rfl 1 (by decide) (hts (.fieldLink RX10 20 "SwornLists" "book" "LSwornLists$Book;") w_16) (fun _ h9 => h9) rfl dX10_about_1 ?_
  refine va_getN (D := G.1) (ci := 0) (v := .ref tr) (C := RX0) (T := TX0) (N := 9) (host := RX10) hx hb hts inlX0 hown hG.1 hP 1 rfl rfl 4 (by decide) (va_Nw.use rfl (hG.2.1 (.fieldLinkNest RX10 162 RX0 "trials" "LSwornLists$Rows;" RX10) (List.mem_of_getElem? (i := 7) rfl))) (fun _ h9 => h9) rfl dX10_about_4 ?_
  refine lv_iload_n hx hb dX10_about_7 rfl (lv_at hl 1 rfl) ?_
  have hPc := hP.sub (ws' := [(tr, eO 5 [.int 10, .int 70, .ref tra, .int 0])]) [2] rfl
  refine rd_calli (va_runV (As := [.int a1]) (rest := []) ⟨hx, hb, hml, hown, hts⟩ (c_has0 l G tr 10 70 tra a1 ) (my_cwV hts ok_X5_has w_174 rfl rfl ⟨Nat.le_of_ble_eq_true rfl, Nat.le_of_ble_eq_true rfl⟩) ⟨rP.blind, va_recv hG.1 hPc (ci := 5) (q0 := 0) rfl rfl, fun U hU hW => ⟨rfl, by rw [hU]; exact hPc, kG.warm hW hG⟩⟩ rfl rfl hl.1 rfl (lv_room (Nat.le_of_ble_eq_true rfl)) dX10_about_8 ⟨Nat.le_of_ble_eq_true rfl, Nat.le_of_ble_eq_true rfl⟩) (fun r hr9 => ?_)
  subst hr9
  refine lv_if_eq (tgt := 23) hx hb dX10_about_11 (by decide) (fun c_11 => ?_) (fun c_11 => absurd (by decide) c_11)
  refine lv_ldc (v := (-2000000000)) hx hb hown (hts (.constant RX10 191 (-2000000000)) w_720) dX10_about_23 ?_
  exact W.iret (v := (-2000000000)) hx hb hr (fun t ht hW => ⟨_, rfl, (rfl), ht⟩) (fun _ h => absurd h List.not_mem_nil) dX10_about_25
set_option maxHeartbeats 4000000 in
set_option maxRecDepth 100000 in
theorem p_bad (l : Launch) (G : gW) (sz : Nat) (x : Nat) (ct : Nat) (bk : Nat) (im : Nat) (kp : Nat) (rd : Nat) (fr : Nat) (wt : Nat) (pe : Nat) (fa : Nat) (ro : Nat) (ac : Nat) (tr : Nat) (la : Nat) (tx : Nat) (hs : Nat) (sp : Nat) (vl : Nat) (tra : Nat) (a1 : Int32)  : Met l yX10_bad (wsT yX10_bad cX10_bad 4 (some .int)) ({ frames := 2, cells := 0, slots := 0, locals := 42 }) (wP G [.ref x, .int a1] sz [(x, eO 9 [.ref ct, .ref bk, .ref im, .ref kp, .ref rd, .ref fr, .ref wt]), (bk, eO 0 [.ref pe, .ref fa, .ref ro, .ref ac, .ref tr, .ref la, .ref tx, .int 5, .int 20]), (ct, eO 1 [.ref bk, .ref hs, .ref sp, .ref vl, .int 0]), (tr, eO 5 [.int 10, .int 70, .ref tra, .int 0])]) (va_Qi (fun (r : Int32) (_ : Unit) => r = if inB 0 a1 9999 = true then 0 else (-2)) (fun _ _ => True) (va_A [(x, eO 9 [.ref ct, .ref bk, .ref im, .ref kp, .ref rd, .ref fr, .ref wt]), (bk, eO 0 [.ref pe, .ref fa, .ref ro, .ref ac, .ref tr, .ref la, .ref tx, .int 5, .int 20]), (ct, eO 1 [.ref bk, .ref hs, .ref sp, .ref vl, .int 0]), (tr, eO 5 [.int 10, .int 70, .ref tra, .int 0])] sz)) 0 0 (va_A [(x, eO 9 [.ref ct, .ref bk, .ref im, .ref kp, .ref rd, .ref fr, .ref wt]), (bk, eO 0 [.ref pe, .ref fa, .ref ro, .ref ac, .ref tr, .ref la, .ref tx, .int 5, .int 20]), (ct, eO 1 [.ref bk, .ref hs, .ref sp, .ref vl, .int 0]), (tr, eO 5 [.int 10, .int 70, .ref tra, .int 0])] sz) := by
  refine Met.ofW (cc := cX10_bad) (maxL := 4) (ret := (some .int)) (by decide) rfl ?_
  intro p e s m args below meth c s₁ B hml hv
  obtain ⟨rfl, hsz, hP, hG, hD0⟩ := hv
  have hx := B.exec
  have hb := B.bytes
  have hr := B.returns
  have hts := my_hts (atoms_spec (ws := wsT yX10_bad cX10_bad 4 (some .int)) B.pre)
  have hown : s.vm.findClass RX10 = some m.cls := findClass_of_methodNamed B.named
  have hlocks := B.notSynchronized
  subst hsz
  have hD := hD0.self (sz := s.heap.size)
  generalize hAe : va_A [(x, eO 9 [.ref ct, .ref bk, .ref im, .ref kp, .ref rd, .ref fr, .ref wt]), (bk, eO 0 [.ref pe, .ref fa, .ref ro, .ref ac, .ref tr, .ref la, .ref tx, .int 5, .int 20]), (ct, eO 1 [.ref bk, .ref hs, .ref sp, .ref vl, .int 0]), (tr, eO 5 [.int 10, .int 70, .ref tra, .int 0])] s.heap.size = A at hD ⊢
  have hA : ∀ q : Nat, s.heap.size ≤ q → A q := fun q h => by rw [← hAe]; exact Or.inr h
  have hS : va_S A s.heap s.heap [] := va_S.rf
  have hP : va_P G.1 vwCl [(x, eO 9 [.ref ct, .ref bk, .ref im, .ref kp, .ref rd, .ref fr, .ref wt]), (bk, eO 0 [.ref pe, .ref fa, .ref ro, .ref ac, .ref tr, .ref la, .ref tx, .int 5, .int 20]), (ct, eO 1 [.ref bk, .ref hs, .ref sp, .ref vl, .int 0]), (tr, eO 5 [.int 10, .int 70, .ref tra, .int 0])] s.heap := hP
  have hl := lv_entry ([.ref x, .int a1]) (n := 4) (Nat.le_of_ble_eq_true rfl)
  rw [lg_entry_eq]
  generalize (lg_sl ([.ref x, .int a1]) ++ List.replicate (4 - (lg_sl ([.ref x, .int a1])).length) Slot.unset).toArray = ls at hl ⊢
  have hl : lv_has ls 4 [(0, .ref x), (1, .int a1)] := hl
  refine lv_iload_n hx hb dX10_bad_0 rfl (lv_at hl 1 rfl) ?_
  have hPc := hP.sub (ws' := []) [] rfl
  refine rd_calli (va_runS (As := [.int a1]) (rest := []) ⟨hx, hb, hml, hown, hts⟩ (c_isDay l G a1 ) (my_cwS hts ok_X10_isDay w_178 rfl rfl ⟨Nat.le_of_ble_eq_true rfl, Nat.le_of_ble_eq_true rfl⟩) ⟨rP.blind, fun U hU hW => ⟨rfl, by rw [hU]; exact hPc, kG.warm hW hG⟩⟩ rfl rfl hl.1 rfl (lv_room (Nat.le_of_ble_eq_true rfl)) dX10_bad_1 ⟨Nat.le_of_ble_eq_true rfl, Nat.le_of_ble_eq_true rfl⟩) (fun r hr9 => ?_)
  subst hr9
  refine my_ifne (tgt := 10) hx hb dX10_bad_4 (by decide) (fun c_4 => ?_) (fun c_4 => ?_)
  · refine lv_aload_n hx hb dX10_bad_10 rfl (lv_at hl 0 rfl) ?_
    refine va_get (D := G.1) (ci := 9) (v := .ref ct) (C := RX10) (T := TX10) (N := 7) hx hb hts inlX10 hown hG.1 hP 0 rfl rfl 0 (by decide) (hts (.fieldLink RX10 12 "SwornLists" "court" "LSwornLists$Court;") w_15) (fun _ h9 => h9) rfl dX10_bad_11 ?_
    have hPc := hP.sub (ws' := [(ct, eO 1 [.ref bk, .ref hs, .ref sp, .ref vl, .int 0]), (bk, eO 0 [.ref pe, .ref fa, .ref ro, .ref ac, .ref tr, .ref la, .ref tx, .int 5, .int 20]), (tr, eO 5 [.int 10, .int 70, .ref tra, .int 0])]) [2, 1, 3] rfl
    have hDc := hD.sub (ws' := [(ct, eO 1 [.ref bk, .ref hs, .ref sp, .ref vl, .int 0]), (bk, eO 0 [.ref pe, .ref fa, .ref ro, .ref ac, .ref tr, .ref la, .ref tx, .int 5, .int 20]), (tr, eO 5 [.int 10, .int 70, .ref tra, .int 0])]) [2, 1, 3] (by decide) rfl
    have hFc := va_free (wc := [(ct, eO 1 [.ref bk, .ref hs, .ref sp, .ref vl, .int 0]), (bk, eO 0 [.ref pe, .ref fa, .ref ro, .ref ac, .ref tr, .ref la, .ref tx, .int 5, .int 20]), (tr, eO 5 [.int 10, .int 70, .ref tra, .int 0])]) hD hS hA [2, 1, 3] rfl
    refine va_callv (va_runV (As := []) (rest := []) ⟨hx, hb, hml, hown, hts⟩ (c_settle0 l G s.heap.size ct bk hs sp vl pe fa ro ac tr la tx tra ) (my_cwV hts ok_X1_settle w_384 rfl rfl ⟨Nat.le_of_ble_eq_true rfl, Nat.le_of_ble_eq_true rfl⟩) ⟨wP.blind, va_recv hG.1 hPc (ci := 1) (q0 := 0) rfl rfl, fun U hU hW => ⟨rfl, by rw [hU], by rw [hU]; exact hPc, kG.warm hW hG, hDc.weaken (fun _ _ _ _ => trivial)⟩⟩ rfl rfl hl.1 rfl (lv_room (Nat.le_of_ble_eq_true rfl)) dX10_bad_14 ⟨Nat.le_of_ble_eq_true rfl, Nat.le_of_ble_eq_true rfl⟩) hS (fun q _ h => hFc q h) hFc (fun u t H1 locs ht hvm hw hB hz1 hk1 hS => ?_)
    obtain ⟨hP1, hD1⟩ := hB
    rw [ht] at hP1
    try dsimp only at hw
    obtain ⟨hP, hD⟩ := va_join (wr := [(x, eO 9 [.ref ct, .ref bk, .ref im, .ref kp, .ref rd, .ref fr, .ref wt])]) (w1 := [(ct, eO 1 [.ref bk, .ref hs, .ref sp, .ref vl, .int 0]), (bk, eO 0 [.ref pe, .ref fa, .ref ro, .ref ac, .ref tr, .ref la, .ref tx, .int 5, .int 20]), (tr, eO 5 [.int 10, .int 70, .ref tra, .int 0])]) hP hD [2, 1, 3] [0] rfl rfl (by decide) (by decide) hk1 hFc hP1 hD1
    generalize H1 = H at hP hS ⊢
    have hP : va_P G.1 vwCl [(x, eO 9 [.ref ct, .ref bk, .ref im, .ref kp, .ref rd, .ref fr, .ref wt]), (ct, eO 1 [.ref bk, .ref hs, .ref sp, .ref vl, .int 0]), (bk, eO 0 [.ref pe, .ref fa, .ref ro, .ref ac, .ref tr, .ref la, .ref tx, .int 5, .int 20]), (tr, eO 5 [.int 10, .int 70, .ref tra, .int 0])] H := hP
    have hD : va_D A [(x, eO 9 [.ref ct, .ref bk, .ref im, .ref kp, .ref rd, .ref fr, .ref wt]), (ct, eO 1 [.ref bk, .ref hs, .ref sp, .ref vl, .int 0]), (bk, eO 0 [.ref pe, .ref fa, .ref ro, .ref ac, .ref tr, .ref la, .ref tx, .int 5, .int 20]), (tr, eO 5 [.int 10, .int 70, .ref tra, .int 0])] := hD
    refine lv_iconst (v := 0) hx hb dX10_bad_17 (by decide) ?_
    refine lv_istore_n (lv' := [(2, .int 0), (0, .ref x), (1, .int a1)]) hx hb dX10_bad_18 rfl hl (by decide) rfl (fun ls hl => ?_)
    refine lv_iconst (v := 0) hx hb dX10_bad_19 (by decide) ?_
    refine lv_istore_n (lv' := [(3, .int 0), (2, .int 0), (0, .ref x), (1, .int a1)]) hx hb dX10_bad_20 rfl hl (by decide) rfl (fun ls hl => ?_)
    refine lv_iload_n hx hb dX10_bad_21 rfl (lv_at hl 0 rfl) ?_
    refine lv_aload_n hx hb dX10_bad_22 rfl (lv_at hl 2 rfl) ?_
    refine va_get (D := G.1) (ci := 9) (v := .ref bk) (C := RX10) (T := TX10) (N := 7) hx hb hts inlX10 hown hG.1 hP 0 rfl rfl 1 (by decide) (hts (.fieldLink RX10 20 "SwornLists" "book" "LSwornLists$Book;") w_16) (fun _ h9 => h9) rfl dX10_bad_23 ?_
    refine va_getN (D := G.1) (ci := 0) (v := .ref tr) (C := RX0) (T := TX0) (N := 9) (host := RX10) hx hb hts inlX0 hown hG.1 hP 2 rfl rfl 4 (by decide) (va_Nw.use rfl (hG.2.1 (.fieldLinkNest RX10 162 RX0 "trials" "LSwornLists$Rows;" RX10) (List.mem_of_getElem? (i := 7) rfl))) (fun _ h9 => h9) rfl dX10_bad_26 ?_
    have hPc := hP.sub (ws' := [(tr, eO 5 [.int 10, .int 70, .ref tra, .int 0])]) [3] rfl
    refine rd_calli (va_runV (As := []) (rest := [.int 0]) ⟨hx, hb, hml, hown, hts⟩ (c_size0 l G tr 10 70 tra ) (my_cwV hts ok_X5_size w_642 rfl rfl ⟨Nat.le_of_ble_eq_true rfl, Nat.le_of_ble_eq_true rfl⟩) ⟨rP.blind, va_recv hG.1 hPc (ci := 5) (q0 := 0) rfl rfl, fun U hU hW => ⟨rfl, by rw [hU]; exact hPc, kG.warm hW hG⟩⟩ rfl rfl hl.1 rfl (lv_room (Nat.le_of_ble_eq_true rfl)) dX10_bad_29 ⟨Nat.le_of_ble_eq_true rfl, Nat.le_of_ble_eq_true rfl⟩) (fun r hr9 => ?_)
    subst hr9
    refine lv_icmp_ge (tgt := 71) hx hb dX10_bad_32 (by decide) (fun c_32 => ?_) (fun c_32 => absurd (by decide) c_32)
    refine lv_iload_n hx hb dX10_bad_71 rfl (lv_at hl 1 rfl) ?_
    exact W.iret (v := 0) hx hb hr (fun t ht hW => ⟨⟨_, (), rfl, (by simp [c_4]), trivial⟩, hS.F ht⟩) hS.2.2 dX10_bad_72
  · refine lv_bipush (v := (-2)) hx hb dX10_bad_7 (by decide) ?_
    exact W.iret (v := (-2)) hx hb hr (fun t ht hW => ⟨⟨_, (), rfl, (by simp [c_4]), trivial⟩, hS.F ht⟩) hS.2.2 dX10_bad_9
set_option maxHeartbeats 4000000 in
set_option maxRecDepth 100000 in
theorem p_sums (l : Launch) (G : gW) (sz : Nat) (x : Nat) (ct : Nat) (bk : Nat) (im : Nat) (kp : Nat) (rd : Nat) (fr : Nat) (wt : Nat) (pe : Nat) (fa : Nat) (ro : Nat) (ac : Nat) (tr : Nat) (la : Nat) (tx : Nat) (a1 : Int32) (a2 : Int32)  : Met l yX10_sums (wsT yX10_sums cX10_sums 3 (some .int)) ({ frames := 1, cells := 0, slots := 0, locals := 22 }) (wP G [.ref x, .int a1, .int a2] sz [(x, eO 9 [.ref ct, .ref bk, .ref im, .ref kp, .ref rd, .ref fr, .ref wt]), (bk, eO 0 [.ref pe, .ref fa, .ref ro, .ref ac, .ref tr, .ref la, .ref tx, .int 5, .int 20])]) (va_Qi (fun (r : Int32) (_ : Unit) => r = if (inB 0 a1 100 = true) ∧ (inB 0 a2 1000 = true) then 1 else (-2)) (fun _ _ => True) (va_A [(x, eO 9 [.ref ct, .ref bk, .ref im, .ref kp, .ref rd, .ref fr, .ref wt]), (bk, eO 0 [.ref pe, .ref fa, .ref ro, .ref ac, .ref tr, .ref la, .ref tx, .int 5, .int 20])] sz)) 0 0 (va_A [(x, eO 9 [.ref ct, .ref bk, .ref im, .ref kp, .ref rd, .ref fr, .ref wt]), (bk, eO 0 [.ref pe, .ref fa, .ref ro, .ref ac, .ref tr, .ref la, .ref tx, .int 5, .int 20])] sz) := by
  refine Met.ofW (cc := cX10_sums) (maxL := 3) (ret := (some .int)) (by decide) rfl ?_
  intro p e s m args below meth c s₁ B hml hv
  obtain ⟨rfl, hsz, hP, hG, hD0⟩ := hv
  have hx := B.exec
  have hb := B.bytes
  have hr := B.returns
  have hts := my_hts (atoms_spec (ws := wsT yX10_sums cX10_sums 3 (some .int)) B.pre)
  have hown : s.vm.findClass RX10 = some m.cls := findClass_of_methodNamed B.named
  have hlocks := B.notSynchronized
  subst hsz
  have hD := hD0.self (sz := s.heap.size)
  generalize hAe : va_A [(x, eO 9 [.ref ct, .ref bk, .ref im, .ref kp, .ref rd, .ref fr, .ref wt]), (bk, eO 0 [.ref pe, .ref fa, .ref ro, .ref ac, .ref tr, .ref la, .ref tx, .int 5, .int 20])] s.heap.size = A at hD ⊢
  have hA : ∀ q : Nat, s.heap.size ≤ q → A q := fun q h => by rw [← hAe]; exact Or.inr h
  have hS : va_S A s.heap s.heap [] := va_S.rf
  have hP : va_P G.1 vwCl [(x, eO 9 [.ref ct, .ref bk, .ref im, .ref kp, .ref rd, .ref fr, .ref wt]), (bk, eO 0 [.ref pe, .ref fa, .ref ro, .ref ac, .ref tr, .ref la, .ref tx, .int 5, .int 20])] s.heap := hP
  have hl := lv_entry ([.ref x, .int a1, .int a2]) (n := 3) (Nat.le_of_ble_eq_true rfl)
  rw [lg_entry_eq]
  generalize (lg_sl ([.ref x, .int a1, .int a2]) ++ List.replicate (3 - (lg_sl ([.ref x, .int a1, .int a2])).length) Slot.unset).toArray = ls at hl ⊢
  have hl : lv_has ls 3 [(0, .ref x), (1, .int a1), (2, .int a2)] := hl
  refine lv_iload_n hx hb dX10_sums_0 rfl (lv_at hl 1 rfl) ?_
  refine lv_iconst (v := 0) hx hb dX10_sums_1 (by decide) ?_
  refine lv_bipush (v := 100) hx hb dX10_sums_2 (by decide) ?_
  have hPc := hP.sub (ws' := []) [] rfl
  refine rd_calli (va_runS (As := [.int a1, .int 0, .int 100]) (rest := []) ⟨hx, hb, hml, hown, hts⟩ (c_within l G a1 0 100 ) (my_cwS hts ok_X10_within w_134 rfl rfl ⟨Nat.le_of_ble_eq_true rfl, Nat.le_of_ble_eq_true rfl⟩) ⟨rP.blind, fun U hU hW => ⟨rfl, by rw [hU]; exact hPc, kG.warm hW hG⟩⟩ rfl rfl hl.1 rfl (lv_room (Nat.le_of_ble_eq_true rfl)) dX10_sums_4 ⟨Nat.le_of_ble_eq_true rfl, Nat.le_of_ble_eq_true rfl⟩) (fun r hr9 => ?_)
  subst hr9
  refine my_ifeq (tgt := 21) hx hb dX10_sums_7 (by decide) (fun c_7 => ?_) (fun c_7 => ?_)
  · refine lv_bipush (v := (-2)) hx hb dX10_sums_21 (by decide) ?_
    exact W.iret (v := (-2)) hx hb hr (fun t ht hW => ⟨⟨_, (), rfl, (by simp [c_7]), trivial⟩, hS.F ht⟩) hS.2.2 dX10_sums_23
  · refine lv_iload_n hx hb dX10_sums_10 rfl (lv_at hl 2 rfl) ?_
    refine lv_iconst (v := 0) hx hb dX10_sums_11 (by decide) ?_
    refine lv_sipush (v := 1000) hx hb dX10_sums_12 (by decide) ?_
    have hPc := hP.sub (ws' := []) [] rfl
    refine rd_calli (va_runS (As := [.int a2, .int 0, .int 1000]) (rest := []) ⟨hx, hb, hml, hown, hts⟩ (c_within l G a2 0 1000 ) (my_cwS hts ok_X10_within w_134 rfl rfl ⟨Nat.le_of_ble_eq_true rfl, Nat.le_of_ble_eq_true rfl⟩) ⟨rP.blind, fun U hU hW => ⟨rfl, by rw [hU]; exact hPc, kG.warm hW hG⟩⟩ rfl rfl hl.1 rfl (lv_room (Nat.le_of_ble_eq_true rfl)) dX10_sums_15 ⟨Nat.le_of_ble_eq_true rfl, Nat.le_of_ble_eq_true rfl⟩) (fun r hr9 => ?_)
    subst hr9
    refine my_ifne (tgt := 24) hx hb dX10_sums_18 (by decide) (fun c_18 => ?_) (fun c_18 => ?_)
    · refine lv_aload_n hx hb dX10_sums_24 rfl (lv_at hl 0 rfl) ?_
      refine va_get (D := G.1) (ci := 9) (v := .ref bk) (C := RX10) (T := TX10) (N := 7) hx hb hts inlX10 hown hG.1 hP 0 rfl rfl 1 (by decide) (hts (.fieldLink RX10 20 "SwornLists" "book" "LSwornLists$Book;") w_16) (fun _ h9 => h9) rfl dX10_sums_25 ?_
      refine lv_iload_n hx hb dX10_sums_28 rfl (lv_at hl 1 rfl) ?_
      refine va_putN (D := G.1) (ci := 0) (v := .int a1) (ty := .int) (C := RX0) (T := TX0) (N := 9) (host := RX10) hx hb hts inlX0 tyX0 tyX0_ok nmX0 hown hG.1 hP hD hS 1 rfl rfl 7 (by decide) (va_Nw.use rfl (hG.2.1 (.fieldLinkNest RX10 201 RX0 "pay" "I" RX10) (List.mem_of_getElem? (i := 10) rfl))) (fun _ h9 => h9) rfl (by decide +kernel) rfl rfl (Nat.le_of_ble_eq_true rfl) dX10_sums_29 (fun H locs hP hD hS => ?_)
      have hP : va_P G.1 vwCl [(x, eO 9 [.ref ct, .ref bk, .ref im, .ref kp, .ref rd, .ref fr, .ref wt]), (bk, eO 0 [.ref pe, .ref fa, .ref ro, .ref ac, .ref tr, .ref la, .ref tx, .int a1, .int 20])] H := hP
      have hD : va_D A [(x, eO 9 [.ref ct, .ref bk, .ref im, .ref kp, .ref rd, .ref fr, .ref wt]), (bk, eO 0 [.ref pe, .ref fa, .ref ro, .ref ac, .ref tr, .ref la, .ref tx, .int a1, .int 20])] := hD
      refine lv_aload_n hx hb dX10_sums_32 rfl (lv_at hl 0 rfl) ?_
      refine va_get (D := G.1) (ci := 9) (v := .ref bk) (C := RX10) (T := TX10) (N := 7) hx hb hts inlX10 hown hG.1 hP 0 rfl rfl 1 (by decide) (hts (.fieldLink RX10 20 "SwornLists" "book" "LSwornLists$Book;") w_16) (fun _ h9 => h9) rfl dX10_sums_33 ?_
      refine lv_iload_n hx hb dX10_sums_36 rfl (lv_at hl 2 rfl) ?_
      refine va_putN (D := G.1) (ci := 0) (v := .int a2) (ty := .int) (C := RX0) (T := TX0) (N := 9) (host := RX10) hx hb hts inlX0 tyX0 tyX0_ok nmX0 hown hG.1 hP hD hS 1 rfl rfl 8 (by decide) (va_Nw.use rfl (hG.2.1 (.fieldLinkNest RX10 204 RX0 "fine" "I" RX10) (List.mem_of_getElem? (i := 11) rfl))) (fun _ h9 => h9) rfl (by decide +kernel) rfl rfl (Nat.le_of_ble_eq_true rfl) dX10_sums_37 (fun H locs hP hD hS => ?_)
      have hP : va_P G.1 vwCl [(x, eO 9 [.ref ct, .ref bk, .ref im, .ref kp, .ref rd, .ref fr, .ref wt]), (bk, eO 0 [.ref pe, .ref fa, .ref ro, .ref ac, .ref tr, .ref la, .ref tx, .int a1, .int a2])] H := hP
      have hD : va_D A [(x, eO 9 [.ref ct, .ref bk, .ref im, .ref kp, .ref rd, .ref fr, .ref wt]), (bk, eO 0 [.ref pe, .ref fa, .ref ro, .ref ac, .ref tr, .ref la, .ref tx, .int a1, .int a2])] := hD
      refine lv_iconst (v := 1) hx hb dX10_sums_40 (by decide) ?_
      exact W.iret (v := 1) hx hb hr (fun t ht hW => ⟨⟨_, (), rfl, (by simp [c_7, c_18]), trivial⟩, hS.F ht⟩) hS.2.2 dX10_sums_41
    · refine lv_bipush (v := (-2)) hx hb dX10_sums_21 (by decide) ?_
      exact W.iret (v := (-2)) hx hb hr (fun t ht hW => ⟨⟨_, (), rfl, (by simp [c_7, c_18]), trivial⟩, hS.F ht⟩) hS.2.2 dX10_sums_23
set_option maxHeartbeats 4000000 in
set_option maxRecDepth 100000 in
theorem p_owed (l : Launch) (G : gW) (x : Nat) (ct : Nat) (bk : Nat) (im : Nat) (kp : Nat) (rd : Nat) (fr : Nat) (wt : Nat) (pe : Nat) (fa : Nat) (ro : Nat) (ac : Nat) (tr : Nat) (la : Nat) (tx : Nat) (pea : Nat) (a1 : Int32) (a2 : Int32)  : Met l yX10_owed (wsT yX10_owed cX10_owed 6 (some .int)) ({ frames := 1, cells := 0, slots := 0, locals := 21 }) (rP G [.ref x, .int a1, .int a2] [(x, eO 9 [.ref ct, .ref bk, .ref im, .ref kp, .ref rd, .ref fr, .ref wt]), (bk, eO 0 [.ref pe, .ref fa, .ref ro, .ref ac, .ref tr, .ref la, .ref tx, .int 5, .int 20]), (pe, eO 5 [.int 30, .int 4, .ref pea, .int 0])]) (rQi (fun r => r = (-1000000))) 0 0 fr0 := by
  refine Met.ofW (cc := cX10_owed) (maxL := 6) (ret := (some .int)) (by decide) rfl ?_
  intro p e s m args below meth c s₁ B hml hv
  obtain ⟨rfl, hP, hG⟩ := hv
  have hx := B.exec
  have hb := B.bytes
  have hr := B.returns
  have hts := my_hts (atoms_spec (ws := wsT yX10_owed cX10_owed 6 (some .int)) B.pre)
  have hown : s.vm.findClass RX10 = some m.cls := findClass_of_methodNamed B.named
  have hlocks := B.notSynchronized
  have hP : va_P G.1 vwCl [(x, eO 9 [.ref ct, .ref bk, .ref im, .ref kp, .ref rd, .ref fr, .ref wt]), (bk, eO 0 [.ref pe, .ref fa, .ref ro, .ref ac, .ref tr, .ref la, .ref tx, .int 5, .int 20]), (pe, eO 5 [.int 30, .int 4, .ref pea, .int 0])] s.heap := hP
  have hl := lv_entry ([.ref x, .int a1, .int a2]) (n := 6) (Nat.le_of_ble_eq_true rfl)
  rw [lg_entry_eq]
  generalize (lg_sl ([.ref x, .int a1, .int a2]) ++ List.replicate (6 - (lg_sl ([.ref x, .int a1, .int a2])).length) Slot.unset).toArray = ls at hl ⊢
  have hl : lv_has ls 6 [(0, .ref x), (1, .int a1), (2, .int a2)] := hl
  refine lv_aload_n hx hb dX10_owed_0 rfl (lv_at hl 0 rfl) ?_
  refine va_get (D := G.1) (ci := 9) (v := .ref bk) (C := RX10) (T := TX10) (N := 7) hx hb hts inlX10 hown hG.1 hP 0 rfl rfl 1 (by decide) (hts (.fieldLink RX10 20 "SwornLists" "book" "LSwornLists$Book;") w_16) (fun _ h9 => h9) rfl dX10_owed_1 ?_
  refine va_getN (D := G.1) (ci := 0) (v := .ref pe) (C := RX0) (T := TX0) (N := 9) (host := RX10) hx hb hts inlX0 hown hG.1 hP 1 rfl rfl 0 (by decide) (va_Nw.use rfl (hG.2.1 (.fieldLinkNest RX10 57 RX0 "people" "LSwornLists$Rows;" RX10) (List.mem_of_getElem? (i := 0) rfl))) (fun _ h9 => h9) rfl dX10_owed_4 ?_
  refine lv_iload_n hx hb dX10_owed_7 rfl (lv_at hl 1 rfl) ?_
  have hPc := hP.sub (ws' := [(pe, eO 5 [.int 30, .int 4, .ref pea, .int 0])]) [2] rfl
  refine rd_calli (va_runV (As := [.int a1]) (rest := []) ⟨hx, hb, hml, hown, hts⟩ (c_has0 l G pe 30 4 pea a1 ) (my_cwV hts ok_X5_has w_174 rfl rfl ⟨Nat.le_of_ble_eq_true rfl, Nat.le_of_ble_eq_true rfl⟩) ⟨rP.blind, va_recv hG.1 hPc (ci := 5) (q0 := 0) rfl rfl, fun U hU hW => ⟨rfl, by rw [hU]; exact hPc, kG.warm hW hG⟩⟩ rfl rfl hl.1 rfl (lv_room (Nat.le_of_ble_eq_true rfl)) dX10_owed_8 ⟨Nat.le_of_ble_eq_true rfl, Nat.le_of_ble_eq_true rfl⟩) (fun r hr9 => ?_)
  subst hr9
  refine lv_if_eq (tgt := 21) hx hb dX10_owed_11 (by decide) (fun c_11 => ?_) (fun c_11 => absurd (by decide) c_11)
  refine lv_ldc (v := (-1000000)) hx hb hown (hts (.constant RX10 207 (-1000000)) w_751) dX10_owed_21 ?_
  exact W.iret (v := (-1000000)) hx hb hr (fun t ht hW => ⟨_, rfl, (rfl), ht⟩) (fun _ h => absurd h List.not_mem_nil) dX10_owed_23
set_option maxHeartbeats 4000000 in
set_option maxRecDepth 100000 in
theorem p_twelve (l : Launch) (G : gW) (x : Nat) (ct : Nat) (bk : Nat) (im : Nat) (kp : Nat) (rd : Nat) (fr : Nat) (wt : Nat) (pe : Nat) (fa : Nat) (ro : Nat) (ac : Nat) (tr : Nat) (la : Nat) (tx : Nat) (tra : Nat) (a1 : Int32) (a2 : Int32)  : Met l yX10_twelve (wsT yX10_twelve cX10_twelve 9 (some .int)) ({ frames := 1, cells := 0, slots := 0, locals := 21 }) (rP G [.ref x, .int a1, .int a2] [(x, eO 9 [.ref ct, .ref bk, .ref im, .ref kp, .ref rd, .ref fr, .ref wt]), (bk, eO 0 [.ref pe, .ref fa, .ref ro, .ref ac, .ref tr, .ref la, .ref tx, .int 5, .int 20]), (tr, eO 5 [.int 10, .int 70, .ref tra, .int 0])]) (rQi (fun r => r = (-2))) 0 0 fr0 := by
  refine Met.ofW (cc := cX10_twelve) (maxL := 9) (ret := (some .int)) (by decide) rfl ?_
  intro p e s m args below meth c s₁ B hml hv
  obtain ⟨rfl, hP, hG⟩ := hv
  have hx := B.exec
  have hb := B.bytes
  have hr := B.returns
  have hts := my_hts (atoms_spec (ws := wsT yX10_twelve cX10_twelve 9 (some .int)) B.pre)
  have hown : s.vm.findClass RX10 = some m.cls := findClass_of_methodNamed B.named
  have hlocks := B.notSynchronized
  have hP : va_P G.1 vwCl [(x, eO 9 [.ref ct, .ref bk, .ref im, .ref kp, .ref rd, .ref fr, .ref wt]), (bk, eO 0 [.ref pe, .ref fa, .ref ro, .ref ac, .ref tr, .ref la, .ref tx, .int 5, .int 20]), (tr, eO 5 [.int 10, .int 70, .ref tra, .int 0])] s.heap := hP
  have hl := lv_entry ([.ref x, .int a1, .int a2]) (n := 9) (Nat.le_of_ble_eq_true rfl)
  rw [lg_entry_eq]
  generalize (lg_sl ([.ref x, .int a1, .int a2]) ++ List.replicate (9 - (lg_sl ([.ref x, .int a1, .int a2])).length) Slot.unset).toArray = ls at hl ⊢
  have hl : lv_has ls 9 [(0, .ref x), (1, .int a1), (2, .int a2)] := hl
  refine lv_aload_n hx hb dX10_twelve_0 rfl (lv_at hl 0 rfl) ?_
  refine va_get (D := G.1) (ci := 9) (v := .ref bk) (C := RX10) (T := TX10) (N := 7) hx hb hts inlX10 hown hG.1 hP 0 rfl rfl 1 (by decide) (hts (.fieldLink RX10 20 "SwornLists" "book" "LSwornLists$Book;") w_16) (fun _ h9 => h9) rfl dX10_twelve_1 ?_
  refine va_getN (D := G.1) (ci := 0) (v := .ref tr) (C := RX0) (T := TX0) (N := 9) (host := RX10) hx hb hts inlX0 hown hG.1 hP 1 rfl rfl 4 (by decide) (va_Nw.use rfl (hG.2.1 (.fieldLinkNest RX10 162 RX0 "trials" "LSwornLists$Rows;" RX10) (List.mem_of_getElem? (i := 7) rfl))) (fun _ h9 => h9) rfl dX10_twelve_4 ?_
  refine lv_iload_n hx hb dX10_twelve_7 rfl (lv_at hl 1 rfl) ?_
  have hPc := hP.sub (ws' := [(tr, eO 5 [.int 10, .int 70, .ref tra, .int 0])]) [2] rfl
  refine rd_calli (va_runV (As := [.int a1]) (rest := []) ⟨hx, hb, hml, hown, hts⟩ (c_has0 l G tr 10 70 tra a1 ) (my_cwV hts ok_X5_has w_174 rfl rfl ⟨Nat.le_of_ble_eq_true rfl, Nat.le_of_ble_eq_true rfl⟩) ⟨rP.blind, va_recv hG.1 hPc (ci := 5) (q0 := 0) rfl rfl, fun U hU hW => ⟨rfl, by rw [hU]; exact hPc, kG.warm hW hG⟩⟩ rfl rfl hl.1 rfl (lv_room (Nat.le_of_ble_eq_true rfl)) dX10_twelve_8 ⟨Nat.le_of_ble_eq_true rfl, Nat.le_of_ble_eq_true rfl⟩) (fun r hr9 => ?_)
  subst hr9
  refine lv_if_eq (tgt := 23) hx hb dX10_twelve_11 (by decide) (fun c_11 => ?_) (fun c_11 => absurd (by decide) c_11)
  refine lv_bipush (v := (-2)) hx hb dX10_twelve_23 (by decide) ?_
  exact W.iret (v := (-2)) hx hb hr (fun t ht hW => ⟨_, rfl, (rfl), ht⟩) (fun _ h => absurd h List.not_mem_nil) dX10_twelve_25
set_option maxHeartbeats 4000000 in
set_option maxRecDepth 100000 in
theorem p_part (l : Launch) (G : gW) (x : Nat) (ct : Nat) (bk : Nat) (im : Nat) (kp : Nat) (rd : Nat) (fr : Nat) (wt : Nat) (a1 : Int32)  : Met l yX10_part (wsT yX10_part cX10_part 2 (some .long)) ({ frames := 0, cells := 0, slots := 0, locals := 0 }) (rP G [.ref x, .int a1] [(x, eO 9 [.ref ct, .ref bk, .ref im, .ref kp, .ref rd, .ref fr, .ref wt]), (fr, eO 2 [.long 0, .long 1])]) (rQl (fun r => r = if a1 = 0 then 0 else if a1 = 1 then 1 else (-1))) 0 0 fr0 := by
  refine Met.ofW (cc := cX10_part) (maxL := 2) (ret := (some .long)) (by decide) rfl ?_
  intro p e s m args below meth c s₁ B hml hv
  obtain ⟨rfl, hP, hG⟩ := hv
  have hx := B.exec
  have hb := B.bytes
  have hr := B.returns
  have hts := my_hts (atoms_spec (ws := wsT yX10_part cX10_part 2 (some .long)) B.pre)
  have hown : s.vm.findClass RX10 = some m.cls := findClass_of_methodNamed B.named
  have hlocks := B.notSynchronized
  have hP : va_P G.1 vwCl [(x, eO 9 [.ref ct, .ref bk, .ref im, .ref kp, .ref rd, .ref fr, .ref wt]), (fr, eO 2 [.long 0, .long 1])] s.heap := hP
  have hl := lv_entry ([.ref x, .int a1]) (n := 2) (Nat.le_of_ble_eq_true rfl)
  rw [lg_entry_eq]
  generalize (lg_sl ([.ref x, .int a1]) ++ List.replicate (2 - (lg_sl ([.ref x, .int a1])).length) Slot.unset).toArray = ls at hl ⊢
  have hl : lv_has ls 2 [(0, .ref x), (1, .int a1)] := hl
  refine lv_iload_n hx hb dX10_part_0 rfl (lv_at hl 1 rfl) ?_
  refine lv_if_ne (tgt := 12) hx hb dX10_part_1 (by decide) (fun c_1 => ?_) (fun c_1 => ?_)
  · refine lv_iload_n hx hb dX10_part_12 rfl (lv_at hl 1 rfl) ?_
    refine lv_iconst (v := 1) hx hb dX10_part_13 (by decide) ?_
    refine lv_icmp_ne (tgt := 27) hx hb dX10_part_14 (by decide) (fun c_14 => ?_) (fun c_14 => ?_)
    · refine lv_ldc2 (v := (-1)) hx hb hown (hts (.constantLong RX10 234 (-1)) w_801) dX10_part_27 ?_
      exact W.lret (v := (-1)) hx hb hr (fun t ht hW => ⟨_, rfl, (by simp [c_1, c_14]), ht⟩) (fun _ h => absurd h List.not_mem_nil) dX10_part_30
    · refine lv_aload_n hx hb dX10_part_17 rfl (lv_at hl 0 rfl) ?_
      refine va_get (D := G.1) (ci := 9) (v := .ref fr) (C := RX10) (T := TX10) (N := 7) hx hb hts inlX10 hown hG.1 hP 0 rfl rfl 5 (by decide) (hts (.fieldLink RX10 41 "SwornLists" "fraction" "LSwornLists$Fraction;") w_28) (fun _ h9 => h9) rfl dX10_part_18 ?_
      refine va_getN (D := G.1) (ci := 2) (v := .long 1) (C := RX2) (T := TX2) (N := 2) (host := RX10) hx hb hts inlX2 hown hG.1 hP 1 rfl rfl 1 (by decide) (va_Nw.use rfl (hG.2.1 (.fieldLinkNest RX10 231 RX2 "below" "J" RX10) (List.mem_of_getElem? (i := 20) rfl))) (fun _ h9 => h9) rfl dX10_part_21 ?_
      refine lv_goto (tgt := 30) hx hb dX10_part_24 (by decide) ?_
      exact W.lret (v := 1) hx hb hr (fun t ht hW => ⟨_, rfl, (by simp [c_1, c_14]), ht⟩) (fun _ h => absurd h List.not_mem_nil) dX10_part_30
  · refine lv_aload_n hx hb dX10_part_4 rfl (lv_at hl 0 rfl) ?_
    refine va_get (D := G.1) (ci := 9) (v := .ref fr) (C := RX10) (T := TX10) (N := 7) hx hb hts inlX10 hown hG.1 hP 0 rfl rfl 5 (by decide) (hts (.fieldLink RX10 41 "SwornLists" "fraction" "LSwornLists$Fraction;") w_28) (fun _ h9 => h9) rfl dX10_part_5 ?_
    refine va_getN (D := G.1) (ci := 2) (v := .long 0) (C := RX2) (T := TX2) (N := 2) (host := RX10) hx hb hts inlX2 hown hG.1 hP 1 rfl rfl 0 (by decide) (va_Nw.use rfl (hG.2.1 (.fieldLinkNest RX10 227 RX2 "above" "J" RX10) (List.mem_of_getElem? (i := 19) rfl))) (fun _ h9 => h9) rfl dX10_part_8 ?_
    exact W.lret (v := 0) hx hb hr (fun t ht hW => ⟨_, rfl, (by simp [c_1]), ht⟩) (fun _ h => absurd h List.not_mem_nil) dX10_part_11
set_option maxHeartbeats 4000000 in
set_option maxRecDepth 100000 in
theorem p_beside (l : Launch) (G : gW) (x : Nat) (ct : Nat) (bk : Nat) (im : Nat) (kp : Nat) (rd : Nat) (fr : Nat) (wt : Nat) (pe : Nat) (fa : Nat) (ro : Nat) (ac : Nat) (tr : Nat) (la : Nat) (tx : Nat) (tra : Nat) (a1 : Int32) (a2 : Int32) (a3 : Int32)  : Met l yX10_beside (wsT yX10_beside cX10_beside 6 (some .int)) ({ frames := 1, cells := 0, slots := 0, locals := 21 }) (rP G [.ref x, .int a1, .int a2, .int a3] [(x, eO 9 [.ref ct, .ref bk, .ref im, .ref kp, .ref rd, .ref fr, .ref wt]), (bk, eO 0 [.ref pe, .ref fa, .ref ro, .ref ac, .ref tr, .ref la, .ref tx, .int 5, .int 20]), (tr, eO 5 [.int 10, .int 70, .ref tra, .int 0])]) (rQi (fun r => r = (-2))) 0 0 fr0 := by
  refine Met.ofW (cc := cX10_beside) (maxL := 6) (ret := (some .int)) (by decide) rfl ?_
  intro p e s m args below meth c s₁ B hml hv
  obtain ⟨rfl, hP, hG⟩ := hv
  have hx := B.exec
  have hb := B.bytes
  have hr := B.returns
  have hts := my_hts (atoms_spec (ws := wsT yX10_beside cX10_beside 6 (some .int)) B.pre)
  have hown : s.vm.findClass RX10 = some m.cls := findClass_of_methodNamed B.named
  have hlocks := B.notSynchronized
  have hP : va_P G.1 vwCl [(x, eO 9 [.ref ct, .ref bk, .ref im, .ref kp, .ref rd, .ref fr, .ref wt]), (bk, eO 0 [.ref pe, .ref fa, .ref ro, .ref ac, .ref tr, .ref la, .ref tx, .int 5, .int 20]), (tr, eO 5 [.int 10, .int 70, .ref tra, .int 0])] s.heap := hP
  have hl := lv_entry ([.ref x, .int a1, .int a2, .int a3]) (n := 6) (Nat.le_of_ble_eq_true rfl)
  rw [lg_entry_eq]
  generalize (lg_sl ([.ref x, .int a1, .int a2, .int a3]) ++ List.replicate (6 - (lg_sl ([.ref x, .int a1, .int a2, .int a3])).length) Slot.unset).toArray = ls at hl ⊢
  have hl : lv_has ls 6 [(0, .ref x), (1, .int a1), (2, .int a2), (3, .int a3)] := hl
  refine lv_aload_n hx hb dX10_beside_0 rfl (lv_at hl 0 rfl) ?_
  refine va_get (D := G.1) (ci := 9) (v := .ref bk) (C := RX10) (T := TX10) (N := 7) hx hb hts inlX10 hown hG.1 hP 0 rfl rfl 1 (by decide) (hts (.fieldLink RX10 20 "SwornLists" "book" "LSwornLists$Book;") w_16) (fun _ h9 => h9) rfl dX10_beside_1 ?_
  refine va_getN (D := G.1) (ci := 0) (v := .ref tr) (C := RX0) (T := TX0) (N := 9) (host := RX10) hx hb hts inlX0 hown hG.1 hP 1 rfl rfl 4 (by decide) (va_Nw.use rfl (hG.2.1 (.fieldLinkNest RX10 162 RX0 "trials" "LSwornLists$Rows;" RX10) (List.mem_of_getElem? (i := 7) rfl))) (fun _ h9 => h9) rfl dX10_beside_4 ?_
  refine lv_iload_n hx hb dX10_beside_7 rfl (lv_at hl 1 rfl) ?_
  have hPc := hP.sub (ws' := [(tr, eO 5 [.int 10, .int 70, .ref tra, .int 0])]) [2] rfl
  refine rd_calli (va_runV (As := [.int a1]) (rest := []) ⟨hx, hb, hml, hown, hts⟩ (c_has0 l G tr 10 70 tra a1 ) (my_cwV hts ok_X5_has w_174 rfl rfl ⟨Nat.le_of_ble_eq_true rfl, Nat.le_of_ble_eq_true rfl⟩) ⟨rP.blind, va_recv hG.1 hPc (ci := 5) (q0 := 0) rfl rfl, fun U hU hW => ⟨rfl, by rw [hU]; exact hPc, kG.warm hW hG⟩⟩ rfl rfl hl.1 rfl (lv_room (Nat.le_of_ble_eq_true rfl)) dX10_beside_8 ⟨Nat.le_of_ble_eq_true rfl, Nat.le_of_ble_eq_true rfl⟩) (fun r hr9 => ?_)
  subst hr9
  refine lv_if_eq (tgt := 28) hx hb dX10_beside_11 (by decide) (fun c_11 => ?_) (fun c_11 => absurd (by decide) c_11)
  refine lv_bipush (v := (-2)) hx hb dX10_beside_28 (by decide) ?_
  exact W.iret (v := (-2)) hx hb hr (fun t ht hW => ⟨_, rfl, (rfl), ht⟩) (fun _ h => absurd h List.not_mem_nil) dX10_beside_30
set_option maxHeartbeats 4000000 in
set_option maxRecDepth 100000 in
theorem p_clash (l : Launch) (G : gW) (sz : Nat) (x : Nat) (ct : Nat) (bk : Nat) (im : Nat) (kp : Nat) (rd : Nat) (fr : Nat) (wt : Nat) (pe : Nat) (fa : Nat) (ro : Nat) (ac : Nat) (tr : Nat) (la : Nat) (tx : Nat) (tra : Nat) (wa : Nat) (wb : Nat) (wc : Nat) (wd : Nat) (a1 : Int32) (a2 : Int32)  : Met l yX10_clash (wsT yX10_clash cX10_clash 5 (some .int)) ({ frames := 3, cells := 0, slots := 0, locals := 69 }) (wP G [.ref x, .int a1, .int a2] sz [(x, eO 9 [.ref ct, .ref bk, .ref im, .ref kp, .ref rd, .ref fr, .ref wt]), (bk, eO 0 [.ref pe, .ref fa, .ref ro, .ref ac, .ref tr, .ref la, .ref tx, .int 5, .int 20]), (tr, eO 5 [.int 10, .int 70, .ref tra, .int 0]), (wt, eO 8 [.ref wa, .ref wb, .ref wc, .ref wd, .int 0, .int 0]), (wb, eI G 6 (fun _ => 0))]) (va_Qi (fun (r : Int32) (_ : Unit) => r = if a1 = 0 ∧ a2 = (-1) then 0 else (-10)) (fun _ _ => True) (va_A [(x, eO 9 [.ref ct, .ref bk, .ref im, .ref kp, .ref rd, .ref fr, .ref wt]), (bk, eO 0 [.ref pe, .ref fa, .ref ro, .ref ac, .ref tr, .ref la, .ref tx, .int 5, .int 20]), (tr, eO 5 [.int 10, .int 70, .ref tra, .int 0]), (wt, eO 8 [.ref wa, .ref wb, .ref wc, .ref wd, .int 0, .int 0]), (wb, eI G 6 (fun _ => 0))] sz)) 0 0 (va_A [(x, eO 9 [.ref ct, .ref bk, .ref im, .ref kp, .ref rd, .ref fr, .ref wt]), (bk, eO 0 [.ref pe, .ref fa, .ref ro, .ref ac, .ref tr, .ref la, .ref tx, .int 5, .int 20]), (tr, eO 5 [.int 10, .int 70, .ref tra, .int 0]), (wt, eO 8 [.ref wa, .ref wb, .ref wc, .ref wd, .int 0, .int 0]), (wb, eI G 6 (fun _ => 0))] sz) := by
  refine Met.ofW (cc := cX10_clash) (maxL := 5) (ret := (some .int)) (by decide) rfl ?_
  intro p e s m args below meth c s₁ B hml hv
  obtain ⟨rfl, hsz, hP, hG, hD0⟩ := hv
  have hx := B.exec
  have hb := B.bytes
  have hr := B.returns
  have hts := my_hts (atoms_spec (ws := wsT yX10_clash cX10_clash 5 (some .int)) B.pre)
  have hown : s.vm.findClass RX10 = some m.cls := findClass_of_methodNamed B.named
  have hlocks := B.notSynchronized
  subst hsz
  have hD := hD0.self (sz := s.heap.size)
  generalize hAe : va_A [(x, eO 9 [.ref ct, .ref bk, .ref im, .ref kp, .ref rd, .ref fr, .ref wt]), (bk, eO 0 [.ref pe, .ref fa, .ref ro, .ref ac, .ref tr, .ref la, .ref tx, .int 5, .int 20]), (tr, eO 5 [.int 10, .int 70, .ref tra, .int 0]), (wt, eO 8 [.ref wa, .ref wb, .ref wc, .ref wd, .int 0, .int 0]), (wb, eI G 6 (fun _ => 0))] s.heap.size = A at hD ⊢
  have hA : ∀ q : Nat, s.heap.size ≤ q → A q := fun q h => by rw [← hAe]; exact Or.inr h
  have hS : va_S A s.heap s.heap [] := va_S.rf
  have hP : va_P G.1 vwCl [(x, eO 9 [.ref ct, .ref bk, .ref im, .ref kp, .ref rd, .ref fr, .ref wt]), (bk, eO 0 [.ref pe, .ref fa, .ref ro, .ref ac, .ref tr, .ref la, .ref tx, .int 5, .int 20]), (tr, eO 5 [.int 10, .int 70, .ref tra, .int 0]), (wt, eO 8 [.ref wa, .ref wb, .ref wc, .ref wd, .int 0, .int 0]), (wb, eI G 6 (fun _ => 0))] s.heap := hP
  have hl := lv_entry ([.ref x, .int a1, .int a2]) (n := 5) (Nat.le_of_ble_eq_true rfl)
  rw [lg_entry_eq]
  generalize (lg_sl ([.ref x, .int a1, .int a2]) ++ List.replicate (5 - (lg_sl ([.ref x, .int a1, .int a2])).length) Slot.unset).toArray = ls at hl ⊢
  have hl : lv_has ls 5 [(0, .ref x), (1, .int a1), (2, .int a2)] := hl
  refine lv_iload_n hx hb dX10_clash_0 rfl (lv_at hl 1 rfl) ?_
  refine lv_aload_n hx hb dX10_clash_1 rfl (lv_at hl 0 rfl) ?_
  refine va_get (D := G.1) (ci := 9) (v := .ref bk) (C := RX10) (T := TX10) (N := 7) hx hb hts inlX10 hown hG.1 hP 0 rfl rfl 1 (by decide) (hts (.fieldLink RX10 20 "SwornLists" "book" "LSwornLists$Book;") w_16) (fun _ h9 => h9) rfl dX10_clash_2 ?_
  refine va_getN (D := G.1) (ci := 0) (v := .ref tr) (C := RX0) (T := TX0) (N := 9) (host := RX10) hx hb hts inlX0 hown hG.1 hP 1 rfl rfl 4 (by decide) (va_Nw.use rfl (hG.2.1 (.fieldLinkNest RX10 162 RX0 "trials" "LSwornLists$Rows;" RX10) (List.mem_of_getElem? (i := 7) rfl))) (fun _ h9 => h9) rfl dX10_clash_5 ?_
  have hPc := hP.sub (ws' := [(tr, eO 5 [.int 10, .int 70, .ref tra, .int 0])]) [2] rfl
  refine rd_calli (va_runV (As := []) (rest := [.int a1]) ⟨hx, hb, hml, hown, hts⟩ (c_size0 l G tr 10 70 tra ) (my_cwV hts ok_X5_size w_642 rfl rfl ⟨Nat.le_of_ble_eq_true rfl, Nat.le_of_ble_eq_true rfl⟩) ⟨rP.blind, va_recv hG.1 hPc (ci := 5) (q0 := 0) rfl rfl, fun U hU hW => ⟨rfl, by rw [hU]; exact hPc, kG.warm hW hG⟩⟩ rfl rfl hl.1 rfl (lv_room (Nat.le_of_ble_eq_true rfl)) dX10_clash_8 ⟨Nat.le_of_ble_eq_true rfl, Nat.le_of_ble_eq_true rfl⟩) (fun r hr9 => ?_)
  subst hr9
  have hPc := hP.sub (ws' := []) [] rfl
  refine rd_calli (va_runS (As := [.int 0]) (rest := [.int a1]) ⟨hx, hb, hml, hown, hts⟩ (c_lowBits0 l G  ) (my_cwS hts ok_X10_lowBits w_819 rfl rfl ⟨Nat.le_of_ble_eq_true rfl, Nat.le_of_ble_eq_true rfl⟩) ⟨rP.blind, fun U hU hW => ⟨rfl, by rw [hU]; exact hPc, kG.warm hW hG⟩⟩ rfl rfl hl.1 rfl (lv_room (Nat.le_of_ble_eq_true rfl)) dX10_clash_11 ⟨Nat.le_of_ble_eq_true rfl, Nat.le_of_ble_eq_true rfl⟩) (fun r hr9 => ?_)
  subst hr9
  refine lv_iconst (v := (-1)) hx hb dX10_clash_14 (by decide) ?_
  refine lv_ixor hx hb dX10_clash_15 ?_
  refine my_bei (v := (-1)) (by decide) ?_
  refine lv_iand hx hb dX10_clash_16 ?_
  refine my_bei (v := a1) (andm1 a1) ?_
  refine lv_if_ne (tgt := 33) hx hb dX10_clash_17 (by decide) (fun c_17 => ?_) (fun c_17 => ?_)
  · refine lv_iconst (v := 0) hx hb dX10_clash_33 (by decide) ?_
    refine lv_istore_n (lv' := [(3, .int 0), (0, .ref x), (1, .int a1), (2, .int a2)]) hx hb dX10_clash_34 rfl hl (by decide) rfl (fun ls hl => ?_)
    refine lv_iload_n hx hb dX10_clash_35 rfl (lv_at hl 3 rfl) ?_
    refine lv_iconst (v := (-1)) hx hb dX10_clash_36 (by decide) ?_
    refine lv_icmp_eq (tgt := 62) hx hb dX10_clash_37 (by decide) (fun c_37 => ?_) (fun c_37 => ?_)
    · refine lv_iconst (v := 1) hx hb dX10_clash_62 (by decide) ?_
      refine lv_goto (tgt := 67) hx hb dX10_clash_63 (by decide) ?_
      refine lv_istore (lv' := [(4, .int 1), (3, .int 0), (0, .ref x), (1, .int a1), (2, .int a2)]) hx hb dX10_clash_67 hl (by decide) rfl (fun ls hl => ?_)
      refine lv_iload_n hx hb dX10_clash_69 rfl (lv_at hl 1 rfl) ?_
      refine lv_if_eq (tgt := 78) hx hb dX10_clash_70 (by decide) (fun c_70 => ?_) (fun c_70 => absurd (by decide) c_70)
      refine lv_bipush (v := (-10)) hx hb dX10_clash_78 (by decide) ?_
      exact W.iret (v := (-10)) hx hb hr (fun t ht hW => ⟨⟨_, (), rfl, (by simp [c_17, c_37]), trivial⟩, hS.F ht⟩) hS.2.2 dX10_clash_80
    · refine lv_aload_n hx hb dX10_clash_40 rfl (lv_at hl 1 rfl) ?_
      refine va_get (D := G.1) (ci := 9) (v := .ref bk) (C := RX10) (T := TX10) (N := 7) hx hb hts inlX10 hown hG.1 hP 0 rfl rfl 1 (by decide) (hts (.fieldLink RX10 20 "SwornLists" "book" "LSwornLists$Book;") w_16) (fun _ h9 => h9) rfl dX10_clash_41 ?_
      refine va_getN (D := G.1) (ci := 0) (v := .ref tr) (C := RX0) (T := TX0) (N := 9) (host := RX10) hx hb hts inlX0 hown hG.1 hP 1 rfl rfl 4 (by decide) (va_Nw.use rfl (hG.2.1 (.fieldLinkNest RX10 162 RX0 "trials" "LSwornLists$Rows;" RX10) (List.mem_of_getElem? (i := 7) rfl))) (fun _ h9 => h9) rfl dX10_clash_44 ?_
      refine lv_iload_n hx hb dX10_clash_47 rfl (lv_at hl 3 rfl) ?_
      have hPc := hP.sub (ws' := [(tr, eO 5 [.int 10, .int 70, .ref tra, .int 0])]) [2] rfl
      refine rd_calli (va_runV (As := [.int a2]) (rest := []) ⟨hx, hb, hml, hown, hts⟩ (c_has0 l G tr 10 70 tra a2 ) (my_cwV hts ok_X5_has w_174 rfl rfl ⟨Nat.le_of_ble_eq_true rfl, Nat.le_of_ble_eq_true rfl⟩) ⟨rP.blind, va_recv hG.1 hPc (ci := 5) (q0 := 0) rfl rfl, fun U hU hW => ⟨rfl, by rw [hU]; exact hPc, kG.warm hW hG⟩⟩ rfl rfl hl.1 rfl (lv_room (Nat.le_of_ble_eq_true rfl)) dX10_clash_48 ⟨Nat.le_of_ble_eq_true rfl, Nat.le_of_ble_eq_true rfl⟩) (fun r hr9 => ?_)
      subst hr9
      refine lv_if_eq (tgt := 66) hx hb dX10_clash_51 (by decide) (fun c_51 => ?_) (fun c_51 => absurd (by decide) c_51)
      refine lv_iconst (v := 0) hx hb dX10_clash_66 (by decide) ?_
      refine lv_istore (lv' := [(4, .int 0), (3, .int 0), (0, .ref x), (1, .int a1), (2, .int a2)]) hx hb dX10_clash_67 hl (by decide) rfl (fun ls hl => ?_)
      refine lv_iload_n hx hb dX10_clash_69 rfl (lv_at hl 1 rfl) ?_
      refine lv_if_eq (tgt := 78) hx hb dX10_clash_70 (by decide) (fun c_70 => ?_) (fun c_70 => absurd (by decide) c_70)
      refine lv_bipush (v := (-10)) hx hb dX10_clash_78 (by decide) ?_
      exact W.iret (v := (-10)) hx hb hr (fun t ht hW => ⟨⟨_, (), rfl, (by simp [c_17, c_37]), trivial⟩, hS.F ht⟩) hS.2.2 dX10_clash_80
  · have e9 : a1 = 0 := c_17
    subst e9
    refine lv_iload_n hx hb dX10_clash_20 rfl (lv_at hl 1 rfl) ?_
    have hPc := hP.sub (ws' := []) [] rfl
    refine rd_calli (va_runS (As := [.int 0]) (rest := []) ⟨hx, hb, hml, hown, hts⟩ (c_bitCount0 l G  ) (my_cwS hts ok_J6_bitCount_0f7a4 w_792 rfl rfl ⟨Nat.le_of_ble_eq_true rfl, Nat.le_of_ble_eq_true rfl⟩) ⟨rP.blind, fun U hU hW => ⟨rfl, by rw [hU]; exact hPc, kG.warm hW hG⟩⟩ rfl rfl hl.1 rfl (lv_room (Nat.le_of_ble_eq_true rfl)) dX10_clash_21 ⟨Nat.le_of_ble_eq_true rfl, Nat.le_of_ble_eq_true rfl⟩) (fun r hr9 => ?_)
    subst hr9
    refine lv_bipush (v := 6) hx hb dX10_clash_24 (by decide) ?_
    refine lv_icmp_gt (tgt := 33) hx hb dX10_clash_26 (by decide) (fun c_26 => absurd c_26 (by decide)) (fun c_26 => ?_)
    refine lv_iconst (v := 1) hx hb dX10_clash_29 (by decide) ?_
    refine lv_goto (tgt := 34) hx hb dX10_clash_30 (by decide) ?_
    refine lv_istore_n (lv' := [(3, .int 1), (0, .ref x), (1, .int 0), (2, .int a2)]) hx hb dX10_clash_34 rfl hl (by decide) rfl (fun ls hl => ?_)
    refine lv_iload_n hx hb dX10_clash_35 rfl (lv_at hl 3 rfl) ?_
    refine lv_iconst (v := (-1)) hx hb dX10_clash_36 (by decide) ?_
    refine lv_icmp_eq (tgt := 62) hx hb dX10_clash_37 (by decide) (fun c_37 => ?_) (fun c_37 => ?_)
    · refine lv_iconst (v := 1) hx hb dX10_clash_62 (by decide) ?_
      refine lv_goto (tgt := 67) hx hb dX10_clash_63 (by decide) ?_
      refine lv_istore (lv' := [(4, .int 1), (3, .int 1), (0, .ref x), (1, .int 0), (2, .int a2)]) hx hb dX10_clash_67 hl (by decide) rfl (fun ls hl => ?_)
      refine lv_iload_n hx hb dX10_clash_69 rfl (lv_at hl 1 rfl) ?_
      refine lv_if_eq (tgt := 78) hx hb dX10_clash_70 (by decide) (fun c_70 => absurd c_70 (by decide)) (fun c_70 => ?_)
      refine lv_iload hx hb dX10_clash_73 (lv_at hl 0 rfl) ?_
      refine lv_if_ne (tgt := 81) hx hb dX10_clash_75 (by decide) (fun c_75 => ?_) (fun c_75 => absurd c_75 (by decide))
      refine lv_aload_n hx hb dX10_clash_81 rfl (lv_at hl 2 rfl) ?_
      refine va_get (D := G.1) (ci := 9) (v := .ref wt) (C := RX10) (T := TX10) (N := 7) hx hb hts inlX10 hown hG.1 hP 0 rfl rfl 6 (by decide) (hts (.fieldLink RX10 48 "SwornLists" "waits" "LSwornLists$Waits;") w_32) (fun _ h9 => h9) rfl dX10_clash_82 ?_
      refine lv_aload_n hx hb dX10_clash_85 rfl (lv_at hl 2 rfl) ?_
      refine va_get (D := G.1) (ci := 9) (v := .ref bk) (C := RX10) (T := TX10) (N := 7) hx hb hts inlX10 hown hG.1 hP 0 rfl rfl 1 (by decide) (hts (.fieldLink RX10 20 "SwornLists" "book" "LSwornLists$Book;") w_16) (fun _ h9 => h9) rfl dX10_clash_86 ?_
      refine lv_iload_n hx hb dX10_clash_89 rfl (lv_at hl 3 rfl) ?_
      have hPc := hP.sub (ws' := [(wt, eO 8 [.ref wa, .ref wb, .ref wc, .ref wd, .int 0, .int 0]), (bk, eO 0 [.ref pe, .ref fa, .ref ro, .ref ac, .ref tr, .ref la, .ref tx, .int 5, .int 20]), (tr, eO 5 [.int 10, .int 70, .ref tra, .int 0]), (wb, eI G 6 (fun _ => 0))]) [3, 1, 2, 4] rfl
      have hDc := hD.sub (ws' := [(wt, eO 8 [.ref wa, .ref wb, .ref wc, .ref wd, .int 0, .int 0]), (bk, eO 0 [.ref pe, .ref fa, .ref ro, .ref ac, .ref tr, .ref la, .ref tx, .int 5, .int 20]), (tr, eO 5 [.int 10, .int 70, .ref tra, .int 0]), (wb, eI G 6 (fun _ => 0))]) [3, 1, 2, 4] (by decide) rfl
      have hFc := va_free (wc := [(wt, eO 8 [.ref wa, .ref wb, .ref wc, .ref wd, .int 0, .int 0]), (bk, eO 0 [.ref pe, .ref fa, .ref ro, .ref ac, .ref tr, .ref la, .ref tx, .int 5, .int 20]), (tr, eO 5 [.int 10, .int 70, .ref tra, .int 0]), (wb, eI G 6 (fun _ => 0))]) hD hS hA [3, 1, 2, 4] rfl
      refine va_callv (va_runV (As := [.ref bk, .int 0]) (rest := []) ⟨hx, hb, hml, hown, hts⟩ (c_seek0 l G s.heap.size wt bk wa wb wc wd pe fa ro ac tr la tx tra 0 ) (my_cwV hts ok_X9_seek w_820 rfl rfl ⟨Nat.le_of_ble_eq_true rfl, Nat.le_of_ble_eq_true rfl⟩) ⟨wP.blind, va_recv hG.1 hPc (ci := 8) (q0 := 0) rfl rfl, fun U hU hW => ⟨rfl, by rw [hU], by rw [hU]; exact hPc, kG.warm hW hG, hDc.weaken (fun _ _ _ _ => trivial)⟩⟩ rfl rfl hl.1 rfl (lv_room (Nat.le_of_ble_eq_true rfl)) dX10_clash_90 ⟨Nat.le_of_ble_eq_true rfl, Nat.le_of_ble_eq_true rfl⟩) hS (fun q _ h => hFc q h) hFc (fun u t H1 locs ht hvm hw hB hz1 hk1 hS => ?_)
      obtain ⟨hP1, hD1⟩ := hB
      rw [ht] at hP1
      try dsimp only at hw
      obtain ⟨hP, hD⟩ := va_join (wr := [(x, eO 9 [.ref ct, .ref bk, .ref im, .ref kp, .ref rd, .ref fr, .ref wt])]) (w1 := [(wt, eO 8 [.ref wa, .ref wb, .ref wc, .ref wd, .int 0, .int 0]), (bk, eO 0 [.ref pe, .ref fa, .ref ro, .ref ac, .ref tr, .ref la, .ref tx, .int 5, .int 20]), (tr, eO 5 [.int 10, .int 70, .ref tra, .int 0])]) hP hD [3, 1, 2, 4] [0] rfl rfl (by decide) (by decide) hk1 hFc hP1 hD1
      generalize H1 = H at hP hS ⊢
      have hP : va_P G.1 vwCl [(x, eO 9 [.ref ct, .ref bk, .ref im, .ref kp, .ref rd, .ref fr, .ref wt]), (wt, eO 8 [.ref wa, .ref wb, .ref wc, .ref wd, .int 0, .int 0]), (bk, eO 0 [.ref pe, .ref fa, .ref ro, .ref ac, .ref tr, .ref la, .ref tx, .int 5, .int 20]), (tr, eO 5 [.int 10, .int 70, .ref tra, .int 0])] H := hP
      have hD : va_D A [(x, eO 9 [.ref ct, .ref bk, .ref im, .ref kp, .ref rd, .ref fr, .ref wt]), (wt, eO 8 [.ref wa, .ref wb, .ref wc, .ref wd, .int 0, .int 0]), (bk, eO 0 [.ref pe, .ref fa, .ref ro, .ref ac, .ref tr, .ref la, .ref tx, .int 5, .int 20]), (tr, eO 5 [.int 10, .int 70, .ref tra, .int 0])] := hD
      refine lv_aload_n hx hb dX10_clash_93 rfl (lv_at hl 2 rfl) ?_
      refine va_get (D := G.1) (ci := 9) (v := .ref wt) (C := RX10) (T := TX10) (N := 7) hx hb hts inlX10 hown hG.1 hP 0 rfl rfl 6 (by decide) (hts (.fieldLink RX10 48 "SwornLists" "waits" "LSwornLists$Waits;") w_32) (fun _ h9 => h9) rfl dX10_clash_94 ?_
      refine va_getN (D := G.1) (ci := 8) (v := .int 0) (C := RX9) (T := TX9) (N := 6) (host := RX10) hx hb hts inlX9 hown hG.1 hP 1 rfl rfl 5 (by decide) (va_Nw.use rfl (hG.2.1 (.fieldLinkNest RX10 251 RX9 "leastSum" "I" RX10) (List.mem_of_getElem? (i := 21) rfl))) (fun _ h9 => h9) rfl dX10_clash_97 ?_
      refine lv_iconst (v := (-1)) hx hb dX10_clash_100 (by decide) ?_
      refine lv_icmp_ne (tgt := 107) hx hb dX10_clash_101 (by decide) (fun c_101 => ?_) (fun c_101 => absurd c_101 (by decide))
      refine lv_iload_n hx hb dX10_clash_107 rfl (lv_at hl 4 rfl) ?_
      refine lv_iconst (v := (-1)) hx hb dX10_clash_108 (by decide) ?_
      refine lv_icmp_ne (tgt := 122) hx hb dX10_clash_109 (by decide) (fun c_109 => absurd (c_37) c_109) (fun c_109 => ?_)
      refine lv_aload_n hx hb dX10_clash_112 rfl (lv_at hl 2 rfl) ?_
      refine va_get (D := G.1) (ci := 9) (v := .ref wt) (C := RX10) (T := TX10) (N := 7) hx hb hts inlX10 hown hG.1 hP 0 rfl rfl 6 (by decide) (hts (.fieldLink RX10 48 "SwornLists" "waits" "LSwornLists$Waits;") w_32) (fun _ h9 => h9) rfl dX10_clash_113 ?_
      refine va_getN (D := G.1) (ci := 8) (v := .int 0) (C := RX9) (T := TX9) (N := 6) (host := RX10) hx hb hts inlX9 hown hG.1 hP 1 rfl rfl 5 (by decide) (va_Nw.use rfl (hG.2.1 (.fieldLinkNest RX10 251 RX9 "leastSum" "I" RX10) (List.mem_of_getElem? (i := 21) rfl))) (fun _ h9 => h9) rfl dX10_clash_116 ?_
      refine lv_goto (tgt := 138) hx hb dX10_clash_119 (by decide) ?_
      exact W.iret (v := 0) hx hb hr (fun t ht hW => ⟨⟨_, (), rfl, (by simp [c_17, c_37]), trivial⟩, hS.F ht⟩) hS.2.2 dX10_clash_138
    · refine lv_aload_n hx hb dX10_clash_40 rfl (lv_at hl 1 rfl) ?_
      refine va_get (D := G.1) (ci := 9) (v := .ref bk) (C := RX10) (T := TX10) (N := 7) hx hb hts inlX10 hown hG.1 hP 0 rfl rfl 1 (by decide) (hts (.fieldLink RX10 20 "SwornLists" "book" "LSwornLists$Book;") w_16) (fun _ h9 => h9) rfl dX10_clash_41 ?_
      refine va_getN (D := G.1) (ci := 0) (v := .ref tr) (C := RX0) (T := TX0) (N := 9) (host := RX10) hx hb hts inlX0 hown hG.1 hP 1 rfl rfl 4 (by decide) (va_Nw.use rfl (hG.2.1 (.fieldLinkNest RX10 162 RX0 "trials" "LSwornLists$Rows;" RX10) (List.mem_of_getElem? (i := 7) rfl))) (fun _ h9 => h9) rfl dX10_clash_44 ?_
      refine lv_iload_n hx hb dX10_clash_47 rfl (lv_at hl 3 rfl) ?_
      have hPc := hP.sub (ws' := [(tr, eO 5 [.int 10, .int 70, .ref tra, .int 0])]) [2] rfl
      refine rd_calli (va_runV (As := [.int a2]) (rest := []) ⟨hx, hb, hml, hown, hts⟩ (c_has0 l G tr 10 70 tra a2 ) (my_cwV hts ok_X5_has w_174 rfl rfl ⟨Nat.le_of_ble_eq_true rfl, Nat.le_of_ble_eq_true rfl⟩) ⟨rP.blind, va_recv hG.1 hPc (ci := 5) (q0 := 0) rfl rfl, fun U hU hW => ⟨rfl, by rw [hU]; exact hPc, kG.warm hW hG⟩⟩ rfl rfl hl.1 rfl (lv_room (Nat.le_of_ble_eq_true rfl)) dX10_clash_48 ⟨Nat.le_of_ble_eq_true rfl, Nat.le_of_ble_eq_true rfl⟩) (fun r hr9 => ?_)
      subst hr9
      refine lv_if_eq (tgt := 66) hx hb dX10_clash_51 (by decide) (fun c_51 => ?_) (fun c_51 => absurd (by decide) c_51)
      refine lv_iconst (v := 0) hx hb dX10_clash_66 (by decide) ?_
      refine lv_istore (lv' := [(4, .int 0), (3, .int 1), (0, .ref x), (1, .int 0), (2, .int a2)]) hx hb dX10_clash_67 hl (by decide) rfl (fun ls hl => ?_)
      refine lv_iload_n hx hb dX10_clash_69 rfl (lv_at hl 1 rfl) ?_
      refine lv_if_eq (tgt := 78) hx hb dX10_clash_70 (by decide) (fun c_70 => absurd c_70 (by decide)) (fun c_70 => ?_)
      refine lv_iload hx hb dX10_clash_73 (lv_at hl 0 rfl) ?_
      refine lv_if_ne (tgt := 81) hx hb dX10_clash_75 (by decide) (fun c_75 => absurd (by decide) c_75) (fun c_75 => ?_)
      refine lv_bipush (v := (-10)) hx hb dX10_clash_78 (by decide) ?_
      exact W.iret (v := (-10)) hx hb hr (fun t ht hW => ⟨⟨_, (), rfl, (by simp [c_17, c_37]), trivial⟩, hS.F ht⟩) hS.2.2 dX10_clash_80
set_option maxHeartbeats 4000000 in
set_option maxRecDepth 100000 in
theorem p_turn (l : Launch) (G : gW) (sz : Nat) (x : Nat) (ct : Nat) (bk : Nat) (im : Nat) (kp : Nat) (rd : Nat) (fr : Nat) (wt : Nat) (pe : Nat) (fa : Nat) (ro : Nat) (ac : Nat) (tr : Nat) (la : Nat) (tx : Nat) (hs : Nat) (sp : Nat) (vl : Nat) (tra : Nat) (roa : Nat) (pea : Nat) (aca : Nat) (a1 : Int32) (a2 : Int32)  : Met l yX10_turn (wsT yX10_turn cX10_turn 4 (some .int)) ({ frames := 3, cells := 0, slots := 0, locals := 69 }) (wP G [.ref x, .int a1, .int a2] sz [(x, eO 9 [.ref ct, .ref bk, .ref im, .ref kp, .ref rd, .ref fr, .ref wt]), (bk, eO 0 [.ref pe, .ref fa, .ref ro, .ref ac, .ref tr, .ref la, .ref tx, .int 5, .int 20]), (ct, eO 1 [.ref bk, .ref hs, .ref sp, .ref vl, .int 0]), (tr, eO 5 [.int 10, .int 70, .ref tra, .int 0]), (ro, eO 5 [.int 4, .int 3, .ref roa, .int 0]), (pe, eO 5 [.int 30, .int 4, .ref pea, .int 0]), (ac, eO 5 [.int 20, .int 3, .ref aca, .int 0])]) (va_Qi (fun (r : Int32) (_ : Unit) => r = if (inB 0 a1 3 = true) ∧ (inB 0 a2 9999 = true) then (-1) else (-2)) (fun _ _ => True) (va_A [(x, eO 9 [.ref ct, .ref bk, .ref im, .ref kp, .ref rd, .ref fr, .ref wt]), (bk, eO 0 [.ref pe, .ref fa, .ref ro, .ref ac, .ref tr, .ref la, .ref tx, .int 5, .int 20]), (ct, eO 1 [.ref bk, .ref hs, .ref sp, .ref vl, .int 0]), (tr, eO 5 [.int 10, .int 70, .ref tra, .int 0]), (ro, eO 5 [.int 4, .int 3, .ref roa, .int 0]), (pe, eO 5 [.int 30, .int 4, .ref pea, .int 0]), (ac, eO 5 [.int 20, .int 3, .ref aca, .int 0])] sz)) 0 0 (va_A [(x, eO 9 [.ref ct, .ref bk, .ref im, .ref kp, .ref rd, .ref fr, .ref wt]), (bk, eO 0 [.ref pe, .ref fa, .ref ro, .ref ac, .ref tr, .ref la, .ref tx, .int 5, .int 20]), (ct, eO 1 [.ref bk, .ref hs, .ref sp, .ref vl, .int 0]), (tr, eO 5 [.int 10, .int 70, .ref tra, .int 0]), (ro, eO 5 [.int 4, .int 3, .ref roa, .int 0]), (pe, eO 5 [.int 30, .int 4, .ref pea, .int 0]), (ac, eO 5 [.int 20, .int 3, .ref aca, .int 0])] sz) := by
  refine Met.ofW (cc := cX10_turn) (maxL := 4) (ret := (some .int)) (by decide) rfl ?_
  intro p e s m args below meth c s₁ B hml hv
  obtain ⟨rfl, hsz, hP, hG, hD0⟩ := hv
  have hx := B.exec
  have hb := B.bytes
  have hr := B.returns
  have hts := my_hts (atoms_spec (ws := wsT yX10_turn cX10_turn 4 (some .int)) B.pre)
  have hown : s.vm.findClass RX10 = some m.cls := findClass_of_methodNamed B.named
  have hlocks := B.notSynchronized
  subst hsz
  have hD := hD0.self (sz := s.heap.size)
  generalize hAe : va_A [(x, eO 9 [.ref ct, .ref bk, .ref im, .ref kp, .ref rd, .ref fr, .ref wt]), (bk, eO 0 [.ref pe, .ref fa, .ref ro, .ref ac, .ref tr, .ref la, .ref tx, .int 5, .int 20]), (ct, eO 1 [.ref bk, .ref hs, .ref sp, .ref vl, .int 0]), (tr, eO 5 [.int 10, .int 70, .ref tra, .int 0]), (ro, eO 5 [.int 4, .int 3, .ref roa, .int 0]), (pe, eO 5 [.int 30, .int 4, .ref pea, .int 0]), (ac, eO 5 [.int 20, .int 3, .ref aca, .int 0])] s.heap.size = A at hD ⊢
  have hA : ∀ q : Nat, s.heap.size ≤ q → A q := fun q h => by rw [← hAe]; exact Or.inr h
  have hS : va_S A s.heap s.heap [] := va_S.rf
  have hP : va_P G.1 vwCl [(x, eO 9 [.ref ct, .ref bk, .ref im, .ref kp, .ref rd, .ref fr, .ref wt]), (bk, eO 0 [.ref pe, .ref fa, .ref ro, .ref ac, .ref tr, .ref la, .ref tx, .int 5, .int 20]), (ct, eO 1 [.ref bk, .ref hs, .ref sp, .ref vl, .int 0]), (tr, eO 5 [.int 10, .int 70, .ref tra, .int 0]), (ro, eO 5 [.int 4, .int 3, .ref roa, .int 0]), (pe, eO 5 [.int 30, .int 4, .ref pea, .int 0]), (ac, eO 5 [.int 20, .int 3, .ref aca, .int 0])] s.heap := hP
  have hl := lv_entry ([.ref x, .int a1, .int a2]) (n := 4) (Nat.le_of_ble_eq_true rfl)
  rw [lg_entry_eq]
  generalize (lg_sl ([.ref x, .int a1, .int a2]) ++ List.replicate (4 - (lg_sl ([.ref x, .int a1, .int a2])).length) Slot.unset).toArray = ls at hl ⊢
  have hl : lv_has ls 4 [(0, .ref x), (1, .int a1), (2, .int a2)] := hl
  refine lv_iload_n hx hb dX10_turn_0 rfl (lv_at hl 1 rfl) ?_
  refine lv_iconst (v := 0) hx hb dX10_turn_1 (by decide) ?_
  refine lv_iconst (v := 3) hx hb dX10_turn_2 (by decide) ?_
  have hPc := hP.sub (ws' := []) [] rfl
  refine rd_calli (va_runS (As := [.int a1, .int 0, .int 3]) (rest := []) ⟨hx, hb, hml, hown, hts⟩ (c_within l G a1 0 3 ) (my_cwS hts ok_X10_within w_134 rfl rfl ⟨Nat.le_of_ble_eq_true rfl, Nat.le_of_ble_eq_true rfl⟩) ⟨rP.blind, fun U hU hW => ⟨rfl, by rw [hU]; exact hPc, kG.warm hW hG⟩⟩ rfl rfl hl.1 rfl (lv_room (Nat.le_of_ble_eq_true rfl)) dX10_turn_3 ⟨Nat.le_of_ble_eq_true rfl, Nat.le_of_ble_eq_true rfl⟩) (fun r hr9 => ?_)
  subst hr9
  refine my_ifeq (tgt := 16) hx hb dX10_turn_6 (by decide) (fun c_6 => ?_) (fun c_6 => ?_)
  · refine lv_bipush (v := (-2)) hx hb dX10_turn_16 (by decide) ?_
    exact W.iret (v := (-2)) hx hb hr (fun t ht hW => ⟨⟨_, (), rfl, (by simp [c_6]), trivial⟩, hS.F ht⟩) hS.2.2 dX10_turn_18
  · refine lv_iload_n hx hb dX10_turn_9 rfl (lv_at hl 2 rfl) ?_
    have hPc := hP.sub (ws' := []) [] rfl
    refine rd_calli (va_runS (As := [.int a2]) (rest := []) ⟨hx, hb, hml, hown, hts⟩ (c_isDay l G a2 ) (my_cwS hts ok_X10_isDay w_178 rfl rfl ⟨Nat.le_of_ble_eq_true rfl, Nat.le_of_ble_eq_true rfl⟩) ⟨rP.blind, fun U hU hW => ⟨rfl, by rw [hU]; exact hPc, kG.warm hW hG⟩⟩ rfl rfl hl.1 rfl (lv_room (Nat.le_of_ble_eq_true rfl)) dX10_turn_10 ⟨Nat.le_of_ble_eq_true rfl, Nat.le_of_ble_eq_true rfl⟩) (fun r hr9 => ?_)
    subst hr9
    refine my_ifne (tgt := 19) hx hb dX10_turn_13 (by decide) (fun c_13 => ?_) (fun c_13 => ?_)
    · refine lv_aload_n hx hb dX10_turn_19 rfl (lv_at hl 0 rfl) ?_
      refine va_get (D := G.1) (ci := 9) (v := .ref ct) (C := RX10) (T := TX10) (N := 7) hx hb hts inlX10 hown hG.1 hP 0 rfl rfl 0 (by decide) (hts (.fieldLink RX10 12 "SwornLists" "court" "LSwornLists$Court;") w_15) (fun _ h9 => h9) rfl dX10_turn_20 ?_
      have hPc := hP.sub (ws' := [(ct, eO 1 [.ref bk, .ref hs, .ref sp, .ref vl, .int 0]), (bk, eO 0 [.ref pe, .ref fa, .ref ro, .ref ac, .ref tr, .ref la, .ref tx, .int 5, .int 20]), (tr, eO 5 [.int 10, .int 70, .ref tra, .int 0])]) [2, 1, 3] rfl
      have hDc := hD.sub (ws' := [(ct, eO 1 [.ref bk, .ref hs, .ref sp, .ref vl, .int 0]), (bk, eO 0 [.ref pe, .ref fa, .ref ro, .ref ac, .ref tr, .ref la, .ref tx, .int 5, .int 20]), (tr, eO 5 [.int 10, .int 70, .ref tra, .int 0])]) [2, 1, 3] (by decide) rfl
      have hFc := va_free (wc := [(ct, eO 1 [.ref bk, .ref hs, .ref sp, .ref vl, .int 0]), (bk, eO 0 [.ref pe, .ref fa, .ref ro, .ref ac, .ref tr, .ref la, .ref tx, .int 5, .int 20]), (tr, eO 5 [.int 10, .int 70, .ref tra, .int 0])]) hD hS hA [2, 1, 3] rfl
      refine va_callv (va_runV (As := []) (rest := []) ⟨hx, hb, hml, hown, hts⟩ (c_settle0 l G s.heap.size ct bk hs sp vl pe fa ro ac tr la tx tra ) (my_cwV hts ok_X1_settle w_384 rfl rfl ⟨Nat.le_of_ble_eq_true rfl, Nat.le_of_ble_eq_true rfl⟩) ⟨wP.blind, va_recv hG.1 hPc (ci := 1) (q0 := 0) rfl rfl, fun U hU hW => ⟨rfl, by rw [hU], by rw [hU]; exact hPc, kG.warm hW hG, hDc.weaken (fun _ _ _ _ => trivial)⟩⟩ rfl rfl hl.1 rfl (lv_room (Nat.le_of_ble_eq_true rfl)) dX10_turn_23 ⟨Nat.le_of_ble_eq_true rfl, Nat.le_of_ble_eq_true rfl⟩) hS (fun q _ h => hFc q h) hFc (fun u t H1 locs ht hvm hw hB hz1 hk1 hS => ?_)
      obtain ⟨hP1, hD1⟩ := hB
      rw [ht] at hP1
      try dsimp only at hw
      obtain ⟨hP, hD⟩ := va_join (wr := [(x, eO 9 [.ref ct, .ref bk, .ref im, .ref kp, .ref rd, .ref fr, .ref wt]), (ro, eO 5 [.int 4, .int 3, .ref roa, .int 0]), (pe, eO 5 [.int 30, .int 4, .ref pea, .int 0]), (ac, eO 5 [.int 20, .int 3, .ref aca, .int 0])]) (w1 := [(ct, eO 1 [.ref bk, .ref hs, .ref sp, .ref vl, .int 0]), (bk, eO 0 [.ref pe, .ref fa, .ref ro, .ref ac, .ref tr, .ref la, .ref tx, .int 5, .int 20]), (tr, eO 5 [.int 10, .int 70, .ref tra, .int 0])]) hP hD [2, 1, 3] [0, 4, 5, 6] rfl rfl (by decide) (by decide) hk1 hFc hP1 hD1
      generalize H1 = H at hP hS ⊢
      have hP : va_P G.1 vwCl [(x, eO 9 [.ref ct, .ref bk, .ref im, .ref kp, .ref rd, .ref fr, .ref wt]), (ro, eO 5 [.int 4, .int 3, .ref roa, .int 0]), (pe, eO 5 [.int 30, .int 4, .ref pea, .int 0]), (ac, eO 5 [.int 20, .int 3, .ref aca, .int 0]), (ct, eO 1 [.ref bk, .ref hs, .ref sp, .ref vl, .int 0]), (bk, eO 0 [.ref pe, .ref fa, .ref ro, .ref ac, .ref tr, .ref la, .ref tx, .int 5, .int 20]), (tr, eO 5 [.int 10, .int 70, .ref tra, .int 0])] H := hP
      have hD : va_D A [(x, eO 9 [.ref ct, .ref bk, .ref im, .ref kp, .ref rd, .ref fr, .ref wt]), (ro, eO 5 [.int 4, .int 3, .ref roa, .int 0]), (pe, eO 5 [.int 30, .int 4, .ref pea, .int 0]), (ac, eO 5 [.int 20, .int 3, .ref aca, .int 0]), (ct, eO 1 [.ref bk, .ref hs, .ref sp, .ref vl, .int 0]), (bk, eO 0 [.ref pe, .ref fa, .ref ro, .ref ac, .ref tr, .ref la, .ref tx, .int 5, .int 20]), (tr, eO 5 [.int 10, .int 70, .ref tra, .int 0])] := hD
      refine lv_aload_n hx hb dX10_turn_26 rfl (lv_at hl 0 rfl) ?_
      refine va_get (D := G.1) (ci := 9) (v := .ref bk) (C := RX10) (T := TX10) (N := 7) hx hb hts inlX10 hown hG.1 hP 0 rfl rfl 1 (by decide) (hts (.fieldLink RX10 20 "SwornLists" "book" "LSwornLists$Book;") w_16) (fun _ h9 => h9) rfl dX10_turn_27 ?_
      refine lv_iload_n hx hb dX10_turn_30 rfl (lv_at hl 2 rfl) ?_
      have hPc := hP.sub (ws' := [(bk, eO 0 [.ref pe, .ref fa, .ref ro, .ref ac, .ref tr, .ref la, .ref tx, .int 5, .int 20]), (ro, eO 5 [.int 4, .int 3, .ref roa, .int 0]), (pe, eO 5 [.int 30, .int 4, .ref pea, .int 0])]) [5, 1, 2] rfl
      refine rd_calli (va_runV (As := [.int a2]) (rest := []) ⟨hx, hb, hml, hown, hts⟩ (c_listedOn0 l G bk pe fa ro ac tr la tx roa pea a2 ) (my_cwV hts ok_X0_listedOn w_221 rfl rfl ⟨Nat.le_of_ble_eq_true rfl, Nat.le_of_ble_eq_true rfl⟩) ⟨rP.blind, va_recv hG.1 hPc (ci := 0) (q0 := 0) rfl rfl, fun U hU hW => ⟨rfl, by rw [hU]; exact hPc, kG.warm hW hG⟩⟩ rfl rfl hl.1 rfl (lv_room (Nat.le_of_ble_eq_true rfl)) dX10_turn_31 ⟨Nat.le_of_ble_eq_true rfl, Nat.le_of_ble_eq_true rfl⟩) (fun r hr9 => ?_)
      subst hr9
      refine lv_aload_n hx hb dX10_turn_34 rfl (lv_at hl 0 rfl) ?_
      refine va_get (D := G.1) (ci := 9) (v := .ref bk) (C := RX10) (T := TX10) (N := 7) hx hb hts inlX10 hown hG.1 hP 0 rfl rfl 1 (by decide) (hts (.fieldLink RX10 20 "SwornLists" "book" "LSwornLists$Book;") w_16) (fun _ h9 => h9) rfl dX10_turn_35 ?_
      refine lv_iconst (v := 0) hx hb dX10_turn_38 (by decide) ?_
      refine lv_iload_n hx hb dX10_turn_39 rfl (lv_at hl 1 rfl) ?_
      have hPc := hP.sub (ws' := [(bk, eO 0 [.ref pe, .ref fa, .ref ro, .ref ac, .ref tr, .ref la, .ref tx, .int 5, .int 20]), (pe, eO 5 [.int 30, .int 4, .ref pea, .int 0])]) [5, 2] rfl
      refine rd_calli (va_runV (As := [.int 0, .int a1]) (rest := [.int 0]) ⟨hx, hb, hml, hown, hts⟩ (c_peopleWith0 l G bk pe fa ro ac tr la tx pea 0 a1 ) (my_cwV hts ok_X0_peopleWith w_791 rfl rfl ⟨Nat.le_of_ble_eq_true rfl, Nat.le_of_ble_eq_true rfl⟩) ⟨rP.blind, va_recv hG.1 hPc (ci := 0) (q0 := 0) rfl rfl, fun U hU hW => ⟨rfl, by rw [hU]; exact hPc, kG.warm hW hG⟩⟩ rfl rfl hl.1 rfl (lv_room (Nat.le_of_ble_eq_true rfl)) dX10_turn_40 ⟨Nat.le_of_ble_eq_true rfl, Nat.le_of_ble_eq_true rfl⟩) (fun r hr9 => ?_)
      subst hr9
      refine lv_iand hx hb dX10_turn_43 ?_
      refine my_bei (v := 0) (by decide) ?_
      refine lv_istore_n (lv' := [(3, .int 0), (0, .ref x), (1, .int a1), (2, .int a2)]) hx hb dX10_turn_44 rfl hl (by decide) rfl (fun ls hl => ?_)
      refine lv_aload_n hx hb dX10_turn_45 rfl (lv_at hl 1 rfl) ?_
      refine va_get (D := G.1) (ci := 9) (v := .ref ct) (C := RX10) (T := TX10) (N := 7) hx hb hts inlX10 hown hG.1 hP 0 rfl rfl 0 (by decide) (hts (.fieldLink RX10 12 "SwornLists" "court" "LSwornLists$Court;") w_15) (fun _ h9 => h9) rfl dX10_turn_46 ?_
      refine lv_aload_n hx hb dX10_turn_49 rfl (lv_at hl 1 rfl) ?_
      refine va_get (D := G.1) (ci := 9) (v := .ref ct) (C := RX10) (T := TX10) (N := 7) hx hb hts inlX10 hown hG.1 hP 0 rfl rfl 0 (by decide) (hts (.fieldLink RX10 12 "SwornLists" "court" "LSwornLists$Court;") w_15) (fun _ h9 => h9) rfl dX10_turn_50 ?_
      refine lv_aload_n hx hb dX10_turn_53 rfl (lv_at hl 1 rfl) ?_
      refine va_get (D := G.1) (ci := 9) (v := .ref bk) (C := RX10) (T := TX10) (N := 7) hx hb hts inlX10 hown hG.1 hP 0 rfl rfl 1 (by decide) (hts (.fieldLink RX10 20 "SwornLists" "book" "LSwornLists$Book;") w_16) (fun _ h9 => h9) rfl dX10_turn_54 ?_
      refine lv_iconst (v := 0) hx hb dX10_turn_57 (by decide) ?_
      refine lv_iload_n hx hb dX10_turn_58 rfl (lv_at hl 3 rfl) ?_
      have hPc := hP.sub (ws' := [(bk, eO 0 [.ref pe, .ref fa, .ref ro, .ref ac, .ref tr, .ref la, .ref tx, .int 5, .int 20]), (ac, eO 5 [.int 20, .int 3, .ref aca, .int 0])]) [5, 3] rfl
      refine rd_calla (va_runV (As := [.int 0, .int a2]) (rest := [.ref ct, .ref ct]) ⟨hx, hb, hml, hown, hts⟩ (c_lawOf0 l G bk pe fa ro ac tr la tx aca 0 a2 ) (my_cwV hts ok_X0_lawOf w_628 rfl rfl ⟨Nat.le_of_ble_eq_true rfl, Nat.le_of_ble_eq_true rfl⟩) ⟨rP.blind, va_recv hG.1 hPc (ci := 0) (q0 := 0) rfl rfl, fun U hU hW => ⟨rfl, by rw [hU]; exact hPc, kG.warm hW hG⟩⟩ rfl rfl hl.1 rfl (lv_room (Nat.le_of_ble_eq_true rfl)) dX10_turn_59 ⟨Nat.le_of_ble_eq_true rfl, Nat.le_of_ble_eq_true rfl⟩) (fun r hr9 => ?_)
      subst hr9
      refine lv_iconst (v := 0) hx hb dX10_turn_62 (by decide) ?_
      refine lv_iload_n hx hb dX10_turn_63 rfl (lv_at hl 3 rfl) ?_
      refine lv_iload_n hx hb dX10_turn_64 rfl (lv_at hl 0 rfl) ?_
      have hPc := hP.sub (ws' := [(ct, eO 1 [.ref bk, .ref hs, .ref sp, .ref vl, .int 0])]) [4] rfl
      refine rd_calli (va_runV (As := [.null, .int 0, .int a2, .int 0]) (rest := [.ref ct]) ⟨hx, hb, hml, hown, hts⟩ (c_truths0 l G ct bk hs sp vl a2 0 ) (my_cwV hts ok_X1_truths w_629 rfl rfl ⟨Nat.le_of_ble_eq_true rfl, Nat.le_of_ble_eq_true rfl⟩) ⟨rP.blind, va_recv hG.1 hPc (ci := 1) (q0 := 0) rfl rfl, fun U hU hW => ⟨rfl, by rw [hU]; exact hPc, kG.warm hW hG⟩⟩ rfl rfl hl.1 rfl (lv_room (Nat.le_of_ble_eq_true rfl)) dX10_turn_65 ⟨Nat.le_of_ble_eq_true rfl, Nat.le_of_ble_eq_true rfl⟩) (fun r hr9 => ?_)
      subst hr9
      refine lv_iload_n hx hb dX10_turn_68 rfl (lv_at hl 3 rfl) ?_
      have hPc := hP.sub (ws' := [(ct, eO 1 [.ref bk, .ref hs, .ref sp, .ref vl, .int 0]), (bk, eO 0 [.ref pe, .ref fa, .ref ro, .ref ac, .ref tr, .ref la, .ref tx, .int 5, .int 20]), (pe, eO 5 [.int 30, .int 4, .ref pea, .int 0])]) [4, 5, 2] rfl
      refine rd_calli (va_runV (As := [.int 0, .int a2]) (rest := []) ⟨hx, hb, hml, hown, hts⟩ (c_nextInTurn0 l G ct bk hs sp vl pe fa ro ac tr la tx pea 0 a2 ) (my_cwV hts ok_X1_nextInTurn w_875 rfl rfl ⟨Nat.le_of_ble_eq_true rfl, Nat.le_of_ble_eq_true rfl⟩) ⟨rP.blind, va_recv hG.1 hPc (ci := 1) (q0 := 0) rfl rfl, fun U hU hW => ⟨rfl, by rw [hU]; exact hPc, kG.warm hW hG⟩⟩ rfl rfl hl.1 rfl (lv_room (Nat.le_of_ble_eq_true rfl)) dX10_turn_69 ⟨Nat.le_of_ble_eq_true rfl, Nat.le_of_ble_eq_true rfl⟩) (fun r hr9 => ?_)
      subst hr9
      exact W.iret (v := (-1)) hx hb hr (fun t ht hW => ⟨⟨_, (), rfl, (by simp [c_6, c_13]), trivial⟩, hS.F ht⟩) hS.2.2 dX10_turn_72
    · refine lv_bipush (v := (-2)) hx hb dX10_turn_16 (by decide) ?_
      exact W.iret (v := (-2)) hx hb hr (fun t ht hW => ⟨⟨_, (), rfl, (by simp [c_6, c_13]), trivial⟩, hS.F ht⟩) hS.2.2 dX10_turn_18
set_option maxHeartbeats 4000000 in
set_option maxRecDepth 100000 in
theorem p_from (l : Launch) (G : gW) (x : Nat) (ct : Nat) (bk : Nat) (im : Nat) (kp : Nat) (rd : Nat) (fr : Nat) (wt : Nat) (a1 : Int32)  : Met l yX10_from (wsT yX10_from cX10_from 2 (some .int)) ({ frames := 1, cells := 0, slots := 0, locals := 22 }) (rP G [.ref x, .int a1] [(x, eO 9 [.ref ct, .ref bk, .ref im, .ref kp, .ref rd, .ref fr, .ref wt]), (kp, eZ G 2 (fun _ => 0))]) (rQi (fun r => r = if inB 0 a1 1 = true then (-3) else (-2))) 0 0 fr0 := by
  refine Met.ofW (cc := cX10_from) (maxL := 2) (ret := (some .int)) (by decide) rfl ?_
  intro p e s m args below meth c s₁ B hml hv
  obtain ⟨rfl, hP, hG⟩ := hv
  have hx := B.exec
  have hb := B.bytes
  have hr := B.returns
  have hts := my_hts (atoms_spec (ws := wsT yX10_from cX10_from 2 (some .int)) B.pre)
  have hown : s.vm.findClass RX10 = some m.cls := findClass_of_methodNamed B.named
  have hlocks := B.notSynchronized
  have hP : va_P G.1 vwCl [(x, eO 9 [.ref ct, .ref bk, .ref im, .ref kp, .ref rd, .ref fr, .ref wt]), (kp, eZ G 2 (fun _ => 0))] s.heap := hP
  have hl := lv_entry ([.ref x, .int a1]) (n := 2) (Nat.le_of_ble_eq_true rfl)
  rw [lg_entry_eq]
  generalize (lg_sl ([.ref x, .int a1]) ++ List.replicate (2 - (lg_sl ([.ref x, .int a1])).length) Slot.unset).toArray = ls at hl ⊢
  have hl : lv_has ls 2 [(0, .ref x), (1, .int a1)] := hl
  refine lv_iload_n hx hb dX10_from_0 rfl (lv_at hl 1 rfl) ?_
  refine lv_iconst (v := 0) hx hb dX10_from_1 (by decide) ?_
  refine lv_iconst (v := 1) hx hb dX10_from_2 (by decide) ?_
  have hPc := hP.sub (ws' := []) [] rfl
  refine rd_calli (va_runS (As := [.int a1, .int 0, .int 1]) (rest := []) ⟨hx, hb, hml, hown, hts⟩ (c_within l G a1 0 1 ) (my_cwS hts ok_X10_within w_134 rfl rfl ⟨Nat.le_of_ble_eq_true rfl, Nat.le_of_ble_eq_true rfl⟩) ⟨rP.blind, fun U hU hW => ⟨rfl, by rw [hU]; exact hPc, kG.warm hW hG⟩⟩ rfl rfl hl.1 rfl (lv_room (Nat.le_of_ble_eq_true rfl)) dX10_from_3 ⟨Nat.le_of_ble_eq_true rfl, Nat.le_of_ble_eq_true rfl⟩) (fun r hr9 => ?_)
  subst hr9
  refine my_ifne (tgt := 12) hx hb dX10_from_6 (by decide) (fun c_6 => ?_) (fun c_6 => ?_)
  · rcases (inB_01.mp c_6) with e9 | e9
    · subst e9
      refine lv_aload_n hx hb dX10_from_12 rfl (lv_at hl 0 rfl) ?_
      refine va_get (D := G.1) (ci := 9) (v := .ref kp) (C := RX10) (T := TX10) (N := 7) hx hb hts inlX10 hown hG.1 hP 0 rfl rfl 3 (by decide) (hts (.fieldLink RX10 27 "SwornLists" "kept" "[Z") w_20) (fun _ h9 => h9) rfl dX10_from_13 ?_
      refine lv_iload_n hx hb dX10_from_16 rfl (lv_at hl 1 rfl) ?_
      refine va_zald hx hb hG.1 hP 1 2 rfl rfl (by unfold vp_in; decide) dX10_from_17 ?_
      refine my_bei (v := 0) (by first | rfl | decide) ?_
      refine lv_if_ne (tgt := 24) hx hb dX10_from_18 (by decide) (fun c_18 => absurd (by decide) c_18) (fun c_18 => ?_)
      refine lv_bipush (v := (-3)) hx hb dX10_from_21 (by decide) ?_
      exact W.iret (v := (-3)) hx hb hr (fun t ht hW => ⟨_, rfl, (by simp [c_6]), ht⟩) (fun _ h => absurd h List.not_mem_nil) dX10_from_23
    · subst e9
      refine lv_aload_n hx hb dX10_from_12 rfl (lv_at hl 0 rfl) ?_
      refine va_get (D := G.1) (ci := 9) (v := .ref kp) (C := RX10) (T := TX10) (N := 7) hx hb hts inlX10 hown hG.1 hP 0 rfl rfl 3 (by decide) (hts (.fieldLink RX10 27 "SwornLists" "kept" "[Z") w_20) (fun _ h9 => h9) rfl dX10_from_13 ?_
      refine lv_iload_n hx hb dX10_from_16 rfl (lv_at hl 1 rfl) ?_
      refine va_zald hx hb hG.1 hP 1 2 rfl rfl (by unfold vp_in; decide) dX10_from_17 ?_
      refine my_bei (v := 0) (by first | rfl | decide) ?_
      refine lv_if_ne (tgt := 24) hx hb dX10_from_18 (by decide) (fun c_18 => absurd (by decide) c_18) (fun c_18 => ?_)
      refine lv_bipush (v := (-3)) hx hb dX10_from_21 (by decide) ?_
      exact W.iret (v := (-3)) hx hb hr (fun t ht hW => ⟨_, rfl, (by simp [c_6]), ht⟩) (fun _ h => absurd h List.not_mem_nil) dX10_from_23
  · refine lv_bipush (v := (-2)) hx hb dX10_from_9 (by decide) ?_
    exact W.iret (v := (-2)) hx hb hr (fun t ht hW => ⟨_, rfl, (by simp [c_6]), ht⟩) (fun _ h => absurd h List.not_mem_nil) dX10_from_11
set_option maxHeartbeats 4000000 in
set_option maxRecDepth 100000 in
theorem p_count (l : Launch) (G : gW) (sz : Nat) (x : Nat) (ct : Nat) (bk : Nat) (im : Nat) (kp : Nat) (rd : Nat) (fr : Nat) (wt : Nat) (pe : Nat) (fa : Nat) (ro : Nat) (ac : Nat) (tr : Nat) (la : Nat) (tx : Nat) (pea : Nat) (faa : Nat) (roa : Nat) (aca : Nat) (tra : Nat) (hs : Nat) (sp : Nat) (vl : Nat) (a1 : Int32)  : Met l yX10_count (wsT yX10_count cX10_count 2 (some .int)) ({ frames := 3, cells := 0, slots := 0, locals := 63 }) (wP G [.ref x, .int a1] sz [(x, eO 9 [.ref ct, .ref bk, .ref im, .ref kp, .ref rd, .ref fr, .ref wt]), (bk, eO 0 [.ref pe, .ref fa, .ref ro, .ref ac, .ref tr, .ref la, .ref tx, .int 5, .int 20]), (pe, eO 5 [.int 30, .int 4, .ref pea, .int 0]), (fa, eO 5 [.int 40, .int 3, .ref faa, .int 0]), (ro, eO 5 [.int 4, .int 3, .ref roa, .int 0]), (ac, eO 5 [.int 20, .int 3, .ref aca, .int 0]), (tr, eO 5 [.int 10, .int 70, .ref tra, .int 0]), (ct, eO 1 [.ref bk, .ref hs, .ref sp, .ref vl, .int 0])]) (va_Qi (fun (r : Int32) (_ : Unit) => r = if inB 0 a1 5 = true then 0 else (-2)) (fun _ _ => True) (va_A [(x, eO 9 [.ref ct, .ref bk, .ref im, .ref kp, .ref rd, .ref fr, .ref wt]), (bk, eO 0 [.ref pe, .ref fa, .ref ro, .ref ac, .ref tr, .ref la, .ref tx, .int 5, .int 20]), (pe, eO 5 [.int 30, .int 4, .ref pea, .int 0]), (fa, eO 5 [.int 40, .int 3, .ref faa, .int 0]), (ro, eO 5 [.int 4, .int 3, .ref roa, .int 0]), (ac, eO 5 [.int 20, .int 3, .ref aca, .int 0]), (tr, eO 5 [.int 10, .int 70, .ref tra, .int 0]), (ct, eO 1 [.ref bk, .ref hs, .ref sp, .ref vl, .int 0])] sz)) 0 0 (va_A [(x, eO 9 [.ref ct, .ref bk, .ref im, .ref kp, .ref rd, .ref fr, .ref wt]), (bk, eO 0 [.ref pe, .ref fa, .ref ro, .ref ac, .ref tr, .ref la, .ref tx, .int 5, .int 20]), (pe, eO 5 [.int 30, .int 4, .ref pea, .int 0]), (fa, eO 5 [.int 40, .int 3, .ref faa, .int 0]), (ro, eO 5 [.int 4, .int 3, .ref roa, .int 0]), (ac, eO 5 [.int 20, .int 3, .ref aca, .int 0]), (tr, eO 5 [.int 10, .int 70, .ref tra, .int 0]), (ct, eO 1 [.ref bk, .ref hs, .ref sp, .ref vl, .int 0])] sz) := by
  refine Met.ofW (cc := cX10_count) (maxL := 2) (ret := (some .int)) (by decide) rfl ?_
  intro p e s m args below meth c s₁ B hml hv
  obtain ⟨rfl, hsz, hP, hG, hD0⟩ := hv
  have hx := B.exec
  have hb := B.bytes
  have hr := B.returns
  have hts := my_hts (atoms_spec (ws := wsT yX10_count cX10_count 2 (some .int)) B.pre)
  have hown : s.vm.findClass RX10 = some m.cls := findClass_of_methodNamed B.named
  have hlocks := B.notSynchronized
  subst hsz
  have hD := hD0.self (sz := s.heap.size)
  generalize hAe : va_A [(x, eO 9 [.ref ct, .ref bk, .ref im, .ref kp, .ref rd, .ref fr, .ref wt]), (bk, eO 0 [.ref pe, .ref fa, .ref ro, .ref ac, .ref tr, .ref la, .ref tx, .int 5, .int 20]), (pe, eO 5 [.int 30, .int 4, .ref pea, .int 0]), (fa, eO 5 [.int 40, .int 3, .ref faa, .int 0]), (ro, eO 5 [.int 4, .int 3, .ref roa, .int 0]), (ac, eO 5 [.int 20, .int 3, .ref aca, .int 0]), (tr, eO 5 [.int 10, .int 70, .ref tra, .int 0]), (ct, eO 1 [.ref bk, .ref hs, .ref sp, .ref vl, .int 0])] s.heap.size = A at hD ⊢
  have hA : ∀ q : Nat, s.heap.size ≤ q → A q := fun q h => by rw [← hAe]; exact Or.inr h
  have hS : va_S A s.heap s.heap [] := va_S.rf
  have hP : va_P G.1 vwCl [(x, eO 9 [.ref ct, .ref bk, .ref im, .ref kp, .ref rd, .ref fr, .ref wt]), (bk, eO 0 [.ref pe, .ref fa, .ref ro, .ref ac, .ref tr, .ref la, .ref tx, .int 5, .int 20]), (pe, eO 5 [.int 30, .int 4, .ref pea, .int 0]), (fa, eO 5 [.int 40, .int 3, .ref faa, .int 0]), (ro, eO 5 [.int 4, .int 3, .ref roa, .int 0]), (ac, eO 5 [.int 20, .int 3, .ref aca, .int 0]), (tr, eO 5 [.int 10, .int 70, .ref tra, .int 0]), (ct, eO 1 [.ref bk, .ref hs, .ref sp, .ref vl, .int 0])] s.heap := hP
  have hl := lv_entry ([.ref x, .int a1]) (n := 2) (Nat.le_of_ble_eq_true rfl)
  rw [lg_entry_eq]
  generalize (lg_sl ([.ref x, .int a1]) ++ List.replicate (2 - (lg_sl ([.ref x, .int a1])).length) Slot.unset).toArray = ls at hl ⊢
  have hl : lv_has ls 2 [(0, .ref x), (1, .int a1)] := hl
  refine lv_iload_n hx hb dX10_count_0 rfl (lv_at hl 1 rfl) ?_
  refine lv_iconst (v := 0) hx hb dX10_count_1 (by decide) ?_
  refine lv_iconst (v := 5) hx hb dX10_count_2 (by decide) ?_
  have hPc := hP.sub (ws' := []) [] rfl
  refine rd_calli (va_runS (As := [.int a1, .int 0, .int 5]) (rest := []) ⟨hx, hb, hml, hown, hts⟩ (c_within l G a1 0 5 ) (my_cwS hts ok_X10_within w_134 rfl rfl ⟨Nat.le_of_ble_eq_true rfl, Nat.le_of_ble_eq_true rfl⟩) ⟨rP.blind, fun U hU hW => ⟨rfl, by rw [hU]; exact hPc, kG.warm hW hG⟩⟩ rfl rfl hl.1 rfl (lv_room (Nat.le_of_ble_eq_true rfl)) dX10_count_3 ⟨Nat.le_of_ble_eq_true rfl, Nat.le_of_ble_eq_true rfl⟩) (fun r hr9 => ?_)
  subst hr9
  refine my_ifne (tgt := 12) hx hb dX10_count_6 (by decide) (fun c_6 => ?_) (fun c_6 => ?_)
  · refine lv_aload_n hx hb dX10_count_12 rfl (lv_at hl 0 rfl) ?_
    refine va_get (D := G.1) (ci := 9) (v := .ref ct) (C := RX10) (T := TX10) (N := 7) hx hb hts inlX10 hown hG.1 hP 0 rfl rfl 0 (by decide) (hts (.fieldLink RX10 12 "SwornLists" "court" "LSwornLists$Court;") w_15) (fun _ h9 => h9) rfl dX10_count_13 ?_
    have hPc := hP.sub (ws' := [(ct, eO 1 [.ref bk, .ref hs, .ref sp, .ref vl, .int 0]), (bk, eO 0 [.ref pe, .ref fa, .ref ro, .ref ac, .ref tr, .ref la, .ref tx, .int 5, .int 20]), (tr, eO 5 [.int 10, .int 70, .ref tra, .int 0])]) [7, 1, 6] rfl
    have hDc := hD.sub (ws' := [(ct, eO 1 [.ref bk, .ref hs, .ref sp, .ref vl, .int 0]), (bk, eO 0 [.ref pe, .ref fa, .ref ro, .ref ac, .ref tr, .ref la, .ref tx, .int 5, .int 20]), (tr, eO 5 [.int 10, .int 70, .ref tra, .int 0])]) [7, 1, 6] (by decide) rfl
    have hFc := va_free (wc := [(ct, eO 1 [.ref bk, .ref hs, .ref sp, .ref vl, .int 0]), (bk, eO 0 [.ref pe, .ref fa, .ref ro, .ref ac, .ref tr, .ref la, .ref tx, .int 5, .int 20]), (tr, eO 5 [.int 10, .int 70, .ref tra, .int 0])]) hD hS hA [7, 1, 6] rfl
    refine va_callv (va_runV (As := []) (rest := []) ⟨hx, hb, hml, hown, hts⟩ (c_settle0 l G s.heap.size ct bk hs sp vl pe fa ro ac tr la tx tra ) (my_cwV hts ok_X1_settle w_384 rfl rfl ⟨Nat.le_of_ble_eq_true rfl, Nat.le_of_ble_eq_true rfl⟩) ⟨wP.blind, va_recv hG.1 hPc (ci := 1) (q0 := 0) rfl rfl, fun U hU hW => ⟨rfl, by rw [hU], by rw [hU]; exact hPc, kG.warm hW hG, hDc.weaken (fun _ _ _ _ => trivial)⟩⟩ rfl rfl hl.1 rfl (lv_room (Nat.le_of_ble_eq_true rfl)) dX10_count_16 ⟨Nat.le_of_ble_eq_true rfl, Nat.le_of_ble_eq_true rfl⟩) hS (fun q _ h => hFc q h) hFc (fun u t H1 locs ht hvm hw hB hz1 hk1 hS => ?_)
    obtain ⟨hP1, hD1⟩ := hB
    rw [ht] at hP1
    try dsimp only at hw
    obtain ⟨hP, hD⟩ := va_join (wr := [(x, eO 9 [.ref ct, .ref bk, .ref im, .ref kp, .ref rd, .ref fr, .ref wt]), (pe, eO 5 [.int 30, .int 4, .ref pea, .int 0]), (fa, eO 5 [.int 40, .int 3, .ref faa, .int 0]), (ro, eO 5 [.int 4, .int 3, .ref roa, .int 0]), (ac, eO 5 [.int 20, .int 3, .ref aca, .int 0])]) (w1 := [(ct, eO 1 [.ref bk, .ref hs, .ref sp, .ref vl, .int 0]), (bk, eO 0 [.ref pe, .ref fa, .ref ro, .ref ac, .ref tr, .ref la, .ref tx, .int 5, .int 20]), (tr, eO 5 [.int 10, .int 70, .ref tra, .int 0])]) hP hD [7, 1, 6] [0, 2, 3, 4, 5] rfl rfl (by decide) (by decide) hk1 hFc hP1 hD1
    generalize H1 = H at hP hS ⊢
    have hP : va_P G.1 vwCl [(x, eO 9 [.ref ct, .ref bk, .ref im, .ref kp, .ref rd, .ref fr, .ref wt]), (pe, eO 5 [.int 30, .int 4, .ref pea, .int 0]), (fa, eO 5 [.int 40, .int 3, .ref faa, .int 0]), (ro, eO 5 [.int 4, .int 3, .ref roa, .int 0]), (ac, eO 5 [.int 20, .int 3, .ref aca, .int 0]), (ct, eO 1 [.ref bk, .ref hs, .ref sp, .ref vl, .int 0]), (bk, eO 0 [.ref pe, .ref fa, .ref ro, .ref ac, .ref tr, .ref la, .ref tx, .int 5, .int 20]), (tr, eO 5 [.int 10, .int 70, .ref tra, .int 0])] H := hP
    have hD : va_D A [(x, eO 9 [.ref ct, .ref bk, .ref im, .ref kp, .ref rd, .ref fr, .ref wt]), (pe, eO 5 [.int 30, .int 4, .ref pea, .int 0]), (fa, eO 5 [.int 40, .int 3, .ref faa, .int 0]), (ro, eO 5 [.int 4, .int 3, .ref roa, .int 0]), (ac, eO 5 [.int 20, .int 3, .ref aca, .int 0]), (ct, eO 1 [.ref bk, .ref hs, .ref sp, .ref vl, .int 0]), (bk, eO 0 [.ref pe, .ref fa, .ref ro, .ref ac, .ref tr, .ref la, .ref tx, .int 5, .int 20]), (tr, eO 5 [.int 10, .int 70, .ref tra, .int 0])] := hD
    refine lv_aload_n hx hb dX10_count_19 rfl (lv_at hl 0 rfl) ?_
    refine lv_iload_n hx hb dX10_count_20 rfl (lv_at hl 1 rfl) ?_
    have hPc := hP.sub (ws' := [(x, eO 9 [.ref ct, .ref bk, .ref im, .ref kp, .ref rd, .ref fr, .ref wt]), (bk, eO 0 [.ref pe, .ref fa, .ref ro, .ref ac, .ref tr, .ref la, .ref tx, .int 5, .int 20]), (pe, eO 5 [.int 30, .int 4, .ref pea, .int 0]), (fa, eO 5 [.int 40, .int 3, .ref faa, .int 0]), (ro, eO 5 [.int 4, .int 3, .ref roa, .int 0]), (ac, eO 5 [.int 20, .int 3, .ref aca, .int 0]), (tr, eO 5 [.int 10, .int 70, .ref tra, .int 0]), (ct, eO 1 [.ref bk, .ref hs, .ref sp, .ref vl, .int 0])]) [0, 6, 1, 2, 3, 4, 7, 5] rfl
    refine rd_calli (va_runV (As := [.int a1]) (rest := []) ⟨hx, hb, hml, hown, hts⟩ (c_howMany0 l G x ct bk im kp rd fr wt pe fa ro ac tr la tx pea faa roa aca tra hs sp vl a1 ) (my_cwV hts ok_X10_howMany w_926 rfl rfl ⟨Nat.le_of_ble_eq_true rfl, Nat.le_of_ble_eq_true rfl⟩) ⟨rP.blind, va_recv hG.1 hPc (ci := 9) (q0 := 0) rfl rfl, fun U hU hW => ⟨rfl, by rw [hU]; exact hPc, kG.warm hW hG⟩⟩ rfl rfl hl.1 rfl (lv_room (Nat.le_of_ble_eq_true rfl)) dX10_count_21 ⟨Nat.le_of_ble_eq_true rfl, Nat.le_of_ble_eq_true rfl⟩) (fun r hr9 => ?_)
    subst hr9
    exact W.iret (v := 0) hx hb hr (fun t ht hW => ⟨⟨_, (), rfl, (by simp [c_6]), trivial⟩, hS.F ht⟩) hS.2.2 dX10_count_24
  · refine lv_bipush (v := (-2)) hx hb dX10_count_9 (by decide) ?_
    exact W.iret (v := (-2)) hx hb hr (fun t ht hW => ⟨⟨_, (), rfl, (by simp [c_6]), trivial⟩, hS.F ht⟩) hS.2.2 dX10_count_11

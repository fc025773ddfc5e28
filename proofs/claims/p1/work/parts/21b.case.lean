set_option maxHeartbeats 4000000 in
set_option maxRecDepth 100000 in
theorem law_8 {p : Program} {e : Env} {s : State} {m : MethodId} {below : List Frame} {meth : Method} {c : Code} (l : Launch) {b : Nat} {xs : Nat → Int32} (G : gW) (C0 : lw_At p s m meth c b 10 xs) (hG : kG G s) {x mo : Nat} {g h : Nat → Nat} {H : Heap} {locs : List Loc} {ls : Array Slot} (hP : va_P G.1 vwCl (lwW G x g mo h) H) (hD : va_D (fun q : Nat => s.heap.size ≤ q) (lwW G x g mo h)) (hS : va_S (fun q : Nat => s.heap.size ≤ q) s.heap H locs) (hl : lv_has ls 4 [(0, .ref b), (1, .ref x), (2, .ref mo), (3, .int 0)]) : W p l e room_1 s m #[Value.ref b] below meth c H locs 333 19609 (lw_Z below #[Value.ref b] s) (F0 m 465 ls []) := by
  obtain ⟨hx, hb, hr, hml, hown, hts0, hX, hbl, hlocks, hgv⟩ := id C0
  have hts : ∀ w ∈ TT, w.before #[Value.ref b] s = true := fun w h => hts0 w (List.mem_filter.mp h).1
  have hA : ∀ q : Nat, s.heap.size ≤ q → (fun q : Nat => s.heap.size ≤ q) q := fun _ h => h
  have hbA : ¬ (fun q : Nat => s.heap.size ≤ q) b := Nat.not_le.mpr hbl
  rcases pick4 (xs 1) with h4 | h4 | h4 | h4 | h4
  · have hD := hD.sub (ws' := [(x, eO 9 [.ref (g 0), .ref (g 1), .ref (g 2), .ref (g 3), .ref (g 4), .ref (g 5), .ref (g 6)]), (g 1, eO 0 [.ref (g 101), .ref (g 103), .ref (g 105), .ref (g 107), .ref (g 109), .ref (g 111), .ref (g 174), .int 5, .int 20]), (g 174, eO 6 [.ref (g 175), .ref (g 176)]), (g 175, eA G 5 4 (aL [g 177, g 180, g 183, g 186])), (g 177, eO 7 [.ref (g 178), .ref (g 179), .int 0, .int 0]), (g 4, eO 4 [.ref (g 7), .int 0, .int 0, .int 0, .int 0]), (mo, eO 10 [.ref (h 0), .ref (h 1), .ref (h 2), .long 0, .long 1, .int 0, .ref (h 3), .ref (h 4), .int 0, .ref (h 5), .ref (h 6), .int 0, .int 0, .int 0, .int 0, .ref (h 7), .ref (h 8), .ref (h 9), .ref (h 10), .ref (h 11), .ref (h 12), .ref (h 13), .ref (h 14), .ref (h 15), .ref (h 16)]), (h 0, eI G 2246 st0)]) [0, 2, 75, 76, 77, 91, 269, 270] (by decide) rfl
    have hP := hP.sub (ws' := [(x, eO 9 [.ref (g 0), .ref (g 1), .ref (g 2), .ref (g 3), .ref (g 4), .ref (g 5), .ref (g 6)]), (g 1, eO 0 [.ref (g 101), .ref (g 103), .ref (g 105), .ref (g 107), .ref (g 109), .ref (g 111), .ref (g 174), .int 5, .int 20]), (g 174, eO 6 [.ref (g 175), .ref (g 176)]), (g 175, eA G 5 4 (aL [g 177, g 180, g 183, g 186])), (g 177, eO 7 [.ref (g 178), .ref (g 179), .int 0, .int 0]), (g 4, eO 4 [.ref (g 7), .int 0, .int 0, .int 0, .int 0]), (mo, eO 10 [.ref (h 0), .ref (h 1), .ref (h 2), .long 0, .long 1, .int 0, .ref (h 3), .ref (h 4), .int 0, .ref (h 5), .ref (h 6), .int 0, .int 0, .int 0, .int 0, .ref (h 7), .ref (h 8), .ref (h 9), .ref (h 10), .ref (h 11), .ref (h 12), .ref (h 13), .ref (h 14), .ref (h 15), .ref (h 16)]), (h 0, eI G 2246 st0)]) [0, 2, 75, 76, 77, 91, 269, 270] rfl
    refine lv_aload_n hx hb dL_law_465 rfl (lv_at hl 1 rfl) ?_
    refine lv_aload_n hx hb dL_law_466 rfl (lv_at hl 0 rfl) ?_
    refine lv_iload_n hx hb dL_law_467 rfl (lv_at hl 3 rfl) ?_
    refine lv_iconst (v := 1) hx hb dL_law_468 (by decide) ?_
    refine lv_iadd hx hb dL_law_469 ?_
    refine my_bei (v := 1) (by decide) ?_
    refine va_sld hx hb hX hbl hbA hS (by unfold vp_in; decide) dL_law_470 ?_
    refine my_bei (v := xs 1) rfl ?_
    refine lv_aload_n hx hb dL_law_471 rfl (lv_at hl 0 rfl) ?_
    refine lv_iload_n hx hb dL_law_472 rfl (lv_at hl 3 rfl) ?_
    refine lv_iconst (v := 2) hx hb dL_law_473 (by decide) ?_
    refine lv_iadd hx hb dL_law_474 ?_
    refine my_bei (v := 2) (by decide) ?_
    refine va_sld hx hb hX hbl hbA hS (by unfold vp_in; decide) dL_law_475 ?_
    refine my_bei (v := xs 2) rfl ?_
    refine lv_aload_n hx hb dL_law_476 rfl (lv_at hl 0 rfl) ?_
    refine lv_iload_n hx hb dL_law_477 rfl (lv_at hl 3 rfl) ?_
    refine lv_iconst (v := 3) hx hb dL_law_478 (by decide) ?_
    refine lv_iadd hx hb dL_law_479 ?_
    refine my_bei (v := 3) (by decide) ?_
    refine va_sld hx hb hX hbl hbA hS (by unfold vp_in; decide) dL_law_480 ?_
    refine my_bei (v := xs 3) rfl ?_
    have hPc := hP.sub (ws' := [(x, eO 9 [.ref (g 0), .ref (g 1), .ref (g 2), .ref (g 3), .ref (g 4), .ref (g 5), .ref (g 6)]), (g 1, eO 0 [.ref (g 101), .ref (g 103), .ref (g 105), .ref (g 107), .ref (g 109), .ref (g 111), .ref (g 174), .int 5, .int 20]), (g 174, eO 6 [.ref (g 175), .ref (g 176)]), (g 175, eA G 5 4 (aL [g 177, g 180, g 183, g 186])), (g 177, eO 7 [.ref (g 178), .ref (g 179), .int 0, .int 0]), (g 4, eO 4 [.ref (g 7), .int 0, .int 0, .int 0, .int 0])]) [0, 1, 2, 3, 4, 5] rfl
    have hDc := hD.sub (ws' := [(x, eO 9 [.ref (g 0), .ref (g 1), .ref (g 2), .ref (g 3), .ref (g 4), .ref (g 5), .ref (g 6)]), (g 1, eO 0 [.ref (g 101), .ref (g 103), .ref (g 105), .ref (g 107), .ref (g 109), .ref (g 111), .ref (g 174), .int 5, .int 20]), (g 174, eO 6 [.ref (g 175), .ref (g 176)]), (g 175, eA G 5 4 (aL [g 177, g 180, g 183, g 186])), (g 177, eO 7 [.ref (g 178), .ref (g 179), .int 0, .int 0]), (g 4, eO 4 [.ref (g 7), .int 0, .int 0, .int 0, .int 0])]) [0, 1, 2, 3, 4, 5] (by decide) rfl
    have hFc := va_free (wc := [(x, eO 9 [.ref (g 0), .ref (g 1), .ref (g 2), .ref (g 3), .ref (g 4), .ref (g 5), .ref (g 6)]), (g 1, eO 0 [.ref (g 101), .ref (g 103), .ref (g 105), .ref (g 107), .ref (g 109), .ref (g 111), .ref (g 174), .int 5, .int 20]), (g 174, eO 6 [.ref (g 175), .ref (g 176)]), (g 175, eA G 5 4 (aL [g 177, g 180, g 183, g 186])), (g 177, eO 7 [.ref (g 178), .ref (g 179), .int 0, .int 0]), (g 4, eO 4 [.ref (g 7), .int 0, .int 0, .int 0, .int 0])]) hD hS hA [0, 1, 2, 3, 4, 5] rfl
    refine va_calli (va_runV (As := [.int (xs 1), .int (xs 2), .int (xs 3)]) (rest := []) ⟨hx, hb, hml, hown, hts⟩ (p_act l G H.size x (g 0) (g 1) (g 2) (g 3) (g 4) (g 5) (g 6) (g 101) (g 103) (g 105) (g 107) (g 109) (g 111) (g 174) (g 175) (g 176) (g 177) (g 178) (g 179) (g 7) (aL [g 177, g 180, g 183, g 186]) (xs 1) (xs 2) (xs 3) (fun _ => by rw [h4]; rfl)) (my_cwV hts ok_X10_act w_587 rfl rfl ⟨Nat.le_of_ble_eq_true rfl, Nat.le_of_ble_eq_true rfl⟩) ⟨wP.blind, va_recv hG.1 hPc (ci := 9) (q0 := 0) rfl rfl, fun U hU hW => ⟨rfl, by rw [hU], by rw [hU]; exact hPc, kG.warm hW hG, hDc.weaken (fun _ _ _ _ => trivial)⟩⟩ rfl rfl hl.1 rfl (lv_room (Nat.le_of_ble_eq_true rfl)) dL_law_481 ⟨Nat.le_of_ble_eq_true rfl, Nat.le_of_ble_eq_true rfl⟩) hS (fun q _ h => hFc q h) hFc (fun r u t H1 locs ht hvm hw hB hz1 hk1 hS => ?_)
    obtain ⟨hP, hD⟩ := va_join (wr := [(mo, eO 10 [.ref (h 0), .ref (h 1), .ref (h 2), .long 0, .long 1, .int 0, .ref (h 3), .ref (h 4), .int 0, .ref (h 5), .ref (h 6), .int 0, .int 0, .int 0, .int 0, .ref (h 7), .ref (h 8), .ref (h 9), .ref (h 10), .ref (h 11), .ref (h 12), .ref (h 13), .ref (h 14), .ref (h 15), .ref (h 16)]), (h 0, eI G 2246 st0)]) (w1 := []) hP hD [0, 1, 2, 3, 4, 5] [6, 7] rfl rfl (by decide) (by decide) hk1 hFc my_P0 my_D0
    generalize H1 = H at hP hS ⊢
    have hP : va_P G.1 vwCl [(mo, eO 10 [.ref (h 0), .ref (h 1), .ref (h 2), .long 0, .long 1, .int 0, .ref (h 3), .ref (h 4), .int 0, .ref (h 5), .ref (h 6), .int 0, .int 0, .int 0, .int 0, .ref (h 7), .ref (h 8), .ref (h 9), .ref (h 10), .ref (h 11), .ref (h 12), .ref (h 13), .ref (h 14), .ref (h 15), .ref (h 16)]), (h 0, eI G 2246 st0)] H := hP
    have hD : va_D (fun q : Nat => s.heap.size ≤ q) [(mo, eO 10 [.ref (h 0), .ref (h 1), .ref (h 2), .long 0, .long 1, .int 0, .ref (h 3), .ref (h 4), .int 0, .ref (h 5), .ref (h 6), .int 0, .int 0, .int 0, .int 0, .ref (h 7), .ref (h 8), .ref (h 9), .ref (h 10), .ref (h 11), .ref (h 12), .ref (h 13), .ref (h 14), .ref (h 15), .ref (h 16)]), (h 0, eI G 2246 st0)] := hD
    subst hw
    refine lv_aload_n hx hb dL_law_484 rfl (lv_at hl 2 rfl) ?_
    refine lv_aload_n hx hb dL_law_485 rfl (lv_at hl 0 rfl) ?_
    refine lv_iload_n hx hb dL_law_486 rfl (lv_at hl 3 rfl) ?_
    refine lv_iconst (v := 1) hx hb dL_law_487 (by decide) ?_
    refine lv_iadd hx hb dL_law_488 ?_
    refine my_bei (v := 1) (by decide) ?_
    refine va_sld hx hb hX hbl hbA hS (by unfold vp_in; decide) dL_law_489 ?_
    refine my_bei (v := xs 1) rfl ?_
    refine lv_aload_n hx hb dL_law_490 rfl (lv_at hl 0 rfl) ?_
    refine lv_iload_n hx hb dL_law_491 rfl (lv_at hl 3 rfl) ?_
    refine lv_iconst (v := 2) hx hb dL_law_492 (by decide) ?_
    refine lv_iadd hx hb dL_law_493 ?_
    refine my_bei (v := 2) (by decide) ?_
    refine va_sld hx hb hX hbl hbA hS (by unfold vp_in; decide) dL_law_494 ?_
    refine my_bei (v := xs 2) rfl ?_
    refine lv_aload_n hx hb dL_law_495 rfl (lv_at hl 0 rfl) ?_
    refine lv_iload_n hx hb dL_law_496 rfl (lv_at hl 3 rfl) ?_
    refine lv_iconst (v := 3) hx hb dL_law_497 (by decide) ?_
    refine lv_iadd hx hb dL_law_498 ?_
    refine my_bei (v := 3) (by decide) ?_
    refine va_sld hx hb hX hbl hbA hS (by unfold vp_in; decide) dL_law_499 ?_
    refine my_bei (v := xs 3) rfl ?_
    have hPc := hP.sub (ws' := [(mo, eO 10 [.ref (h 0), .ref (h 1), .ref (h 2), .long 0, .long 1, .int 0, .ref (h 3), .ref (h 4), .int 0, .ref (h 5), .ref (h 6), .int 0, .int 0, .int 0, .int 0, .ref (h 7), .ref (h 8), .ref (h 9), .ref (h 10), .ref (h 11), .ref (h 12), .ref (h 13), .ref (h 14), .ref (h 15), .ref (h 16)]), (h 0, eI G 2246 st0)]) [0, 1] rfl
    have hDc := hD.sub (ws' := [(mo, eO 10 [.ref (h 0), .ref (h 1), .ref (h 2), .long 0, .long 1, .int 0, .ref (h 3), .ref (h 4), .int 0, .ref (h 5), .ref (h 6), .int 0, .int 0, .int 0, .int 0, .ref (h 7), .ref (h 8), .ref (h 9), .ref (h 10), .ref (h 11), .ref (h 12), .ref (h 13), .ref (h 14), .ref (h 15), .ref (h 16)]), (h 0, eI G 2246 st0)]) [0, 1] (by decide) rfl
    have hFc := va_free (wc := [(mo, eO 10 [.ref (h 0), .ref (h 1), .ref (h 2), .long 0, .long 1, .int 0, .ref (h 3), .ref (h 4), .int 0, .ref (h 5), .ref (h 6), .int 0, .int 0, .int 0, .int 0, .ref (h 7), .ref (h 8), .ref (h 9), .ref (h 10), .ref (h 11), .ref (h 12), .ref (h 13), .ref (h 14), .ref (h 15), .ref (h 16)]), (h 0, eI G 2246 st0)]) hD hS hA [0, 1] rfl
    refine va_calli (va_runV (As := [.int (xs 1), .int (xs 2), .int (xs 3)]) (rest := [.int (if (inB 0 (xs 1) 3 = true) ∧ (inB 0 (xs 2) 1 = true) ∧ (inB 0 (xs 3) 9999 = true) then (-3) else (-2))]) ⟨hx, hb, hml, hown, hts⟩ (m_act l G H.size mo (h 0) (h 1) (h 2) (h 3) (h 4) (h 5) (h 6) (h 7) (h 8) (h 9) (h 10) (h 11) (h 12) (h 13) (h 14) (h 15) (h 16) (xs 1) (xs 2) (xs 3) ) (my_cwV hts ok_X11_act w_602 rfl rfl ⟨Nat.le_of_ble_eq_true rfl, Nat.le_of_ble_eq_true rfl⟩) ⟨wP.blind, va_recv hG.1 hPc (ci := 10) (q0 := 0) rfl rfl, fun U hU hW => ⟨rfl, by rw [hU], by rw [hU]; exact hPc, kG.warm hW hG, hDc.weaken (fun _ _ _ _ => trivial)⟩⟩ rfl rfl hl.1 rfl (lv_room (Nat.le_of_ble_eq_true rfl)) dL_law_500 ⟨Nat.le_of_ble_eq_true rfl, Nat.le_of_ble_eq_true rfl⟩) hS (fun q _ h => hFc q h) hFc (fun r u t H1 locs ht hvm hw hB hz1 hk1 hS => ?_)
    obtain ⟨hP, hD⟩ := va_join (wr := []) (w1 := []) hP hD [0, 1] [] rfl rfl (by decide) (by decide) hk1 hFc my_P0 my_D0
    generalize H1 = H at hP hS ⊢
    have hP : va_P G.1 vwCl [] H := hP
    have hD : va_D (fun q : Nat => s.heap.size ≤ q) [] := hD
    subst hw
    refine lv_icmp_eq (tgt := 1376) hx hb dL_law_503 (by decide) (fun c_503 => ?_) (fun c_503 => absurd (rfl) c_503)
    exact law_end l C0 hS (lv_sub hl [0, 3] rfl)
  · have hD := hD.sub (ws' := [(x, eO 9 [.ref (g 0), .ref (g 1), .ref (g 2), .ref (g 3), .ref (g 4), .ref (g 5), .ref (g 6)]), (g 1, eO 0 [.ref (g 101), .ref (g 103), .ref (g 105), .ref (g 107), .ref (g 109), .ref (g 111), .ref (g 174), .int 5, .int 20]), (g 174, eO 6 [.ref (g 175), .ref (g 176)]), (g 175, eA G 5 4 (aL [g 177, g 180, g 183, g 186])), (g 180, eO 7 [.ref (g 181), .ref (g 182), .int 0, .int 0]), (g 4, eO 4 [.ref (g 7), .int 0, .int 0, .int 0, .int 0]), (mo, eO 10 [.ref (h 0), .ref (h 1), .ref (h 2), .long 0, .long 1, .int 0, .ref (h 3), .ref (h 4), .int 0, .ref (h 5), .ref (h 6), .int 0, .int 0, .int 0, .int 0, .ref (h 7), .ref (h 8), .ref (h 9), .ref (h 10), .ref (h 11), .ref (h 12), .ref (h 13), .ref (h 14), .ref (h 15), .ref (h 16)]), (h 0, eI G 2246 st0)]) [0, 2, 75, 76, 80, 91, 269, 270] (by decide) rfl
    have hP := hP.sub (ws' := [(x, eO 9 [.ref (g 0), .ref (g 1), .ref (g 2), .ref (g 3), .ref (g 4), .ref (g 5), .ref (g 6)]), (g 1, eO 0 [.ref (g 101), .ref (g 103), .ref (g 105), .ref (g 107), .ref (g 109), .ref (g 111), .ref (g 174), .int 5, .int 20]), (g 174, eO 6 [.ref (g 175), .ref (g 176)]), (g 175, eA G 5 4 (aL [g 177, g 180, g 183, g 186])), (g 180, eO 7 [.ref (g 181), .ref (g 182), .int 0, .int 0]), (g 4, eO 4 [.ref (g 7), .int 0, .int 0, .int 0, .int 0]), (mo, eO 10 [.ref (h 0), .ref (h 1), .ref (h 2), .long 0, .long 1, .int 0, .ref (h 3), .ref (h 4), .int 0, .ref (h 5), .ref (h 6), .int 0, .int 0, .int 0, .int 0, .ref (h 7), .ref (h 8), .ref (h 9), .ref (h 10), .ref (h 11), .ref (h 12), .ref (h 13), .ref (h 14), .ref (h 15), .ref (h 16)]), (h 0, eI G 2246 st0)]) [0, 2, 75, 76, 80, 91, 269, 270] rfl
    refine lv_aload_n hx hb dL_law_465 rfl (lv_at hl 1 rfl) ?_
    refine lv_aload_n hx hb dL_law_466 rfl (lv_at hl 0 rfl) ?_
    refine lv_iload_n hx hb dL_law_467 rfl (lv_at hl 3 rfl) ?_
    refine lv_iconst (v := 1) hx hb dL_law_468 (by decide) ?_
    refine lv_iadd hx hb dL_law_469 ?_
    refine my_bei (v := 1) (by decide) ?_
    refine va_sld hx hb hX hbl hbA hS (by unfold vp_in; decide) dL_law_470 ?_
    refine my_bei (v := xs 1) rfl ?_
    refine lv_aload_n hx hb dL_law_471 rfl (lv_at hl 0 rfl) ?_
    refine lv_iload_n hx hb dL_law_472 rfl (lv_at hl 3 rfl) ?_
    refine lv_iconst (v := 2) hx hb dL_law_473 (by decide) ?_
    refine lv_iadd hx hb dL_law_474 ?_
    refine my_bei (v := 2) (by decide) ?_
    refine va_sld hx hb hX hbl hbA hS (by unfold vp_in; decide) dL_law_475 ?_
    refine my_bei (v := xs 2) rfl ?_
    refine lv_aload_n hx hb dL_law_476 rfl (lv_at hl 0 rfl) ?_
    refine lv_iload_n hx hb dL_law_477 rfl (lv_at hl 3 rfl) ?_
    refine lv_iconst (v := 3) hx hb dL_law_478 (by decide) ?_
    refine lv_iadd hx hb dL_law_479 ?_
    refine my_bei (v := 3) (by decide) ?_
    refine va_sld hx hb hX hbl hbA hS (by unfold vp_in; decide) dL_law_480 ?_
    refine my_bei (v := xs 3) rfl ?_
    have hPc := hP.sub (ws' := [(x, eO 9 [.ref (g 0), .ref (g 1), .ref (g 2), .ref (g 3), .ref (g 4), .ref (g 5), .ref (g 6)]), (g 1, eO 0 [.ref (g 101), .ref (g 103), .ref (g 105), .ref (g 107), .ref (g 109), .ref (g 111), .ref (g 174), .int 5, .int 20]), (g 174, eO 6 [.ref (g 175), .ref (g 176)]), (g 175, eA G 5 4 (aL [g 177, g 180, g 183, g 186])), (g 180, eO 7 [.ref (g 181), .ref (g 182), .int 0, .int 0]), (g 4, eO 4 [.ref (g 7), .int 0, .int 0, .int 0, .int 0])]) [0, 1, 2, 3, 4, 5] rfl
    have hDc := hD.sub (ws' := [(x, eO 9 [.ref (g 0), .ref (g 1), .ref (g 2), .ref (g 3), .ref (g 4), .ref (g 5), .ref (g 6)]), (g 1, eO 0 [.ref (g 101), .ref (g 103), .ref (g 105), .ref (g 107), .ref (g 109), .ref (g 111), .ref (g 174), .int 5, .int 20]), (g 174, eO 6 [.ref (g 175), .ref (g 176)]), (g 175, eA G 5 4 (aL [g 177, g 180, g 183, g 186])), (g 180, eO 7 [.ref (g 181), .ref (g 182), .int 0, .int 0]), (g 4, eO 4 [.ref (g 7), .int 0, .int 0, .int 0, .int 0])]) [0, 1, 2, 3, 4, 5] (by decide) rfl
    have hFc := va_free (wc := [(x, eO 9 [.ref (g 0), .ref (g 1), .ref (g 2), .ref (g 3), .ref (g 4), .ref (g 5), .ref (g 6)]), (g 1, eO 0 [.ref (g 101), .ref (g 103), .ref (g 105), .ref (g 107), .ref (g 109), .ref (g 111), .ref (g 174), .int 5, .int 20]), (g 174, eO 6 [.ref (g 175), .ref (g 176)]), (g 175, eA G 5 4 (aL [g 177, g 180, g 183, g 186])), (g 180, eO 7 [.ref (g 181), .ref (g 182), .int 0, .int 0]), (g 4, eO 4 [.ref (g 7), .int 0, .int 0, .int 0, .int 0])]) hD hS hA [0, 1, 2, 3, 4, 5] rfl
    refine va_calli (va_runV (As := [.int (xs 1), .int (xs 2), .int (xs 3)]) (rest := []) ⟨hx, hb, hml, hown, hts⟩ (p_act l G H.size x (g 0) (g 1) (g 2) (g 3) (g 4) (g 5) (g 6) (g 101) (g 103) (g 105) (g 107) (g 109) (g 111) (g 174) (g 175) (g 176) (g 180) (g 181) (g 182) (g 7) (aL [g 177, g 180, g 183, g 186]) (xs 1) (xs 2) (xs 3) (fun _ => by rw [h4]; rfl)) (my_cwV hts ok_X10_act w_587 rfl rfl ⟨Nat.le_of_ble_eq_true rfl, Nat.le_of_ble_eq_true rfl⟩) ⟨wP.blind, va_recv hG.1 hPc (ci := 9) (q0 := 0) rfl rfl, fun U hU hW => ⟨rfl, by rw [hU], by rw [hU]; exact hPc, kG.warm hW hG, hDc.weaken (fun _ _ _ _ => trivial)⟩⟩ rfl rfl hl.1 rfl (lv_room (Nat.le_of_ble_eq_true rfl)) dL_law_481 ⟨Nat.le_of_ble_eq_true rfl, Nat.le_of_ble_eq_true rfl⟩) hS (fun q _ h => hFc q h) hFc (fun r u t H1 locs ht hvm hw hB hz1 hk1 hS => ?_)
    obtain ⟨hP, hD⟩ := va_join (wr := [(mo, eO 10 [.ref (h 0), .ref (h 1), .ref (h 2), .long 0, .long 1, .int 0, .ref (h 3), .ref (h 4), .int 0, .ref (h 5), .ref (h 6), .int 0, .int 0, .int 0, .int 0, .ref (h 7), .ref (h 8), .ref (h 9), .ref (h 10), .ref (h 11), .ref (h 12), .ref (h 13), .ref (h 14), .ref (h 15), .ref (h 16)]), (h 0, eI G 2246 st0)]) (w1 := []) hP hD [0, 1, 2, 3, 4, 5] [6, 7] rfl rfl (by decide) (by decide) hk1 hFc my_P0 my_D0
    generalize H1 = H at hP hS ⊢
    have hP : va_P G.1 vwCl [(mo, eO 10 [.ref (h 0), .ref (h 1), .ref (h 2), .long 0, .long 1, .int 0, .ref (h 3), .ref (h 4), .int 0, .ref (h 5), .ref (h 6), .int 0, .int 0, .int 0, .int 0, .ref (h 7), .ref (h 8), .ref (h 9), .ref (h 10), .ref (h 11), .ref (h 12), .ref (h 13), .ref (h 14), .ref (h 15), .ref (h 16)]), (h 0, eI G 2246 st0)] H := hP
    have hD : va_D (fun q : Nat => s.heap.size ≤ q) [(mo, eO 10 [.ref (h 0), .ref (h 1), .ref (h 2), .long 0, .long 1, .int 0, .ref (h 3), .ref (h 4), .int 0, .ref (h 5), .ref (h 6), .int 0, .int 0, .int 0, .int 0, .ref (h 7), .ref (h 8), .ref (h 9), .ref (h 10), .ref (h 11), .ref (h 12), .ref (h 13), .ref (h 14), .ref (h 15), .ref (h 16)]), (h 0, eI G 2246 st0)] := hD
    subst hw
    refine lv_aload_n hx hb dL_law_484 rfl (lv_at hl 2 rfl) ?_
    refine lv_aload_n hx hb dL_law_485 rfl (lv_at hl 0 rfl) ?_
    refine lv_iload_n hx hb dL_law_486 rfl (lv_at hl 3 rfl) ?_
    refine lv_iconst (v := 1) hx hb dL_law_487 (by decide) ?_
    refine lv_iadd hx hb dL_law_488 ?_
    refine my_bei (v := 1) (by decide) ?_
    refine va_sld hx hb hX hbl hbA hS (by unfold vp_in; decide) dL_law_489 ?_
    refine my_bei (v := xs 1) rfl ?_
    refine lv_aload_n hx hb dL_law_490 rfl (lv_at hl 0 rfl) ?_
    refine lv_iload_n hx hb dL_law_491 rfl (lv_at hl 3 rfl) ?_
    refine lv_iconst (v := 2) hx hb dL_law_492 (by decide) ?_
    refine lv_iadd hx hb dL_law_493 ?_
    refine my_bei (v := 2) (by decide) ?_
    refine va_sld hx hb hX hbl hbA hS (by unfold vp_in; decide) dL_law_494 ?_
    refine my_bei (v := xs 2) rfl ?_
    refine lv_aload_n hx hb dL_law_495 rfl (lv_at hl 0 rfl) ?_
    refine lv_iload_n hx hb dL_law_496 rfl (lv_at hl 3 rfl) ?_
    refine lv_iconst (v := 3) hx hb dL_law_497 (by decide) ?_
    refine lv_iadd hx hb dL_law_498 ?_
    refine my_bei (v := 3) (by decide) ?_
    refine va_sld hx hb hX hbl hbA hS (by unfold vp_in; decide) dL_law_499 ?_
    refine my_bei (v := xs 3) rfl ?_
    have hPc := hP.sub (ws' := [(mo, eO 10 [.ref (h 0), .ref (h 1), .ref (h 2), .long 0, .long 1, .int 0, .ref (h 3), .ref (h 4), .int 0, .ref (h 5), .ref (h 6), .int 0, .int 0, .int 0, .int 0, .ref (h 7), .ref (h 8), .ref (h 9), .ref (h 10), .ref (h 11), .ref (h 12), .ref (h 13), .ref (h 14), .ref (h 15), .ref (h 16)]), (h 0, eI G 2246 st0)]) [0, 1] rfl
    have hDc := hD.sub (ws' := [(mo, eO 10 [.ref (h 0), .ref (h 1), .ref (h 2), .long 0, .long 1, .int 0, .ref (h 3), .ref (h 4), .int 0, .ref (h 5), .ref (h 6), .int 0, .int 0, .int 0, .int 0, .ref (h 7), .ref (h 8), .ref (h 9), .ref (h 10), .ref (h 11), .ref (h 12), .ref (h 13), .ref (h 14), .ref (h 15), .ref (h 16)]), (h 0, eI G 2246 st0)]) [0, 1] (by decide) rfl
    have hFc := va_free (wc := [(mo, eO 10 [.ref (h 0), .ref (h 1), .ref (h 2), .long 0, .long 1, .int 0, .ref (h 3), .ref (h 4), .int 0, .ref (h 5), .ref (h 6), .int 0, .int 0, .int 0, .int 0, .ref (h 7), .ref (h 8), .ref (h 9), .ref (h 10), .ref (h 11), .ref (h 12), .ref (h 13), .ref (h 14), .ref (h 15), .ref (h 16)]), (h 0, eI G 2246 st0)]) hD hS hA [0, 1] rfl
    refine va_calli (va_runV (As := [.int (xs 1), .int (xs 2), .int (xs 3)]) (rest := [.int (if (inB 0 (xs 1) 3 = true) ∧ (inB 0 (xs 2) 1 = true) ∧ (inB 0 (xs 3) 9999 = true) then (-3) else (-2))]) ⟨hx, hb, hml, hown, hts⟩ (m_act l G H.size mo (h 0) (h 1) (h 2) (h 3) (h 4) (h 5) (h 6) (h 7) (h 8) (h 9) (h 10) (h 11) (h 12) (h 13) (h 14) (h 15) (h 16) (xs 1) (xs 2) (xs 3) ) (my_cwV hts ok_X11_act w_602 rfl rfl ⟨Nat.le_of_ble_eq_true rfl, Nat.le_of_ble_eq_true rfl⟩) ⟨wP.blind, va_recv hG.1 hPc (ci := 10) (q0 := 0) rfl rfl, fun U hU hW => ⟨rfl, by rw [hU], by rw [hU]; exact hPc, kG.warm hW hG, hDc.weaken (fun _ _ _ _ => trivial)⟩⟩ rfl rfl hl.1 rfl (lv_room (Nat.le_of_ble_eq_true rfl)) dL_law_500 ⟨Nat.le_of_ble_eq_true rfl, Nat.le_of_ble_eq_true rfl⟩) hS (fun q _ h => hFc q h) hFc (fun r u t H1 locs ht hvm hw hB hz1 hk1 hS => ?_)
    obtain ⟨hP, hD⟩ := va_join (wr := []) (w1 := []) hP hD [0, 1] [] rfl rfl (by decide) (by decide) hk1 hFc my_P0 my_D0
    generalize H1 = H at hP hS ⊢
    have hP : va_P G.1 vwCl [] H := hP
    have hD : va_D (fun q : Nat => s.heap.size ≤ q) [] := hD
    subst hw
    refine lv_icmp_eq (tgt := 1376) hx hb dL_law_503 (by decide) (fun c_503 => ?_) (fun c_503 => absurd (rfl) c_503)
    exact law_end l C0 hS (lv_sub hl [0, 3] rfl)
  · have hD := hD.sub (ws' := [(x, eO 9 [.ref (g 0), .ref (g 1), .ref (g 2), .ref (g 3), .ref (g 4), .ref (g 5), .ref (g 6)]), (g 1, eO 0 [.ref (g 101), .ref (g 103), .ref (g 105), .ref (g 107), .ref (g 109), .ref (g 111), .ref (g 174), .int 5, .int 20]), (g 174, eO 6 [.ref (g 175), .ref (g 176)]), (g 175, eA G 5 4 (aL [g 177, g 180, g 183, g 186])), (g 183, eO 7 [.ref (g 184), .ref (g 185), .int 0, .int 0]), (g 4, eO 4 [.ref (g 7), .int 0, .int 0, .int 0, .int 0]), (mo, eO 10 [.ref (h 0), .ref (h 1), .ref (h 2), .long 0, .long 1, .int 0, .ref (h 3), .ref (h 4), .int 0, .ref (h 5), .ref (h 6), .int 0, .int 0, .int 0, .int 0, .ref (h 7), .ref (h 8), .ref (h 9), .ref (h 10), .ref (h 11), .ref (h 12), .ref (h 13), .ref (h 14), .ref (h 15), .ref (h 16)]), (h 0, eI G 2246 st0)]) [0, 2, 75, 76, 83, 91, 269, 270] (by decide) rfl
    have hP := hP.sub (ws' := [(x, eO 9 [.ref (g 0), .ref (g 1), .ref (g 2), .ref (g 3), .ref (g 4), .ref (g 5), .ref (g 6)]), (g 1, eO 0 [.ref (g 101), .ref (g 103), .ref (g 105), .ref (g 107), .ref (g 109), .ref (g 111), .ref (g 174), .int 5, .int 20]), (g 174, eO 6 [.ref (g 175), .ref (g 176)]), (g 175, eA G 5 4 (aL [g 177, g 180, g 183, g 186])), (g 183, eO 7 [.ref (g 184), .ref (g 185), .int 0, .int 0]), (g 4, eO 4 [.ref (g 7), .int 0, .int 0, .int 0, .int 0]), (mo, eO 10 [.ref (h 0), .ref (h 1), .ref (h 2), .long 0, .long 1, .int 0, .ref (h 3), .ref (h 4), .int 0, .ref (h 5), .ref (h 6), .int 0, .int 0, .int 0, .int 0, .ref (h 7), .ref (h 8), .ref (h 9), .ref (h 10), .ref (h 11), .ref (h 12), .ref (h 13), .ref (h 14), .ref (h 15), .ref (h 16)]), (h 0, eI G 2246 st0)]) [0, 2, 75, 76, 83, 91, 269, 270] rfl
    refine lv_aload_n hx hb dL_law_465 rfl (lv_at hl 1 rfl) ?_
    refine lv_aload_n hx hb dL_law_466 rfl (lv_at hl 0 rfl) ?_
    refine lv_iload_n hx hb dL_law_467 rfl (lv_at hl 3 rfl) ?_
    refine lv_iconst (v := 1) hx hb dL_law_468 (by decide) ?_
    refine lv_iadd hx hb dL_law_469 ?_
    refine my_bei (v := 1) (by decide) ?_
    refine va_sld hx hb hX hbl hbA hS (by unfold vp_in; decide) dL_law_470 ?_
    refine my_bei (v := xs 1) rfl ?_
    refine lv_aload_n hx hb dL_law_471 rfl (lv_at hl 0 rfl) ?_
    refine lv_iload_n hx hb dL_law_472 rfl (lv_at hl 3 rfl) ?_
    refine lv_iconst (v := 2) hx hb dL_law_473 (by decide) ?_
    refine lv_iadd hx hb dL_law_474 ?_
    refine my_bei (v := 2) (by decide) ?_
    refine va_sld hx hb hX hbl hbA hS (by unfold vp_in; decide) dL_law_475 ?_
    refine my_bei (v := xs 2) rfl ?_
    refine lv_aload_n hx hb dL_law_476 rfl (lv_at hl 0 rfl) ?_
    refine lv_iload_n hx hb dL_law_477 rfl (lv_at hl 3 rfl) ?_
    refine lv_iconst (v := 3) hx hb dL_law_478 (by decide) ?_
    refine lv_iadd hx hb dL_law_479 ?_
    refine my_bei (v := 3) (by decide) ?_
    refine va_sld hx hb hX hbl hbA hS (by unfold vp_in; decide) dL_law_480 ?_
    refine my_bei (v := xs 3) rfl ?_
    have hPc := hP.sub (ws' := [(x, eO 9 [.ref (g 0), .ref (g 1), .ref (g 2), .ref (g 3), .ref (g 4), .ref (g 5), .ref (g 6)]), (g 1, eO 0 [.ref (g 101), .ref (g 103), .ref (g 105), .ref (g 107), .ref (g 109), .ref (g 111), .ref (g 174), .int 5, .int 20]), (g 174, eO 6 [.ref (g 175), .ref (g 176)]), (g 175, eA G 5 4 (aL [g 177, g 180, g 183, g 186])), (g 183, eO 7 [.ref (g 184), .ref (g 185), .int 0, .int 0]), (g 4, eO 4 [.ref (g 7), .int 0, .int 0, .int 0, .int 0])]) [0, 1, 2, 3, 4, 5] rfl
    have hDc := hD.sub (ws' := [(x, eO 9 [.ref (g 0), .ref (g 1), .ref (g 2), .ref (g 3), .ref (g 4), .ref (g 5), .ref (g 6)]), (g 1, eO 0 [.ref (g 101), .ref (g 103), .ref (g 105), .ref (g 107), .ref (g 109), .ref (g 111), .ref (g 174), .int 5, .int 20]), (g 174, eO 6 [.ref (g 175), .ref (g 176)]), (g 175, eA G 5 4 (aL [g 177, g 180, g 183, g 186])), (g 183, eO 7 [.ref (g 184), .ref (g 185), .int 0, .int 0]), (g 4, eO 4 [.ref (g 7), .int 0, .int 0, .int 0, .int 0])]) [0, 1, 2, 3, 4, 5] (by decide) rfl
    have hFc := va_free (wc := [(x, eO 9 [.ref (g 0), .ref (g 1), .ref (g 2), .ref (g 3), .ref (g 4), .ref (g 5), .ref (g 6)]), (g 1, eO 0 [.ref (g 101), .ref (g 103), .ref (g 105), .ref (g 107), .ref (g 109), .ref (g 111), .ref (g 174), .int 5, .int 20]), (g 174, eO 6 [.ref (g 175), .ref (g 176)]), (g 175, eA G 5 4 (aL [g 177, g 180, g 183, g 186])), (g 183, eO 7 [.ref (g 184), .ref (g 185), .int 0, .int 0]), (g 4, eO 4 [.ref (g 7), .int 0, .int 0, .int 0, .int 0])]) hD hS hA [0, 1, 2, 3, 4, 5] rfl
    refine va_calli (va_runV (As := [.int (xs 1), .int (xs 2), .int (xs 3)]) (rest := []) ⟨hx, hb, hml, hown, hts⟩ (p_act l G H.size x (g 0) (g 1) (g 2) (g 3) (g 4) (g 5) (g 6) (g 101) (g 103) (g 105) (g 107) (g 109) (g 111) (g 174) (g 175) (g 176) (g 183) (g 184) (g 185) (g 7) (aL [g 177, g 180, g 183, g 186]) (xs 1) (xs 2) (xs 3) (fun _ => by rw [h4]; rfl)) (my_cwV hts ok_X10_act w_587 rfl rfl ⟨Nat.le_of_ble_eq_true rfl, Nat.le_of_ble_eq_true rfl⟩) ⟨wP.blind, va_recv hG.1 hPc (ci := 9) (q0 := 0) rfl rfl, fun U hU hW => ⟨rfl, by rw [hU], by rw [hU]; exact hPc, kG.warm hW hG, hDc.weaken (fun _ _ _ _ => trivial)⟩⟩ rfl rfl hl.1 rfl (lv_room (Nat.le_of_ble_eq_true rfl)) dL_law_481 ⟨Nat.le_of_ble_eq_true rfl, Nat.le_of_ble_eq_true rfl⟩) hS (fun q _ h => hFc q h) hFc (fun r u t H1 locs ht hvm hw hB hz1 hk1 hS => ?_)
    obtain ⟨hP, hD⟩ := va_join (wr := [(mo, eO 10 [.ref (h 0), .ref (h 1), .ref (h 2), .long 0, .long 1, .int 0, .ref (h 3), .ref (h 4), .int 0, .ref (h 5), .ref (h 6), .int 0, .int 0, .int 0, .int 0, .ref (h 7), .ref (h 8), .ref (h 9), .ref (h 10), .ref (h 11), .ref (h 12), .ref (h 13), .ref (h 14), .ref (h 15), .ref (h 16)]), (h 0, eI G 2246 st0)]) (w1 := []) hP hD [0, 1, 2, 3, 4, 5] [6, 7] rfl rfl (by decide) (by decide) hk1 hFc my_P0 my_D0
    generalize H1 = H at hP hS ⊢
    have hP : va_P G.1 vwCl [(mo, eO 10 [.ref (h 0), .ref (h 1), .ref (h 2), .long 0, .long 1, .int 0, .ref (h 3), .ref (h 4), .int 0, .ref (h 5), .ref (h 6), .int 0, .int 0, .int 0, .int 0, .ref (h 7), .ref (h 8), .ref (h 9), .ref (h 10), .ref (h 11), .ref (h 12), .ref (h 13), .ref (h 14), .ref (h 15), .ref (h 16)]), (h 0, eI G 2246 st0)] H := hP
    have hD : va_D (fun q : Nat => s.heap.size ≤ q) [(mo, eO 10 [.ref (h 0), .ref (h 1), .ref (h 2), .long 0, .long 1, .int 0, .ref (h 3), .ref (h 4), .int 0, .ref (h 5), .ref (h 6), .int 0, .int 0, .int 0, .int 0, .ref (h 7), .ref (h 8), .ref (h 9), .ref (h 10), .ref (h 11), .ref (h 12), .ref (h 13), .ref (h 14), .ref (h 15), .ref (h 16)]), (h 0, eI G 2246 st0)] := hD
    subst hw
    refine lv_aload_n hx hb dL_law_484 rfl (lv_at hl 2 rfl) ?_
    refine lv_aload_n hx hb dL_law_485 rfl (lv_at hl 0 rfl) ?_
    refine lv_iload_n hx hb dL_law_486 rfl (lv_at hl 3 rfl) ?_
    refine lv_iconst (v := 1) hx hb dL_law_487 (by decide) ?_
    refine lv_iadd hx hb dL_law_488 ?_
    refine my_bei (v := 1) (by decide) ?_
    refine va_sld hx hb hX hbl hbA hS (by unfold vp_in; decide) dL_law_489 ?_
    refine my_bei (v := xs 1) rfl ?_
    refine lv_aload_n hx hb dL_law_490 rfl (lv_at hl 0 rfl) ?_
    refine lv_iload_n hx hb dL_law_491 rfl (lv_at hl 3 rfl) ?_
    refine lv_iconst (v := 2) hx hb dL_law_492 (by decide) ?_
    refine lv_iadd hx hb dL_law_493 ?_
    refine my_bei (v := 2) (by decide) ?_
    refine va_sld hx hb hX hbl hbA hS (by unfold vp_in; decide) dL_law_494 ?_
    refine my_bei (v := xs 2) rfl ?_
    refine lv_aload_n hx hb dL_law_495 rfl (lv_at hl 0 rfl) ?_
    refine lv_iload_n hx hb dL_law_496 rfl (lv_at hl 3 rfl) ?_
    refine lv_iconst (v := 3) hx hb dL_law_497 (by decide) ?_
    refine lv_iadd hx hb dL_law_498 ?_
    refine my_bei (v := 3) (by decide) ?_
    refine va_sld hx hb hX hbl hbA hS (by unfold vp_in; decide) dL_law_499 ?_
    refine my_bei (v := xs 3) rfl ?_
    have hPc := hP.sub (ws' := [(mo, eO 10 [.ref (h 0), .ref (h 1), .ref (h 2), .long 0, .long 1, .int 0, .ref (h 3), .ref (h 4), .int 0, .ref (h 5), .ref (h 6), .int 0, .int 0, .int 0, .int 0, .ref (h 7), .ref (h 8), .ref (h 9), .ref (h 10), .ref (h 11), .ref (h 12), .ref (h 13), .ref (h 14), .ref (h 15), .ref (h 16)]), (h 0, eI G 2246 st0)]) [0, 1] rfl
    have hDc := hD.sub (ws' := [(mo, eO 10 [.ref (h 0), .ref (h 1), .ref (h 2), .long 0, .long 1, .int 0, .ref (h 3), .ref (h 4), .int 0, .ref (h 5), .ref (h 6), .int 0, .int 0, .int 0, .int 0, .ref (h 7), .ref (h 8), .ref (h 9), .ref (h 10), .ref (h 11), .ref (h 12), .ref (h 13), .ref (h 14), .ref (h 15), .ref (h 16)]), (h 0, eI G 2246 st0)]) [0, 1] (by decide) rfl
    have hFc := va_free (wc := [(mo, eO 10 [.ref (h 0), .ref (h 1), .ref (h 2), .long 0, .long 1, .int 0, .ref (h 3), .ref (h 4), .int 0, .ref (h 5), .ref (h 6), .int 0, .int 0, .int 0, .int 0, .ref (h 7), .ref (h 8), .ref (h 9), .ref (h 10), .ref (h 11), .ref (h 12), .ref (h 13), .ref (h 14), .ref (h 15), .ref (h 16)]), (h 0, eI G 2246 st0)]) hD hS hA [0, 1] rfl
    refine va_calli (va_runV (As := [.int (xs 1), .int (xs 2), .int (xs 3)]) (rest := [.int (if (inB 0 (xs 1) 3 = true) ∧ (inB 0 (xs 2) 1 = true) ∧ (inB 0 (xs 3) 9999 = true) then (-3) else (-2))]) ⟨hx, hb, hml, hown, hts⟩ (m_act l G H.size mo (h 0) (h 1) (h 2) (h 3) (h 4) (h 5) (h 6) (h 7) (h 8) (h 9) (h 10) (h 11) (h 12) (h 13) (h 14) (h 15) (h 16) (xs 1) (xs 2) (xs 3) ) (my_cwV hts ok_X11_act w_602 rfl rfl ⟨Nat.le_of_ble_eq_true rfl, Nat.le_of_ble_eq_true rfl⟩) ⟨wP.blind, va_recv hG.1 hPc (ci := 10) (q0 := 0) rfl rfl, fun U hU hW => ⟨rfl, by rw [hU], by rw [hU]; exact hPc, kG.warm hW hG, hDc.weaken (fun _ _ _ _ => trivial)⟩⟩ rfl rfl hl.1 rfl (lv_room (Nat.le_of_ble_eq_true rfl)) dL_law_500 ⟨Nat.le_of_ble_eq_true rfl, Nat.le_of_ble_eq_true rfl⟩) hS (fun q _ h => hFc q h) hFc (fun r u t H1 locs ht hvm hw hB hz1 hk1 hS => ?_)
    obtain ⟨hP, hD⟩ := va_join (wr := []) (w1 := []) hP hD [0, 1] [] rfl rfl (by decide) (by decide) hk1 hFc my_P0 my_D0
    generalize H1 = H at hP hS ⊢
    have hP : va_P G.1 vwCl [] H := hP
    have hD : va_D (fun q : Nat => s.heap.size ≤ q) [] := hD
    subst hw
    refine lv_icmp_eq (tgt := 1376) hx hb dL_law_503 (by decide) (fun c_503 => ?_) (fun c_503 => absurd (rfl) c_503)
    exact law_end l C0 hS (lv_sub hl [0, 3] rfl)
  · have hD := hD.sub (ws' := [(x, eO 9 [.ref (g 0), .ref (g 1), .ref (g 2), .ref (g 3), .ref (g 4), .ref (g 5), .ref (g 6)]), (g 1, eO 0 [.ref (g 101), .ref (g 103), .ref (g 105), .ref (g 107), .ref (g 109), .ref (g 111), .ref (g 174), .int 5, .int 20]), (g 174, eO 6 [.ref (g 175), .ref (g 176)]), (g 175, eA G 5 4 (aL [g 177, g 180, g 183, g 186])), (g 186, eO 7 [.ref (g 187), .ref (g 188), .int 0, .int 0]), (g 4, eO 4 [.ref (g 7), .int 0, .int 0, .int 0, .int 0]), (mo, eO 10 [.ref (h 0), .ref (h 1), .ref (h 2), .long 0, .long 1, .int 0, .ref (h 3), .ref (h 4), .int 0, .ref (h 5), .ref (h 6), .int 0, .int 0, .int 0, .int 0, .ref (h 7), .ref (h 8), .ref (h 9), .ref (h 10), .ref (h 11), .ref (h 12), .ref (h 13), .ref (h 14), .ref (h 15), .ref (h 16)]), (h 0, eI G 2246 st0)]) [0, 2, 75, 76, 86, 91, 269, 270] (by decide) rfl
    have hP := hP.sub (ws' := [(x, eO 9 [.ref (g 0), .ref (g 1), .ref (g 2), .ref (g 3), .ref (g 4), .ref (g 5), .ref (g 6)]), (g 1, eO 0 [.ref (g 101), .ref (g 103), .ref (g 105), .ref (g 107), .ref (g 109), .ref (g 111), .ref (g 174), .int 5, .int 20]), (g 174, eO 6 [.ref (g 175), .ref (g 176)]), (g 175, eA G 5 4 (aL [g 177, g 180, g 183, g 186])), (g 186, eO 7 [.ref (g 187), .ref (g 188), .int 0, .int 0]), (g 4, eO 4 [.ref (g 7), .int 0, .int 0, .int 0, .int 0]), (mo, eO 10 [.ref (h 0), .ref (h 1), .ref (h 2), .long 0, .long 1, .int 0, .ref (h 3), .ref (h 4), .int 0, .ref (h 5), .ref (h 6), .int 0, .int 0, .int 0, .int 0, .ref (h 7), .ref (h 8), .ref (h 9), .ref (h 10), .ref (h 11), .ref (h 12), .ref (h 13), .ref (h 14), .ref (h 15), .ref (h 16)]), (h 0, eI G 2246 st0)]) [0, 2, 75, 76, 86, 91, 269, 270] rfl
    refine lv_aload_n hx hb dL_law_465 rfl (lv_at hl 1 rfl) ?_
    refine lv_aload_n hx hb dL_law_466 rfl (lv_at hl 0 rfl) ?_
    refine lv_iload_n hx hb dL_law_467 rfl (lv_at hl 3 rfl) ?_
    refine lv_iconst (v := 1) hx hb dL_law_468 (by decide) ?_
    refine lv_iadd hx hb dL_law_469 ?_
    refine my_bei (v := 1) (by decide) ?_
    refine va_sld hx hb hX hbl hbA hS (by unfold vp_in; decide) dL_law_470 ?_
    refine my_bei (v := xs 1) rfl ?_
    refine lv_aload_n hx hb dL_law_471 rfl (lv_at hl 0 rfl) ?_
    refine lv_iload_n hx hb dL_law_472 rfl (lv_at hl 3 rfl) ?_
    refine lv_iconst (v := 2) hx hb dL_law_473 (by decide) ?_
    refine lv_iadd hx hb dL_law_474 ?_
    refine my_bei (v := 2) (by decide) ?_
    refine va_sld hx hb hX hbl hbA hS (by unfold vp_in; decide) dL_law_475 ?_
    refine my_bei (v := xs 2) rfl ?_
    refine lv_aload_n hx hb dL_law_476 rfl (lv_at hl 0 rfl) ?_
    refine lv_iload_n hx hb dL_law_477 rfl (lv_at hl 3 rfl) ?_
    refine lv_iconst (v := 3) hx hb dL_law_478 (by decide) ?_
    refine lv_iadd hx hb dL_law_479 ?_
    refine my_bei (v := 3) (by decide) ?_
    refine va_sld hx hb hX hbl hbA hS (by unfold vp_in; decide) dL_law_480 ?_
    refine my_bei (v := xs 3) rfl ?_
    have hPc := hP.sub (ws' := [(x, eO 9 [.ref (g 0), .ref (g 1), .ref (g 2), .ref (g 3), .ref (g 4), .ref (g 5), .ref (g 6)]), (g 1, eO 0 [.ref (g 101), .ref (g 103), .ref (g 105), .ref (g 107), .ref (g 109), .ref (g 111), .ref (g 174), .int 5, .int 20]), (g 174, eO 6 [.ref (g 175), .ref (g 176)]), (g 175, eA G 5 4 (aL [g 177, g 180, g 183, g 186])), (g 186, eO 7 [.ref (g 187), .ref (g 188), .int 0, .int 0]), (g 4, eO 4 [.ref (g 7), .int 0, .int 0, .int 0, .int 0])]) [0, 1, 2, 3, 4, 5] rfl
    have hDc := hD.sub (ws' := [(x, eO 9 [.ref (g 0), .ref (g 1), .ref (g 2), .ref (g 3), .ref (g 4), .ref (g 5), .ref (g 6)]), (g 1, eO 0 [.ref (g 101), .ref (g 103), .ref (g 105), .ref (g 107), .ref (g 109), .ref (g 111), .ref (g 174), .int 5, .int 20]), (g 174, eO 6 [.ref (g 175), .ref (g 176)]), (g 175, eA G 5 4 (aL [g 177, g 180, g 183, g 186])), (g 186, eO 7 [.ref (g 187), .ref (g 188), .int 0, .int 0]), (g 4, eO 4 [.ref (g 7), .int 0, .int 0, .int 0, .int 0])]) [0, 1, 2, 3, 4, 5] (by decide) rfl
    have hFc := va_free (wc := [(x, eO 9 [.ref (g 0), .ref (g 1), .ref (g 2), .ref (g 3), .ref (g 4), .ref (g 5), .ref (g 6)]), (g 1, eO 0 [.ref (g 101), .ref (g 103), .ref (g 105), .ref (g 107), .ref (g 109), .ref (g 111), .ref (g 174), .int 5, .int 20]), (g 174, eO 6 [.ref (g 175), .ref (g 176)]), (g 175, eA G 5 4 (aL [g 177, g 180, g 183, g 186])), (g 186, eO 7 [.ref (g 187), .ref (g 188), .int 0, .int 0]), (g 4, eO 4 [.ref (g 7), .int 0, .int 0, .int 0, .int 0])]) hD hS hA [0, 1, 2, 3, 4, 5] rfl
    refine va_calli (va_runV (As := [.int (xs 1), .int (xs 2), .int (xs 3)]) (rest := []) ⟨hx, hb, hml, hown, hts⟩ (p_act l G H.size x (g 0) (g 1) (g 2) (g 3) (g 4) (g 5) (g 6) (g 101) (g 103) (g 105) (g 107) (g 109) (g 111) (g 174) (g 175) (g 176) (g 186) (g 187) (g 188) (g 7) (aL [g 177, g 180, g 183, g 186]) (xs 1) (xs 2) (xs 3) (fun _ => by rw [h4]; rfl)) (my_cwV hts ok_X10_act w_587 rfl rfl ⟨Nat.le_of_ble_eq_true rfl, Nat.le_of_ble_eq_true rfl⟩) ⟨wP.blind, va_recv hG.1 hPc (ci := 9) (q0 := 0) rfl rfl, fun U hU hW => ⟨rfl, by rw [hU], by rw [hU]; exact hPc, kG.warm hW hG, hDc.weaken (fun _ _ _ _ => trivial)⟩⟩ rfl rfl hl.1 rfl (lv_room (Nat.le_of_ble_eq_true rfl)) dL_law_481 ⟨Nat.le_of_ble_eq_true rfl, Nat.le_of_ble_eq_true rfl⟩) hS (fun q _ h => hFc q h) hFc (fun r u t H1 locs ht hvm hw hB hz1 hk1 hS => ?_)
    obtain ⟨hP, hD⟩ := va_join (wr := [(mo, eO 10 [.ref (h 0), .ref (h 1), .ref (h 2), .long 0, .long 1, .int 0, .ref (h 3), .ref (h 4), .int 0, .ref (h 5), .ref (h 6), .int 0, .int 0, .int 0, .int 0, .ref (h 7), .ref (h 8), .ref (h 9), .ref (h 10), .ref (h 11), .ref (h 12), .ref (h 13), .ref (h 14), .ref (h 15), .ref (h 16)]), (h 0, eI G 2246 st0)]) (w1 := []) hP hD [0, 1, 2, 3, 4, 5] [6, 7] rfl rfl (by decide) (by decide) hk1 hFc my_P0 my_D0
    generalize H1 = H at hP hS ⊢
    have hP : va_P G.1 vwCl [(mo, eO 10 [.ref (h 0), .ref (h 1), .ref (h 2), .long 0, .long 1, .int 0, .ref (h 3), .ref (h 4), .int 0, .ref (h 5), .ref (h 6), .int 0, .int 0, .int 0, .int 0, .ref (h 7), .ref (h 8), .ref (h 9), .ref (h 10), .ref (h 11), .ref (h 12), .ref (h 13), .ref (h 14), .ref (h 15), .ref (h 16)]), (h 0, eI G 2246 st0)] H := hP
    have hD : va_D (fun q : Nat => s.heap.size ≤ q) [(mo, eO 10 [.ref (h 0), .ref (h 1), .ref (h 2), .long 0, .long 1, .int 0, .ref (h 3), .ref (h 4), .int 0, .ref (h 5), .ref (h 6), .int 0, .int 0, .int 0, .int 0, .ref (h 7), .ref (h 8), .ref (h 9), .ref (h 10), .ref (h 11), .ref (h 12), .ref (h 13), .ref (h 14), .ref (h 15), .ref (h 16)]), (h 0, eI G 2246 st0)] := hD
    subst hw
    refine lv_aload_n hx hb dL_law_484 rfl (lv_at hl 2 rfl) ?_
    refine lv_aload_n hx hb dL_law_485 rfl (lv_at hl 0 rfl) ?_
    refine lv_iload_n hx hb dL_law_486 rfl (lv_at hl 3 rfl) ?_
    refine lv_iconst (v := 1) hx hb dL_law_487 (by decide) ?_
    refine lv_iadd hx hb dL_law_488 ?_
    refine my_bei (v := 1) (by decide) ?_
    refine va_sld hx hb hX hbl hbA hS (by unfold vp_in; decide) dL_law_489 ?_
    refine my_bei (v := xs 1) rfl ?_
    refine lv_aload_n hx hb dL_law_490 rfl (lv_at hl 0 rfl) ?_
    refine lv_iload_n hx hb dL_law_491 rfl (lv_at hl 3 rfl) ?_
    refine lv_iconst (v := 2) hx hb dL_law_492 (by decide) ?_
    refine lv_iadd hx hb dL_law_493 ?_
    refine my_bei (v := 2) (by decide) ?_
    refine va_sld hx hb hX hbl hbA hS (by unfold vp_in; decide) dL_law_494 ?_
    refine my_bei (v := xs 2) rfl ?_
    refine lv_aload_n hx hb dL_law_495 rfl (lv_at hl 0 rfl) ?_
    refine lv_iload_n hx hb dL_law_496 rfl (lv_at hl 3 rfl) ?_
    refine lv_iconst (v := 3) hx hb dL_law_497 (by decide) ?_
    refine lv_iadd hx hb dL_law_498 ?_
    refine my_bei (v := 3) (by decide) ?_
    refine va_sld hx hb hX hbl hbA hS (by unfold vp_in; decide) dL_law_499 ?_
    refine my_bei (v := xs 3) rfl ?_
    have hPc := hP.sub (ws' := [(mo, eO 10 [.ref (h 0), .ref (h 1), .ref (h 2), .long 0, .long 1, .int 0, .ref (h 3), .ref (h 4), .int 0, .ref (h 5), .ref (h 6), .int 0, .int 0, .int 0, .int 0, .ref (h 7), .ref (h 8), .ref (h 9), .ref (h 10), .ref (h 11), .ref (h 12), .ref (h 13), .ref (h 14), .ref (h 15), .ref (h 16)]), (h 0, eI G 2246 st0)]) [0, 1] rfl
    have hDc := hD.sub (ws' := [(mo, eO 10 [.ref (h 0), .ref (h 1), .ref (h 2), .long 0, .long 1, .int 0, .ref (h 3), .ref (h 4), .int 0, .ref (h 5), .ref (h 6), .int 0, .int 0, .int 0, .int 0, .ref (h 7), .ref (h 8), .ref (h 9), .ref (h 10), .ref (h 11), .ref (h 12), .ref (h 13), .ref (h 14), .ref (h 15), .ref (h 16)]), (h 0, eI G 2246 st0)]) [0, 1] (by decide) rfl
    have hFc := va_free (wc := [(mo, eO 10 [.ref (h 0), .ref (h 1), .ref (h 2), .long 0, .long 1, .int 0, .ref (h 3), .ref (h 4), .int 0, .ref (h 5), .ref (h 6), .int 0, .int 0, .int 0, .int 0, .ref (h 7), .ref (h 8), .ref (h 9), .ref (h 10), .ref (h 11), .ref (h 12), .ref (h 13), .ref (h 14), .ref (h 15), .ref (h 16)]), (h 0, eI G 2246 st0)]) hD hS hA [0, 1] rfl
    refine va_calli (va_runV (As := [.int (xs 1), .int (xs 2), .int (xs 3)]) (rest := [.int (if (inB 0 (xs 1) 3 = true) ∧ (inB 0 (xs 2) 1 = true) ∧ (inB 0 (xs 3) 9999 = true) then (-3) else (-2))]) ⟨hx, hb, hml, hown, hts⟩ (m_act l G H.size mo (h 0) (h 1) (h 2) (h 3) (h 4) (h 5) (h 6) (h 7) (h 8) (h 9) (h 10) (h 11) (h 12) (h 13) (h 14) (h 15) (h 16) (xs 1) (xs 2) (xs 3) ) (my_cwV hts ok_X11_act w_602 rfl rfl ⟨Nat.le_of_ble_eq_true rfl, Nat.le_of_ble_eq_true rfl⟩) ⟨wP.blind, va_recv hG.1 hPc (ci := 10) (q0 := 0) rfl rfl, fun U hU hW => ⟨rfl, by rw [hU], by rw [hU]; exact hPc, kG.warm hW hG, hDc.weaken (fun _ _ _ _ => trivial)⟩⟩ rfl rfl hl.1 rfl (lv_room (Nat.le_of_ble_eq_true rfl)) dL_law_500 ⟨Nat.le_of_ble_eq_true rfl, Nat.le_of_ble_eq_true rfl⟩) hS (fun q _ h => hFc q h) hFc (fun r u t H1 locs ht hvm hw hB hz1 hk1 hS => ?_)
    obtain ⟨hP, hD⟩ := va_join (wr := []) (w1 := []) hP hD [0, 1] [] rfl rfl (by decide) (by decide) hk1 hFc my_P0 my_D0
    generalize H1 = H at hP hS ⊢
    have hP : va_P G.1 vwCl [] H := hP
    have hD : va_D (fun q : Nat => s.heap.size ≤ q) [] := hD
    subst hw
    refine lv_icmp_eq (tgt := 1376) hx hb dL_law_503 (by decide) (fun c_503 => ?_) (fun c_503 => absurd (rfl) c_503)
    exact law_end l C0 hS (lv_sub hl [0, 3] rfl)
  · have hD := hD.sub (ws' := [(x, eO 9 [.ref (g 0), .ref (g 1), .ref (g 2), .ref (g 3), .ref (g 4), .ref (g 5), .ref (g 6)]), (g 1, eO 0 [.ref (g 101), .ref (g 103), .ref (g 105), .ref (g 107), .ref (g 109), .ref (g 111), .ref (g 174), .int 5, .int 20]), (g 174, eO 6 [.ref (g 175), .ref (g 176)]), (g 175, eA G 5 4 (aL [g 177, g 180, g 183, g 186])), (g 177, eO 7 [.ref (g 178), .ref (g 179), .int 0, .int 0]), (g 4, eO 4 [.ref (g 7), .int 0, .int 0, .int 0, .int 0]), (mo, eO 10 [.ref (h 0), .ref (h 1), .ref (h 2), .long 0, .long 1, .int 0, .ref (h 3), .ref (h 4), .int 0, .ref (h 5), .ref (h 6), .int 0, .int 0, .int 0, .int 0, .ref (h 7), .ref (h 8), .ref (h 9), .ref (h 10), .ref (h 11), .ref (h 12), .ref (h 13), .ref (h 14), .ref (h 15), .ref (h 16)]), (h 0, eI G 2246 st0)]) [0, 2, 75, 76, 77, 91, 269, 270] (by decide) rfl
    have hP := hP.sub (ws' := [(x, eO 9 [.ref (g 0), .ref (g 1), .ref (g 2), .ref (g 3), .ref (g 4), .ref (g 5), .ref (g 6)]), (g 1, eO 0 [.ref (g 101), .ref (g 103), .ref (g 105), .ref (g 107), .ref (g 109), .ref (g 111), .ref (g 174), .int 5, .int 20]), (g 174, eO 6 [.ref (g 175), .ref (g 176)]), (g 175, eA G 5 4 (aL [g 177, g 180, g 183, g 186])), (g 177, eO 7 [.ref (g 178), .ref (g 179), .int 0, .int 0]), (g 4, eO 4 [.ref (g 7), .int 0, .int 0, .int 0, .int 0]), (mo, eO 10 [.ref (h 0), .ref (h 1), .ref (h 2), .long 0, .long 1, .int 0, .ref (h 3), .ref (h 4), .int 0, .ref (h 5), .ref (h 6), .int 0, .int 0, .int 0, .int 0, .ref (h 7), .ref (h 8), .ref (h 9), .ref (h 10), .ref (h 11), .ref (h 12), .ref (h 13), .ref (h 14), .ref (h 15), .ref (h 16)]), (h 0, eI G 2246 st0)]) [0, 2, 75, 76, 77, 91, 269, 270] rfl
    refine lv_aload_n hx hb dL_law_465 rfl (lv_at hl 1 rfl) ?_
    refine lv_aload_n hx hb dL_law_466 rfl (lv_at hl 0 rfl) ?_
    refine lv_iload_n hx hb dL_law_467 rfl (lv_at hl 3 rfl) ?_
    refine lv_iconst (v := 1) hx hb dL_law_468 (by decide) ?_
    refine lv_iadd hx hb dL_law_469 ?_
    refine my_bei (v := 1) (by decide) ?_
    refine va_sld hx hb hX hbl hbA hS (by unfold vp_in; decide) dL_law_470 ?_
    refine my_bei (v := xs 1) rfl ?_
    refine lv_aload_n hx hb dL_law_471 rfl (lv_at hl 0 rfl) ?_
    refine lv_iload_n hx hb dL_law_472 rfl (lv_at hl 3 rfl) ?_
    refine lv_iconst (v := 2) hx hb dL_law_473 (by decide) ?_
    refine lv_iadd hx hb dL_law_474 ?_
    refine my_bei (v := 2) (by decide) ?_
    refine va_sld hx hb hX hbl hbA hS (by unfold vp_in; decide) dL_law_475 ?_
    refine my_bei (v := xs 2) rfl ?_
    refine lv_aload_n hx hb dL_law_476 rfl (lv_at hl 0 rfl) ?_
    refine lv_iload_n hx hb dL_law_477 rfl (lv_at hl 3 rfl) ?_
    refine lv_iconst (v := 3) hx hb dL_law_478 (by decide) ?_
    refine lv_iadd hx hb dL_law_479 ?_
    refine my_bei (v := 3) (by decide) ?_
    refine va_sld hx hb hX hbl hbA hS (by unfold vp_in; decide) dL_law_480 ?_
    refine my_bei (v := xs 3) rfl ?_
    have hPc := hP.sub (ws' := [(x, eO 9 [.ref (g 0), .ref (g 1), .ref (g 2), .ref (g 3), .ref (g 4), .ref (g 5), .ref (g 6)]), (g 1, eO 0 [.ref (g 101), .ref (g 103), .ref (g 105), .ref (g 107), .ref (g 109), .ref (g 111), .ref (g 174), .int 5, .int 20]), (g 174, eO 6 [.ref (g 175), .ref (g 176)]), (g 175, eA G 5 4 (aL [g 177, g 180, g 183, g 186])), (g 177, eO 7 [.ref (g 178), .ref (g 179), .int 0, .int 0]), (g 4, eO 4 [.ref (g 7), .int 0, .int 0, .int 0, .int 0])]) [0, 1, 2, 3, 4, 5] rfl
    have hDc := hD.sub (ws' := [(x, eO 9 [.ref (g 0), .ref (g 1), .ref (g 2), .ref (g 3), .ref (g 4), .ref (g 5), .ref (g 6)]), (g 1, eO 0 [.ref (g 101), .ref (g 103), .ref (g 105), .ref (g 107), .ref (g 109), .ref (g 111), .ref (g 174), .int 5, .int 20]), (g 174, eO 6 [.ref (g 175), .ref (g 176)]), (g 175, eA G 5 4 (aL [g 177, g 180, g 183, g 186])), (g 177, eO 7 [.ref (g 178), .ref (g 179), .int 0, .int 0]), (g 4, eO 4 [.ref (g 7), .int 0, .int 0, .int 0, .int 0])]) [0, 1, 2, 3, 4, 5] (by decide) rfl
    have hFc := va_free (wc := [(x, eO 9 [.ref (g 0), .ref (g 1), .ref (g 2), .ref (g 3), .ref (g 4), .ref (g 5), .ref (g 6)]), (g 1, eO 0 [.ref (g 101), .ref (g 103), .ref (g 105), .ref (g 107), .ref (g 109), .ref (g 111), .ref (g 174), .int 5, .int 20]), (g 174, eO 6 [.ref (g 175), .ref (g 176)]), (g 175, eA G 5 4 (aL [g 177, g 180, g 183, g 186])), (g 177, eO 7 [.ref (g 178), .ref (g 179), .int 0, .int 0]), (g 4, eO 4 [.ref (g 7), .int 0, .int 0, .int 0, .int 0])]) hD hS hA [0, 1, 2, 3, 4, 5] rfl
    refine va_calli (va_runV (As := [.int (xs 1), .int (xs 2), .int (xs 3)]) (rest := []) ⟨hx, hb, hml, hown, hts⟩ (p_act l G H.size x (g 0) (g 1) (g 2) (g 3) (g 4) (g 5) (g 6) (g 101) (g 103) (g 105) (g 107) (g 109) (g 111) (g 174) (g 175) (g 176) (g 177) (g 178) (g 179) (g 7) (aL [g 177, g 180, g 183, g 186]) (xs 1) (xs 2) (xs 3) (fun z => absurd z h4)) (my_cwV hts ok_X10_act w_587 rfl rfl ⟨Nat.le_of_ble_eq_true rfl, Nat.le_of_ble_eq_true rfl⟩) ⟨wP.blind, va_recv hG.1 hPc (ci := 9) (q0 := 0) rfl rfl, fun U hU hW => ⟨rfl, by rw [hU], by rw [hU]; exact hPc, kG.warm hW hG, hDc.weaken (fun _ _ _ _ => trivial)⟩⟩ rfl rfl hl.1 rfl (lv_room (Nat.le_of_ble_eq_true rfl)) dL_law_481 ⟨Nat.le_of_ble_eq_true rfl, Nat.le_of_ble_eq_true rfl⟩) hS (fun q _ h => hFc q h) hFc (fun r u t H1 locs ht hvm hw hB hz1 hk1 hS => ?_)
    obtain ⟨hP, hD⟩ := va_join (wr := [(mo, eO 10 [.ref (h 0), .ref (h 1), .ref (h 2), .long 0, .long 1, .int 0, .ref (h 3), .ref (h 4), .int 0, .ref (h 5), .ref (h 6), .int 0, .int 0, .int 0, .int 0, .ref (h 7), .ref (h 8), .ref (h 9), .ref (h 10), .ref (h 11), .ref (h 12), .ref (h 13), .ref (h 14), .ref (h 15), .ref (h 16)]), (h 0, eI G 2246 st0)]) (w1 := []) hP hD [0, 1, 2, 3, 4, 5] [6, 7] rfl rfl (by decide) (by decide) hk1 hFc my_P0 my_D0
    generalize H1 = H at hP hS ⊢
    have hP : va_P G.1 vwCl [(mo, eO 10 [.ref (h 0), .ref (h 1), .ref (h 2), .long 0, .long 1, .int 0, .ref (h 3), .ref (h 4), .int 0, .ref (h 5), .ref (h 6), .int 0, .int 0, .int 0, .int 0, .ref (h 7), .ref (h 8), .ref (h 9), .ref (h 10), .ref (h 11), .ref (h 12), .ref (h 13), .ref (h 14), .ref (h 15), .ref (h 16)]), (h 0, eI G 2246 st0)] H := hP
    have hD : va_D (fun q : Nat => s.heap.size ≤ q) [(mo, eO 10 [.ref (h 0), .ref (h 1), .ref (h 2), .long 0, .long 1, .int 0, .ref (h 3), .ref (h 4), .int 0, .ref (h 5), .ref (h 6), .int 0, .int 0, .int 0, .int 0, .ref (h 7), .ref (h 8), .ref (h 9), .ref (h 10), .ref (h 11), .ref (h 12), .ref (h 13), .ref (h 14), .ref (h 15), .ref (h 16)]), (h 0, eI G 2246 st0)] := hD
    subst hw
    refine lv_aload_n hx hb dL_law_484 rfl (lv_at hl 2 rfl) ?_
    refine lv_aload_n hx hb dL_law_485 rfl (lv_at hl 0 rfl) ?_
    refine lv_iload_n hx hb dL_law_486 rfl (lv_at hl 3 rfl) ?_
    refine lv_iconst (v := 1) hx hb dL_law_487 (by decide) ?_
    refine lv_iadd hx hb dL_law_488 ?_
    refine my_bei (v := 1) (by decide) ?_
    refine va_sld hx hb hX hbl hbA hS (by unfold vp_in; decide) dL_law_489 ?_
    refine my_bei (v := xs 1) rfl ?_
    refine lv_aload_n hx hb dL_law_490 rfl (lv_at hl 0 rfl) ?_
    refine lv_iload_n hx hb dL_law_491 rfl (lv_at hl 3 rfl) ?_
    refine lv_iconst (v := 2) hx hb dL_law_492 (by decide) ?_
    refine lv_iadd hx hb dL_law_493 ?_
    refine my_bei (v := 2) (by decide) ?_
    refine va_sld hx hb hX hbl hbA hS (by unfold vp_in; decide) dL_law_494 ?_
    refine my_bei (v := xs 2) rfl ?_
    refine lv_aload_n hx hb dL_law_495 rfl (lv_at hl 0 rfl) ?_
    refine lv_iload_n hx hb dL_law_496 rfl (lv_at hl 3 rfl) ?_
    refine lv_iconst (v := 3) hx hb dL_law_497 (by decide) ?_
    refine lv_iadd hx hb dL_law_498 ?_
    refine my_bei (v := 3) (by decide) ?_
    refine va_sld hx hb hX hbl hbA hS (by unfold vp_in; decide) dL_law_499 ?_
    refine my_bei (v := xs 3) rfl ?_
    have hPc := hP.sub (ws' := [(mo, eO 10 [.ref (h 0), .ref (h 1), .ref (h 2), .long 0, .long 1, .int 0, .ref (h 3), .ref (h 4), .int 0, .ref (h 5), .ref (h 6), .int 0, .int 0, .int 0, .int 0, .ref (h 7), .ref (h 8), .ref (h 9), .ref (h 10), .ref (h 11), .ref (h 12), .ref (h 13), .ref (h 14), .ref (h 15), .ref (h 16)]), (h 0, eI G 2246 st0)]) [0, 1] rfl
    have hDc := hD.sub (ws' := [(mo, eO 10 [.ref (h 0), .ref (h 1), .ref (h 2), .long 0, .long 1, .int 0, .ref (h 3), .ref (h 4), .int 0, .ref (h 5), .ref (h 6), .int 0, .int 0, .int 0, .int 0, .ref (h 7), .ref (h 8), .ref (h 9), .ref (h 10), .ref (h 11), .ref (h 12), .ref (h 13), .ref (h 14), .ref (h 15), .ref (h 16)]), (h 0, eI G 2246 st0)]) [0, 1] (by decide) rfl
    have hFc := va_free (wc := [(mo, eO 10 [.ref (h 0), .ref (h 1), .ref (h 2), .long 0, .long 1, .int 0, .ref (h 3), .ref (h 4), .int 0, .ref (h 5), .ref (h 6), .int 0, .int 0, .int 0, .int 0, .ref (h 7), .ref (h 8), .ref (h 9), .ref (h 10), .ref (h 11), .ref (h 12), .ref (h 13), .ref (h 14), .ref (h 15), .ref (h 16)]), (h 0, eI G 2246 st0)]) hD hS hA [0, 1] rfl
    refine va_calli (va_runV (As := [.int (xs 1), .int (xs 2), .int (xs 3)]) (rest := [.int (if (inB 0 (xs 1) 3 = true) ∧ (inB 0 (xs 2) 1 = true) ∧ (inB 0 (xs 3) 9999 = true) then (-3) else (-2))]) ⟨hx, hb, hml, hown, hts⟩ (m_act l G H.size mo (h 0) (h 1) (h 2) (h 3) (h 4) (h 5) (h 6) (h 7) (h 8) (h 9) (h 10) (h 11) (h 12) (h 13) (h 14) (h 15) (h 16) (xs 1) (xs 2) (xs 3) ) (my_cwV hts ok_X11_act w_602 rfl rfl ⟨Nat.le_of_ble_eq_true rfl, Nat.le_of_ble_eq_true rfl⟩) ⟨wP.blind, va_recv hG.1 hPc (ci := 10) (q0 := 0) rfl rfl, fun U hU hW => ⟨rfl, by rw [hU], by rw [hU]; exact hPc, kG.warm hW hG, hDc.weaken (fun _ _ _ _ => trivial)⟩⟩ rfl rfl hl.1 rfl (lv_room (Nat.le_of_ble_eq_true rfl)) dL_law_500 ⟨Nat.le_of_ble_eq_true rfl, Nat.le_of_ble_eq_true rfl⟩) hS (fun q _ h => hFc q h) hFc (fun r u t H1 locs ht hvm hw hB hz1 hk1 hS => ?_)
    obtain ⟨hP, hD⟩ := va_join (wr := []) (w1 := []) hP hD [0, 1] [] rfl rfl (by decide) (by decide) hk1 hFc my_P0 my_D0
    generalize H1 = H at hP hS ⊢
    have hP : va_P G.1 vwCl [] H := hP
    have hD : va_D (fun q : Nat => s.heap.size ≤ q) [] := hD
    subst hw
    refine lv_icmp_eq (tgt := 1376) hx hb dL_law_503 (by decide) (fun c_503 => ?_) (fun c_503 => absurd (rfl) c_503)
    exact law_end l C0 hS (lv_sub hl [0, 3] rfl)
set_option maxHeartbeats 4000000 in
set_option maxRecDepth 100000 in
theorem law_9 {p : Program} {e : Env} {s : State} {m : MethodId} {below : List Frame} {meth : Method} {c : Code} (l : Launch) {b : Nat} {xs : Nat → Int32} (G : gW) (C0 : lw_At p s m meth c b 10 xs) (hG : kG G s) {x mo : Nat} {g h : Nat → Nat} {H : Heap} {locs : List Loc} {ls : Array Slot} (hP : va_P G.1 vwCl (lwW G x g mo h) H) (hD : va_D (fun q : Nat => s.heap.size ≤ q) (lwW G x g mo h)) (hS : va_S (fun q : Nat => s.heap.size ≤ q) s.heap H locs) (hl : lv_has ls 4 [(0, .ref b), (1, .ref x), (2, .ref mo), (3, .int 0)]) : W p l e room_1 s m #[Value.ref b] below meth c H locs 333 19609 (lw_Z below #[Value.ref b] s) (F0 m 508 ls []) := by
  obtain ⟨hx, hb, hr, hml, hown, hts0, hX, hbl, hlocks, hgv⟩ := id C0
  have hts : ∀ w ∈ TT, w.before #[Value.ref b] s = true := fun w h => hts0 w (List.mem_filter.mp h).1
  have hA : ∀ q : Nat, s.heap.size ≤ q → (fun q : Nat => s.heap.size ≤ q) q := fun _ h => h
  have hbA : ¬ (fun q : Nat => s.heap.size ≤ q) b := Nat.not_le.mpr hbl
  have hD := hD.sub (ws' := [(x, eO 9 [.ref (g 0), .ref (g 1), .ref (g 2), .ref (g 3), .ref (g 4), .ref (g 5), .ref (g 6)]), (g 1, eO 0 [.ref (g 101), .ref (g 103), .ref (g 105), .ref (g 107), .ref (g 109), .ref (g 111), .ref (g 174), .int 5, .int 20]), (g 107, eO 5 [.int 20, .int 3, .ref (g 108), .int 0]), (mo, eO 10 [.ref (h 0), .ref (h 1), .ref (h 2), .long 0, .long 1, .int 0, .ref (h 3), .ref (h 4), .int 0, .ref (h 5), .ref (h 6), .int 0, .int 0, .int 0, .int 0, .ref (h 7), .ref (h 8), .ref (h 9), .ref (h 10), .ref (h 11), .ref (h 12), .ref (h 13), .ref (h 14), .ref (h 15), .ref (h 16)]), (h 0, eI G 2246 st0)]) [0, 2, 9, 269, 270] (by decide) rfl
  have hP := hP.sub (ws' := [(x, eO 9 [.ref (g 0), .ref (g 1), .ref (g 2), .ref (g 3), .ref (g 4), .ref (g 5), .ref (g 6)]), (g 1, eO 0 [.ref (g 101), .ref (g 103), .ref (g 105), .ref (g 107), .ref (g 109), .ref (g 111), .ref (g 174), .int 5, .int 20]), (g 107, eO 5 [.int 20, .int 3, .ref (g 108), .int 0]), (mo, eO 10 [.ref (h 0), .ref (h 1), .ref (h 2), .long 0, .long 1, .int 0, .ref (h 3), .ref (h 4), .int 0, .ref (h 5), .ref (h 6), .int 0, .int 0, .int 0, .int 0, .ref (h 7), .ref (h 8), .ref (h 9), .ref (h 10), .ref (h 11), .ref (h 12), .ref (h 13), .ref (h 14), .ref (h 15), .ref (h 16)]), (h 0, eI G 2246 st0)]) [0, 2, 9, 269, 270] rfl
  refine lv_aload_n hx hb dL_law_508 rfl (lv_at hl 1 rfl) ?_
  refine lv_aload_n hx hb dL_law_509 rfl (lv_at hl 0 rfl) ?_
  refine lv_iload_n hx hb dL_law_510 rfl (lv_at hl 3 rfl) ?_
  refine lv_iconst (v := 1) hx hb dL_law_511 (by decide) ?_
  refine lv_iadd hx hb dL_law_512 ?_
  refine my_bei (v := 1) (by decide) ?_
  refine va_sld hx hb hX hbl hbA hS (by unfold vp_in; decide) dL_law_513 ?_
  refine my_bei (v := xs 1) rfl ?_
  refine lv_aload_n hx hb dL_law_514 rfl (lv_at hl 0 rfl) ?_
  refine lv_iload_n hx hb dL_law_515 rfl (lv_at hl 3 rfl) ?_
  refine lv_iconst (v := 2) hx hb dL_law_516 (by decide) ?_
  refine lv_iadd hx hb dL_law_517 ?_
  refine my_bei (v := 2) (by decide) ?_
  refine va_sld hx hb hX hbl hbA hS (by unfold vp_in; decide) dL_law_518 ?_
  refine my_bei (v := xs 2) rfl ?_
  have hPc := hP.sub (ws' := [(x, eO 9 [.ref (g 0), .ref (g 1), .ref (g 2), .ref (g 3), .ref (g 4), .ref (g 5), .ref (g 6)]), (g 1, eO 0 [.ref (g 101), .ref (g 103), .ref (g 105), .ref (g 107), .ref (g 109), .ref (g 111), .ref (g 174), .int 5, .int 20]), (g 107, eO 5 [.int 20, .int 3, .ref (g 108), .int 0])]) [0, 1, 2] rfl
  refine rd_calli (va_runV (As := [.int (xs 1), .int (xs 2)]) (rest := []) ⟨hx, hb, hml, hown, hts⟩ (p_strikeOut l G x (g 0) (g 1) (g 2) (g 3) (g 4) (g 5) (g 6) (g 101) (g 103) (g 105) (g 107) (g 109) (g 111) (g 174) (g 108) (xs 1) (xs 2) ) (my_cwV hts ok_X10_strikeOut w_606 rfl rfl ⟨Nat.le_of_ble_eq_true rfl, Nat.le_of_ble_eq_true rfl⟩) ⟨rP.blind, va_recv hG.1 hPc (ci := 9) (q0 := 0) rfl rfl, fun U hU hW => ⟨rfl, by rw [hU]; exact hPc, kG.warm hW hG⟩⟩ rfl rfl hl.1 rfl (lv_room (Nat.le_of_ble_eq_true rfl)) dL_law_519 ⟨Nat.le_of_ble_eq_true rfl, Nat.le_of_ble_eq_true rfl⟩) (fun r hr9 => ?_)
  subst hr9
  refine lv_aload_n hx hb dL_law_522 rfl (lv_at hl 2 rfl) ?_
  refine lv_aload_n hx hb dL_law_523 rfl (lv_at hl 0 rfl) ?_
  refine lv_iload_n hx hb dL_law_524 rfl (lv_at hl 3 rfl) ?_
  refine lv_iconst (v := 1) hx hb dL_law_525 (by decide) ?_
  refine lv_iadd hx hb dL_law_526 ?_
  refine my_bei (v := 1) (by decide) ?_
  refine va_sld hx hb hX hbl hbA hS (by unfold vp_in; decide) dL_law_527 ?_
  refine my_bei (v := xs 1) rfl ?_
  refine lv_aload_n hx hb dL_law_528 rfl (lv_at hl 0 rfl) ?_
  refine lv_iload_n hx hb dL_law_529 rfl (lv_at hl 3 rfl) ?_
  refine lv_iconst (v := 2) hx hb dL_law_530 (by decide) ?_
  refine lv_iadd hx hb dL_law_531 ?_
  refine my_bei (v := 2) (by decide) ?_
  refine va_sld hx hb hX hbl hbA hS (by unfold vp_in; decide) dL_law_532 ?_
  refine my_bei (v := xs 2) rfl ?_
  have hPc := hP.sub (ws' := [(mo, eO 10 [.ref (h 0), .ref (h 1), .ref (h 2), .long 0, .long 1, .int 0, .ref (h 3), .ref (h 4), .int 0, .ref (h 5), .ref (h 6), .int 0, .int 0, .int 0, .int 0, .ref (h 7), .ref (h 8), .ref (h 9), .ref (h 10), .ref (h 11), .ref (h 12), .ref (h 13), .ref (h 14), .ref (h 15), .ref (h 16)]), (h 0, eI G 2246 st0)]) [3, 4] rfl
  refine rd_calli (va_runV (As := [.int (xs 1), .int (xs 2)]) (rest := [.int (-2)]) ⟨hx, hb, hml, hown, hts⟩ (m_strikeOut l G mo (h 0) (h 1) (h 2) (h 3) (h 4) (h 5) (h 6) (h 7) (h 8) (h 9) (h 10) (h 11) (h 12) (h 13) (h 14) (h 15) (h 16) (xs 1) (xs 2) ) (my_cwV hts ok_X11_strikeOut w_611 rfl rfl ⟨Nat.le_of_ble_eq_true rfl, Nat.le_of_ble_eq_true rfl⟩) ⟨rP.blind, va_recv hG.1 hPc (ci := 10) (q0 := 0) rfl rfl, fun U hU hW => ⟨rfl, by rw [hU]; exact hPc, kG.warm hW hG⟩⟩ rfl rfl hl.1 rfl (lv_room (Nat.le_of_ble_eq_true rfl)) dL_law_533 ⟨Nat.le_of_ble_eq_true rfl, Nat.le_of_ble_eq_true rfl⟩) (fun r hr9 => ?_)
  subst hr9
  refine lv_icmp_eq (tgt := 1376) hx hb dL_law_536 (by decide) (fun c_536 => ?_) (fun c_536 => absurd (by decide) c_536)
  exact law_end l C0 hS (lv_sub hl [0, 3] rfl)
set_option maxHeartbeats 4000000 in
set_option maxRecDepth 100000 in
theorem law_10 {p : Program} {e : Env} {s : State} {m : MethodId} {below : List Frame} {meth : Method} {c : Code} (l : Launch) {b : Nat} {xs : Nat → Int32} (G : gW) (C0 : lw_At p s m meth c b 10 xs) (hG : kG G s) {x mo : Nat} {g h : Nat → Nat} {H : Heap} {locs : List Loc} {ls : Array Slot} (hP : va_P G.1 vwCl (lwW G x g mo h) H) (hD : va_D (fun q : Nat => s.heap.size ≤ q) (lwW G x g mo h)) (hS : va_S (fun q : Nat => s.heap.size ≤ q) s.heap H locs) (hl : lv_has ls 4 [(0, .ref b), (1, .ref x), (2, .ref mo), (3, .int 0)]) : W p l e room_1 s m #[Value.ref b] below meth c H locs 333 19609 (lw_Z below #[Value.ref b] s) (F0 m 541 ls []) := by
  obtain ⟨hx, hb, hr, hml, hown, hts0, hX, hbl, hlocks, hgv⟩ := id C0
  have hts : ∀ w ∈ TT, w.before #[Value.ref b] s = true := fun w h => hts0 w (List.mem_filter.mp h).1
  have hA : ∀ q : Nat, s.heap.size ≤ q → (fun q : Nat => s.heap.size ≤ q) q := fun _ h => h
  have hbA : ¬ (fun q : Nat => s.heap.size ≤ q) b := Nat.not_le.mpr hbl
  have hD := hD.sub (ws' := [(x, eO 9 [.ref (g 0), .ref (g 1), .ref (g 2), .ref (g 3), .ref (g 4), .ref (g 5), .ref (g 6)]), (g 1, eO 0 [.ref (g 101), .ref (g 103), .ref (g 105), .ref (g 107), .ref (g 109), .ref (g 111), .ref (g 174), .int 5, .int 20]), (g 107, eO 5 [.int 20, .int 3, .ref (g 108), .int 0]), (mo, eO 10 [.ref (h 0), .ref (h 1), .ref (h 2), .long 0, .long 1, .int 0, .ref (h 3), .ref (h 4), .int 0, .ref (h 5), .ref (h 6), .int 0, .int 0, .int 0, .int 0, .ref (h 7), .ref (h 8), .ref (h 9), .ref (h 10), .ref (h 11), .ref (h 12), .ref (h 13), .ref (h 14), .ref (h 15), .ref (h 16)]), (h 0, eI G 2246 st0)]) [0, 2, 9, 269, 270] (by decide) rfl
  have hP := hP.sub (ws' := [(x, eO 9 [.ref (g 0), .ref (g 1), .ref (g 2), .ref (g 3), .ref (g 4), .ref (g 5), .ref (g 6)]), (g 1, eO 0 [.ref (g 101), .ref (g 103), .ref (g 105), .ref (g 107), .ref (g 109), .ref (g 111), .ref (g 174), .int 5, .int 20]), (g 107, eO 5 [.int 20, .int 3, .ref (g 108), .int 0]), (mo, eO 10 [.ref (h 0), .ref (h 1), .ref (h 2), .long 0, .long 1, .int 0, .ref (h 3), .ref (h 4), .int 0, .ref (h 5), .ref (h 6), .int 0, .int 0, .int 0, .int 0, .ref (h 7), .ref (h 8), .ref (h 9), .ref (h 10), .ref (h 11), .ref (h 12), .ref (h 13), .ref (h 14), .ref (h 15), .ref (h 16)]), (h 0, eI G 2246 st0)]) [0, 2, 9, 269, 270] rfl
  refine lv_aload_n hx hb dL_law_541 rfl (lv_at hl 1 rfl) ?_
  refine lv_aload_n hx hb dL_law_542 rfl (lv_at hl 0 rfl) ?_
  refine lv_iload_n hx hb dL_law_543 rfl (lv_at hl 3 rfl) ?_
  refine lv_iconst (v := 1) hx hb dL_law_544 (by decide) ?_
  refine lv_iadd hx hb dL_law_545 ?_
  refine my_bei (v := 1) (by decide) ?_
  refine va_sld hx hb hX hbl hbA hS (by unfold vp_in; decide) dL_law_546 ?_
  refine my_bei (v := xs 1) rfl ?_
  refine lv_aload_n hx hb dL_law_547 rfl (lv_at hl 0 rfl) ?_
  refine lv_iload_n hx hb dL_law_548 rfl (lv_at hl 3 rfl) ?_
  refine lv_iconst (v := 2) hx hb dL_law_549 (by decide) ?_
  refine lv_iadd hx hb dL_law_550 ?_
  refine my_bei (v := 2) (by decide) ?_
  refine va_sld hx hb hX hbl hbA hS (by unfold vp_in; decide) dL_law_551 ?_
  refine my_bei (v := xs 2) rfl ?_
  have hPc := hP.sub (ws' := [(x, eO 9 [.ref (g 0), .ref (g 1), .ref (g 2), .ref (g 3), .ref (g 4), .ref (g 5), .ref (g 6)]), (g 1, eO 0 [.ref (g 101), .ref (g 103), .ref (g 105), .ref (g 107), .ref (g 109), .ref (g 111), .ref (g 174), .int 5, .int 20]), (g 107, eO 5 [.int 20, .int 3, .ref (g 108), .int 0])]) [0, 1, 2] rfl
  refine rd_calli (va_runV (As := [.int (xs 1), .int (xs 2)]) (rest := []) ⟨hx, hb, hml, hown, hts⟩ (p_force l G x (g 0) (g 1) (g 2) (g 3) (g 4) (g 5) (g 6) (g 101) (g 103) (g 105) (g 107) (g 109) (g 111) (g 174) (g 108) (xs 1) (xs 2) ) (my_cwV hts ok_X10_force w_615 rfl rfl ⟨Nat.le_of_ble_eq_true rfl, Nat.le_of_ble_eq_true rfl⟩) ⟨rP.blind, va_recv hG.1 hPc (ci := 9) (q0 := 0) rfl rfl, fun U hU hW => ⟨rfl, by rw [hU]; exact hPc, kG.warm hW hG⟩⟩ rfl rfl hl.1 rfl (lv_room (Nat.le_of_ble_eq_true rfl)) dL_law_552 ⟨Nat.le_of_ble_eq_true rfl, Nat.le_of_ble_eq_true rfl⟩) (fun r hr9 => ?_)
  subst hr9
  refine lv_aload_n hx hb dL_law_555 rfl (lv_at hl 2 rfl) ?_
  refine lv_aload_n hx hb dL_law_556 rfl (lv_at hl 0 rfl) ?_
  refine lv_iload_n hx hb dL_law_557 rfl (lv_at hl 3 rfl) ?_
  refine lv_iconst (v := 1) hx hb dL_law_558 (by decide) ?_
  refine lv_iadd hx hb dL_law_559 ?_
  refine my_bei (v := 1) (by decide) ?_
  refine va_sld hx hb hX hbl hbA hS (by unfold vp_in; decide) dL_law_560 ?_
  refine my_bei (v := xs 1) rfl ?_
  refine lv_aload_n hx hb dL_law_561 rfl (lv_at hl 0 rfl) ?_
  refine lv_iload_n hx hb dL_law_562 rfl (lv_at hl 3 rfl) ?_
  refine lv_iconst (v := 2) hx hb dL_law_563 (by decide) ?_
  refine lv_iadd hx hb dL_law_564 ?_
  refine my_bei (v := 2) (by decide) ?_
  refine va_sld hx hb hX hbl hbA hS (by unfold vp_in; decide) dL_law_565 ?_
  refine my_bei (v := xs 2) rfl ?_
  have hPc := hP.sub (ws' := [(mo, eO 10 [.ref (h 0), .ref (h 1), .ref (h 2), .long 0, .long 1, .int 0, .ref (h 3), .ref (h 4), .int 0, .ref (h 5), .ref (h 6), .int 0, .int 0, .int 0, .int 0, .ref (h 7), .ref (h 8), .ref (h 9), .ref (h 10), .ref (h 11), .ref (h 12), .ref (h 13), .ref (h 14), .ref (h 15), .ref (h 16)]), (h 0, eI G 2246 st0)]) [3, 4] rfl
  refine rd_calli (va_runV (As := [.int (xs 1), .int (xs 2)]) (rest := [.int (if (inB 0 (xs 1) 1 = true) ∧ (inB 0 (xs 2) 9999 = true) then (-1) else (-2))]) ⟨hx, hb, hml, hown, hts⟩ (m_force l G mo (h 0) (h 1) (h 2) (h 3) (h 4) (h 5) (h 6) (h 7) (h 8) (h 9) (h 10) (h 11) (h 12) (h 13) (h 14) (h 15) (h 16) (xs 1) (xs 2) ) (my_cwV hts ok_X11_force w_620 rfl rfl ⟨Nat.le_of_ble_eq_true rfl, Nat.le_of_ble_eq_true rfl⟩) ⟨rP.blind, va_recv hG.1 hPc (ci := 10) (q0 := 0) rfl rfl, fun U hU hW => ⟨rfl, by rw [hU]; exact hPc, kG.warm hW hG⟩⟩ rfl rfl hl.1 rfl (lv_room (Nat.le_of_ble_eq_true rfl)) dL_law_566 ⟨Nat.le_of_ble_eq_true rfl, Nat.le_of_ble_eq_true rfl⟩) (fun r hr9 => ?_)
  subst hr9
  refine lv_icmp_eq (tgt := 1376) hx hb dL_law_569 (by decide) (fun c_569 => ?_) (fun c_569 => absurd (rfl) c_569)
  exact law_end l C0 hS (lv_sub hl [0, 3] rfl)
set_option maxHeartbeats 4000000 in
set_option maxRecDepth 100000 in
theorem law_11 {p : Program} {e : Env} {s : State} {m : MethodId} {below : List Frame} {meth : Method} {c : Code} (l : Launch) {b : Nat} {xs : Nat → Int32} (G : gW) (C0 : lw_At p s m meth c b 10 xs) (hG : kG G s) {x mo : Nat} {g h : Nat → Nat} {H : Heap} {locs : List Loc} {ls : Array Slot} (hP : va_P G.1 vwCl (lwW G x g mo h) H) (hD : va_D (fun q : Nat => s.heap.size ≤ q) (lwW G x g mo h)) (hS : va_S (fun q : Nat => s.heap.size ≤ q) s.heap H locs) (hl : lv_has ls 4 [(0, .ref b), (1, .ref x), (2, .ref mo), (3, .int 0)]) : W p l e room_1 s m #[Value.ref b] below meth c H locs 333 19609 (lw_Z below #[Value.ref b] s) (F0 m 574 ls []) := by
  obtain ⟨hx, hb, hr, hml, hown, hts0, hX, hbl, hlocks, hgv⟩ := id C0
  have hts : ∀ w ∈ TT, w.before #[Value.ref b] s = true := fun w h => hts0 w (List.mem_filter.mp h).1
  have hA : ∀ q : Nat, s.heap.size ≤ q → (fun q : Nat => s.heap.size ≤ q) q := fun _ h => h
  have hbA : ¬ (fun q : Nat => s.heap.size ≤ q) b := Nat.not_le.mpr hbl
  have hD := hD.sub (ws' := [(x, eO 9 [.ref (g 0), .ref (g 1), .ref (g 2), .ref (g 3), .ref (g 4), .ref (g 5), .ref (g 6)]), (g 1, eO 0 [.ref (g 101), .ref (g 103), .ref (g 105), .ref (g 107), .ref (g 109), .ref (g 111), .ref (g 174), .int 5, .int 20]), (g 101, eO 5 [.int 30, .int 4, .ref (g 102), .int 0]), (mo, eO 10 [.ref (h 0), .ref (h 1), .ref (h 2), .long 0, .long 1, .int 0, .ref (h 3), .ref (h 4), .int 0, .ref (h 5), .ref (h 6), .int 0, .int 0, .int 0, .int 0, .ref (h 7), .ref (h 8), .ref (h 9), .ref (h 10), .ref (h 11), .ref (h 12), .ref (h 13), .ref (h 14), .ref (h 15), .ref (h 16)]), (h 0, eI G 2246 st0)]) [0, 2, 3, 269, 270] (by decide) rfl
  have hP := hP.sub (ws' := [(x, eO 9 [.ref (g 0), .ref (g 1), .ref (g 2), .ref (g 3), .ref (g 4), .ref (g 5), .ref (g 6)]), (g 1, eO 0 [.ref (g 101), .ref (g 103), .ref (g 105), .ref (g 107), .ref (g 109), .ref (g 111), .ref (g 174), .int 5, .int 20]), (g 101, eO 5 [.int 30, .int 4, .ref (g 102), .int 0]), (mo, eO 10 [.ref (h 0), .ref (h 1), .ref (h 2), .long 0, .long 1, .int 0, .ref (h 3), .ref (h 4), .int 0, .ref (h 5), .ref (h 6), .int 0, .int 0, .int 0, .int 0, .ref (h 7), .ref (h 8), .ref (h 9), .ref (h 10), .ref (h 11), .ref (h 12), .ref (h 13), .ref (h 14), .ref (h 15), .ref (h 16)]), (h 0, eI G 2246 st0)]) [0, 2, 3, 269, 270] rfl
  refine lv_aload_n hx hb dL_law_574 rfl (lv_at hl 1 rfl) ?_
  refine lv_aload_n hx hb dL_law_575 rfl (lv_at hl 0 rfl) ?_
  refine lv_iload_n hx hb dL_law_576 rfl (lv_at hl 3 rfl) ?_
  refine lv_iconst (v := 1) hx hb dL_law_577 (by decide) ?_
  refine lv_iadd hx hb dL_law_578 ?_
  refine my_bei (v := 1) (by decide) ?_
  refine va_sld hx hb hX hbl hbA hS (by unfold vp_in; decide) dL_law_579 ?_
  refine my_bei (v := xs 1) rfl ?_
  refine lv_aload_n hx hb dL_law_580 rfl (lv_at hl 0 rfl) ?_
  refine lv_iload_n hx hb dL_law_581 rfl (lv_at hl 3 rfl) ?_
  refine lv_iconst (v := 2) hx hb dL_law_582 (by decide) ?_
  refine lv_iadd hx hb dL_law_583 ?_
  refine my_bei (v := 2) (by decide) ?_
  refine va_sld hx hb hX hbl hbA hS (by unfold vp_in; decide) dL_law_584 ?_
  refine my_bei (v := xs 2) rfl ?_
  refine lv_aload_n hx hb dL_law_585 rfl (lv_at hl 0 rfl) ?_
  refine lv_iload_n hx hb dL_law_586 rfl (lv_at hl 3 rfl) ?_
  refine lv_iconst (v := 3) hx hb dL_law_587 (by decide) ?_
  refine lv_iadd hx hb dL_law_588 ?_
  refine my_bei (v := 3) (by decide) ?_
  refine va_sld hx hb hX hbl hbA hS (by unfold vp_in; decide) dL_law_589 ?_
  refine my_bei (v := xs 3) rfl ?_
  have hPc := hP.sub (ws' := [(x, eO 9 [.ref (g 0), .ref (g 1), .ref (g 2), .ref (g 3), .ref (g 4), .ref (g 5), .ref (g 6)]), (g 1, eO 0 [.ref (g 101), .ref (g 103), .ref (g 105), .ref (g 107), .ref (g 109), .ref (g 111), .ref (g 174), .int 5, .int 20]), (g 101, eO 5 [.int 30, .int 4, .ref (g 102), .int 0])]) [0, 1, 2] rfl
  refine rd_calli (va_runV (As := [.int (xs 1), .int (xs 2), .int (xs 3)]) (rest := []) ⟨hx, hb, hml, hown, hts⟩ (p_may l G x (g 0) (g 1) (g 2) (g 3) (g 4) (g 5) (g 6) (g 101) (g 103) (g 105) (g 107) (g 109) (g 111) (g 174) (g 102) (xs 1) (xs 2) (xs 3) ) (my_cwV hts ok_X10_may w_624 rfl rfl ⟨Nat.le_of_ble_eq_true rfl, Nat.le_of_ble_eq_true rfl⟩) ⟨rP.blind, va_recv hG.1 hPc (ci := 9) (q0 := 0) rfl rfl, fun U hU hW => ⟨rfl, by rw [hU]; exact hPc, kG.warm hW hG⟩⟩ rfl rfl hl.1 rfl (lv_room (Nat.le_of_ble_eq_true rfl)) dL_law_590 ⟨Nat.le_of_ble_eq_true rfl, Nat.le_of_ble_eq_true rfl⟩) (fun r hr9 => ?_)
  subst hr9
  refine lv_aload_n hx hb dL_law_593 rfl (lv_at hl 2 rfl) ?_
  refine lv_aload_n hx hb dL_law_594 rfl (lv_at hl 0 rfl) ?_
  refine lv_iload_n hx hb dL_law_595 rfl (lv_at hl 3 rfl) ?_
  refine lv_iconst (v := 1) hx hb dL_law_596 (by decide) ?_
  refine lv_iadd hx hb dL_law_597 ?_
  refine my_bei (v := 1) (by decide) ?_
  refine va_sld hx hb hX hbl hbA hS (by unfold vp_in; decide) dL_law_598 ?_
  refine my_bei (v := xs 1) rfl ?_
  refine lv_aload_n hx hb dL_law_599 rfl (lv_at hl 0 rfl) ?_
  refine lv_iload_n hx hb dL_law_600 rfl (lv_at hl 3 rfl) ?_
  refine lv_iconst (v := 2) hx hb dL_law_601 (by decide) ?_
  refine lv_iadd hx hb dL_law_602 ?_
  refine my_bei (v := 2) (by decide) ?_
  refine va_sld hx hb hX hbl hbA hS (by unfold vp_in; decide) dL_law_603 ?_
  refine my_bei (v := xs 2) rfl ?_
  refine lv_aload_n hx hb dL_law_604 rfl (lv_at hl 0 rfl) ?_
  refine lv_iload_n hx hb dL_law_605 rfl (lv_at hl 3 rfl) ?_
  refine lv_iconst (v := 3) hx hb dL_law_606 (by decide) ?_
  refine lv_iadd hx hb dL_law_607 ?_
  refine my_bei (v := 3) (by decide) ?_
  refine va_sld hx hb hX hbl hbA hS (by unfold vp_in; decide) dL_law_608 ?_
  refine my_bei (v := xs 3) rfl ?_
  have hPc := hP.sub (ws' := [(mo, eO 10 [.ref (h 0), .ref (h 1), .ref (h 2), .long 0, .long 1, .int 0, .ref (h 3), .ref (h 4), .int 0, .ref (h 5), .ref (h 6), .int 0, .int 0, .int 0, .int 0, .ref (h 7), .ref (h 8), .ref (h 9), .ref (h 10), .ref (h 11), .ref (h 12), .ref (h 13), .ref (h 14), .ref (h 15), .ref (h 16)]), (h 0, eI G 2246 st0)]) [3, 4] rfl
  refine rd_calli (va_runV (As := [.int (xs 1), .int (xs 2), .int (xs 3)]) (rest := [.int (-2)]) ⟨hx, hb, hml, hown, hts⟩ (m_may l G mo (h 0) (h 1) (h 2) (h 3) (h 4) (h 5) (h 6) (h 7) (h 8) (h 9) (h 10) (h 11) (h 12) (h 13) (h 14) (h 15) (h 16) (xs 1) (xs 2) (xs 3) ) (my_cwV hts ok_X11_may w_630 rfl rfl ⟨Nat.le_of_ble_eq_true rfl, Nat.le_of_ble_eq_true rfl⟩) ⟨rP.blind, va_recv hG.1 hPc (ci := 10) (q0 := 0) rfl rfl, fun U hU hW => ⟨rfl, by rw [hU]; exact hPc, kG.warm hW hG⟩⟩ rfl rfl hl.1 rfl (lv_room (Nat.le_of_ble_eq_true rfl)) dL_law_609 ⟨Nat.le_of_ble_eq_true rfl, Nat.le_of_ble_eq_true rfl⟩) (fun r hr9 => ?_)
  subst hr9
  refine lv_icmp_eq (tgt := 1376) hx hb dL_law_612 (by decide) (fun c_612 => ?_) (fun c_612 => absurd (by decide) c_612)
  exact law_end l C0 hS (lv_sub hl [0, 3] rfl)
set_option maxHeartbeats 4000000 in
set_option maxRecDepth 100000 in
theorem law_12 {p : Program} {e : Env} {s : State} {m : MethodId} {below : List Frame} {meth : Method} {c : Code} (l : Launch) {b : Nat} {xs : Nat → Int32} (G : gW) (C0 : lw_At p s m meth c b 10 xs) (hG : kG G s) {x mo : Nat} {g h : Nat → Nat} {H : Heap} {locs : List Loc} {ls : Array Slot} (hP : va_P G.1 vwCl (lwW G x g mo h) H) (hD : va_D (fun q : Nat => s.heap.size ≤ q) (lwW G x g mo h)) (hS : va_S (fun q : Nat => s.heap.size ≤ q) s.heap H locs) (hl : lv_has ls 4 [(0, .ref b), (1, .ref x), (2, .ref mo), (3, .int 0)]) : W p l e room_1 s m #[Value.ref b] below meth c H locs 333 19609 (lw_Z below #[Value.ref b] s) (F0 m 617 ls []) := by
  obtain ⟨hx, hb, hr, hml, hown, hts0, hX, hbl, hlocks, hgv⟩ := id C0
  have hts : ∀ w ∈ TT, w.before #[Value.ref b] s = true := fun w h => hts0 w (List.mem_filter.mp h).1
  have hA : ∀ q : Nat, s.heap.size ≤ q → (fun q : Nat => s.heap.size ≤ q) q := fun _ h => h
  have hbA : ¬ (fun q : Nat => s.heap.size ≤ q) b := Nat.not_le.mpr hbl
  have hD := hD.sub (ws' := [(x, eO 9 [.ref (g 0), .ref (g 1), .ref (g 2), .ref (g 3), .ref (g 4), .ref (g 5), .ref (g 6)]), (g 1, eO 0 [.ref (g 101), .ref (g 103), .ref (g 105), .ref (g 107), .ref (g 109), .ref (g 111), .ref (g 174), .int 5, .int 20]), (g 109, eO 5 [.int 10, .int 70, .ref (g 110), .int 0]), (g 110, eI G 700 (fun _ => 0)), (mo, eO 10 [.ref (h 0), .ref (h 1), .ref (h 2), .long 0, .long 1, .int 0, .ref (h 3), .ref (h 4), .int 0, .ref (h 5), .ref (h 6), .int 0, .int 0, .int 0, .int 0, .ref (h 7), .ref (h 8), .ref (h 9), .ref (h 10), .ref (h 11), .ref (h 12), .ref (h 13), .ref (h 14), .ref (h 15), .ref (h 16)]), (h 0, eI G 2246 st0)]) [0, 2, 11, 12, 269, 270] (by decide) rfl
  have hP := hP.sub (ws' := [(x, eO 9 [.ref (g 0), .ref (g 1), .ref (g 2), .ref (g 3), .ref (g 4), .ref (g 5), .ref (g 6)]), (g 1, eO 0 [.ref (g 101), .ref (g 103), .ref (g 105), .ref (g 107), .ref (g 109), .ref (g 111), .ref (g 174), .int 5, .int 20]), (g 109, eO 5 [.int 10, .int 70, .ref (g 110), .int 0]), (g 110, eI G 700 (fun _ => 0)), (mo, eO 10 [.ref (h 0), .ref (h 1), .ref (h 2), .long 0, .long 1, .int 0, .ref (h 3), .ref (h 4), .int 0, .ref (h 5), .ref (h 6), .int 0, .int 0, .int 0, .int 0, .ref (h 7), .ref (h 8), .ref (h 9), .ref (h 10), .ref (h 11), .ref (h 12), .ref (h 13), .ref (h 14), .ref (h 15), .ref (h 16)]), (h 0, eI G 2246 st0)]) [0, 2, 11, 12, 269, 270] rfl
  refine lv_aload_n hx hb dL_law_617 rfl (lv_at hl 1 rfl) ?_
  refine lv_aload_n hx hb dL_law_618 rfl (lv_at hl 0 rfl) ?_
  refine lv_iload_n hx hb dL_law_619 rfl (lv_at hl 3 rfl) ?_
  refine lv_iconst (v := 1) hx hb dL_law_620 (by decide) ?_
  refine lv_iadd hx hb dL_law_621 ?_
  refine my_bei (v := 1) (by decide) ?_
  refine va_sld hx hb hX hbl hbA hS (by unfold vp_in; decide) dL_law_622 ?_
  refine my_bei (v := xs 1) rfl ?_
  refine lv_aload_n hx hb dL_law_623 rfl (lv_at hl 0 rfl) ?_
  refine lv_iload_n hx hb dL_law_624 rfl (lv_at hl 3 rfl) ?_
  refine lv_iconst (v := 2) hx hb dL_law_625 (by decide) ?_
  refine lv_iadd hx hb dL_law_626 ?_
  refine my_bei (v := 2) (by decide) ?_
  refine va_sld hx hb hX hbl hbA hS (by unfold vp_in; decide) dL_law_627 ?_
  refine my_bei (v := xs 2) rfl ?_
  refine lv_aload_n hx hb dL_law_628 rfl (lv_at hl 0 rfl) ?_
  refine lv_iload_n hx hb dL_law_629 rfl (lv_at hl 3 rfl) ?_
  refine lv_iconst (v := 3) hx hb dL_law_630 (by decide) ?_
  refine lv_iadd hx hb dL_law_631 ?_
  refine my_bei (v := 3) (by decide) ?_
  refine va_sld hx hb hX hbl hbA hS (by unfold vp_in; decide) dL_law_632 ?_
  refine my_bei (v := xs 3) rfl ?_
  refine lv_aload_n hx hb dL_law_633 rfl (lv_at hl 0 rfl) ?_
  refine lv_iload_n hx hb dL_law_634 rfl (lv_at hl 3 rfl) ?_
  refine lv_iconst (v := 4) hx hb dL_law_635 (by decide) ?_
  refine lv_iadd hx hb dL_law_636 ?_
  refine my_bei (v := 4) (by decide) ?_
  refine va_sld hx hb hX hbl hbA hS (by unfold vp_in; decide) dL_law_637 ?_
  refine my_bei (v := xs 4) rfl ?_
  refine lv_aload_n hx hb dL_law_638 rfl (lv_at hl 0 rfl) ?_
  refine lv_iload_n hx hb dL_law_639 rfl (lv_at hl 3 rfl) ?_
  refine lv_iconst (v := 5) hx hb dL_law_640 (by decide) ?_
  refine lv_iadd hx hb dL_law_641 ?_
  refine my_bei (v := 5) (by decide) ?_
  refine va_sld hx hb hX hbl hbA hS (by unfold vp_in; decide) dL_law_642 ?_
  refine my_bei (v := xs 5) rfl ?_
  refine lv_aload_n hx hb dL_law_643 rfl (lv_at hl 0 rfl) ?_
  refine lv_iload_n hx hb dL_law_644 rfl (lv_at hl 3 rfl) ?_
  refine lv_bipush (v := 6) hx hb dL_law_645 (by decide) ?_
  refine lv_iadd hx hb dL_law_647 ?_
  refine my_bei (v := 6) (by decide) ?_
  refine va_sld hx hb hX hbl hbA hS (by unfold vp_in; decide) dL_law_648 ?_
  refine my_bei (v := xs 6) rfl ?_
  refine lv_aload_n hx hb dL_law_649 rfl (lv_at hl 0 rfl) ?_
  refine lv_iload_n hx hb dL_law_650 rfl (lv_at hl 3 rfl) ?_
  refine lv_bipush (v := 7) hx hb dL_law_651 (by decide) ?_
  refine lv_iadd hx hb dL_law_653 ?_
  refine my_bei (v := 7) (by decide) ?_
  refine va_sld hx hb hX hbl hbA hS (by unfold vp_in; decide) dL_law_654 ?_
  refine my_bei (v := xs 7) rfl ?_
  refine lv_aload_n hx hb dL_law_655 rfl (lv_at hl 0 rfl) ?_
  refine lv_iload_n hx hb dL_law_656 rfl (lv_at hl 3 rfl) ?_
  refine lv_bipush (v := 8) hx hb dL_law_657 (by decide) ?_
  refine lv_iadd hx hb dL_law_659 ?_
  refine my_bei (v := 8) (by decide) ?_
  refine va_sld hx hb hX hbl hbA hS (by unfold vp_in; decide) dL_law_660 ?_
  refine my_bei (v := xs 8) rfl ?_
  refine lv_aload_n hx hb dL_law_661 rfl (lv_at hl 0 rfl) ?_
  refine lv_iload_n hx hb dL_law_662 rfl (lv_at hl 3 rfl) ?_
  refine lv_bipush (v := 9) hx hb dL_law_663 (by decide) ?_
  refine lv_iadd hx hb dL_law_665 ?_
  refine my_bei (v := 9) (by decide) ?_
  refine va_sld hx hb hX hbl hbA hS (by unfold vp_in; decide) dL_law_666 ?_
  refine my_bei (v := xs 9) rfl ?_
  have hPc := hP.sub (ws' := [(x, eO 9 [.ref (g 0), .ref (g 1), .ref (g 2), .ref (g 3), .ref (g 4), .ref (g 5), .ref (g 6)]), (g 1, eO 0 [.ref (g 101), .ref (g 103), .ref (g 105), .ref (g 107), .ref (g 109), .ref (g 111), .ref (g 174), .int 5, .int 20]), (g 109, eO 5 [.int 10, .int 70, .ref (g 110), .int 0]), (g 110, eI G 700 (fun _ => 0))]) [0, 1, 2, 3] rfl
  have hDc := hD.sub (ws' := [(x, eO 9 [.ref (g 0), .ref (g 1), .ref (g 2), .ref (g 3), .ref (g 4), .ref (g 5), .ref (g 6)]), (g 1, eO 0 [.ref (g 101), .ref (g 103), .ref (g 105), .ref (g 107), .ref (g 109), .ref (g 111), .ref (g 174), .int 5, .int 20]), (g 109, eO 5 [.int 10, .int 70, .ref (g 110), .int 0]), (g 110, eI G 700 (fun _ => 0))]) [0, 1, 2, 3] (by decide) rfl
  have hFc := va_free (wc := [(x, eO 9 [.ref (g 0), .ref (g 1), .ref (g 2), .ref (g 3), .ref (g 4), .ref (g 5), .ref (g 6)]), (g 1, eO 0 [.ref (g 101), .ref (g 103), .ref (g 105), .ref (g 107), .ref (g 109), .ref (g 111), .ref (g 174), .int 5, .int 20]), (g 109, eO 5 [.int 10, .int 70, .ref (g 110), .int 0]), (g 110, eI G 700 (fun _ => 0))]) hD hS hA [0, 1, 2, 3] rfl
  refine va_calli (va_runV (As := [.int (xs 1), .int (xs 2), .int (xs 3), .int (xs 4), .int (xs 5), .int (xs 6), .int (xs 7), .int (xs 8), .int (xs 9)]) (rest := []) ⟨hx, hb, hml, hown, hts⟩ (p_trial l G H.size x (g 0) (g 1) (g 2) (g 3) (g 4) (g 5) (g 6) (g 101) (g 103) (g 105) (g 107) (g 109) (g 111) (g 174) (g 110) (xs 1) (xs 2) (xs 3) (xs 4) (xs 5) (xs 6) (xs 7) (xs 8) (xs 9) ) (my_cwV hts ok_X10_trial w_634 rfl rfl ⟨Nat.le_of_ble_eq_true rfl, Nat.le_of_ble_eq_true rfl⟩) ⟨wP.blind, va_recv hG.1 hPc (ci := 9) (q0 := 0) rfl rfl, fun U hU hW => ⟨rfl, by rw [hU], by rw [hU]; exact hPc, kG.warm hW hG, hDc.weaken (fun _ _ _ _ => trivial)⟩⟩ rfl rfl hl.1 rfl (lv_room (Nat.le_of_ble_eq_true rfl)) dL_law_667 ⟨Nat.le_of_ble_eq_true rfl, Nat.le_of_ble_eq_true rfl⟩) hS (fun q _ h => hFc q h) hFc (fun r u t H1 locs ht hvm hw hB hz1 hk1 hS => ?_)
  obtain ⟨hP, hD⟩ := va_join (wr := [(mo, eO 10 [.ref (h 0), .ref (h 1), .ref (h 2), .long 0, .long 1, .int 0, .ref (h 3), .ref (h 4), .int 0, .ref (h 5), .ref (h 6), .int 0, .int 0, .int 0, .int 0, .ref (h 7), .ref (h 8), .ref (h 9), .ref (h 10), .ref (h 11), .ref (h 12), .ref (h 13), .ref (h 14), .ref (h 15), .ref (h 16)]), (h 0, eI G 2246 st0)]) (w1 := []) hP hD [0, 1, 2, 3] [4, 5] rfl rfl (by decide) (by decide) hk1 hFc my_P0 my_D0
  generalize H1 = H at hP hS ⊢
  have hP : va_P G.1 vwCl [(mo, eO 10 [.ref (h 0), .ref (h 1), .ref (h 2), .long 0, .long 1, .int 0, .ref (h 3), .ref (h 4), .int 0, .ref (h 5), .ref (h 6), .int 0, .int 0, .int 0, .int 0, .ref (h 7), .ref (h 8), .ref (h 9), .ref (h 10), .ref (h 11), .ref (h 12), .ref (h 13), .ref (h 14), .ref (h 15), .ref (h 16)]), (h 0, eI G 2246 st0)] H := hP
  have hD : va_D (fun q : Nat => s.heap.size ≤ q) [(mo, eO 10 [.ref (h 0), .ref (h 1), .ref (h 2), .long 0, .long 1, .int 0, .ref (h 3), .ref (h 4), .int 0, .ref (h 5), .ref (h 6), .int 0, .int 0, .int 0, .int 0, .ref (h 7), .ref (h 8), .ref (h 9), .ref (h 10), .ref (h 11), .ref (h 12), .ref (h 13), .ref (h 14), .ref (h 15), .ref (h 16)]), (h 0, eI G 2246 st0)] := hD
  subst hw
  refine lv_aload_n hx hb dL_law_670 rfl (lv_at hl 2 rfl) ?_
  refine lv_aload_n hx hb dL_law_671 rfl (lv_at hl 0 rfl) ?_
  refine lv_iload_n hx hb dL_law_672 rfl (lv_at hl 3 rfl) ?_
  refine lv_iconst (v := 1) hx hb dL_law_673 (by decide) ?_
  refine lv_iadd hx hb dL_law_674 ?_
  refine my_bei (v := 1) (by decide) ?_
  refine va_sld hx hb hX hbl hbA hS (by unfold vp_in; decide) dL_law_675 ?_
  refine my_bei (v := xs 1) rfl ?_
  refine lv_aload_n hx hb dL_law_676 rfl (lv_at hl 0 rfl) ?_
  refine lv_iload_n hx hb dL_law_677 rfl (lv_at hl 3 rfl) ?_
  refine lv_iconst (v := 2) hx hb dL_law_678 (by decide) ?_
  refine lv_iadd hx hb dL_law_679 ?_
  refine my_bei (v := 2) (by decide) ?_
  refine va_sld hx hb hX hbl hbA hS (by unfold vp_in; decide) dL_law_680 ?_
  refine my_bei (v := xs 2) rfl ?_
  refine lv_aload_n hx hb dL_law_681 rfl (lv_at hl 0 rfl) ?_
  refine lv_iload_n hx hb dL_law_682 rfl (lv_at hl 3 rfl) ?_
  refine lv_iconst (v := 3) hx hb dL_law_683 (by decide) ?_
  refine lv_iadd hx hb dL_law_684 ?_
  refine my_bei (v := 3) (by decide) ?_
  refine va_sld hx hb hX hbl hbA hS (by unfold vp_in; decide) dL_law_685 ?_
  refine my_bei (v := xs 3) rfl ?_
  refine lv_aload_n hx hb dL_law_686 rfl (lv_at hl 0 rfl) ?_
  refine lv_iload_n hx hb dL_law_687 rfl (lv_at hl 3 rfl) ?_
  refine lv_iconst (v := 4) hx hb dL_law_688 (by decide) ?_
  refine lv_iadd hx hb dL_law_689 ?_
  refine my_bei (v := 4) (by decide) ?_
  refine va_sld hx hb hX hbl hbA hS (by unfold vp_in; decide) dL_law_690 ?_
  refine my_bei (v := xs 4) rfl ?_
  refine lv_aload_n hx hb dL_law_691 rfl (lv_at hl 0 rfl) ?_
  refine lv_iload_n hx hb dL_law_692 rfl (lv_at hl 3 rfl) ?_
  refine lv_iconst (v := 5) hx hb dL_law_693 (by decide) ?_
  refine lv_iadd hx hb dL_law_694 ?_
  refine my_bei (v := 5) (by decide) ?_
  refine va_sld hx hb hX hbl hbA hS (by unfold vp_in; decide) dL_law_695 ?_
  refine my_bei (v := xs 5) rfl ?_
  refine lv_aload_n hx hb dL_law_696 rfl (lv_at hl 0 rfl) ?_
  refine lv_iload_n hx hb dL_law_697 rfl (lv_at hl 3 rfl) ?_
  refine lv_bipush (v := 6) hx hb dL_law_698 (by decide) ?_
  refine lv_iadd hx hb dL_law_700 ?_
  refine my_bei (v := 6) (by decide) ?_
  refine va_sld hx hb hX hbl hbA hS (by unfold vp_in; decide) dL_law_701 ?_
  refine my_bei (v := xs 6) rfl ?_
  refine lv_aload_n hx hb dL_law_702 rfl (lv_at hl 0 rfl) ?_
  refine lv_iload_n hx hb dL_law_703 rfl (lv_at hl 3 rfl) ?_
  refine lv_bipush (v := 7) hx hb dL_law_704 (by decide) ?_
  refine lv_iadd hx hb dL_law_706 ?_
  refine my_bei (v := 7) (by decide) ?_
  refine va_sld hx hb hX hbl hbA hS (by unfold vp_in; decide) dL_law_707 ?_
  refine my_bei (v := xs 7) rfl ?_
  refine lv_aload_n hx hb dL_law_708 rfl (lv_at hl 0 rfl) ?_
  refine lv_iload_n hx hb dL_law_709 rfl (lv_at hl 3 rfl) ?_
  refine lv_bipush (v := 8) hx hb dL_law_710 (by decide) ?_
  refine lv_iadd hx hb dL_law_712 ?_
  refine my_bei (v := 8) (by decide) ?_
  refine va_sld hx hb hX hbl hbA hS (by unfold vp_in; decide) dL_law_713 ?_
  refine my_bei (v := xs 8) rfl ?_
  refine lv_aload_n hx hb dL_law_714 rfl (lv_at hl 0 rfl) ?_
  refine lv_iload_n hx hb dL_law_715 rfl (lv_at hl 3 rfl) ?_
  refine lv_bipush (v := 9) hx hb dL_law_716 (by decide) ?_
  refine lv_iadd hx hb dL_law_718 ?_
  refine my_bei (v := 9) (by decide) ?_
  refine va_sld hx hb hX hbl hbA hS (by unfold vp_in; decide) dL_law_719 ?_
  refine my_bei (v := xs 9) rfl ?_
  have hPc := hP.sub (ws' := [(mo, eO 10 [.ref (h 0), .ref (h 1), .ref (h 2), .long 0, .long 1, .int 0, .ref (h 3), .ref (h 4), .int 0, .ref (h 5), .ref (h 6), .int 0, .int 0, .int 0, .int 0, .ref (h 7), .ref (h 8), .ref (h 9), .ref (h 10), .ref (h 11), .ref (h 12), .ref (h 13), .ref (h 14), .ref (h 15), .ref (h 16)]), (h 0, eI G 2246 st0)]) [0, 1] rfl
  have hDc := hD.sub (ws' := [(mo, eO 10 [.ref (h 0), .ref (h 1), .ref (h 2), .long 0, .long 1, .int 0, .ref (h 3), .ref (h 4), .int 0, .ref (h 5), .ref (h 6), .int 0, .int 0, .int 0, .int 0, .ref (h 7), .ref (h 8), .ref (h 9), .ref (h 10), .ref (h 11), .ref (h 12), .ref (h 13), .ref (h 14), .ref (h 15), .ref (h 16)]), (h 0, eI G 2246 st0)]) [0, 1] (by decide) rfl
  have hFc := va_free (wc := [(mo, eO 10 [.ref (h 0), .ref (h 1), .ref (h 2), .long 0, .long 1, .int 0, .ref (h 3), .ref (h 4), .int 0, .ref (h 5), .ref (h 6), .int 0, .int 0, .int 0, .int 0, .ref (h 7), .ref (h 8), .ref (h 9), .ref (h 10), .ref (h 11), .ref (h 12), .ref (h 13), .ref (h 14), .ref (h 15), .ref (h 16)]), (h 0, eI G 2246 st0)]) hD hS hA [0, 1] rfl
  refine va_calli (va_runV (As := [.int (xs 1), .int (xs 2), .int (xs 3), .int (xs 4), .int (xs 5), .int (xs 6), .int (xs 7), .int (xs 8), .int (xs 9)]) (rest := [.int (if (inB 0 (xs 1) 9999 = true) ∧ (inB 1 (xs 2) 9 = true) ∧ (inB 1 (xs 3) 8 = true) ∧ (inB (-1) (xs 4) 9 = true) ∧ (inB (-1) (xs 5) 9 = true) ∧ (inB (-1) (xs 6) 3 = true) ∧ (inB 0 (xs 7) 4 = true) ∧ (inB 1 (xs 9) 24 = true) then 0 else (-2))]) ⟨hx, hb, hml, hown, hts⟩ (m_trial l G H.size mo (h 0) (h 1) (h 2) (h 3) (h 4) (h 5) (h 6) (h 7) (h 8) (h 9) (h 10) (h 11) (h 12) (h 13) (h 14) (h 15) (h 16) (xs 1) (xs 2) (xs 3) (xs 4) (xs 5) (xs 6) (xs 7) (xs 8) (xs 9) ) (my_cwV hts ok_X11_trial w_643 rfl rfl ⟨Nat.le_of_ble_eq_true rfl, Nat.le_of_ble_eq_true rfl⟩) ⟨wP.blind, va_recv hG.1 hPc (ci := 10) (q0 := 0) rfl rfl, fun U hU hW => ⟨rfl, by rw [hU], by rw [hU]; exact hPc, kG.warm hW hG, hDc.weaken (fun _ _ _ _ => trivial)⟩⟩ rfl rfl hl.1 rfl (lv_room (Nat.le_of_ble_eq_true rfl)) dL_law_720 ⟨Nat.le_of_ble_eq_true rfl, Nat.le_of_ble_eq_true rfl⟩) hS (fun q _ h => hFc q h) hFc (fun r u t H1 locs ht hvm hw hB hz1 hk1 hS => ?_)
  obtain ⟨hP, hD⟩ := va_join (wr := []) (w1 := []) hP hD [0, 1] [] rfl rfl (by decide) (by decide) hk1 hFc my_P0 my_D0
  generalize H1 = H at hP hS ⊢
  have hP : va_P G.1 vwCl [] H := hP
  have hD : va_D (fun q : Nat => s.heap.size ≤ q) [] := hD
  subst hw
  refine lv_icmp_eq (tgt := 1376) hx hb dL_law_723 (by decide) (fun c_723 => ?_) (fun c_723 => absurd (rfl) c_723)
  exact law_end l C0 hS (lv_sub hl [0, 3] rfl)
set_option maxHeartbeats 4000000 in
set_option maxRecDepth 100000 in
theorem law_13 {p : Program} {e : Env} {s : State} {m : MethodId} {below : List Frame} {meth : Method} {c : Code} (l : Launch) {b : Nat} {xs : Nat → Int32} (G : gW) (C0 : lw_At p s m meth c b 10 xs) (hG : kG G s) {x mo : Nat} {g h : Nat → Nat} {H : Heap} {locs : List Loc} {ls : Array Slot} (hP : va_P G.1 vwCl (lwW G x g mo h) H) (hD : va_D (fun q : Nat => s.heap.size ≤ q) (lwW G x g mo h)) (hS : va_S (fun q : Nat => s.heap.size ≤ q) s.heap H locs) (hl : lv_has ls 4 [(0, .ref b), (1, .ref x), (2, .ref mo), (3, .int 0)]) : W p l e room_1 s m #[Value.ref b] below meth c H locs 333 19609 (lw_Z below #[Value.ref b] s) (F0 m 728 ls []) := by
  obtain ⟨hx, hb, hr, hml, hown, hts0, hX, hbl, hlocks, hgv⟩ := id C0
  have hts : ∀ w ∈ TT, w.before #[Value.ref b] s = true := fun w h => hts0 w (List.mem_filter.mp h).1
  have hA : ∀ q : Nat, s.heap.size ≤ q → (fun q : Nat => s.heap.size ≤ q) q := fun _ h => h
  have hbA : ¬ (fun q : Nat => s.heap.size ≤ q) b := Nat.not_le.mpr hbl
  have hD := hD.sub (ws' := [(x, eO 9 [.ref (g 0), .ref (g 1), .ref (g 2), .ref (g 3), .ref (g 4), .ref (g 5), .ref (g 6)]), (g 1, eO 0 [.ref (g 101), .ref (g 103), .ref (g 105), .ref (g 107), .ref (g 109), .ref (g 111), .ref (g 174), .int 5, .int 20]), (g 109, eO 5 [.int 10, .int 70, .ref (g 110), .int 0]), (mo, eO 10 [.ref (h 0), .ref (h 1), .ref (h 2), .long 0, .long 1, .int 0, .ref (h 3), .ref (h 4), .int 0, .ref (h 5), .ref (h 6), .int 0, .int 0, .int 0, .int 0, .ref (h 7), .ref (h 8), .ref (h 9), .ref (h 10), .ref (h 11), .ref (h 12), .ref (h 13), .ref (h 14), .ref (h 15), .ref (h 16)]), (h 0, eI G 2246 st0)]) [0, 2, 11, 269, 270] (by decide) rfl
  have hP := hP.sub (ws' := [(x, eO 9 [.ref (g 0), .ref (g 1), .ref (g 2), .ref (g 3), .ref (g 4), .ref (g 5), .ref (g 6)]), (g 1, eO 0 [.ref (g 101), .ref (g 103), .ref (g 105), .ref (g 107), .ref (g 109), .ref (g 111), .ref (g 174), .int 5, .int 20]), (g 109, eO 5 [.int 10, .int 70, .ref (g 110), .int 0]), (mo, eO 10 [.ref (h 0), .ref (h 1), .ref (h 2), .long 0, .long 1, .int 0, .ref (h 3), .ref (h 4), .int 0, .ref (h 5), .ref (h 6), .int 0, .int 0, .int 0, .int 0, .ref (h 7), .ref (h 8), .ref (h 9), .ref (h 10), .ref (h 11), .ref (h 12), .ref (h 13), .ref (h 14), .ref (h 15), .ref (h 16)]), (h 0, eI G 2246 st0)]) [0, 2, 11, 269, 270] rfl
  refine lv_aload_n hx hb dL_law_728 rfl (lv_at hl 1 rfl) ?_
  refine lv_aload_n hx hb dL_law_729 rfl (lv_at hl 0 rfl) ?_
  refine lv_iload_n hx hb dL_law_730 rfl (lv_at hl 3 rfl) ?_
  refine lv_iconst (v := 1) hx hb dL_law_731 (by decide) ?_
  refine lv_iadd hx hb dL_law_732 ?_
  refine my_bei (v := 1) (by decide) ?_
  refine va_sld hx hb hX hbl hbA hS (by unfold vp_in; decide) dL_law_733 ?_
  refine my_bei (v := xs 1) rfl ?_
  refine lv_aload_n hx hb dL_law_734 rfl (lv_at hl 0 rfl) ?_
  refine lv_iload_n hx hb dL_law_735 rfl (lv_at hl 3 rfl) ?_
  refine lv_iconst (v := 2) hx hb dL_law_736 (by decide) ?_
  refine lv_iadd hx hb dL_law_737 ?_
  refine my_bei (v := 2) (by decide) ?_
  refine va_sld hx hb hX hbl hbA hS (by unfold vp_in; decide) dL_law_738 ?_
  refine my_bei (v := xs 2) rfl ?_
  refine lv_aload_n hx hb dL_law_739 rfl (lv_at hl 0 rfl) ?_
  refine lv_iload_n hx hb dL_law_740 rfl (lv_at hl 3 rfl) ?_
  refine lv_iconst (v := 3) hx hb dL_law_741 (by decide) ?_
  refine lv_iadd hx hb dL_law_742 ?_
  refine my_bei (v := 3) (by decide) ?_
  refine va_sld hx hb hX hbl hbA hS (by unfold vp_in; decide) dL_law_743 ?_
  refine my_bei (v := xs 3) rfl ?_
  refine lv_if_eq (tgt := 751) hx hb dL_law_744 (by decide) (fun c_744 => ?_) (fun c_744 => ?_)
  · refine lv_iconst (v := 0) hx hb dL_law_751 (by decide) ?_
    have hPc := hP.sub (ws' := [(x, eO 9 [.ref (g 0), .ref (g 1), .ref (g 2), .ref (g 3), .ref (g 4), .ref (g 5), .ref (g 6)]), (g 1, eO 0 [.ref (g 101), .ref (g 103), .ref (g 105), .ref (g 107), .ref (g 109), .ref (g 111), .ref (g 174), .int 5, .int 20]), (g 109, eO 5 [.int 10, .int 70, .ref (g 110), .int 0])]) [0, 1, 2] rfl
    refine rd_calli (va_runV (As := [.int (xs 1), .int (xs 2), .int 0]) (rest := []) ⟨hx, hb, hml, hown, hts⟩ (p_away l G x (g 0) (g 1) (g 2) (g 3) (g 4) (g 5) (g 6) (g 101) (g 103) (g 105) (g 107) (g 109) (g 111) (g 174) (g 110) (xs 1) (xs 2) 0 ) (my_cwV hts ok_X10_away w_651 rfl rfl ⟨Nat.le_of_ble_eq_true rfl, Nat.le_of_ble_eq_true rfl⟩) ⟨rP.blind, va_recv hG.1 hPc (ci := 9) (q0 := 0) rfl rfl, fun U hU hW => ⟨rfl, by rw [hU]; exact hPc, kG.warm hW hG⟩⟩ rfl rfl hl.1 rfl (lv_room (Nat.le_of_ble_eq_true rfl)) dL_law_752 ⟨Nat.le_of_ble_eq_true rfl, Nat.le_of_ble_eq_true rfl⟩) (fun r hr9 => ?_)
    subst hr9
    refine lv_aload_n hx hb dL_law_755 rfl (lv_at hl 2 rfl) ?_
    refine lv_aload_n hx hb dL_law_756 rfl (lv_at hl 0 rfl) ?_
    refine lv_iload_n hx hb dL_law_757 rfl (lv_at hl 3 rfl) ?_
    refine lv_iconst (v := 1) hx hb dL_law_758 (by decide) ?_
    refine lv_iadd hx hb dL_law_759 ?_
    refine my_bei (v := 1) (by decide) ?_
    refine va_sld hx hb hX hbl hbA hS (by unfold vp_in; decide) dL_law_760 ?_
    refine my_bei (v := xs 1) rfl ?_
    refine lv_aload_n hx hb dL_law_761 rfl (lv_at hl 0 rfl) ?_
    refine lv_iload_n hx hb dL_law_762 rfl (lv_at hl 3 rfl) ?_
    refine lv_iconst (v := 2) hx hb dL_law_763 (by decide) ?_
    refine lv_iadd hx hb dL_law_764 ?_
    refine my_bei (v := 2) (by decide) ?_
    refine va_sld hx hb hX hbl hbA hS (by unfold vp_in; decide) dL_law_765 ?_
    refine my_bei (v := xs 2) rfl ?_
    refine lv_aload_n hx hb dL_law_766 rfl (lv_at hl 0 rfl) ?_
    refine lv_iload_n hx hb dL_law_767 rfl (lv_at hl 3 rfl) ?_
    refine lv_iconst (v := 3) hx hb dL_law_768 (by decide) ?_
    refine lv_iadd hx hb dL_law_769 ?_
    refine my_bei (v := 3) (by decide) ?_
    refine va_sld hx hb hX hbl hbA hS (by unfold vp_in; decide) dL_law_770 ?_
    refine my_bei (v := xs 3) rfl ?_
    refine lv_if_eq (tgt := 778) hx hb dL_law_771 (by decide) (fun c_771 => ?_) (fun c_771 => ?_)
    · refine lv_iconst (v := 0) hx hb dL_law_778 (by decide) ?_
      have hPc := hP.sub (ws' := [(mo, eO 10 [.ref (h 0), .ref (h 1), .ref (h 2), .long 0, .long 1, .int 0, .ref (h 3), .ref (h 4), .int 0, .ref (h 5), .ref (h 6), .int 0, .int 0, .int 0, .int 0, .ref (h 7), .ref (h 8), .ref (h 9), .ref (h 10), .ref (h 11), .ref (h 12), .ref (h 13), .ref (h 14), .ref (h 15), .ref (h 16)]), (h 0, eI G 2246 st0)]) [3, 4] rfl
      refine rd_calli (va_runV (As := [.int (xs 1), .int (xs 2), .int 0]) (rest := [.int (-2)]) ⟨hx, hb, hml, hown, hts⟩ (m_away l G mo (h 0) (h 1) (h 2) (h 3) (h 4) (h 5) (h 6) (h 7) (h 8) (h 9) (h 10) (h 11) (h 12) (h 13) (h 14) (h 15) (h 16) (xs 1) (xs 2) 0 ) (my_cwV hts ok_X11_away w_656 rfl rfl ⟨Nat.le_of_ble_eq_true rfl, Nat.le_of_ble_eq_true rfl⟩) ⟨rP.blind, va_recv hG.1 hPc (ci := 10) (q0 := 0) rfl rfl, fun U hU hW => ⟨rfl, by rw [hU]; exact hPc, kG.warm hW hG⟩⟩ rfl rfl hl.1 rfl (lv_room (Nat.le_of_ble_eq_true rfl)) dL_law_779 ⟨Nat.le_of_ble_eq_true rfl, Nat.le_of_ble_eq_true rfl⟩) (fun r hr9 => ?_)
      subst hr9
      refine lv_icmp_eq (tgt := 1376) hx hb dL_law_782 (by decide) (fun c_782 => ?_) (fun c_782 => absurd (by decide) c_782)
      exact law_end l C0 hS (lv_sub hl [0, 3] rfl)
    · refine lv_iconst (v := 1) hx hb dL_law_774 (by decide) ?_
      refine lv_goto (tgt := 779) hx hb dL_law_775 (by decide) ?_
      have hPc := hP.sub (ws' := [(mo, eO 10 [.ref (h 0), .ref (h 1), .ref (h 2), .long 0, .long 1, .int 0, .ref (h 3), .ref (h 4), .int 0, .ref (h 5), .ref (h 6), .int 0, .int 0, .int 0, .int 0, .ref (h 7), .ref (h 8), .ref (h 9), .ref (h 10), .ref (h 11), .ref (h 12), .ref (h 13), .ref (h 14), .ref (h 15), .ref (h 16)]), (h 0, eI G 2246 st0)]) [3, 4] rfl
      refine rd_calli (va_runV (As := [.int (xs 1), .int (xs 2), .int 1]) (rest := [.int (-2)]) ⟨hx, hb, hml, hown, hts⟩ (m_away l G mo (h 0) (h 1) (h 2) (h 3) (h 4) (h 5) (h 6) (h 7) (h 8) (h 9) (h 10) (h 11) (h 12) (h 13) (h 14) (h 15) (h 16) (xs 1) (xs 2) 1 ) (my_cwV hts ok_X11_away w_656 rfl rfl ⟨Nat.le_of_ble_eq_true rfl, Nat.le_of_ble_eq_true rfl⟩) ⟨rP.blind, va_recv hG.1 hPc (ci := 10) (q0 := 0) rfl rfl, fun U hU hW => ⟨rfl, by rw [hU]; exact hPc, kG.warm hW hG⟩⟩ rfl rfl hl.1 rfl (lv_room (Nat.le_of_ble_eq_true rfl)) dL_law_779 ⟨Nat.le_of_ble_eq_true rfl, Nat.le_of_ble_eq_true rfl⟩) (fun r hr9 => ?_)
      subst hr9
      refine lv_icmp_eq (tgt := 1376) hx hb dL_law_782 (by decide) (fun c_782 => ?_) (fun c_782 => absurd (by decide) c_782)
      exact law_end l C0 hS (lv_sub hl [0, 3] rfl)
  · refine lv_iconst (v := 1) hx hb dL_law_747 (by decide) ?_
    refine lv_goto (tgt := 752) hx hb dL_law_748 (by decide) ?_
    have hPc := hP.sub (ws' := [(x, eO 9 [.ref (g 0), .ref (g 1), .ref (g 2), .ref (g 3), .ref (g 4), .ref (g 5), .ref (g 6)]), (g 1, eO 0 [.ref (g 101), .ref (g 103), .ref (g 105), .ref (g 107), .ref (g 109), .ref (g 111), .ref (g 174), .int 5, .int 20]), (g 109, eO 5 [.int 10, .int 70, .ref (g 110), .int 0])]) [0, 1, 2] rfl
    refine rd_calli (va_runV (As := [.int (xs 1), .int (xs 2), .int 1]) (rest := []) ⟨hx, hb, hml, hown, hts⟩ (p_away l G x (g 0) (g 1) (g 2) (g 3) (g 4) (g 5) (g 6) (g 101) (g 103) (g 105) (g 107) (g 109) (g 111) (g 174) (g 110) (xs 1) (xs 2) 1 ) (my_cwV hts ok_X10_away w_651 rfl rfl ⟨Nat.le_of_ble_eq_true rfl, Nat.le_of_ble_eq_true rfl⟩) ⟨rP.blind, va_recv hG.1 hPc (ci := 9) (q0 := 0) rfl rfl, fun U hU hW => ⟨rfl, by rw [hU]; exact hPc, kG.warm hW hG⟩⟩ rfl rfl hl.1 rfl (lv_room (Nat.le_of_ble_eq_true rfl)) dL_law_752 ⟨Nat.le_of_ble_eq_true rfl, Nat.le_of_ble_eq_true rfl⟩) (fun r hr9 => ?_)
    subst hr9
    refine lv_aload_n hx hb dL_law_755 rfl (lv_at hl 2 rfl) ?_
    refine lv_aload_n hx hb dL_law_756 rfl (lv_at hl 0 rfl) ?_
    refine lv_iload_n hx hb dL_law_757 rfl (lv_at hl 3 rfl) ?_
    refine lv_iconst (v := 1) hx hb dL_law_758 (by decide) ?_
    refine lv_iadd hx hb dL_law_759 ?_
    refine my_bei (v := 1) (by decide) ?_
    refine va_sld hx hb hX hbl hbA hS (by unfold vp_in; decide) dL_law_760 ?_
    refine my_bei (v := xs 1) rfl ?_
    refine lv_aload_n hx hb dL_law_761 rfl (lv_at hl 0 rfl) ?_
    refine lv_iload_n hx hb dL_law_762 rfl (lv_at hl 3 rfl) ?_
    refine lv_iconst (v := 2) hx hb dL_law_763 (by decide) ?_
    refine lv_iadd hx hb dL_law_764 ?_
    refine my_bei (v := 2) (by decide) ?_
    refine va_sld hx hb hX hbl hbA hS (by unfold vp_in; decide) dL_law_765 ?_
    refine my_bei (v := xs 2) rfl ?_
    refine lv_aload_n hx hb dL_law_766 rfl (lv_at hl 0 rfl) ?_
    refine lv_iload_n hx hb dL_law_767 rfl (lv_at hl 3 rfl) ?_
    refine lv_iconst (v := 3) hx hb dL_law_768 (by decide) ?_
    refine lv_iadd hx hb dL_law_769 ?_
    refine my_bei (v := 3) (by decide) ?_
    refine va_sld hx hb hX hbl hbA hS (by unfold vp_in; decide) dL_law_770 ?_
    refine my_bei (v := xs 3) rfl ?_
    refine lv_if_eq (tgt := 778) hx hb dL_law_771 (by decide) (fun c_771 => ?_) (fun c_771 => ?_)
    · refine lv_iconst (v := 0) hx hb dL_law_778 (by decide) ?_
      have hPc := hP.sub (ws' := [(mo, eO 10 [.ref (h 0), .ref (h 1), .ref (h 2), .long 0, .long 1, .int 0, .ref (h 3), .ref (h 4), .int 0, .ref (h 5), .ref (h 6), .int 0, .int 0, .int 0, .int 0, .ref (h 7), .ref (h 8), .ref (h 9), .ref (h 10), .ref (h 11), .ref (h 12), .ref (h 13), .ref (h 14), .ref (h 15), .ref (h 16)]), (h 0, eI G 2246 st0)]) [3, 4] rfl
      refine rd_calli (va_runV (As := [.int (xs 1), .int (xs 2), .int 0]) (rest := [.int (-2)]) ⟨hx, hb, hml, hown, hts⟩ (m_away l G mo (h 0) (h 1) (h 2) (h 3) (h 4) (h 5) (h 6) (h 7) (h 8) (h 9) (h 10) (h 11) (h 12) (h 13) (h 14) (h 15) (h 16) (xs 1) (xs 2) 0 ) (my_cwV hts ok_X11_away w_656 rfl rfl ⟨Nat.le_of_ble_eq_true rfl, Nat.le_of_ble_eq_true rfl⟩) ⟨rP.blind, va_recv hG.1 hPc (ci := 10) (q0 := 0) rfl rfl, fun U hU hW => ⟨rfl, by rw [hU]; exact hPc, kG.warm hW hG⟩⟩ rfl rfl hl.1 rfl (lv_room (Nat.le_of_ble_eq_true rfl)) dL_law_779 ⟨Nat.le_of_ble_eq_true rfl, Nat.le_of_ble_eq_true rfl⟩) (fun r hr9 => ?_)
      subst hr9
      refine lv_icmp_eq (tgt := 1376) hx hb dL_law_782 (by decide) (fun c_782 => ?_) (fun c_782 => absurd (by decide) c_782)
      exact law_end l C0 hS (lv_sub hl [0, 3] rfl)
    · refine lv_iconst (v := 1) hx hb dL_law_774 (by decide) ?_
      refine lv_goto (tgt := 779) hx hb dL_law_775 (by decide) ?_
      have hPc := hP.sub (ws' := [(mo, eO 10 [.ref (h 0), .ref (h 1), .ref (h 2), .long 0, .long 1, .int 0, .ref (h 3), .ref (h 4), .int 0, .ref (h 5), .ref (h 6), .int 0, .int 0, .int 0, .int 0, .ref (h 7), .ref (h 8), .ref (h 9), .ref (h 10), .ref (h 11), .ref (h 12), .ref (h 13), .ref (h 14), .ref (h 15), .ref (h 16)]), (h 0, eI G 2246 st0)]) [3, 4] rfl
      refine rd_calli (va_runV (As := [.int (xs 1), .int (xs 2), .int 1]) (rest := [.int (-2)]) ⟨hx, hb, hml, hown, hts⟩ (m_away l G mo (h 0) (h 1) (h 2) (h 3) (h 4) (h 5) (h 6) (h 7) (h 8) (h 9) (h 10) (h 11) (h 12) (h 13) (h 14) (h 15) (h 16) (xs 1) (xs 2) 1 ) (my_cwV hts ok_X11_away w_656 rfl rfl ⟨Nat.le_of_ble_eq_true rfl, Nat.le_of_ble_eq_true rfl⟩) ⟨rP.blind, va_recv hG.1 hPc (ci := 10) (q0 := 0) rfl rfl, fun U hU hW => ⟨rfl, by rw [hU]; exact hPc, kG.warm hW hG⟩⟩ rfl rfl hl.1 rfl (lv_room (Nat.le_of_ble_eq_true rfl)) dL_law_779 ⟨Nat.le_of_ble_eq_true rfl, Nat.le_of_ble_eq_true rfl⟩) (fun r hr9 => ?_)
      subst hr9
      refine lv_icmp_eq (tgt := 1376) hx hb dL_law_782 (by decide) (fun c_782 => ?_) (fun c_782 => absurd (by decide) c_782)
      exact law_end l C0 hS (lv_sub hl [0, 3] rfl)

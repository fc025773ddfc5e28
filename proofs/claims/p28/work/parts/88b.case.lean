set_option maxHeartbeats 4000000 in
set_option maxRecDepth 100000 in
theorem lawJ_9 {p : Program} {e : Env} {s : State} {m : MethodId} {below : List Frame} {meth : Method} {c : Code} (l : Launch) {b L : Nat} {xs : Nat → Int32} (G : gW) (hL : L ≤ 5120) (C0 : lw_At p s m meth c b L xs) (hG : kG G s) {g : Nat → Nat} (hg : gOK g) (hsub : ∀ q, gA g q → (fun q : Nat => s.heap.size ≤ q) q) {i : Nat} (hi : i + 10 ≤ L) {np : Nat} {dp : Nat → Int32} {nf : Nat} {df : Nat → Int32} {nr : Nat} {dr : Nat → Int32} {nt : Nat} {ct : Nat → Int32} {pay : Int32} {fine : Int32} {kf : Nat → Int32} {na : Nat} {da : Nat → Int32} {TL : Nat → Nat} {TG : Nat → Nat → Int32} {LL : Nat → Nat} {LG : Nat → Nat → Int32} {N1 : Nat → Nat} {E1 : Nat → Nat → Int32} {P1 : Nat → Int32} {L1 : Nat → Nat} {S1 : Nat → Nat → Int32} {W1 : Nat → Nat} {X1 : Nat → Nat → Int32} {N2 : Nat → Nat} {E2 : Nat → Nat → Int32} {P2 : Nat → Int32} {L2 : Nat → Nat} {S2 : Nat → Nat → Int32} {W2 : Nat → Nat} {X2 : Nat → Nat → Int32} {ss : Nat → Int32} {im : Nat → Int32} {kq : Nat → Int32} {f : Nat → va_E} {H : Heap} {locs : List Loc} {ls : Array Slot} (hcJ : cJ G g f np dp nf df nr dr nt ct pay fine kf na da TL TG LL LG N1 E1 P1 L1 S1 W1 X1 N2 E2 P2 L2 S2 W2 X2) (hmJ : mJ G g f ss im kq) (hrel : relF np dp nf df nr dr nt ct pay fine kf na da TL TG LL LG N1 E1 P1 L1 S1 W1 X1 N2 E2 P2 L2 S2 W2 X2 ss im kq) (hP : va_P G.1 vwCl (wl g f) H) (hS : va_S (fun q : Nat => s.heap.size ≤ q) s.heap H locs) (hl : lv_has ls 4 [(0, .ref b), (1, .ref (g 0)), (2, .ref (g 315)), (3, .int (nI i))]) (IH : ∀ (np : Nat) (dp : Nat → Int32) (nf : Nat) (df : Nat → Int32) (nr : Nat) (dr : Nat → Int32) (nt : Nat) (ct : Nat → Int32) (pay : Int32) (fine : Int32) (kf : Nat → Int32) (na : Nat) (da : Nat → Int32) (TL : Nat → Nat) (TG : Nat → Nat → Int32) (LL : Nat → Nat) (LG : Nat → Nat → Int32) (N1 : Nat → Nat) (E1 : Nat → Nat → Int32) (P1 : Nat → Int32) (L1 : Nat → Nat) (S1 : Nat → Nat → Int32) (W1 : Nat → Nat) (X1 : Nat → Nat → Int32) (N2 : Nat → Nat) (E2 : Nat → Nat → Int32) (P2 : Nat → Int32) (L2 : Nat → Nat) (S2 : Nat → Nat → Int32) (W2 : Nat → Nat) (X2 : Nat → Nat → Int32) (ss : Nat → Int32) (im : Nat → Int32) (kq : Nat → Int32) (f : Nat → va_E) (H : Heap) (locs : List Loc) (ls : Array Slot), cJ G g f np dp nf df nr dr nt ct pay fine kf na da TL TG LL LG N1 E1 P1 L1 S1 W1 X1 N2 E2 P2 L2 S2 W2 X2 → mJ G g f ss im kq → relF np dp nf df nr dr nt ct pay fine kf na da TL TG LL LG N1 E1 P1 L1 S1 W1 X1 N2 E2 P2 L2 S2 W2 X2 ss im kq → va_P G.1 vwCl (wl g f) H → va_S (fun q : Nat => s.heap.size ≤ q) s.heap H locs → lv_has ls 4 [(0, .ref b), (1, .ref (g 0)), (2, .ref (g 315)), (3, .int (nI i))] → W p l e room_1 s m #[Value.ref b] below meth c H locs 333 19609 (lw_Z below #[Value.ref b] s) (F0 m 1373 ls [])) : W p l e room_1 s m #[Value.ref b] below meth c H locs 333 19609 (lw_Z below #[Value.ref b] s) (F0 m 507 ls []) := by
  obtain ⟨hx, hb, hr, hml, hown, hts0, hX, hbl, hlocks, hgv⟩ := id C0
  have hts : ∀ w ∈ TT, w.before #[Value.ref b] s = true := fun w h => hts0 w (List.mem_filter.mp h).1
  have hbA : ¬ (fun q : Nat => s.heap.size ≤ q) b := Nat.not_le.mpr hbl
  refine lv_aload_n hx hb dL_law_507 rfl (lv_at hl 1 rfl) ?_
  refine lv_aload_n hx hb dL_law_508 rfl (lv_at hl 0 rfl) ?_
  refine lv_iload_n hx hb dL_law_509 rfl (lv_at hl 3 rfl) ?_
  refine lv_iconst (v := 1) hx hb dL_law_510 (by decide) ?_
  refine lv_iadd hx hb dL_law_511 ?_
  refine my_bei (v := nI (i + 1)) (nI_add i 1) ?_
  refine va_sld hx hb hX hbl hbA hS (vp_in_nI (by omega) (by omega)) dL_law_512 ?_
  refine my_bei (v := xs (i + 1)) (congrArg xs (nI_clamp (n := i + 1) (by omega))) ?_
  refine lv_aload_n hx hb dL_law_513 rfl (lv_at hl 0 rfl) ?_
  refine lv_iload_n hx hb dL_law_514 rfl (lv_at hl 3 rfl) ?_
  refine lv_iconst (v := 2) hx hb dL_law_515 (by decide) ?_
  refine lv_iadd hx hb dL_law_516 ?_
  refine my_bei (v := nI (i + 2)) (nI_add i 2) ?_
  refine va_sld hx hb hX hbl hbA hS (vp_in_nI (by omega) (by omega)) dL_law_517 ?_
  refine my_bei (v := xs (i + 2)) (congrArg xs (nI_clamp (n := i + 2) (by omega))) ?_
  have hTr := hrel.1.tc
  have hx0 := cJ_0 hcJ
  refine bL_calli hsub (va_runV (As := [.int (xs (i + 1)), .int (xs (i + 2))]) (rest := []) ⟨hx, hb, hml, hown, hts⟩ (j_strikeOut l G g hg f np dp nf df nr dr nt ct pay fine kf na da TL TG LL LG N1 E1 P1 L1 S1 W1 X1 N2 E2 P2 L2 S2 W2 X2 (xs (i + 1)) (xs (i + 2))  (by first | assumption | omega | decide) (by first | assumption | omega | decide)) (my_cwV hts ok_X10_strikeOut w_606 rfl rfl ⟨Nat.le_of_ble_eq_true rfl, Nat.le_of_ble_eq_true rfl⟩) ⟨bP.blind, va_recv hG.1 hP (ci := 9) (q0 := 0) rfl (wl_at (by decide) hx0), fun U hU hW => ⟨rfl, by rw [hU]; exact hP, kG.warm hW hG⟩⟩ rfl rfl hl.1 rfl (lv_room (Nat.le_of_ble_eq_true rfl)) dL_law_518 ⟨Nat.le_of_ble_eq_true rfl, Nat.le_of_ble_eq_true rfl⟩) hS (fun v1 f_1 H locs hq9 hP hS => ?_)
  obtain ⟨da92, hx_1_0, hx_1_1, o_1⟩ := hq9
  have hcJ := hx_1_0
  have hmJ := mJ_fr hmJ o_1
  refine lv_pop hx hb dL_law_521 rfl ?_
  refine lv_aload_n hx hb dL_law_522 rfl (lv_at hl 2 rfl) ?_
  refine lv_aload_n hx hb dL_law_523 rfl (lv_at hl 0 rfl) ?_
  refine lv_iload_n hx hb dL_law_524 rfl (lv_at hl 3 rfl) ?_
  refine lv_iconst (v := 1) hx hb dL_law_525 (by decide) ?_
  refine lv_iadd hx hb dL_law_526 ?_
  refine my_bei (v := nI (i + 1)) (nI_add i 1) ?_
  refine va_sld hx hb hX hbl hbA hS (vp_in_nI (by omega) (by omega)) dL_law_527 ?_
  refine my_bei (v := xs (i + 1)) (congrArg xs (nI_clamp (n := i + 1) (by omega))) ?_
  refine lv_aload_n hx hb dL_law_528 rfl (lv_at hl 0 rfl) ?_
  refine lv_iload_n hx hb dL_law_529 rfl (lv_at hl 3 rfl) ?_
  refine lv_iconst (v := 2) hx hb dL_law_530 (by decide) ?_
  refine lv_iadd hx hb dL_law_531 ?_
  refine my_bei (v := nI (i + 2)) (nI_add i 2) ?_
  refine va_sld hx hb hX hbl hbA hS (vp_in_nI (by omega) (by omega)) dL_law_532 ?_
  refine my_bei (v := xs (i + 2)) (congrArg xs (nI_clamp (n := i + 2) (by omega))) ?_
  have htA := rcF_trOK hrel.1 hrel.1.tc
  obtain ⟨fs9, hmo⟩ := mJ_0 hmJ
  refine bL_calli hsub (va_runV (As := [.int (xs (i + 1)), .int (xs (i + 2))]) (rest := []) ⟨hx, hb, hml, hown, hts⟩ (j2_strikeOut l G g hg f_1 ss im kq (xs (i + 1)) (xs (i + 2))  (by first | assumption | omega | decide) (by first | assumption | omega | decide)) (my_cwV hts ok_X11_strikeOut w_611 rfl rfl ⟨Nat.le_of_ble_eq_true rfl, Nat.le_of_ble_eq_true rfl⟩) ⟨bP.blind, va_recv hG.1 hP (ci := 10) (q0 := 315) rfl (wl_at (by decide) hmo), fun U hU hW => ⟨rfl, by rw [hU]; exact hP, kG.warm hW hG⟩⟩ rfl rfl hl.1 rfl (lv_room (Nat.le_of_ble_eq_true rfl)) dL_law_533 ⟨Nat.le_of_ble_eq_true rfl, Nat.le_of_ble_eq_true rfl⟩) hS (fun v3 f_2 H locs hq9 hP hS => ?_)
  obtain ⟨ss94, hx_2_0, hx_2_1, o_2⟩ := hq9
  have hmJ := hx_2_0
  have hcJ := cJ_fr hcJ o_2
  obtain ⟨p9, f9, r9, u9, t9, hs9, hm9⟩ := hx_2_1
  obtain ⟨heq, hrc⟩ := rF_strikeOut hrel.1 hs9 hx_1_1 hm9
  have hrel : relF np dp nf df nr dr nt ct pay fine kf na da92 TL TG LL LG N1 E1 P1 L1 S1 W1 X1 N2 E2 P2 L2 S2 W2 X2 ss94 im kq := ⟨hrc, hrel.2⟩
  refine lv_pop hx hb dL_law_536 rfl ?_
  refine lv_goto (tgt := 1373) hx hb dL_law_537 (by decide) ?_
  exact IH np dp nf df nr dr nt ct pay fine kf na da92 TL TG LL LG N1 E1 P1 L1 S1 W1 X1 N2 E2 P2 L2 S2 W2 X2 ss94 im kq _ _ _ _ hcJ hmJ hrel hP hS (lv_sub hl [0, 1, 2, 3] rfl)
set_option maxHeartbeats 4000000 in
set_option maxRecDepth 100000 in
theorem lawJ_10 {p : Program} {e : Env} {s : State} {m : MethodId} {below : List Frame} {meth : Method} {c : Code} (l : Launch) {b L : Nat} {xs : Nat → Int32} (G : gW) (hL : L ≤ 5120) (C0 : lw_At p s m meth c b L xs) (hG : kG G s) {g : Nat → Nat} (hg : gOK g) (hsub : ∀ q, gA g q → (fun q : Nat => s.heap.size ≤ q) q) {i : Nat} (hi : i + 10 ≤ L) {np : Nat} {dp : Nat → Int32} {nf : Nat} {df : Nat → Int32} {nr : Nat} {dr : Nat → Int32} {nt : Nat} {ct : Nat → Int32} {pay : Int32} {fine : Int32} {kf : Nat → Int32} {na : Nat} {da : Nat → Int32} {TL : Nat → Nat} {TG : Nat → Nat → Int32} {LL : Nat → Nat} {LG : Nat → Nat → Int32} {N1 : Nat → Nat} {E1 : Nat → Nat → Int32} {P1 : Nat → Int32} {L1 : Nat → Nat} {S1 : Nat → Nat → Int32} {W1 : Nat → Nat} {X1 : Nat → Nat → Int32} {N2 : Nat → Nat} {E2 : Nat → Nat → Int32} {P2 : Nat → Int32} {L2 : Nat → Nat} {S2 : Nat → Nat → Int32} {W2 : Nat → Nat} {X2 : Nat → Nat → Int32} {ss : Nat → Int32} {im : Nat → Int32} {kq : Nat → Int32} {f : Nat → va_E} {H : Heap} {locs : List Loc} {ls : Array Slot} (hcJ : cJ G g f np dp nf df nr dr nt ct pay fine kf na da TL TG LL LG N1 E1 P1 L1 S1 W1 X1 N2 E2 P2 L2 S2 W2 X2) (hmJ : mJ G g f ss im kq) (hrel : relF np dp nf df nr dr nt ct pay fine kf na da TL TG LL LG N1 E1 P1 L1 S1 W1 X1 N2 E2 P2 L2 S2 W2 X2 ss im kq) (hP : va_P G.1 vwCl (wl g f) H) (hS : va_S (fun q : Nat => s.heap.size ≤ q) s.heap H locs) (hl : lv_has ls 4 [(0, .ref b), (1, .ref (g 0)), (2, .ref (g 315)), (3, .int (nI i))]) (IH : ∀ (np : Nat) (dp : Nat → Int32) (nf : Nat) (df : Nat → Int32) (nr : Nat) (dr : Nat → Int32) (nt : Nat) (ct : Nat → Int32) (pay : Int32) (fine : Int32) (kf : Nat → Int32) (na : Nat) (da : Nat → Int32) (TL : Nat → Nat) (TG : Nat → Nat → Int32) (LL : Nat → Nat) (LG : Nat → Nat → Int32) (N1 : Nat → Nat) (E1 : Nat → Nat → Int32) (P1 : Nat → Int32) (L1 : Nat → Nat) (S1 : Nat → Nat → Int32) (W1 : Nat → Nat) (X1 : Nat → Nat → Int32) (N2 : Nat → Nat) (E2 : Nat → Nat → Int32) (P2 : Nat → Int32) (L2 : Nat → Nat) (S2 : Nat → Nat → Int32) (W2 : Nat → Nat) (X2 : Nat → Nat → Int32) (ss : Nat → Int32) (im : Nat → Int32) (kq : Nat → Int32) (f : Nat → va_E) (H : Heap) (locs : List Loc) (ls : Array Slot), cJ G g f np dp nf df nr dr nt ct pay fine kf na da TL TG LL LG N1 E1 P1 L1 S1 W1 X1 N2 E2 P2 L2 S2 W2 X2 → mJ G g f ss im kq → relF np dp nf df nr dr nt ct pay fine kf na da TL TG LL LG N1 E1 P1 L1 S1 W1 X1 N2 E2 P2 L2 S2 W2 X2 ss im kq → va_P G.1 vwCl (wl g f) H → va_S (fun q : Nat => s.heap.size ≤ q) s.heap H locs → lv_has ls 4 [(0, .ref b), (1, .ref (g 0)), (2, .ref (g 315)), (3, .int (nI i))] → W p l e room_1 s m #[Value.ref b] below meth c H locs 333 19609 (lw_Z below #[Value.ref b] s) (F0 m 1373 ls [])) : W p l e room_1 s m #[Value.ref b] below meth c H locs 333 19609 (lw_Z below #[Value.ref b] s) (F0 m 540 ls []) := by
  obtain ⟨hx, hb, hr, hml, hown, hts0, hX, hbl, hlocks, hgv⟩ := id C0
  have hts : ∀ w ∈ TT, w.before #[Value.ref b] s = true := fun w h => hts0 w (List.mem_filter.mp h).1
  have hbA : ¬ (fun q : Nat => s.heap.size ≤ q) b := Nat.not_le.mpr hbl
  refine lv_aload_n hx hb dL_law_540 rfl (lv_at hl 1 rfl) ?_
  refine lv_aload_n hx hb dL_law_541 rfl (lv_at hl 0 rfl) ?_
  refine lv_iload_n hx hb dL_law_542 rfl (lv_at hl 3 rfl) ?_
  refine lv_iconst (v := 1) hx hb dL_law_543 (by decide) ?_
  refine lv_iadd hx hb dL_law_544 ?_
  refine my_bei (v := nI (i + 1)) (nI_add i 1) ?_
  refine va_sld hx hb hX hbl hbA hS (vp_in_nI (by omega) (by omega)) dL_law_545 ?_
  refine my_bei (v := xs (i + 1)) (congrArg xs (nI_clamp (n := i + 1) (by omega))) ?_
  refine lv_aload_n hx hb dL_law_546 rfl (lv_at hl 0 rfl) ?_
  refine lv_iload_n hx hb dL_law_547 rfl (lv_at hl 3 rfl) ?_
  refine lv_iconst (v := 2) hx hb dL_law_548 (by decide) ?_
  refine lv_iadd hx hb dL_law_549 ?_
  refine my_bei (v := nI (i + 2)) (nI_add i 2) ?_
  refine va_sld hx hb hX hbl hbA hS (vp_in_nI (by omega) (by omega)) dL_law_550 ?_
  refine my_bei (v := xs (i + 2)) (congrArg xs (nI_clamp (n := i + 2) (by omega))) ?_
  have hTr := hrel.1.tc
  have hx0 := cJ_0 hcJ
  refine bL_calli hsub (va_runV (As := [.int (xs (i + 1)), .int (xs (i + 2))]) (rest := []) ⟨hx, hb, hml, hown, hts⟩ (j_force l G g hg f np dp nf df nr dr nt ct pay fine kf na da TL TG LL LG N1 E1 P1 L1 S1 W1 X1 N2 E2 P2 L2 S2 W2 X2 (xs (i + 1)) (xs (i + 2))  (by first | assumption | omega | decide) (by first | assumption | omega | decide)) (my_cwV hts ok_X10_force w_615 rfl rfl ⟨Nat.le_of_ble_eq_true rfl, Nat.le_of_ble_eq_true rfl⟩) ⟨bP.blind, va_recv hG.1 hP (ci := 9) (q0 := 0) rfl (wl_at (by decide) hx0), fun U hU hW => ⟨rfl, by rw [hU]; exact hP, kG.warm hW hG⟩⟩ rfl rfl hl.1 rfl (lv_room (Nat.le_of_ble_eq_true rfl)) dL_law_551 ⟨Nat.le_of_ble_eq_true rfl, Nat.le_of_ble_eq_true rfl⟩) hS (fun v1 f_1 H locs hq9 hP hS => ?_)
  obtain ⟨hx_1_0, hx_1_1, o_1⟩ := hq9
  have hcJ := hx_1_0
  have hmJ := mJ_fr hmJ o_1
  refine lv_pop hx hb dL_law_554 rfl ?_
  refine lv_aload_n hx hb dL_law_555 rfl (lv_at hl 2 rfl) ?_
  refine lv_aload_n hx hb dL_law_556 rfl (lv_at hl 0 rfl) ?_
  refine lv_iload_n hx hb dL_law_557 rfl (lv_at hl 3 rfl) ?_
  refine lv_iconst (v := 1) hx hb dL_law_558 (by decide) ?_
  refine lv_iadd hx hb dL_law_559 ?_
  refine my_bei (v := nI (i + 1)) (nI_add i 1) ?_
  refine va_sld hx hb hX hbl hbA hS (vp_in_nI (by omega) (by omega)) dL_law_560 ?_
  refine my_bei (v := xs (i + 1)) (congrArg xs (nI_clamp (n := i + 1) (by omega))) ?_
  refine lv_aload_n hx hb dL_law_561 rfl (lv_at hl 0 rfl) ?_
  refine lv_iload_n hx hb dL_law_562 rfl (lv_at hl 3 rfl) ?_
  refine lv_iconst (v := 2) hx hb dL_law_563 (by decide) ?_
  refine lv_iadd hx hb dL_law_564 ?_
  refine my_bei (v := nI (i + 2)) (nI_add i 2) ?_
  refine va_sld hx hb hX hbl hbA hS (vp_in_nI (by omega) (by omega)) dL_law_565 ?_
  refine my_bei (v := xs (i + 2)) (congrArg xs (nI_clamp (n := i + 2) (by omega))) ?_
  have htA := rcF_trOK hrel.1 hrel.1.tc
  obtain ⟨fs9, hmo⟩ := mJ_0 hmJ
  refine bL_calli hsub (va_runV (As := [.int (xs (i + 1)), .int (xs (i + 2))]) (rest := []) ⟨hx, hb, hml, hown, hts⟩ (j2_force l G g hg f_1 ss im kq (xs (i + 1)) (xs (i + 2))  (by first | assumption | omega | decide) (by first | assumption | omega | decide)) (my_cwV hts ok_X11_force w_620 rfl rfl ⟨Nat.le_of_ble_eq_true rfl, Nat.le_of_ble_eq_true rfl⟩) ⟨bP.blind, va_recv hG.1 hP (ci := 10) (q0 := 315) rfl (wl_at (by decide) hmo), fun U hU hW => ⟨rfl, by rw [hU]; exact hP, kG.warm hW hG⟩⟩ rfl rfl hl.1 rfl (lv_room (Nat.le_of_ble_eq_true rfl)) dL_law_566 ⟨Nat.le_of_ble_eq_true rfl, Nat.le_of_ble_eq_true rfl⟩) hS (fun v2 f_2 H locs hq9 hP hS => ?_)
  obtain ⟨hx_2_0, hx_2_1, o_2⟩ := hq9
  have hmJ := hx_2_0
  have hcJ := cJ_fr hcJ o_2
  obtain ⟨p9, f9, r9, u9, t9, hs9, hm9⟩ := hx_2_1
  have heq := rF_force hrel.1 hs9 hx_1_1 hm9
  refine lv_pop hx hb dL_law_569 rfl ?_
  refine lv_goto (tgt := 1373) hx hb dL_law_570 (by decide) ?_
  exact IH np dp nf df nr dr nt ct pay fine kf na da TL TG LL LG N1 E1 P1 L1 S1 W1 X1 N2 E2 P2 L2 S2 W2 X2 ss im kq _ _ _ _ hcJ hmJ hrel hP hS (lv_sub hl [0, 1, 2, 3] rfl)
set_option maxHeartbeats 4000000 in
set_option maxRecDepth 100000 in
theorem lawJ_11 {p : Program} {e : Env} {s : State} {m : MethodId} {below : List Frame} {meth : Method} {c : Code} (l : Launch) {b L : Nat} {xs : Nat → Int32} (G : gW) (hL : L ≤ 5120) (C0 : lw_At p s m meth c b L xs) (hG : kG G s) {g : Nat → Nat} (hg : gOK g) (hsub : ∀ q, gA g q → (fun q : Nat => s.heap.size ≤ q) q) {i : Nat} (hi : i + 10 ≤ L) {np : Nat} {dp : Nat → Int32} {nf : Nat} {df : Nat → Int32} {nr : Nat} {dr : Nat → Int32} {nt : Nat} {ct : Nat → Int32} {pay : Int32} {fine : Int32} {kf : Nat → Int32} {na : Nat} {da : Nat → Int32} {TL : Nat → Nat} {TG : Nat → Nat → Int32} {LL : Nat → Nat} {LG : Nat → Nat → Int32} {N1 : Nat → Nat} {E1 : Nat → Nat → Int32} {P1 : Nat → Int32} {L1 : Nat → Nat} {S1 : Nat → Nat → Int32} {W1 : Nat → Nat} {X1 : Nat → Nat → Int32} {N2 : Nat → Nat} {E2 : Nat → Nat → Int32} {P2 : Nat → Int32} {L2 : Nat → Nat} {S2 : Nat → Nat → Int32} {W2 : Nat → Nat} {X2 : Nat → Nat → Int32} {ss : Nat → Int32} {im : Nat → Int32} {kq : Nat → Int32} {f : Nat → va_E} {H : Heap} {locs : List Loc} {ls : Array Slot} (hcJ : cJ G g f np dp nf df nr dr nt ct pay fine kf na da TL TG LL LG N1 E1 P1 L1 S1 W1 X1 N2 E2 P2 L2 S2 W2 X2) (hmJ : mJ G g f ss im kq) (hrel : relF np dp nf df nr dr nt ct pay fine kf na da TL TG LL LG N1 E1 P1 L1 S1 W1 X1 N2 E2 P2 L2 S2 W2 X2 ss im kq) (hP : va_P G.1 vwCl (wl g f) H) (hS : va_S (fun q : Nat => s.heap.size ≤ q) s.heap H locs) (hl : lv_has ls 4 [(0, .ref b), (1, .ref (g 0)), (2, .ref (g 315)), (3, .int (nI i))]) (IH : ∀ (np : Nat) (dp : Nat → Int32) (nf : Nat) (df : Nat → Int32) (nr : Nat) (dr : Nat → Int32) (nt : Nat) (ct : Nat → Int32) (pay : Int32) (fine : Int32) (kf : Nat → Int32) (na : Nat) (da : Nat → Int32) (TL : Nat → Nat) (TG : Nat → Nat → Int32) (LL : Nat → Nat) (LG : Nat → Nat → Int32) (N1 : Nat → Nat) (E1 : Nat → Nat → Int32) (P1 : Nat → Int32) (L1 : Nat → Nat) (S1 : Nat → Nat → Int32) (W1 : Nat → Nat) (X1 : Nat → Nat → Int32) (N2 : Nat → Nat) (E2 : Nat → Nat → Int32) (P2 : Nat → Int32) (L2 : Nat → Nat) (S2 : Nat → Nat → Int32) (W2 : Nat → Nat) (X2 : Nat → Nat → Int32) (ss : Nat → Int32) (im : Nat → Int32) (kq : Nat → Int32) (f : Nat → va_E) (H : Heap) (locs : List Loc) (ls : Array Slot), cJ G g f np dp nf df nr dr nt ct pay fine kf na da TL TG LL LG N1 E1 P1 L1 S1 W1 X1 N2 E2 P2 L2 S2 W2 X2 → mJ G g f ss im kq → relF np dp nf df nr dr nt ct pay fine kf na da TL TG LL LG N1 E1 P1 L1 S1 W1 X1 N2 E2 P2 L2 S2 W2 X2 ss im kq → va_P G.1 vwCl (wl g f) H → va_S (fun q : Nat => s.heap.size ≤ q) s.heap H locs → lv_has ls 4 [(0, .ref b), (1, .ref (g 0)), (2, .ref (g 315)), (3, .int (nI i))] → W p l e room_1 s m #[Value.ref b] below meth c H locs 333 19609 (lw_Z below #[Value.ref b] s) (F0 m 1373 ls [])) : W p l e room_1 s m #[Value.ref b] below meth c H locs 333 19609 (lw_Z below #[Value.ref b] s) (F0 m 573 ls []) := by
  obtain ⟨hx, hb, hr, hml, hown, hts0, hX, hbl, hlocks, hgv⟩ := id C0
  have hts : ∀ w ∈ TT, w.before #[Value.ref b] s = true := fun w h => hts0 w (List.mem_filter.mp h).1
  have hbA : ¬ (fun q : Nat => s.heap.size ≤ q) b := Nat.not_le.mpr hbl
  refine lv_aload_n hx hb dL_law_573 rfl (lv_at hl 1 rfl) ?_
  refine lv_aload_n hx hb dL_law_574 rfl (lv_at hl 0 rfl) ?_
  refine lv_iload_n hx hb dL_law_575 rfl (lv_at hl 3 rfl) ?_
  refine lv_iconst (v := 1) hx hb dL_law_576 (by decide) ?_
  refine lv_iadd hx hb dL_law_577 ?_
  refine my_bei (v := nI (i + 1)) (nI_add i 1) ?_
  refine va_sld hx hb hX hbl hbA hS (vp_in_nI (by omega) (by omega)) dL_law_578 ?_
  refine my_bei (v := xs (i + 1)) (congrArg xs (nI_clamp (n := i + 1) (by omega))) ?_
  refine lv_aload_n hx hb dL_law_579 rfl (lv_at hl 0 rfl) ?_
  refine lv_iload_n hx hb dL_law_580 rfl (lv_at hl 3 rfl) ?_
  refine lv_iconst (v := 2) hx hb dL_law_581 (by decide) ?_
  refine lv_iadd hx hb dL_law_582 ?_
  refine my_bei (v := nI (i + 2)) (nI_add i 2) ?_
  refine va_sld hx hb hX hbl hbA hS (vp_in_nI (by omega) (by omega)) dL_law_583 ?_
  refine my_bei (v := xs (i + 2)) (congrArg xs (nI_clamp (n := i + 2) (by omega))) ?_
  refine lv_aload_n hx hb dL_law_584 rfl (lv_at hl 0 rfl) ?_
  refine lv_iload_n hx hb dL_law_585 rfl (lv_at hl 3 rfl) ?_
  refine lv_iconst (v := 3) hx hb dL_law_586 (by decide) ?_
  refine lv_iadd hx hb dL_law_587 ?_
  refine my_bei (v := nI (i + 3)) (nI_add i 3) ?_
  refine va_sld hx hb hX hbl hbA hS (vp_in_nI (by omega) (by omega)) dL_law_588 ?_
  refine my_bei (v := xs (i + 3)) (congrArg xs (nI_clamp (n := i + 3) (by omega))) ?_
  have hTr := hrel.1.tc
  have hx0 := cJ_0 hcJ
  refine bL_calli hsub (va_runV (As := [.int (xs (i + 1)), .int (xs (i + 2)), .int (xs (i + 3))]) (rest := []) ⟨hx, hb, hml, hown, hts⟩ (j_may l G g hg f np dp nf df nr dr nt ct pay fine kf na da TL TG LL LG N1 E1 P1 L1 S1 W1 X1 N2 E2 P2 L2 S2 W2 X2 (xs (i + 1)) (xs (i + 2)) (xs (i + 3))  (by first | assumption | omega | decide) (by first | assumption | omega | decide)) (my_cwV hts ok_X10_may w_624 rfl rfl ⟨Nat.le_of_ble_eq_true rfl, Nat.le_of_ble_eq_true rfl⟩) ⟨bP.blind, va_recv hG.1 hP (ci := 9) (q0 := 0) rfl (wl_at (by decide) hx0), fun U hU hW => ⟨rfl, by rw [hU]; exact hP, kG.warm hW hG⟩⟩ rfl rfl hl.1 rfl (lv_room (Nat.le_of_ble_eq_true rfl)) dL_law_589 ⟨Nat.le_of_ble_eq_true rfl, Nat.le_of_ble_eq_true rfl⟩) hS (fun v1 f_1 H locs hq9 hP hS => ?_)
  obtain ⟨hx_1_0, hx_1_1, o_1⟩ := hq9
  have hcJ := hx_1_0
  have hmJ := mJ_fr hmJ o_1
  refine lv_pop hx hb dL_law_592 rfl ?_
  refine lv_aload_n hx hb dL_law_593 rfl (lv_at hl 2 rfl) ?_
  refine lv_aload_n hx hb dL_law_594 rfl (lv_at hl 0 rfl) ?_
  refine lv_iload_n hx hb dL_law_595 rfl (lv_at hl 3 rfl) ?_
  refine lv_iconst (v := 1) hx hb dL_law_596 (by decide) ?_
  refine lv_iadd hx hb dL_law_597 ?_
  refine my_bei (v := nI (i + 1)) (nI_add i 1) ?_
  refine va_sld hx hb hX hbl hbA hS (vp_in_nI (by omega) (by omega)) dL_law_598 ?_
  refine my_bei (v := xs (i + 1)) (congrArg xs (nI_clamp (n := i + 1) (by omega))) ?_
  refine lv_aload_n hx hb dL_law_599 rfl (lv_at hl 0 rfl) ?_
  refine lv_iload_n hx hb dL_law_600 rfl (lv_at hl 3 rfl) ?_
  refine lv_iconst (v := 2) hx hb dL_law_601 (by decide) ?_
  refine lv_iadd hx hb dL_law_602 ?_
  refine my_bei (v := nI (i + 2)) (nI_add i 2) ?_
  refine va_sld hx hb hX hbl hbA hS (vp_in_nI (by omega) (by omega)) dL_law_603 ?_
  refine my_bei (v := xs (i + 2)) (congrArg xs (nI_clamp (n := i + 2) (by omega))) ?_
  refine lv_aload_n hx hb dL_law_604 rfl (lv_at hl 0 rfl) ?_
  refine lv_iload_n hx hb dL_law_605 rfl (lv_at hl 3 rfl) ?_
  refine lv_iconst (v := 3) hx hb dL_law_606 (by decide) ?_
  refine lv_iadd hx hb dL_law_607 ?_
  refine my_bei (v := nI (i + 3)) (nI_add i 3) ?_
  refine va_sld hx hb hX hbl hbA hS (vp_in_nI (by omega) (by omega)) dL_law_608 ?_
  refine my_bei (v := xs (i + 3)) (congrArg xs (nI_clamp (n := i + 3) (by omega))) ?_
  have htA := rcF_trOK hrel.1 hrel.1.tc
  obtain ⟨fs9, hmo⟩ := mJ_0 hmJ
  refine bL_calli hsub (va_runV (As := [.int (xs (i + 1)), .int (xs (i + 2)), .int (xs (i + 3))]) (rest := []) ⟨hx, hb, hml, hown, hts⟩ (j2_may l G g hg f_1 ss im kq (xs (i + 1)) (xs (i + 2)) (xs (i + 3))  (by first | assumption | omega | decide) (by first | assumption | omega | decide)) (my_cwV hts ok_X11_may w_630 rfl rfl ⟨Nat.le_of_ble_eq_true rfl, Nat.le_of_ble_eq_true rfl⟩) ⟨bP.blind, va_recv hG.1 hP (ci := 10) (q0 := 315) rfl (wl_at (by decide) hmo), fun U hU hW => ⟨rfl, by rw [hU]; exact hP, kG.warm hW hG⟩⟩ rfl rfl hl.1 rfl (lv_room (Nat.le_of_ble_eq_true rfl)) dL_law_609 ⟨Nat.le_of_ble_eq_true rfl, Nat.le_of_ble_eq_true rfl⟩) hS (fun v2 f_2 H locs hq9 hP hS => ?_)
  obtain ⟨hx_2_0, hx_2_1, o_2⟩ := hq9
  have hmJ := hx_2_0
  have hcJ := cJ_fr hcJ o_2
  obtain ⟨p9, f9, r9, u9, t9, hs9, hm9⟩ := hx_2_1
  have heq := rQ_may hrel.1 hs9 hx_1_1 hm9
  refine lv_pop hx hb dL_law_612 rfl ?_
  refine lv_goto (tgt := 1373) hx hb dL_law_613 (by decide) ?_
  exact IH np dp nf df nr dr nt ct pay fine kf na da TL TG LL LG N1 E1 P1 L1 S1 W1 X1 N2 E2 P2 L2 S2 W2 X2 ss im kq _ _ _ _ hcJ hmJ hrel hP hS (lv_sub hl [0, 1, 2, 3] rfl)
set_option maxHeartbeats 4000000 in
set_option maxRecDepth 100000 in
theorem lawJ_12 {p : Program} {e : Env} {s : State} {m : MethodId} {below : List Frame} {meth : Method} {c : Code} (l : Launch) {b L : Nat} {xs : Nat → Int32} (G : gW) (hL : L ≤ 5120) (C0 : lw_At p s m meth c b L xs) (hG : kG G s) {g : Nat → Nat} (hg : gOK g) (hsub : ∀ q, gA g q → (fun q : Nat => s.heap.size ≤ q) q) {i : Nat} (hi : i + 10 ≤ L) {np : Nat} {dp : Nat → Int32} {nf : Nat} {df : Nat → Int32} {nr : Nat} {dr : Nat → Int32} {nt : Nat} {ct : Nat → Int32} {pay : Int32} {fine : Int32} {kf : Nat → Int32} {na : Nat} {da : Nat → Int32} {TL : Nat → Nat} {TG : Nat → Nat → Int32} {LL : Nat → Nat} {LG : Nat → Nat → Int32} {N1 : Nat → Nat} {E1 : Nat → Nat → Int32} {P1 : Nat → Int32} {L1 : Nat → Nat} {S1 : Nat → Nat → Int32} {W1 : Nat → Nat} {X1 : Nat → Nat → Int32} {N2 : Nat → Nat} {E2 : Nat → Nat → Int32} {P2 : Nat → Int32} {L2 : Nat → Nat} {S2 : Nat → Nat → Int32} {W2 : Nat → Nat} {X2 : Nat → Nat → Int32} {ss : Nat → Int32} {im : Nat → Int32} {kq : Nat → Int32} {f : Nat → va_E} {H : Heap} {locs : List Loc} {ls : Array Slot} (hcJ : cJ G g f np dp nf df nr dr nt ct pay fine kf na da TL TG LL LG N1 E1 P1 L1 S1 W1 X1 N2 E2 P2 L2 S2 W2 X2) (hmJ : mJ G g f ss im kq) (hrel : relF np dp nf df nr dr nt ct pay fine kf na da TL TG LL LG N1 E1 P1 L1 S1 W1 X1 N2 E2 P2 L2 S2 W2 X2 ss im kq) (hP : va_P G.1 vwCl (wl g f) H) (hS : va_S (fun q : Nat => s.heap.size ≤ q) s.heap H locs) (hl : lv_has ls 4 [(0, .ref b), (1, .ref (g 0)), (2, .ref (g 315)), (3, .int (nI i))]) (IH : ∀ (np : Nat) (dp : Nat → Int32) (nf : Nat) (df : Nat → Int32) (nr : Nat) (dr : Nat → Int32) (nt : Nat) (ct : Nat → Int32) (pay : Int32) (fine : Int32) (kf : Nat → Int32) (na : Nat) (da : Nat → Int32) (TL : Nat → Nat) (TG : Nat → Nat → Int32) (LL : Nat → Nat) (LG : Nat → Nat → Int32) (N1 : Nat → Nat) (E1 : Nat → Nat → Int32) (P1 : Nat → Int32) (L1 : Nat → Nat) (S1 : Nat → Nat → Int32) (W1 : Nat → Nat) (X1 : Nat → Nat → Int32) (N2 : Nat → Nat) (E2 : Nat → Nat → Int32) (P2 : Nat → Int32) (L2 : Nat → Nat) (S2 : Nat → Nat → Int32) (W2 : Nat → Nat) (X2 : Nat → Nat → Int32) (ss : Nat → Int32) (im : Nat → Int32) (kq : Nat → Int32) (f : Nat → va_E) (H : Heap) (locs : List Loc) (ls : Array Slot), cJ G g f np dp nf df nr dr nt ct pay fine kf na da TL TG LL LG N1 E1 P1 L1 S1 W1 X1 N2 E2 P2 L2 S2 W2 X2 → mJ G g f ss im kq → relF np dp nf df nr dr nt ct pay fine kf na da TL TG LL LG N1 E1 P1 L1 S1 W1 X1 N2 E2 P2 L2 S2 W2 X2 ss im kq → va_P G.1 vwCl (wl g f) H → va_S (fun q : Nat => s.heap.size ≤ q) s.heap H locs → lv_has ls 4 [(0, .ref b), (1, .ref (g 0)), (2, .ref (g 315)), (3, .int (nI i))] → W p l e room_1 s m #[Value.ref b] below meth c H locs 333 19609 (lw_Z below #[Value.ref b] s) (F0 m 1373 ls [])) : W p l e room_1 s m #[Value.ref b] below meth c H locs 333 19609 (lw_Z below #[Value.ref b] s) (F0 m 616 ls []) := by
  obtain ⟨hx, hb, hr, hml, hown, hts0, hX, hbl, hlocks, hgv⟩ := id C0
  have hts : ∀ w ∈ TT, w.before #[Value.ref b] s = true := fun w h => hts0 w (List.mem_filter.mp h).1
  have hbA : ¬ (fun q : Nat => s.heap.size ≤ q) b := Nat.not_le.mpr hbl
  refine lv_aload_n hx hb dL_law_616 rfl (lv_at hl 1 rfl) ?_
  refine lv_aload_n hx hb dL_law_617 rfl (lv_at hl 0 rfl) ?_
  refine lv_iload_n hx hb dL_law_618 rfl (lv_at hl 3 rfl) ?_
  refine lv_iconst (v := 1) hx hb dL_law_619 (by decide) ?_
  refine lv_iadd hx hb dL_law_620 ?_
  refine my_bei (v := nI (i + 1)) (nI_add i 1) ?_
  refine va_sld hx hb hX hbl hbA hS (vp_in_nI (by omega) (by omega)) dL_law_621 ?_
  refine my_bei (v := xs (i + 1)) (congrArg xs (nI_clamp (n := i + 1) (by omega))) ?_
  refine lv_aload_n hx hb dL_law_622 rfl (lv_at hl 0 rfl) ?_
  refine lv_iload_n hx hb dL_law_623 rfl (lv_at hl 3 rfl) ?_
  refine lv_iconst (v := 2) hx hb dL_law_624 (by decide) ?_
  refine lv_iadd hx hb dL_law_625 ?_
  refine my_bei (v := nI (i + 2)) (nI_add i 2) ?_
  refine va_sld hx hb hX hbl hbA hS (vp_in_nI (by omega) (by omega)) dL_law_626 ?_
  refine my_bei (v := xs (i + 2)) (congrArg xs (nI_clamp (n := i + 2) (by omega))) ?_
  refine lv_aload_n hx hb dL_law_627 rfl (lv_at hl 0 rfl) ?_
  refine lv_iload_n hx hb dL_law_628 rfl (lv_at hl 3 rfl) ?_
  refine lv_iconst (v := 3) hx hb dL_law_629 (by decide) ?_
  refine lv_iadd hx hb dL_law_630 ?_
  refine my_bei (v := nI (i + 3)) (nI_add i 3) ?_
  refine va_sld hx hb hX hbl hbA hS (vp_in_nI (by omega) (by omega)) dL_law_631 ?_
  refine my_bei (v := xs (i + 3)) (congrArg xs (nI_clamp (n := i + 3) (by omega))) ?_
  refine lv_aload_n hx hb dL_law_632 rfl (lv_at hl 0 rfl) ?_
  refine lv_iload_n hx hb dL_law_633 rfl (lv_at hl 3 rfl) ?_
  refine lv_iconst (v := 4) hx hb dL_law_634 (by decide) ?_
  refine lv_iadd hx hb dL_law_635 ?_
  refine my_bei (v := nI (i + 4)) (nI_add i 4) ?_
  refine va_sld hx hb hX hbl hbA hS (vp_in_nI (by omega) (by omega)) dL_law_636 ?_
  refine my_bei (v := xs (i + 4)) (congrArg xs (nI_clamp (n := i + 4) (by omega))) ?_
  refine lv_aload_n hx hb dL_law_637 rfl (lv_at hl 0 rfl) ?_
  refine lv_iload_n hx hb dL_law_638 rfl (lv_at hl 3 rfl) ?_
  refine lv_iconst (v := 5) hx hb dL_law_639 (by decide) ?_
  refine lv_iadd hx hb dL_law_640 ?_
  refine my_bei (v := nI (i + 5)) (nI_add i 5) ?_
  refine va_sld hx hb hX hbl hbA hS (vp_in_nI (by omega) (by omega)) dL_law_641 ?_
  refine my_bei (v := xs (i + 5)) (congrArg xs (nI_clamp (n := i + 5) (by omega))) ?_
  refine lv_aload_n hx hb dL_law_642 rfl (lv_at hl 0 rfl) ?_
  refine lv_iload_n hx hb dL_law_643 rfl (lv_at hl 3 rfl) ?_
  refine lv_bipush (v := 6) hx hb dL_law_644 (by decide) ?_
  refine lv_iadd hx hb dL_law_646 ?_
  refine my_bei (v := nI (i + 6)) (nI_add i 6) ?_
  refine va_sld hx hb hX hbl hbA hS (vp_in_nI (by omega) (by omega)) dL_law_647 ?_
  refine my_bei (v := xs (i + 6)) (congrArg xs (nI_clamp (n := i + 6) (by omega))) ?_
  refine lv_aload_n hx hb dL_law_648 rfl (lv_at hl 0 rfl) ?_
  refine lv_iload_n hx hb dL_law_649 rfl (lv_at hl 3 rfl) ?_
  refine lv_bipush (v := 7) hx hb dL_law_650 (by decide) ?_
  refine lv_iadd hx hb dL_law_652 ?_
  refine my_bei (v := nI (i + 7)) (nI_add i 7) ?_
  refine va_sld hx hb hX hbl hbA hS (vp_in_nI (by omega) (by omega)) dL_law_653 ?_
  refine my_bei (v := xs (i + 7)) (congrArg xs (nI_clamp (n := i + 7) (by omega))) ?_
  refine lv_aload_n hx hb dL_law_654 rfl (lv_at hl 0 rfl) ?_
  refine lv_iload_n hx hb dL_law_655 rfl (lv_at hl 3 rfl) ?_
  refine lv_bipush (v := 8) hx hb dL_law_656 (by decide) ?_
  refine lv_iadd hx hb dL_law_658 ?_
  refine my_bei (v := nI (i + 8)) (nI_add i 8) ?_
  refine va_sld hx hb hX hbl hbA hS (vp_in_nI (by omega) (by omega)) dL_law_659 ?_
  refine my_bei (v := xs (i + 8)) (congrArg xs (nI_clamp (n := i + 8) (by omega))) ?_
  refine lv_aload_n hx hb dL_law_660 rfl (lv_at hl 0 rfl) ?_
  refine lv_iload_n hx hb dL_law_661 rfl (lv_at hl 3 rfl) ?_
  refine lv_bipush (v := 9) hx hb dL_law_662 (by decide) ?_
  refine lv_iadd hx hb dL_law_664 ?_
  refine my_bei (v := nI (i + 9)) (nI_add i 9) ?_
  refine va_sld hx hb hX hbl hbA hS (vp_in_nI (by omega) (by omega)) dL_law_665 ?_
  refine my_bei (v := xs (i + 9)) (congrArg xs (nI_clamp (n := i + 9) (by omega))) ?_
  have hTr := hrel.1.tc
  have hx0 := cJ_0 hcJ
  refine bL_calli hsub (va_runV (As := [.int (xs (i + 1)), .int (xs (i + 2)), .int (xs (i + 3)), .int (xs (i + 4)), .int (xs (i + 5)), .int (xs (i + 6)), .int (xs (i + 7)), .int (xs (i + 8)), .int (xs (i + 9))]) (rest := []) ⟨hx, hb, hml, hown, hts⟩ (j_trial l G g hg f np dp nf df nr dr nt ct pay fine kf na da TL TG LL LG N1 E1 P1 L1 S1 W1 X1 N2 E2 P2 L2 S2 W2 X2 (xs (i + 1)) (xs (i + 2)) (xs (i + 3)) (xs (i + 4)) (xs (i + 5)) (xs (i + 6)) (xs (i + 7)) (xs (i + 8)) (xs (i + 9))  (by first | assumption | omega | decide) (by first | assumption | omega | decide)) (my_cwV hts ok_X10_trial w_634 rfl rfl ⟨Nat.le_of_ble_eq_true rfl, Nat.le_of_ble_eq_true rfl⟩) ⟨bP.blind, va_recv hG.1 hP (ci := 9) (q0 := 0) rfl (wl_at (by decide) hx0), fun U hU hW => ⟨rfl, by rw [hU]; exact hP, kG.warm hW hG⟩⟩ rfl rfl hl.1 rfl (lv_room (Nat.le_of_ble_eq_true rfl)) dL_law_666 ⟨Nat.le_of_ble_eq_true rfl, Nat.le_of_ble_eq_true rfl⟩) hS (fun v1 f_1 H locs hq9 hP hS => ?_)
  obtain ⟨nt92, ct93, hx_1_0, hx_1_1, o_1⟩ := hq9
  have hcJ := hx_1_0
  have hmJ := mJ_fr hmJ o_1
  refine lv_pop hx hb dL_law_669 rfl ?_
  refine lv_aload_n hx hb dL_law_670 rfl (lv_at hl 2 rfl) ?_
  refine lv_aload_n hx hb dL_law_671 rfl (lv_at hl 0 rfl) ?_
  refine lv_iload_n hx hb dL_law_672 rfl (lv_at hl 3 rfl) ?_
  refine lv_iconst (v := 1) hx hb dL_law_673 (by decide) ?_
  refine lv_iadd hx hb dL_law_674 ?_
  refine my_bei (v := nI (i + 1)) (nI_add i 1) ?_
  refine va_sld hx hb hX hbl hbA hS (vp_in_nI (by omega) (by omega)) dL_law_675 ?_
  refine my_bei (v := xs (i + 1)) (congrArg xs (nI_clamp (n := i + 1) (by omega))) ?_
  refine lv_aload_n hx hb dL_law_676 rfl (lv_at hl 0 rfl) ?_
  refine lv_iload_n hx hb dL_law_677 rfl (lv_at hl 3 rfl) ?_
  refine lv_iconst (v := 2) hx hb dL_law_678 (by decide) ?_
  refine lv_iadd hx hb dL_law_679 ?_
  refine my_bei (v := nI (i + 2)) (nI_add i 2) ?_
  refine va_sld hx hb hX hbl hbA hS (vp_in_nI (by omega) (by omega)) dL_law_680 ?_
  refine my_bei (v := xs (i + 2)) (congrArg xs (nI_clamp (n := i + 2) (by omega))) ?_
  refine lv_aload_n hx hb dL_law_681 rfl (lv_at hl 0 rfl) ?_
  refine lv_iload_n hx hb dL_law_682 rfl (lv_at hl 3 rfl) ?_
  refine lv_iconst (v := 3) hx hb dL_law_683 (by decide) ?_
  refine lv_iadd hx hb dL_law_684 ?_
  refine my_bei (v := nI (i + 3)) (nI_add i 3) ?_
  refine va_sld hx hb hX hbl hbA hS (vp_in_nI (by omega) (by omega)) dL_law_685 ?_
  refine my_bei (v := xs (i + 3)) (congrArg xs (nI_clamp (n := i + 3) (by omega))) ?_
  refine lv_aload_n hx hb dL_law_686 rfl (lv_at hl 0 rfl) ?_
  refine lv_iload_n hx hb dL_law_687 rfl (lv_at hl 3 rfl) ?_
  refine lv_iconst (v := 4) hx hb dL_law_688 (by decide) ?_
  refine lv_iadd hx hb dL_law_689 ?_
  refine my_bei (v := nI (i + 4)) (nI_add i 4) ?_
  refine va_sld hx hb hX hbl hbA hS (vp_in_nI (by omega) (by omega)) dL_law_690 ?_
  refine my_bei (v := xs (i + 4)) (congrArg xs (nI_clamp (n := i + 4) (by omega))) ?_
  refine lv_aload_n hx hb dL_law_691 rfl (lv_at hl 0 rfl) ?_
  refine lv_iload_n hx hb dL_law_692 rfl (lv_at hl 3 rfl) ?_
  refine lv_iconst (v := 5) hx hb dL_law_693 (by decide) ?_
  refine lv_iadd hx hb dL_law_694 ?_
  refine my_bei (v := nI (i + 5)) (nI_add i 5) ?_
  refine va_sld hx hb hX hbl hbA hS (vp_in_nI (by omega) (by omega)) dL_law_695 ?_
  refine my_bei (v := xs (i + 5)) (congrArg xs (nI_clamp (n := i + 5) (by omega))) ?_
  refine lv_aload_n hx hb dL_law_696 rfl (lv_at hl 0 rfl) ?_
  refine lv_iload_n hx hb dL_law_697 rfl (lv_at hl 3 rfl) ?_
  refine lv_bipush (v := 6) hx hb dL_law_698 (by decide) ?_
  refine lv_iadd hx hb dL_law_700 ?_
  refine my_bei (v := nI (i + 6)) (nI_add i 6) ?_
  refine va_sld hx hb hX hbl hbA hS (vp_in_nI (by omega) (by omega)) dL_law_701 ?_
  refine my_bei (v := xs (i + 6)) (congrArg xs (nI_clamp (n := i + 6) (by omega))) ?_
  refine lv_aload_n hx hb dL_law_702 rfl (lv_at hl 0 rfl) ?_
  refine lv_iload_n hx hb dL_law_703 rfl (lv_at hl 3 rfl) ?_
  refine lv_bipush (v := 7) hx hb dL_law_704 (by decide) ?_
  refine lv_iadd hx hb dL_law_706 ?_
  refine my_bei (v := nI (i + 7)) (nI_add i 7) ?_
  refine va_sld hx hb hX hbl hbA hS (vp_in_nI (by omega) (by omega)) dL_law_707 ?_
  refine my_bei (v := xs (i + 7)) (congrArg xs (nI_clamp (n := i + 7) (by omega))) ?_
  refine lv_aload_n hx hb dL_law_708 rfl (lv_at hl 0 rfl) ?_
  refine lv_iload_n hx hb dL_law_709 rfl (lv_at hl 3 rfl) ?_
  refine lv_bipush (v := 8) hx hb dL_law_710 (by decide) ?_
  refine lv_iadd hx hb dL_law_712 ?_
  refine my_bei (v := nI (i + 8)) (nI_add i 8) ?_
  refine va_sld hx hb hX hbl hbA hS (vp_in_nI (by omega) (by omega)) dL_law_713 ?_
  refine my_bei (v := xs (i + 8)) (congrArg xs (nI_clamp (n := i + 8) (by omega))) ?_
  refine lv_aload_n hx hb dL_law_714 rfl (lv_at hl 0 rfl) ?_
  refine lv_iload_n hx hb dL_law_715 rfl (lv_at hl 3 rfl) ?_
  refine lv_bipush (v := 9) hx hb dL_law_716 (by decide) ?_
  refine lv_iadd hx hb dL_law_718 ?_
  refine my_bei (v := nI (i + 9)) (nI_add i 9) ?_
  refine va_sld hx hb hX hbl hbA hS (vp_in_nI (by omega) (by omega)) dL_law_719 ?_
  refine my_bei (v := xs (i + 9)) (congrArg xs (nI_clamp (n := i + 9) (by omega))) ?_
  have htA := rcF_trOK hrel.1 hrel.1.tc
  obtain ⟨fs9, hmo⟩ := mJ_0 hmJ
  refine bL_calli hsub (va_runV (As := [.int (xs (i + 1)), .int (xs (i + 2)), .int (xs (i + 3)), .int (xs (i + 4)), .int (xs (i + 5)), .int (xs (i + 6)), .int (xs (i + 7)), .int (xs (i + 8)), .int (xs (i + 9))]) (rest := []) ⟨hx, hb, hml, hown, hts⟩ (j2_trial l G g hg f_1 ss im kq (xs (i + 1)) (xs (i + 2)) (xs (i + 3)) (xs (i + 4)) (xs (i + 5)) (xs (i + 6)) (xs (i + 7)) (xs (i + 8)) (xs (i + 9))  (by first | assumption | omega | decide) (by first | assumption | omega | decide)) (my_cwV hts ok_X11_trial w_643 rfl rfl ⟨Nat.le_of_ble_eq_true rfl, Nat.le_of_ble_eq_true rfl⟩) ⟨bP.blind, va_recv hG.1 hP (ci := 10) (q0 := 315) rfl (wl_at (by decide) hmo), fun U hU hW => ⟨rfl, by rw [hU]; exact hP, kG.warm hW hG⟩⟩ rfl rfl hl.1 rfl (lv_room (Nat.le_of_ble_eq_true rfl)) dL_law_720 ⟨Nat.le_of_ble_eq_true rfl, Nat.le_of_ble_eq_true rfl⟩) hS (fun v4 f_2 H locs hq9 hP hS => ?_)
  obtain ⟨ss95, hx_2_0, hx_2_1, o_2⟩ := hq9
  have hmJ := hx_2_0
  have hcJ := cJ_fr hcJ o_2
  obtain ⟨p9, f9, r9, u9, t9, hs9, hm9⟩ := hx_2_1
  obtain ⟨heq, hrc⟩ := rF_trial hrel.1 hs9 hx_1_1 hm9
  have hrel : relF np dp nf df nr dr nt92 ct93 pay fine kf na da TL TG LL LG N1 E1 P1 L1 S1 W1 X1 N2 E2 P2 L2 S2 W2 X2 ss95 im kq := ⟨hrc, hrel.2⟩
  refine lv_pop hx hb dL_law_723 rfl ?_
  refine lv_goto (tgt := 1373) hx hb dL_law_724 (by decide) ?_
  exact IH np dp nf df nr dr nt92 ct93 pay fine kf na da TL TG LL LG N1 E1 P1 L1 S1 W1 X1 N2 E2 P2 L2 S2 W2 X2 ss95 im kq _ _ _ _ hcJ hmJ hrel hP hS (lv_sub hl [0, 1, 2, 3] rfl)
set_option maxHeartbeats 4000000 in
set_option maxRecDepth 100000 in
theorem lawJ_13 {p : Program} {e : Env} {s : State} {m : MethodId} {below : List Frame} {meth : Method} {c : Code} (l : Launch) {b L : Nat} {xs : Nat → Int32} (G : gW) (hL : L ≤ 5120) (C0 : lw_At p s m meth c b L xs) (hG : kG G s) {g : Nat → Nat} (hg : gOK g) (hsub : ∀ q, gA g q → (fun q : Nat => s.heap.size ≤ q) q) {i : Nat} (hi : i + 10 ≤ L) {np : Nat} {dp : Nat → Int32} {nf : Nat} {df : Nat → Int32} {nr : Nat} {dr : Nat → Int32} {nt : Nat} {ct : Nat → Int32} {pay : Int32} {fine : Int32} {kf : Nat → Int32} {na : Nat} {da : Nat → Int32} {TL : Nat → Nat} {TG : Nat → Nat → Int32} {LL : Nat → Nat} {LG : Nat → Nat → Int32} {N1 : Nat → Nat} {E1 : Nat → Nat → Int32} {P1 : Nat → Int32} {L1 : Nat → Nat} {S1 : Nat → Nat → Int32} {W1 : Nat → Nat} {X1 : Nat → Nat → Int32} {N2 : Nat → Nat} {E2 : Nat → Nat → Int32} {P2 : Nat → Int32} {L2 : Nat → Nat} {S2 : Nat → Nat → Int32} {W2 : Nat → Nat} {X2 : Nat → Nat → Int32} {ss : Nat → Int32} {im : Nat → Int32} {kq : Nat → Int32} {f : Nat → va_E} {H : Heap} {locs : List Loc} {ls : Array Slot} (hcJ : cJ G g f np dp nf df nr dr nt ct pay fine kf na da TL TG LL LG N1 E1 P1 L1 S1 W1 X1 N2 E2 P2 L2 S2 W2 X2) (hmJ : mJ G g f ss im kq) (hrel : relF np dp nf df nr dr nt ct pay fine kf na da TL TG LL LG N1 E1 P1 L1 S1 W1 X1 N2 E2 P2 L2 S2 W2 X2 ss im kq) (hP : va_P G.1 vwCl (wl g f) H) (hS : va_S (fun q : Nat => s.heap.size ≤ q) s.heap H locs) (hl : lv_has ls 4 [(0, .ref b), (1, .ref (g 0)), (2, .ref (g 315)), (3, .int (nI i))]) (IH : ∀ (np : Nat) (dp : Nat → Int32) (nf : Nat) (df : Nat → Int32) (nr : Nat) (dr : Nat → Int32) (nt : Nat) (ct : Nat → Int32) (pay : Int32) (fine : Int32) (kf : Nat → Int32) (na : Nat) (da : Nat → Int32) (TL : Nat → Nat) (TG : Nat → Nat → Int32) (LL : Nat → Nat) (LG : Nat → Nat → Int32) (N1 : Nat → Nat) (E1 : Nat → Nat → Int32) (P1 : Nat → Int32) (L1 : Nat → Nat) (S1 : Nat → Nat → Int32) (W1 : Nat → Nat) (X1 : Nat → Nat → Int32) (N2 : Nat → Nat) (E2 : Nat → Nat → Int32) (P2 : Nat → Int32) (L2 : Nat → Nat) (S2 : Nat → Nat → Int32) (W2 : Nat → Nat) (X2 : Nat → Nat → Int32) (ss : Nat → Int32) (im : Nat → Int32) (kq : Nat → Int32) (f : Nat → va_E) (H : Heap) (locs : List Loc) (ls : Array Slot), cJ G g f np dp nf df nr dr nt ct pay fine kf na da TL TG LL LG N1 E1 P1 L1 S1 W1 X1 N2 E2 P2 L2 S2 W2 X2 → mJ G g f ss im kq → relF np dp nf df nr dr nt ct pay fine kf na da TL TG LL LG N1 E1 P1 L1 S1 W1 X1 N2 E2 P2 L2 S2 W2 X2 ss im kq → va_P G.1 vwCl (wl g f) H → va_S (fun q : Nat => s.heap.size ≤ q) s.heap H locs → lv_has ls 4 [(0, .ref b), (1, .ref (g 0)), (2, .ref (g 315)), (3, .int (nI i))] → W p l e room_1 s m #[Value.ref b] below meth c H locs 333 19609 (lw_Z below #[Value.ref b] s) (F0 m 1373 ls [])) : W p l e room_1 s m #[Value.ref b] below meth c H locs 333 19609 (lw_Z below #[Value.ref b] s) (F0 m 727 ls []) := by
  obtain ⟨hx, hb, hr, hml, hown, hts0, hX, hbl, hlocks, hgv⟩ := id C0
  have hts : ∀ w ∈ TT, w.before #[Value.ref b] s = true := fun w h => hts0 w (List.mem_filter.mp h).1
  have hbA : ¬ (fun q : Nat => s.heap.size ≤ q) b := Nat.not_le.mpr hbl
  refine lv_aload_n hx hb dL_law_727 rfl (lv_at hl 1 rfl) ?_
  refine lv_aload_n hx hb dL_law_728 rfl (lv_at hl 0 rfl) ?_
  refine lv_iload_n hx hb dL_law_729 rfl (lv_at hl 3 rfl) ?_
  refine lv_iconst (v := 1) hx hb dL_law_730 (by decide) ?_
  refine lv_iadd hx hb dL_law_731 ?_
  refine my_bei (v := nI (i + 1)) (nI_add i 1) ?_
  refine va_sld hx hb hX hbl hbA hS (vp_in_nI (by omega) (by omega)) dL_law_732 ?_
  refine my_bei (v := xs (i + 1)) (congrArg xs (nI_clamp (n := i + 1) (by omega))) ?_
  refine lv_aload_n hx hb dL_law_733 rfl (lv_at hl 0 rfl) ?_
  refine lv_iload_n hx hb dL_law_734 rfl (lv_at hl 3 rfl) ?_
  refine lv_iconst (v := 2) hx hb dL_law_735 (by decide) ?_
  refine lv_iadd hx hb dL_law_736 ?_
  refine my_bei (v := nI (i + 2)) (nI_add i 2) ?_
  refine va_sld hx hb hX hbl hbA hS (vp_in_nI (by omega) (by omega)) dL_law_737 ?_
  refine my_bei (v := xs (i + 2)) (congrArg xs (nI_clamp (n := i + 2) (by omega))) ?_
  refine lv_aload_n hx hb dL_law_738 rfl (lv_at hl 0 rfl) ?_
  refine lv_iload_n hx hb dL_law_739 rfl (lv_at hl 3 rfl) ?_
  refine lv_iconst (v := 3) hx hb dL_law_740 (by decide) ?_
  refine lv_iadd hx hb dL_law_741 ?_
  refine my_bei (v := nI (i + 3)) (nI_add i 3) ?_
  refine va_sld hx hb hX hbl hbA hS (vp_in_nI (by omega) (by omega)) dL_law_742 ?_
  refine my_bei (v := xs (i + 3)) (congrArg xs (nI_clamp (n := i + 3) (by omega))) ?_
  refine lv_if_eq (tgt := 750) hx hb dL_law_743 (by decide) (fun c_743 => ?_) (fun c_743 => ?_)
  · refine lv_iconst (v := 0) hx hb dL_law_750 (by decide) ?_
    have hTr := hrel.1.tc
    have hx0 := cJ_0 hcJ
    refine bL_calli hsub (va_runV (As := [.int (xs (i + 1)), .int (xs (i + 2)), .int 0]) (rest := []) ⟨hx, hb, hml, hown, hts⟩ (j_away l G g hg f np dp nf df nr dr nt ct pay fine kf na da TL TG LL LG N1 E1 P1 L1 S1 W1 X1 N2 E2 P2 L2 S2 W2 X2 (xs (i + 1)) (xs (i + 2)) 0  (by first | assumption | omega | decide) (by first | assumption | omega | decide)) (my_cwV hts ok_X10_away w_651 rfl rfl ⟨Nat.le_of_ble_eq_true rfl, Nat.le_of_ble_eq_true rfl⟩) ⟨bP.blind, va_recv hG.1 hP (ci := 9) (q0 := 0) rfl (wl_at (by decide) hx0), fun U hU hW => ⟨rfl, by rw [hU]; exact hP, kG.warm hW hG⟩⟩ rfl rfl hl.1 rfl (lv_room (Nat.le_of_ble_eq_true rfl)) dL_law_751 ⟨Nat.le_of_ble_eq_true rfl, Nat.le_of_ble_eq_true rfl⟩) hS (fun v1 f_1 H locs hq9 hP hS => ?_)
    obtain ⟨ct92, hx_1_0, hx_1_1, o_1⟩ := hq9
    have hcJ := hx_1_0
    have hmJ := mJ_fr hmJ o_1
    refine lv_pop hx hb dL_law_754 rfl ?_
    refine lv_aload_n hx hb dL_law_755 rfl (lv_at hl 2 rfl) ?_
    refine lv_aload_n hx hb dL_law_756 rfl (lv_at hl 0 rfl) ?_
    refine lv_iload_n hx hb dL_law_757 rfl (lv_at hl 3 rfl) ?_
    refine lv_iconst (v := 1) hx hb dL_law_758 (by decide) ?_
    refine lv_iadd hx hb dL_law_759 ?_
    refine my_bei (v := nI (i + 1)) (nI_add i 1) ?_
    refine va_sld hx hb hX hbl hbA hS (vp_in_nI (by omega) (by omega)) dL_law_760 ?_
    refine my_bei (v := xs (i + 1)) (congrArg xs (nI_clamp (n := i + 1) (by omega))) ?_
    refine lv_aload_n hx hb dL_law_761 rfl (lv_at hl 0 rfl) ?_
    refine lv_iload_n hx hb dL_law_762 rfl (lv_at hl 3 rfl) ?_
    refine lv_iconst (v := 2) hx hb dL_law_763 (by decide) ?_
    refine lv_iadd hx hb dL_law_764 ?_
    refine my_bei (v := nI (i + 2)) (nI_add i 2) ?_
    refine va_sld hx hb hX hbl hbA hS (vp_in_nI (by omega) (by omega)) dL_law_765 ?_
    refine my_bei (v := xs (i + 2)) (congrArg xs (nI_clamp (n := i + 2) (by omega))) ?_
    refine lv_aload_n hx hb dL_law_766 rfl (lv_at hl 0 rfl) ?_
    refine lv_iload_n hx hb dL_law_767 rfl (lv_at hl 3 rfl) ?_
    refine lv_iconst (v := 3) hx hb dL_law_768 (by decide) ?_
    refine lv_iadd hx hb dL_law_769 ?_
    refine my_bei (v := nI (i + 3)) (nI_add i 3) ?_
    refine va_sld hx hb hX hbl hbA hS (vp_in_nI (by omega) (by omega)) dL_law_770 ?_
    refine my_bei (v := xs (i + 3)) (congrArg xs (nI_clamp (n := i + 3) (by omega))) ?_
    refine lv_if_eq (tgt := 778) hx hb dL_law_771 (by decide) (fun c_771 => ?_) (fun c_771 => absurd (c_743) c_771)
    refine lv_iconst (v := 0) hx hb dL_law_778 (by decide) ?_
    have htA := rcF_trOK hrel.1 hrel.1.tc
    obtain ⟨fs9, hmo⟩ := mJ_0 hmJ
    refine bL_calli hsub (va_runV (As := [.int (xs (i + 1)), .int (xs (i + 2)), .int 0]) (rest := []) ⟨hx, hb, hml, hown, hts⟩ (j2_away l G g hg f_1 ss im kq (xs (i + 1)) (xs (i + 2)) 0  (by first | assumption | omega | decide) (by first | assumption | omega | decide)) (my_cwV hts ok_X11_away w_656 rfl rfl ⟨Nat.le_of_ble_eq_true rfl, Nat.le_of_ble_eq_true rfl⟩) ⟨bP.blind, va_recv hG.1 hP (ci := 10) (q0 := 315) rfl (wl_at (by decide) hmo), fun U hU hW => ⟨rfl, by rw [hU]; exact hP, kG.warm hW hG⟩⟩ rfl rfl hl.1 rfl (lv_room (Nat.le_of_ble_eq_true rfl)) dL_law_779 ⟨Nat.le_of_ble_eq_true rfl, Nat.le_of_ble_eq_true rfl⟩) hS (fun v3 f_2 H locs hq9 hP hS => ?_)
    obtain ⟨ss94, hx_2_0, hx_2_1, o_2⟩ := hq9
    have hmJ := hx_2_0
    have hcJ := cJ_fr hcJ o_2
    obtain ⟨p9, f9, r9, u9, t9, hs9, hm9⟩ := hx_2_1
    obtain ⟨heq, hrc⟩ := rF_away hrel.1 hs9 hx_1_1 hm9
    have hrel : relF np dp nf df nr dr nt ct92 pay fine kf na da TL TG LL LG N1 E1 P1 L1 S1 W1 X1 N2 E2 P2 L2 S2 W2 X2 ss94 im kq := ⟨hrc, hrel.2⟩
    refine lv_pop hx hb dL_law_782 rfl ?_
    refine lv_goto (tgt := 1373) hx hb dL_law_783 (by decide) ?_
    exact IH np dp nf df nr dr nt ct92 pay fine kf na da TL TG LL LG N1 E1 P1 L1 S1 W1 X1 N2 E2 P2 L2 S2 W2 X2 ss94 im kq _ _ _ _ hcJ hmJ hrel hP hS (lv_sub hl [0, 1, 2, 3] rfl)
  · refine lv_iconst (v := 1) hx hb dL_law_746 (by decide) ?_
    refine lv_goto (tgt := 751) hx hb dL_law_747 (by decide) ?_
    have hTr := hrel.1.tc
    have hx0 := cJ_0 hcJ
    refine bL_calli hsub (va_runV (As := [.int (xs (i + 1)), .int (xs (i + 2)), .int 1]) (rest := []) ⟨hx, hb, hml, hown, hts⟩ (j_away l G g hg f np dp nf df nr dr nt ct pay fine kf na da TL TG LL LG N1 E1 P1 L1 S1 W1 X1 N2 E2 P2 L2 S2 W2 X2 (xs (i + 1)) (xs (i + 2)) 1  (by first | assumption | omega | decide) (by first | assumption | omega | decide)) (my_cwV hts ok_X10_away w_651 rfl rfl ⟨Nat.le_of_ble_eq_true rfl, Nat.le_of_ble_eq_true rfl⟩) ⟨bP.blind, va_recv hG.1 hP (ci := 9) (q0 := 0) rfl (wl_at (by decide) hx0), fun U hU hW => ⟨rfl, by rw [hU]; exact hP, kG.warm hW hG⟩⟩ rfl rfl hl.1 rfl (lv_room (Nat.le_of_ble_eq_true rfl)) dL_law_751 ⟨Nat.le_of_ble_eq_true rfl, Nat.le_of_ble_eq_true rfl⟩) hS (fun v5 f_3 H locs hq9 hP hS => ?_)
    obtain ⟨ct96, hx_3_0, hx_3_1, o_3⟩ := hq9
    have hcJ := hx_3_0
    have hmJ := mJ_fr hmJ o_3
    refine lv_pop hx hb dL_law_754 rfl ?_
    refine lv_aload_n hx hb dL_law_755 rfl (lv_at hl 2 rfl) ?_
    refine lv_aload_n hx hb dL_law_756 rfl (lv_at hl 0 rfl) ?_
    refine lv_iload_n hx hb dL_law_757 rfl (lv_at hl 3 rfl) ?_
    refine lv_iconst (v := 1) hx hb dL_law_758 (by decide) ?_
    refine lv_iadd hx hb dL_law_759 ?_
    refine my_bei (v := nI (i + 1)) (nI_add i 1) ?_
    refine va_sld hx hb hX hbl hbA hS (vp_in_nI (by omega) (by omega)) dL_law_760 ?_
    refine my_bei (v := xs (i + 1)) (congrArg xs (nI_clamp (n := i + 1) (by omega))) ?_
    refine lv_aload_n hx hb dL_law_761 rfl (lv_at hl 0 rfl) ?_
    refine lv_iload_n hx hb dL_law_762 rfl (lv_at hl 3 rfl) ?_
    refine lv_iconst (v := 2) hx hb dL_law_763 (by decide) ?_
    refine lv_iadd hx hb dL_law_764 ?_
    refine my_bei (v := nI (i + 2)) (nI_add i 2) ?_
    refine va_sld hx hb hX hbl hbA hS (vp_in_nI (by omega) (by omega)) dL_law_765 ?_
    refine my_bei (v := xs (i + 2)) (congrArg xs (nI_clamp (n := i + 2) (by omega))) ?_
    refine lv_aload_n hx hb dL_law_766 rfl (lv_at hl 0 rfl) ?_
    refine lv_iload_n hx hb dL_law_767 rfl (lv_at hl 3 rfl) ?_
    refine lv_iconst (v := 3) hx hb dL_law_768 (by decide) ?_
    refine lv_iadd hx hb dL_law_769 ?_
    refine my_bei (v := nI (i + 3)) (nI_add i 3) ?_
    refine va_sld hx hb hX hbl hbA hS (vp_in_nI (by omega) (by omega)) dL_law_770 ?_
    refine my_bei (v := xs (i + 3)) (congrArg xs (nI_clamp (n := i + 3) (by omega))) ?_
    refine lv_if_eq (tgt := 778) hx hb dL_law_771 (by decide) (fun c_771 => absurd c_771 (c_743)) (fun c_771 => ?_)
    refine lv_iconst (v := 1) hx hb dL_law_774 (by decide) ?_
    refine lv_goto (tgt := 779) hx hb dL_law_775 (by decide) ?_
    have htA := rcF_trOK hrel.1 hrel.1.tc
    obtain ⟨fs9, hmo⟩ := mJ_0 hmJ
    refine bL_calli hsub (va_runV (As := [.int (xs (i + 1)), .int (xs (i + 2)), .int 1]) (rest := []) ⟨hx, hb, hml, hown, hts⟩ (j2_away l G g hg f_3 ss im kq (xs (i + 1)) (xs (i + 2)) 1  (by first | assumption | omega | decide) (by first | assumption | omega | decide)) (my_cwV hts ok_X11_away w_656 rfl rfl ⟨Nat.le_of_ble_eq_true rfl, Nat.le_of_ble_eq_true rfl⟩) ⟨bP.blind, va_recv hG.1 hP (ci := 10) (q0 := 315) rfl (wl_at (by decide) hmo), fun U hU hW => ⟨rfl, by rw [hU]; exact hP, kG.warm hW hG⟩⟩ rfl rfl hl.1 rfl (lv_room (Nat.le_of_ble_eq_true rfl)) dL_law_779 ⟨Nat.le_of_ble_eq_true rfl, Nat.le_of_ble_eq_true rfl⟩) hS (fun v7 f_4 H locs hq9 hP hS => ?_)
    obtain ⟨ss98, hx_4_0, hx_4_1, o_4⟩ := hq9
    have hmJ := hx_4_0
    have hcJ := cJ_fr hcJ o_4
    obtain ⟨p9, f9, r9, u9, t9, hs9, hm9⟩ := hx_4_1
    obtain ⟨heq, hrc⟩ := rF_away hrel.1 hs9 hx_3_1 hm9
    have hrel : relF np dp nf df nr dr nt ct96 pay fine kf na da TL TG LL LG N1 E1 P1 L1 S1 W1 X1 N2 E2 P2 L2 S2 W2 X2 ss98 im kq := ⟨hrc, hrel.2⟩
    refine lv_pop hx hb dL_law_782 rfl ?_
    refine lv_goto (tgt := 1373) hx hb dL_law_783 (by decide) ?_
    exact IH np dp nf df nr dr nt ct96 pay fine kf na da TL TG LL LG N1 E1 P1 L1 S1 W1 X1 N2 E2 P2 L2 S2 W2 X2 ss98 im kq _ _ _ _ hcJ hmJ hrel hP hS (lv_sub hl [0, 1, 2, 3] rfl)
set_option maxHeartbeats 4000000 in
set_option maxRecDepth 100000 in
theorem lawJ_14 {p : Program} {e : Env} {s : State} {m : MethodId} {below : List Frame} {meth : Method} {c : Code} (l : Launch) {b L : Nat} {xs : Nat → Int32} (G : gW) (hL : L ≤ 5120) (C0 : lw_At p s m meth c b L xs) (hG : kG G s) {g : Nat → Nat} (hg : gOK g) (hsub : ∀ q, gA g q → (fun q : Nat => s.heap.size ≤ q) q) {i : Nat} (hi : i + 10 ≤ L) {np : Nat} {dp : Nat → Int32} {nf : Nat} {df : Nat → Int32} {nr : Nat} {dr : Nat → Int32} {nt : Nat} {ct : Nat → Int32} {pay : Int32} {fine : Int32} {kf : Nat → Int32} {na : Nat} {da : Nat → Int32} {TL : Nat → Nat} {TG : Nat → Nat → Int32} {LL : Nat → Nat} {LG : Nat → Nat → Int32} {N1 : Nat → Nat} {E1 : Nat → Nat → Int32} {P1 : Nat → Int32} {L1 : Nat → Nat} {S1 : Nat → Nat → Int32} {W1 : Nat → Nat} {X1 : Nat → Nat → Int32} {N2 : Nat → Nat} {E2 : Nat → Nat → Int32} {P2 : Nat → Int32} {L2 : Nat → Nat} {S2 : Nat → Nat → Int32} {W2 : Nat → Nat} {X2 : Nat → Nat → Int32} {ss : Nat → Int32} {im : Nat → Int32} {kq : Nat → Int32} {f : Nat → va_E} {H : Heap} {locs : List Loc} {ls : Array Slot} (hcJ : cJ G g f np dp nf df nr dr nt ct pay fine kf na da TL TG LL LG N1 E1 P1 L1 S1 W1 X1 N2 E2 P2 L2 S2 W2 X2) (hmJ : mJ G g f ss im kq) (hrel : relF np dp nf df nr dr nt ct pay fine kf na da TL TG LL LG N1 E1 P1 L1 S1 W1 X1 N2 E2 P2 L2 S2 W2 X2 ss im kq) (hP : va_P G.1 vwCl (wl g f) H) (hS : va_S (fun q : Nat => s.heap.size ≤ q) s.heap H locs) (hl : lv_has ls 4 [(0, .ref b), (1, .ref (g 0)), (2, .ref (g 315)), (3, .int (nI i))]) (IH : ∀ (np : Nat) (dp : Nat → Int32) (nf : Nat) (df : Nat → Int32) (nr : Nat) (dr : Nat → Int32) (nt : Nat) (ct : Nat → Int32) (pay : Int32) (fine : Int32) (kf : Nat → Int32) (na : Nat) (da : Nat → Int32) (TL : Nat → Nat) (TG : Nat → Nat → Int32) (LL : Nat → Nat) (LG : Nat → Nat → Int32) (N1 : Nat → Nat) (E1 : Nat → Nat → Int32) (P1 : Nat → Int32) (L1 : Nat → Nat) (S1 : Nat → Nat → Int32) (W1 : Nat → Nat) (X1 : Nat → Nat → Int32) (N2 : Nat → Nat) (E2 : Nat → Nat → Int32) (P2 : Nat → Int32) (L2 : Nat → Nat) (S2 : Nat → Nat → Int32) (W2 : Nat → Nat) (X2 : Nat → Nat → Int32) (ss : Nat → Int32) (im : Nat → Int32) (kq : Nat → Int32) (f : Nat → va_E) (H : Heap) (locs : List Loc) (ls : Array Slot), cJ G g f np dp nf df nr dr nt ct pay fine kf na da TL TG LL LG N1 E1 P1 L1 S1 W1 X1 N2 E2 P2 L2 S2 W2 X2 → mJ G g f ss im kq → relF np dp nf df nr dr nt ct pay fine kf na da TL TG LL LG N1 E1 P1 L1 S1 W1 X1 N2 E2 P2 L2 S2 W2 X2 ss im kq → va_P G.1 vwCl (wl g f) H → va_S (fun q : Nat => s.heap.size ≤ q) s.heap H locs → lv_has ls 4 [(0, .ref b), (1, .ref (g 0)), (2, .ref (g 315)), (3, .int (nI i))] → W p l e room_1 s m #[Value.ref b] below meth c H locs 333 19609 (lw_Z below #[Value.ref b] s) (F0 m 1373 ls [])) : W p l e room_1 s m #[Value.ref b] below meth c H locs 333 19609 (lw_Z below #[Value.ref b] s) (F0 m 786 ls []) := by
  obtain ⟨hx, hb, hr, hml, hown, hts0, hX, hbl, hlocks, hgv⟩ := id C0
  have hts : ∀ w ∈ TT, w.before #[Value.ref b] s = true := fun w h => hts0 w (List.mem_filter.mp h).1
  have hbA : ¬ (fun q : Nat => s.heap.size ≤ q) b := Nat.not_le.mpr hbl
  refine lv_aload_n hx hb dL_law_786 rfl (lv_at hl 1 rfl) ?_
  refine lv_aload_n hx hb dL_law_787 rfl (lv_at hl 0 rfl) ?_
  refine lv_iload_n hx hb dL_law_788 rfl (lv_at hl 3 rfl) ?_
  refine lv_iconst (v := 1) hx hb dL_law_789 (by decide) ?_
  refine lv_iadd hx hb dL_law_790 ?_
  refine my_bei (v := nI (i + 1)) (nI_add i 1) ?_
  refine va_sld hx hb hX hbl hbA hS (vp_in_nI (by omega) (by omega)) dL_law_791 ?_
  refine my_bei (v := xs (i + 1)) (congrArg xs (nI_clamp (n := i + 1) (by omega))) ?_
  refine lv_aload_n hx hb dL_law_792 rfl (lv_at hl 0 rfl) ?_
  refine lv_iload_n hx hb dL_law_793 rfl (lv_at hl 3 rfl) ?_
  refine lv_iconst (v := 2) hx hb dL_law_794 (by decide) ?_
  refine lv_iadd hx hb dL_law_795 ?_
  refine my_bei (v := nI (i + 2)) (nI_add i 2) ?_
  refine va_sld hx hb hX hbl hbA hS (vp_in_nI (by omega) (by omega)) dL_law_796 ?_
  refine my_bei (v := xs (i + 2)) (congrArg xs (nI_clamp (n := i + 2) (by omega))) ?_
  refine lv_aload_n hx hb dL_law_797 rfl (lv_at hl 0 rfl) ?_
  refine lv_iload_n hx hb dL_law_798 rfl (lv_at hl 3 rfl) ?_
  refine lv_iconst (v := 3) hx hb dL_law_799 (by decide) ?_
  refine lv_iadd hx hb dL_law_800 ?_
  refine my_bei (v := nI (i + 3)) (nI_add i 3) ?_
  refine va_sld hx hb hX hbl hbA hS (vp_in_nI (by omega) (by omega)) dL_law_801 ?_
  refine my_bei (v := xs (i + 3)) (congrArg xs (nI_clamp (n := i + 3) (by omega))) ?_
  refine lv_aload_n hx hb dL_law_802 rfl (lv_at hl 0 rfl) ?_
  refine lv_iload_n hx hb dL_law_803 rfl (lv_at hl 3 rfl) ?_
  refine lv_iconst (v := 4) hx hb dL_law_804 (by decide) ?_
  refine lv_iadd hx hb dL_law_805 ?_
  refine my_bei (v := nI (i + 4)) (nI_add i 4) ?_
  refine va_sld hx hb hX hbl hbA hS (vp_in_nI (by omega) (by omega)) dL_law_806 ?_
  refine my_bei (v := xs (i + 4)) (congrArg xs (nI_clamp (n := i + 4) (by omega))) ?_
  have hTr := hrel.1.tc
  have hx0 := cJ_0 hcJ
  refine bL_calli hsub (va_runV (As := [.int (xs (i + 1)), .int (xs (i + 2)), .int (xs (i + 3)), .int (xs (i + 4))]) (rest := []) ⟨hx, hb, hml, hown, hts⟩ (j_like l G g hg f np dp nf df nr dr nt ct pay fine kf na da TL TG LL LG N1 E1 P1 L1 S1 W1 X1 N2 E2 P2 L2 S2 W2 X2 (xs (i + 1)) (xs (i + 2)) (xs (i + 3)) (xs (i + 4))  (by first | assumption | omega | decide) (by first | assumption | omega | decide)) (my_cwV hts ok_X10_like w_660 rfl rfl ⟨Nat.le_of_ble_eq_true rfl, Nat.le_of_ble_eq_true rfl⟩) ⟨bP.blind, va_recv hG.1 hP (ci := 9) (q0 := 0) rfl (wl_at (by decide) hx0), fun U hU hW => ⟨rfl, by rw [hU]; exact hP, kG.warm hW hG⟩⟩ rfl rfl hl.1 rfl (lv_room (Nat.le_of_ble_eq_true rfl)) dL_law_807 ⟨Nat.le_of_ble_eq_true rfl, Nat.le_of_ble_eq_true rfl⟩) hS (fun v1 f_1 H locs hq9 hP hS => ?_)
  obtain ⟨ct92, hx_1_0, hx_1_1, o_1⟩ := hq9
  have hcJ := hx_1_0
  have hmJ := mJ_fr hmJ o_1
  refine lv_pop hx hb dL_law_810 rfl ?_
  refine lv_aload_n hx hb dL_law_811 rfl (lv_at hl 2 rfl) ?_
  refine lv_aload_n hx hb dL_law_812 rfl (lv_at hl 0 rfl) ?_
  refine lv_iload_n hx hb dL_law_813 rfl (lv_at hl 3 rfl) ?_
  refine lv_iconst (v := 1) hx hb dL_law_814 (by decide) ?_
  refine lv_iadd hx hb dL_law_815 ?_
  refine my_bei (v := nI (i + 1)) (nI_add i 1) ?_
  refine va_sld hx hb hX hbl hbA hS (vp_in_nI (by omega) (by omega)) dL_law_816 ?_
  refine my_bei (v := xs (i + 1)) (congrArg xs (nI_clamp (n := i + 1) (by omega))) ?_
  refine lv_aload_n hx hb dL_law_817 rfl (lv_at hl 0 rfl) ?_
  refine lv_iload_n hx hb dL_law_818 rfl (lv_at hl 3 rfl) ?_
  refine lv_iconst (v := 2) hx hb dL_law_819 (by decide) ?_
  refine lv_iadd hx hb dL_law_820 ?_
  refine my_bei (v := nI (i + 2)) (nI_add i 2) ?_
  refine va_sld hx hb hX hbl hbA hS (vp_in_nI (by omega) (by omega)) dL_law_821 ?_
  refine my_bei (v := xs (i + 2)) (congrArg xs (nI_clamp (n := i + 2) (by omega))) ?_
  refine lv_aload_n hx hb dL_law_822 rfl (lv_at hl 0 rfl) ?_
  refine lv_iload_n hx hb dL_law_823 rfl (lv_at hl 3 rfl) ?_
  refine lv_iconst (v := 3) hx hb dL_law_824 (by decide) ?_
  refine lv_iadd hx hb dL_law_825 ?_
  refine my_bei (v := nI (i + 3)) (nI_add i 3) ?_
  refine va_sld hx hb hX hbl hbA hS (vp_in_nI (by omega) (by omega)) dL_law_826 ?_
  refine my_bei (v := xs (i + 3)) (congrArg xs (nI_clamp (n := i + 3) (by omega))) ?_
  refine lv_aload_n hx hb dL_law_827 rfl (lv_at hl 0 rfl) ?_
  refine lv_iload_n hx hb dL_law_828 rfl (lv_at hl 3 rfl) ?_
  refine lv_iconst (v := 4) hx hb dL_law_829 (by decide) ?_
  refine lv_iadd hx hb dL_law_830 ?_
  refine my_bei (v := nI (i + 4)) (nI_add i 4) ?_
  refine va_sld hx hb hX hbl hbA hS (vp_in_nI (by omega) (by omega)) dL_law_831 ?_
  refine my_bei (v := xs (i + 4)) (congrArg xs (nI_clamp (n := i + 4) (by omega))) ?_
  have htA := rcF_trOK hrel.1 hrel.1.tc
  obtain ⟨fs9, hmo⟩ := mJ_0 hmJ
  refine bL_calli hsub (va_runV (As := [.int (xs (i + 1)), .int (xs (i + 2)), .int (xs (i + 3)), .int (xs (i + 4))]) (rest := []) ⟨hx, hb, hml, hown, hts⟩ (j2_like l G g hg f_1 ss im kq (xs (i + 1)) (xs (i + 2)) (xs (i + 3)) (xs (i + 4))  (by first | assumption | omega | decide) (by first | assumption | omega | decide)) (my_cwV hts ok_X11_like w_665 rfl rfl ⟨Nat.le_of_ble_eq_true rfl, Nat.le_of_ble_eq_true rfl⟩) ⟨bP.blind, va_recv hG.1 hP (ci := 10) (q0 := 315) rfl (wl_at (by decide) hmo), fun U hU hW => ⟨rfl, by rw [hU]; exact hP, kG.warm hW hG⟩⟩ rfl rfl hl.1 rfl (lv_room (Nat.le_of_ble_eq_true rfl)) dL_law_832 ⟨Nat.le_of_ble_eq_true rfl, Nat.le_of_ble_eq_true rfl⟩) hS (fun v3 f_2 H locs hq9 hP hS => ?_)
  obtain ⟨ss94, hx_2_0, hx_2_1, o_2⟩ := hq9
  have hmJ := hx_2_0
  have hcJ := cJ_fr hcJ o_2
  obtain ⟨p9, f9, r9, u9, t9, hs9, hm9⟩ := hx_2_1
  obtain ⟨heq, hrc⟩ := rF_like hrel.1 hs9 hx_1_1 hm9
  have hrel : relF np dp nf df nr dr nt ct92 pay fine kf na da TL TG LL LG N1 E1 P1 L1 S1 W1 X1 N2 E2 P2 L2 S2 W2 X2 ss94 im kq := ⟨hrc, hrel.2⟩
  refine lv_pop hx hb dL_law_835 rfl ?_
  refine lv_goto (tgt := 1373) hx hb dL_law_836 (by decide) ?_
  exact IH np dp nf df nr dr nt ct92 pay fine kf na da TL TG LL LG N1 E1 P1 L1 S1 W1 X1 N2 E2 P2 L2 S2 W2 X2 ss94 im kq _ _ _ _ hcJ hmJ hrel hP hS (lv_sub hl [0, 1, 2, 3] rfl)
set_option maxHeartbeats 4000000 in
set_option maxRecDepth 100000 in
theorem lawJ_15 {p : Program} {e : Env} {s : State} {m : MethodId} {below : List Frame} {meth : Method} {c : Code} (l : Launch) {b L : Nat} {xs : Nat → Int32} (G : gW) (hL : L ≤ 5120) (C0 : lw_At p s m meth c b L xs) (hG : kG G s) {g : Nat → Nat} (hg : gOK g) (hsub : ∀ q, gA g q → (fun q : Nat => s.heap.size ≤ q) q) {i : Nat} (hi : i + 10 ≤ L) {np : Nat} {dp : Nat → Int32} {nf : Nat} {df : Nat → Int32} {nr : Nat} {dr : Nat → Int32} {nt : Nat} {ct : Nat → Int32} {pay : Int32} {fine : Int32} {kf : Nat → Int32} {na : Nat} {da : Nat → Int32} {TL : Nat → Nat} {TG : Nat → Nat → Int32} {LL : Nat → Nat} {LG : Nat → Nat → Int32} {N1 : Nat → Nat} {E1 : Nat → Nat → Int32} {P1 : Nat → Int32} {L1 : Nat → Nat} {S1 : Nat → Nat → Int32} {W1 : Nat → Nat} {X1 : Nat → Nat → Int32} {N2 : Nat → Nat} {E2 : Nat → Nat → Int32} {P2 : Nat → Int32} {L2 : Nat → Nat} {S2 : Nat → Nat → Int32} {W2 : Nat → Nat} {X2 : Nat → Nat → Int32} {ss : Nat → Int32} {im : Nat → Int32} {kq : Nat → Int32} {f : Nat → va_E} {H : Heap} {locs : List Loc} {ls : Array Slot} (hcJ : cJ G g f np dp nf df nr dr nt ct pay fine kf na da TL TG LL LG N1 E1 P1 L1 S1 W1 X1 N2 E2 P2 L2 S2 W2 X2) (hmJ : mJ G g f ss im kq) (hrel : relF np dp nf df nr dr nt ct pay fine kf na da TL TG LL LG N1 E1 P1 L1 S1 W1 X1 N2 E2 P2 L2 S2 W2 X2 ss im kq) (hP : va_P G.1 vwCl (wl g f) H) (hS : va_S (fun q : Nat => s.heap.size ≤ q) s.heap H locs) (hl : lv_has ls 4 [(0, .ref b), (1, .ref (g 0)), (2, .ref (g 315)), (3, .int (nI i))]) (IH : ∀ (np : Nat) (dp : Nat → Int32) (nf : Nat) (df : Nat → Int32) (nr : Nat) (dr : Nat → Int32) (nt : Nat) (ct : Nat → Int32) (pay : Int32) (fine : Int32) (kf : Nat → Int32) (na : Nat) (da : Nat → Int32) (TL : Nat → Nat) (TG : Nat → Nat → Int32) (LL : Nat → Nat) (LG : Nat → Nat → Int32) (N1 : Nat → Nat) (E1 : Nat → Nat → Int32) (P1 : Nat → Int32) (L1 : Nat → Nat) (S1 : Nat → Nat → Int32) (W1 : Nat → Nat) (X1 : Nat → Nat → Int32) (N2 : Nat → Nat) (E2 : Nat → Nat → Int32) (P2 : Nat → Int32) (L2 : Nat → Nat) (S2 : Nat → Nat → Int32) (W2 : Nat → Nat) (X2 : Nat → Nat → Int32) (ss : Nat → Int32) (im : Nat → Int32) (kq : Nat → Int32) (f : Nat → va_E) (H : Heap) (locs : List Loc) (ls : Array Slot), cJ G g f np dp nf df nr dr nt ct pay fine kf na da TL TG LL LG N1 E1 P1 L1 S1 W1 X1 N2 E2 P2 L2 S2 W2 X2 → mJ G g f ss im kq → relF np dp nf df nr dr nt ct pay fine kf na da TL TG LL LG N1 E1 P1 L1 S1 W1 X1 N2 E2 P2 L2 S2 W2 X2 ss im kq → va_P G.1 vwCl (wl g f) H → va_S (fun q : Nat => s.heap.size ≤ q) s.heap H locs → lv_has ls 4 [(0, .ref b), (1, .ref (g 0)), (2, .ref (g 315)), (3, .int (nI i))] → W p l e room_1 s m #[Value.ref b] below meth c H locs 333 19609 (lw_Z below #[Value.ref b] s) (F0 m 1373 ls [])) : W p l e room_1 s m #[Value.ref b] below meth c H locs 333 19609 (lw_Z below #[Value.ref b] s) (F0 m 839 ls []) := by
  obtain ⟨hx, hb, hr, hml, hown, hts0, hX, hbl, hlocks, hgv⟩ := id C0
  have hts : ∀ w ∈ TT, w.before #[Value.ref b] s = true := fun w h => hts0 w (List.mem_filter.mp h).1
  have hbA : ¬ (fun q : Nat => s.heap.size ≤ q) b := Nat.not_le.mpr hbl
  refine lv_aload_n hx hb dL_law_839 rfl (lv_at hl 1 rfl) ?_
  refine lv_aload_n hx hb dL_law_840 rfl (lv_at hl 0 rfl) ?_
  refine lv_iload_n hx hb dL_law_841 rfl (lv_at hl 3 rfl) ?_
  refine lv_iconst (v := 1) hx hb dL_law_842 (by decide) ?_
  refine lv_iadd hx hb dL_law_843 ?_
  refine my_bei (v := nI (i + 1)) (nI_add i 1) ?_
  refine va_sld hx hb hX hbl hbA hS (vp_in_nI (by omega) (by omega)) dL_law_844 ?_
  refine my_bei (v := xs (i + 1)) (congrArg xs (nI_clamp (n := i + 1) (by omega))) ?_
  have hTr := hrel.1.tc
  have hx0 := cJ_0 hcJ
  refine bL_calli hsub (va_runV (As := [.int (xs (i + 1))]) (rest := []) ⟨hx, hb, hml, hown, hts⟩ (j_box l G g hg f np dp nf df nr dr nt ct pay fine kf na da TL TG LL LG N1 E1 P1 L1 S1 W1 X1 N2 E2 P2 L2 S2 W2 X2 (xs (i + 1))  (by first | assumption | omega | decide) (by first | assumption | omega | decide)) (my_cwV hts ok_X10_box w_671 rfl rfl ⟨Nat.le_of_ble_eq_true rfl, Nat.le_of_ble_eq_true rfl⟩) ⟨bP.blind, va_recv hG.1 hP (ci := 9) (q0 := 0) rfl (wl_at (by decide) hx0), fun U hU hW => ⟨rfl, by rw [hU]; exact hP, kG.warm hW hG⟩⟩ rfl rfl hl.1 rfl (lv_room (Nat.le_of_ble_eq_true rfl)) dL_law_845 ⟨Nat.le_of_ble_eq_true rfl, Nat.le_of_ble_eq_true rfl⟩) hS (fun v1 f_1 H locs hq9 hP hS => ?_)
  obtain ⟨hx_1_0, hx_1_1, o_1⟩ := hq9
  have hcJ := hx_1_0
  have hmJ := mJ_fr hmJ o_1
  refine lv_pop hx hb dL_law_848 rfl ?_
  refine lv_aload_n hx hb dL_law_849 rfl (lv_at hl 2 rfl) ?_
  refine lv_aload_n hx hb dL_law_850 rfl (lv_at hl 0 rfl) ?_
  refine lv_iload_n hx hb dL_law_851 rfl (lv_at hl 3 rfl) ?_
  refine lv_iconst (v := 1) hx hb dL_law_852 (by decide) ?_
  refine lv_iadd hx hb dL_law_853 ?_
  refine my_bei (v := nI (i + 1)) (nI_add i 1) ?_
  refine va_sld hx hb hX hbl hbA hS (vp_in_nI (by omega) (by omega)) dL_law_854 ?_
  refine my_bei (v := xs (i + 1)) (congrArg xs (nI_clamp (n := i + 1) (by omega))) ?_
  have htA := rcF_trOK hrel.1 hrel.1.tc
  obtain ⟨fs9, hmo⟩ := mJ_0 hmJ
  refine bL_calli hsub (va_runV (As := [.int (xs (i + 1))]) (rest := []) ⟨hx, hb, hml, hown, hts⟩ (j2_box l G g hg f_1 ss im kq (xs (i + 1))  (by first | assumption | omega | decide) (by first | assumption | omega | decide)) (my_cwV hts ok_X11_box w_676 rfl rfl ⟨Nat.le_of_ble_eq_true rfl, Nat.le_of_ble_eq_true rfl⟩) ⟨bP.blind, va_recv hG.1 hP (ci := 10) (q0 := 315) rfl (wl_at (by decide) hmo), fun U hU hW => ⟨rfl, by rw [hU]; exact hP, kG.warm hW hG⟩⟩ rfl rfl hl.1 rfl (lv_room (Nat.le_of_ble_eq_true rfl)) dL_law_855 ⟨Nat.le_of_ble_eq_true rfl, Nat.le_of_ble_eq_true rfl⟩) hS (fun v2 f_2 H locs hq9 hP hS => ?_)
  obtain ⟨hx_2_0, hx_2_1, o_2⟩ := hq9
  have hmJ := hx_2_0
  have hcJ := cJ_fr hcJ o_2
  obtain ⟨p9, f9, r9, u9, t9, hs9, hm9⟩ := hx_2_1
  have heq := rQ_box hrel.1 hs9 hx_1_1 hm9
  refine lv_pop hx hb dL_law_858 rfl ?_
  refine lv_goto (tgt := 1373) hx hb dL_law_859 (by decide) ?_
  exact IH np dp nf df nr dr nt ct pay fine kf na da TL TG LL LG N1 E1 P1 L1 S1 W1 X1 N2 E2 P2 L2 S2 W2 X2 ss im kq _ _ _ _ hcJ hmJ hrel hP hS (lv_sub hl [0, 1, 2, 3] rfl)
set_option maxHeartbeats 4000000 in
set_option maxRecDepth 100000 in
theorem lawJ_16 {p : Program} {e : Env} {s : State} {m : MethodId} {below : List Frame} {meth : Method} {c : Code} (l : Launch) {b L : Nat} {xs : Nat → Int32} (G : gW) (hL : L ≤ 5120) (C0 : lw_At p s m meth c b L xs) (hG : kG G s) {g : Nat → Nat} (hg : gOK g) (hsub : ∀ q, gA g q → (fun q : Nat => s.heap.size ≤ q) q) {i : Nat} (hi : i + 10 ≤ L) {np : Nat} {dp : Nat → Int32} {nf : Nat} {df : Nat → Int32} {nr : Nat} {dr : Nat → Int32} {nt : Nat} {ct : Nat → Int32} {pay : Int32} {fine : Int32} {kf : Nat → Int32} {na : Nat} {da : Nat → Int32} {TL : Nat → Nat} {TG : Nat → Nat → Int32} {LL : Nat → Nat} {LG : Nat → Nat → Int32} {N1 : Nat → Nat} {E1 : Nat → Nat → Int32} {P1 : Nat → Int32} {L1 : Nat → Nat} {S1 : Nat → Nat → Int32} {W1 : Nat → Nat} {X1 : Nat → Nat → Int32} {N2 : Nat → Nat} {E2 : Nat → Nat → Int32} {P2 : Nat → Int32} {L2 : Nat → Nat} {S2 : Nat → Nat → Int32} {W2 : Nat → Nat} {X2 : Nat → Nat → Int32} {ss : Nat → Int32} {im : Nat → Int32} {kq : Nat → Int32} {f : Nat → va_E} {H : Heap} {locs : List Loc} {ls : Array Slot} (hcJ : cJ G g f np dp nf df nr dr nt ct pay fine kf na da TL TG LL LG N1 E1 P1 L1 S1 W1 X1 N2 E2 P2 L2 S2 W2 X2) (hmJ : mJ G g f ss im kq) (hrel : relF np dp nf df nr dr nt ct pay fine kf na da TL TG LL LG N1 E1 P1 L1 S1 W1 X1 N2 E2 P2 L2 S2 W2 X2 ss im kq) (hP : va_P G.1 vwCl (wl g f) H) (hS : va_S (fun q : Nat => s.heap.size ≤ q) s.heap H locs) (hl : lv_has ls 4 [(0, .ref b), (1, .ref (g 0)), (2, .ref (g 315)), (3, .int (nI i))]) (IH : ∀ (np : Nat) (dp : Nat → Int32) (nf : Nat) (df : Nat → Int32) (nr : Nat) (dr : Nat → Int32) (nt : Nat) (ct : Nat → Int32) (pay : Int32) (fine : Int32) (kf : Nat → Int32) (na : Nat) (da : Nat → Int32) (TL : Nat → Nat) (TG : Nat → Nat → Int32) (LL : Nat → Nat) (LG : Nat → Nat → Int32) (N1 : Nat → Nat) (E1 : Nat → Nat → Int32) (P1 : Nat → Int32) (L1 : Nat → Nat) (S1 : Nat → Nat → Int32) (W1 : Nat → Nat) (X1 : Nat → Nat → Int32) (N2 : Nat → Nat) (E2 : Nat → Nat → Int32) (P2 : Nat → Int32) (L2 : Nat → Nat) (S2 : Nat → Nat → Int32) (W2 : Nat → Nat) (X2 : Nat → Nat → Int32) (ss : Nat → Int32) (im : Nat → Int32) (kq : Nat → Int32) (f : Nat → va_E) (H : Heap) (locs : List Loc) (ls : Array Slot), cJ G g f np dp nf df nr dr nt ct pay fine kf na da TL TG LL LG N1 E1 P1 L1 S1 W1 X1 N2 E2 P2 L2 S2 W2 X2 → mJ G g f ss im kq → relF np dp nf df nr dr nt ct pay fine kf na da TL TG LL LG N1 E1 P1 L1 S1 W1 X1 N2 E2 P2 L2 S2 W2 X2 ss im kq → va_P G.1 vwCl (wl g f) H → va_S (fun q : Nat => s.heap.size ≤ q) s.heap H locs → lv_has ls 4 [(0, .ref b), (1, .ref (g 0)), (2, .ref (g 315)), (3, .int (nI i))] → W p l e room_1 s m #[Value.ref b] below meth c H locs 333 19609 (lw_Z below #[Value.ref b] s) (F0 m 1373 ls [])) : W p l e room_1 s m #[Value.ref b] below meth c H locs 333 19609 (lw_Z below #[Value.ref b] s) (F0 m 862 ls []) := by
  obtain ⟨hx, hb, hr, hml, hown, hts0, hX, hbl, hlocks, hgv⟩ := id C0
  have hts : ∀ w ∈ TT, w.before #[Value.ref b] s = true := fun w h => hts0 w (List.mem_filter.mp h).1
  have hbA : ¬ (fun q : Nat => s.heap.size ≤ q) b := Nat.not_le.mpr hbl
  refine lv_aload_n hx hb dL_law_862 rfl (lv_at hl 1 rfl) ?_
  refine lv_aload_n hx hb dL_law_863 rfl (lv_at hl 0 rfl) ?_
  refine lv_iload_n hx hb dL_law_864 rfl (lv_at hl 3 rfl) ?_
  refine lv_iconst (v := 1) hx hb dL_law_865 (by decide) ?_
  refine lv_iadd hx hb dL_law_866 ?_
  refine my_bei (v := nI (i + 1)) (nI_add i 1) ?_
  refine va_sld hx hb hX hbl hbA hS (vp_in_nI (by omega) (by omega)) dL_law_867 ?_
  refine my_bei (v := xs (i + 1)) (congrArg xs (nI_clamp (n := i + 1) (by omega))) ?_
  refine lv_aload_n hx hb dL_law_868 rfl (lv_at hl 0 rfl) ?_
  refine lv_iload_n hx hb dL_law_869 rfl (lv_at hl 3 rfl) ?_
  refine lv_iconst (v := 2) hx hb dL_law_870 (by decide) ?_
  refine lv_iadd hx hb dL_law_871 ?_
  refine my_bei (v := nI (i + 2)) (nI_add i 2) ?_
  refine va_sld hx hb hX hbl hbA hS (vp_in_nI (by omega) (by omega)) dL_law_872 ?_
  refine my_bei (v := xs (i + 2)) (congrArg xs (nI_clamp (n := i + 2) (by omega))) ?_
  have hTr := hrel.1.tc
  have hx0 := cJ_0 hcJ
  refine bL_calli hsub (va_runV (As := [.int (xs (i + 1)), .int (xs (i + 2))]) (rest := []) ⟨hx, hb, hml, hown, hts⟩ (j_drawn l G g hg f np dp nf df nr dr nt ct pay fine kf na da TL TG LL LG N1 E1 P1 L1 S1 W1 X1 N2 E2 P2 L2 S2 W2 X2 (xs (i + 1)) (xs (i + 2))  (by first | assumption | omega | decide) (by first | assumption | omega | decide)) (my_cwV hts ok_X10_drawn w_684 rfl rfl ⟨Nat.le_of_ble_eq_true rfl, Nat.le_of_ble_eq_true rfl⟩) ⟨bP.blind, va_recv hG.1 hP (ci := 9) (q0 := 0) rfl (wl_at (by decide) hx0), fun U hU hW => ⟨rfl, by rw [hU]; exact hP, kG.warm hW hG⟩⟩ rfl rfl hl.1 rfl (lv_room (Nat.le_of_ble_eq_true rfl)) dL_law_873 ⟨Nat.le_of_ble_eq_true rfl, Nat.le_of_ble_eq_true rfl⟩) hS (fun v1 f_1 H locs hq9 hP hS => ?_)
  obtain ⟨hx_1_0, hx_1_1, o_1⟩ := hq9
  have hcJ := hx_1_0
  have hmJ := mJ_fr hmJ o_1
  refine lv_pop hx hb dL_law_876 rfl ?_
  refine lv_aload_n hx hb dL_law_877 rfl (lv_at hl 2 rfl) ?_
  refine lv_aload_n hx hb dL_law_878 rfl (lv_at hl 0 rfl) ?_
  refine lv_iload_n hx hb dL_law_879 rfl (lv_at hl 3 rfl) ?_
  refine lv_iconst (v := 1) hx hb dL_law_880 (by decide) ?_
  refine lv_iadd hx hb dL_law_881 ?_
  refine my_bei (v := nI (i + 1)) (nI_add i 1) ?_
  refine va_sld hx hb hX hbl hbA hS (vp_in_nI (by omega) (by omega)) dL_law_882 ?_
  refine my_bei (v := xs (i + 1)) (congrArg xs (nI_clamp (n := i + 1) (by omega))) ?_
  refine lv_aload_n hx hb dL_law_883 rfl (lv_at hl 0 rfl) ?_
  refine lv_iload_n hx hb dL_law_884 rfl (lv_at hl 3 rfl) ?_
  refine lv_iconst (v := 2) hx hb dL_law_885 (by decide) ?_
  refine lv_iadd hx hb dL_law_886 ?_
  refine my_bei (v := nI (i + 2)) (nI_add i 2) ?_
  refine va_sld hx hb hX hbl hbA hS (vp_in_nI (by omega) (by omega)) dL_law_887 ?_
  refine my_bei (v := xs (i + 2)) (congrArg xs (nI_clamp (n := i + 2) (by omega))) ?_
  have htA := rcF_trOK hrel.1 hrel.1.tc
  obtain ⟨fs9, hmo⟩ := mJ_0 hmJ
  refine bL_calli hsub (va_runV (As := [.int (xs (i + 1)), .int (xs (i + 2))]) (rest := []) ⟨hx, hb, hml, hown, hts⟩ (j2_drawn l G g hg f_1 ss im kq (xs (i + 1)) (xs (i + 2))  (by first | assumption | omega | decide) (by first | assumption | omega | decide)) (my_cwV hts ok_X11_drawn w_692 rfl rfl ⟨Nat.le_of_ble_eq_true rfl, Nat.le_of_ble_eq_true rfl⟩) ⟨bP.blind, va_recv hG.1 hP (ci := 10) (q0 := 315) rfl (wl_at (by decide) hmo), fun U hU hW => ⟨rfl, by rw [hU]; exact hP, kG.warm hW hG⟩⟩ rfl rfl hl.1 rfl (lv_room (Nat.le_of_ble_eq_true rfl)) dL_law_888 ⟨Nat.le_of_ble_eq_true rfl, Nat.le_of_ble_eq_true rfl⟩) hS (fun v2 f_2 H locs hq9 hP hS => ?_)
  obtain ⟨hx_2_0, hx_2_1, o_2⟩ := hq9
  have hmJ := hx_2_0
  have hcJ := cJ_fr hcJ o_2
  obtain ⟨p9, f9, r9, u9, t9, hs9, hm9⟩ := hx_2_1
  have heq := rQ_drawn hrel.1 hs9 hx_1_1 hm9
  refine lv_pop hx hb dL_law_891 rfl ?_
  refine lv_goto (tgt := 1373) hx hb dL_law_892 (by decide) ?_
  exact IH np dp nf df nr dr nt ct pay fine kf na da TL TG LL LG N1 E1 P1 L1 S1 W1 X1 N2 E2 P2 L2 S2 W2 X2 ss im kq _ _ _ _ hcJ hmJ hrel hP hS (lv_sub hl [0, 1, 2, 3] rfl)


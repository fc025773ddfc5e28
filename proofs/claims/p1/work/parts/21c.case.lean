set_option maxHeartbeats 4000000 in
set_option maxRecDepth 100000 in
theorem law_14 {p : Program} {e : Env} {s : State} {m : MethodId} {below : List Frame} {meth : Method} {c : Code} (l : Launch) {b : Nat} {xs : Nat → Int32} (G : gW) (C0 : lw_At p s m meth c b 10 xs) (hG : kG G s) {x mo : Nat} {g h : Nat → Nat} {H : Heap} {locs : List Loc} {ls : Array Slot} (hP : va_P G.1 vwCl (lwW G x g mo h) H) (hD : va_D (fun q : Nat => s.heap.size ≤ q) (lwW G x g mo h)) (hS : va_S (fun q : Nat => s.heap.size ≤ q) s.heap H locs) (hl : lv_has ls 4 [(0, .ref b), (1, .ref x), (2, .ref mo), (3, .int 0)]) : W p l e room_1 s m #[Value.ref b] below meth c H locs 333 19609 (lw_Z below #[Value.ref b] s) (F0 m 787 ls []) := by
  obtain ⟨hx, hb, hr, hml, hown, hts0, hX, hbl, hlocks, hgv⟩ := id C0
  have hts : ∀ w ∈ TT, w.before #[Value.ref b] s = true := fun w h => hts0 w (List.mem_filter.mp h).1
  have hA : ∀ q : Nat, s.heap.size ≤ q → (fun q : Nat => s.heap.size ≤ q) q := fun _ h => h
  have hbA : ¬ (fun q : Nat => s.heap.size ≤ q) b := Nat.not_le.mpr hbl
  have hD := hD.sub (ws' := [(x, eO 9 [.ref (g 0), .ref (g 1), .ref (g 2), .ref (g 3), .ref (g 4), .ref (g 5), .ref (g 6)]), (g 1, eO 0 [.ref (g 101), .ref (g 103), .ref (g 105), .ref (g 107), .ref (g 109), .ref (g 111), .ref (g 174), .int 5, .int 20]), (g 109, eO 5 [.int 10, .int 70, .ref (g 110), .int 0]), (mo, eO 10 [.ref (h 0), .ref (h 1), .ref (h 2), .long 0, .long 1, .int 0, .ref (h 3), .ref (h 4), .int 0, .ref (h 5), .ref (h 6), .int 0, .int 0, .int 0, .int 0, .ref (h 7), .ref (h 8), .ref (h 9), .ref (h 10), .ref (h 11), .ref (h 12), .ref (h 13), .ref (h 14), .ref (h 15), .ref (h 16)]), (h 0, eI G 2246 st0)]) [0, 2, 11, 269, 270] (by decide) rfl
  have hP := hP.sub (ws' := [(x, eO 9 [.ref (g 0), .ref (g 1), .ref (g 2), .ref (g 3), .ref (g 4), .ref (g 5), .ref (g 6)]), (g 1, eO 0 [.ref (g 101), .ref (g 103), .ref (g 105), .ref (g 107), .ref (g 109), .ref (g 111), .ref (g 174), .int 5, .int 20]), (g 109, eO 5 [.int 10, .int 70, .ref (g 110), .int 0]), (mo, eO 10 [.ref (h 0), .ref (h 1), .ref (h 2), .long 0, .long 1, .int 0, .ref (h 3), .ref (h 4), .int 0, .ref (h 5), .ref (h 6), .int 0, .int 0, .int 0, .int 0, .ref (h 7), .ref (h 8), .ref (h 9), .ref (h 10), .ref (h 11), .ref (h 12), .ref (h 13), .ref (h 14), .ref (h 15), .ref (h 16)]), (h 0, eI G 2246 st0)]) [0, 2, 11, 269, 270] rfl
  refine lv_aload_n hx hb dL_law_787 rfl (lv_at hl 1 rfl) ?_
  refine lv_aload_n hx hb dL_law_788 rfl (lv_at hl 0 rfl) ?_
  refine lv_iload_n hx hb dL_law_789 rfl (lv_at hl 3 rfl) ?_
  refine lv_iconst (v := 1) hx hb dL_law_790 (by decide) ?_
  refine lv_iadd hx hb dL_law_791 ?_
  refine my_bei (v := 1) (by decide) ?_
  refine va_sld hx hb hX hbl hbA hS (by unfold vp_in; decide) dL_law_792 ?_
  refine my_bei (v := xs 1) rfl ?_
  refine lv_aload_n hx hb dL_law_793 rfl (lv_at hl 0 rfl) ?_
  refine lv_iload_n hx hb dL_law_794 rfl (lv_at hl 3 rfl) ?_
  refine lv_iconst (v := 2) hx hb dL_law_795 (by decide) ?_
  refine lv_iadd hx hb dL_law_796 ?_
  refine my_bei (v := 2) (by decide) ?_
  refine va_sld hx hb hX hbl hbA hS (by unfold vp_in; decide) dL_law_797 ?_
  refine my_bei (v := xs 2) rfl ?_
  refine lv_aload_n hx hb dL_law_798 rfl (lv_at hl 0 rfl) ?_
  refine lv_iload_n hx hb dL_law_799 rfl (lv_at hl 3 rfl) ?_
  refine lv_iconst (v := 3) hx hb dL_law_800 (by decide) ?_
  refine lv_iadd hx hb dL_law_801 ?_
  refine my_bei (v := 3) (by decide) ?_
  refine va_sld hx hb hX hbl hbA hS (by unfold vp_in; decide) dL_law_802 ?_
  refine my_bei (v := xs 3) rfl ?_
  refine lv_aload_n hx hb dL_law_803 rfl (lv_at hl 0 rfl) ?_
  refine lv_iload_n hx hb dL_law_804 rfl (lv_at hl 3 rfl) ?_
  refine lv_iconst (v := 4) hx hb dL_law_805 (by decide) ?_
  refine lv_iadd hx hb dL_law_806 ?_
  refine my_bei (v := 4) (by decide) ?_
  refine va_sld hx hb hX hbl hbA hS (by unfold vp_in; decide) dL_law_807 ?_
  refine my_bei (v := xs 4) rfl ?_
  have hPc := hP.sub (ws' := [(x, eO 9 [.ref (g 0), .ref (g 1), .ref (g 2), .ref (g 3), .ref (g 4), .ref (g 5), .ref (g 6)]), (g 1, eO 0 [.ref (g 101), .ref (g 103), .ref (g 105), .ref (g 107), .ref (g 109), .ref (g 111), .ref (g 174), .int 5, .int 20]), (g 109, eO 5 [.int 10, .int 70, .ref (g 110), .int 0])]) [0, 1, 2] rfl
  refine rd_calli (va_runV (As := [.int (xs 1), .int (xs 2), .int (xs 3), .int (xs 4)]) (rest := []) ⟨hx, hb, hml, hown, hts⟩ (p_like l G x (g 0) (g 1) (g 2) (g 3) (g 4) (g 5) (g 6) (g 101) (g 103) (g 105) (g 107) (g 109) (g 111) (g 174) (g 110) (xs 1) (xs 2) (xs 3) (xs 4) ) (my_cwV hts ok_X10_like w_660 rfl rfl ⟨Nat.le_of_ble_eq_true rfl, Nat.le_of_ble_eq_true rfl⟩) ⟨rP.blind, va_recv hG.1 hPc (ci := 9) (q0 := 0) rfl rfl, fun U hU hW => ⟨rfl, by rw [hU]; exact hPc, kG.warm hW hG⟩⟩ rfl rfl hl.1 rfl (lv_room (Nat.le_of_ble_eq_true rfl)) dL_law_808 ⟨Nat.le_of_ble_eq_true rfl, Nat.le_of_ble_eq_true rfl⟩) (fun r hr9 => ?_)
  subst hr9
  refine lv_aload_n hx hb dL_law_811 rfl (lv_at hl 2 rfl) ?_
  refine lv_aload_n hx hb dL_law_812 rfl (lv_at hl 0 rfl) ?_
  refine lv_iload_n hx hb dL_law_813 rfl (lv_at hl 3 rfl) ?_
  refine lv_iconst (v := 1) hx hb dL_law_814 (by decide) ?_
  refine lv_iadd hx hb dL_law_815 ?_
  refine my_bei (v := 1) (by decide) ?_
  refine va_sld hx hb hX hbl hbA hS (by unfold vp_in; decide) dL_law_816 ?_
  refine my_bei (v := xs 1) rfl ?_
  refine lv_aload_n hx hb dL_law_817 rfl (lv_at hl 0 rfl) ?_
  refine lv_iload_n hx hb dL_law_818 rfl (lv_at hl 3 rfl) ?_
  refine lv_iconst (v := 2) hx hb dL_law_819 (by decide) ?_
  refine lv_iadd hx hb dL_law_820 ?_
  refine my_bei (v := 2) (by decide) ?_
  refine va_sld hx hb hX hbl hbA hS (by unfold vp_in; decide) dL_law_821 ?_
  refine my_bei (v := xs 2) rfl ?_
  refine lv_aload_n hx hb dL_law_822 rfl (lv_at hl 0 rfl) ?_
  refine lv_iload_n hx hb dL_law_823 rfl (lv_at hl 3 rfl) ?_
  refine lv_iconst (v := 3) hx hb dL_law_824 (by decide) ?_
  refine lv_iadd hx hb dL_law_825 ?_
  refine my_bei (v := 3) (by decide) ?_
  refine va_sld hx hb hX hbl hbA hS (by unfold vp_in; decide) dL_law_826 ?_
  refine my_bei (v := xs 3) rfl ?_
  refine lv_aload_n hx hb dL_law_827 rfl (lv_at hl 0 rfl) ?_
  refine lv_iload_n hx hb dL_law_828 rfl (lv_at hl 3 rfl) ?_
  refine lv_iconst (v := 4) hx hb dL_law_829 (by decide) ?_
  refine lv_iadd hx hb dL_law_830 ?_
  refine my_bei (v := 4) (by decide) ?_
  refine va_sld hx hb hX hbl hbA hS (by unfold vp_in; decide) dL_law_831 ?_
  refine my_bei (v := xs 4) rfl ?_
  have hPc := hP.sub (ws' := [(mo, eO 10 [.ref (h 0), .ref (h 1), .ref (h 2), .long 0, .long 1, .int 0, .ref (h 3), .ref (h 4), .int 0, .ref (h 5), .ref (h 6), .int 0, .int 0, .int 0, .int 0, .ref (h 7), .ref (h 8), .ref (h 9), .ref (h 10), .ref (h 11), .ref (h 12), .ref (h 13), .ref (h 14), .ref (h 15), .ref (h 16)]), (h 0, eI G 2246 st0)]) [3, 4] rfl
  refine rd_calli (va_runV (As := [.int (xs 1), .int (xs 2), .int (xs 3), .int (xs 4)]) (rest := [.int (-1000)]) ⟨hx, hb, hml, hown, hts⟩ (m_like l G mo (h 0) (h 1) (h 2) (h 3) (h 4) (h 5) (h 6) (h 7) (h 8) (h 9) (h 10) (h 11) (h 12) (h 13) (h 14) (h 15) (h 16) (xs 1) (xs 2) (xs 3) (xs 4) ) (my_cwV hts ok_X11_like w_665 rfl rfl ⟨Nat.le_of_ble_eq_true rfl, Nat.le_of_ble_eq_true rfl⟩) ⟨rP.blind, va_recv hG.1 hPc (ci := 10) (q0 := 0) rfl rfl, fun U hU hW => ⟨rfl, by rw [hU]; exact hPc, kG.warm hW hG⟩⟩ rfl rfl hl.1 rfl (lv_room (Nat.le_of_ble_eq_true rfl)) dL_law_832 ⟨Nat.le_of_ble_eq_true rfl, Nat.le_of_ble_eq_true rfl⟩) (fun r hr9 => ?_)
  subst hr9
  refine lv_icmp_eq (tgt := 1376) hx hb dL_law_835 (by decide) (fun c_835 => ?_) (fun c_835 => absurd (by decide) c_835)
  exact law_end l C0 hS (lv_sub hl [0, 3] rfl)
set_option maxHeartbeats 4000000 in
set_option maxRecDepth 100000 in
theorem law_15 {p : Program} {e : Env} {s : State} {m : MethodId} {below : List Frame} {meth : Method} {c : Code} (l : Launch) {b : Nat} {xs : Nat → Int32} (G : gW) (C0 : lw_At p s m meth c b 10 xs) (hG : kG G s) {x mo : Nat} {g h : Nat → Nat} {H : Heap} {locs : List Loc} {ls : Array Slot} (hP : va_P G.1 vwCl (lwW G x g mo h) H) (hD : va_D (fun q : Nat => s.heap.size ≤ q) (lwW G x g mo h)) (hS : va_S (fun q : Nat => s.heap.size ≤ q) s.heap H locs) (hl : lv_has ls 4 [(0, .ref b), (1, .ref x), (2, .ref mo), (3, .int 0)]) : W p l e room_1 s m #[Value.ref b] below meth c H locs 333 19609 (lw_Z below #[Value.ref b] s) (F0 m 840 ls []) := by
  obtain ⟨hx, hb, hr, hml, hown, hts0, hX, hbl, hlocks, hgv⟩ := id C0
  have hts : ∀ w ∈ TT, w.before #[Value.ref b] s = true := fun w h => hts0 w (List.mem_filter.mp h).1
  have hA : ∀ q : Nat, s.heap.size ≤ q → (fun q : Nat => s.heap.size ≤ q) q := fun _ h => h
  have hbA : ¬ (fun q : Nat => s.heap.size ≤ q) b := Nat.not_le.mpr hbl
  have hD := hD.sub (ws' := [(x, eO 9 [.ref (g 0), .ref (g 1), .ref (g 2), .ref (g 3), .ref (g 4), .ref (g 5), .ref (g 6)]), (g 1, eO 0 [.ref (g 101), .ref (g 103), .ref (g 105), .ref (g 107), .ref (g 109), .ref (g 111), .ref (g 174), .int 5, .int 20]), (g 109, eO 5 [.int 10, .int 70, .ref (g 110), .int 0]), (mo, eO 10 [.ref (h 0), .ref (h 1), .ref (h 2), .long 0, .long 1, .int 0, .ref (h 3), .ref (h 4), .int 0, .ref (h 5), .ref (h 6), .int 0, .int 0, .int 0, .int 0, .ref (h 7), .ref (h 8), .ref (h 9), .ref (h 10), .ref (h 11), .ref (h 12), .ref (h 13), .ref (h 14), .ref (h 15), .ref (h 16)]), (h 0, eI G 2246 st0)]) [0, 2, 11, 269, 270] (by decide) rfl
  have hP := hP.sub (ws' := [(x, eO 9 [.ref (g 0), .ref (g 1), .ref (g 2), .ref (g 3), .ref (g 4), .ref (g 5), .ref (g 6)]), (g 1, eO 0 [.ref (g 101), .ref (g 103), .ref (g 105), .ref (g 107), .ref (g 109), .ref (g 111), .ref (g 174), .int 5, .int 20]), (g 109, eO 5 [.int 10, .int 70, .ref (g 110), .int 0]), (mo, eO 10 [.ref (h 0), .ref (h 1), .ref (h 2), .long 0, .long 1, .int 0, .ref (h 3), .ref (h 4), .int 0, .ref (h 5), .ref (h 6), .int 0, .int 0, .int 0, .int 0, .ref (h 7), .ref (h 8), .ref (h 9), .ref (h 10), .ref (h 11), .ref (h 12), .ref (h 13), .ref (h 14), .ref (h 15), .ref (h 16)]), (h 0, eI G 2246 st0)]) [0, 2, 11, 269, 270] rfl
  refine lv_aload_n hx hb dL_law_840 rfl (lv_at hl 1 rfl) ?_
  refine lv_aload_n hx hb dL_law_841 rfl (lv_at hl 0 rfl) ?_
  refine lv_iload_n hx hb dL_law_842 rfl (lv_at hl 3 rfl) ?_
  refine lv_iconst (v := 1) hx hb dL_law_843 (by decide) ?_
  refine lv_iadd hx hb dL_law_844 ?_
  refine my_bei (v := 1) (by decide) ?_
  refine va_sld hx hb hX hbl hbA hS (by unfold vp_in; decide) dL_law_845 ?_
  refine my_bei (v := xs 1) rfl ?_
  have hPc := hP.sub (ws' := [(x, eO 9 [.ref (g 0), .ref (g 1), .ref (g 2), .ref (g 3), .ref (g 4), .ref (g 5), .ref (g 6)]), (g 1, eO 0 [.ref (g 101), .ref (g 103), .ref (g 105), .ref (g 107), .ref (g 109), .ref (g 111), .ref (g 174), .int 5, .int 20]), (g 109, eO 5 [.int 10, .int 70, .ref (g 110), .int 0])]) [0, 1, 2] rfl
  refine rd_calli (va_runV (As := [.int (xs 1)]) (rest := []) ⟨hx, hb, hml, hown, hts⟩ (p_box l G x (g 0) (g 1) (g 2) (g 3) (g 4) (g 5) (g 6) (g 101) (g 103) (g 105) (g 107) (g 109) (g 111) (g 174) (g 110) (xs 1) ) (my_cwV hts ok_X10_box w_671 rfl rfl ⟨Nat.le_of_ble_eq_true rfl, Nat.le_of_ble_eq_true rfl⟩) ⟨rP.blind, va_recv hG.1 hPc (ci := 9) (q0 := 0) rfl rfl, fun U hU hW => ⟨rfl, by rw [hU]; exact hPc, kG.warm hW hG⟩⟩ rfl rfl hl.1 rfl (lv_room (Nat.le_of_ble_eq_true rfl)) dL_law_846 ⟨Nat.le_of_ble_eq_true rfl, Nat.le_of_ble_eq_true rfl⟩) (fun r hr9 => ?_)
  subst hr9
  refine lv_aload_n hx hb dL_law_849 rfl (lv_at hl 2 rfl) ?_
  refine lv_aload_n hx hb dL_law_850 rfl (lv_at hl 0 rfl) ?_
  refine lv_iload_n hx hb dL_law_851 rfl (lv_at hl 3 rfl) ?_
  refine lv_iconst (v := 1) hx hb dL_law_852 (by decide) ?_
  refine lv_iadd hx hb dL_law_853 ?_
  refine my_bei (v := 1) (by decide) ?_
  refine va_sld hx hb hX hbl hbA hS (by unfold vp_in; decide) dL_law_854 ?_
  refine my_bei (v := xs 1) rfl ?_
  have hPc := hP.sub (ws' := [(mo, eO 10 [.ref (h 0), .ref (h 1), .ref (h 2), .long 0, .long 1, .int 0, .ref (h 3), .ref (h 4), .int 0, .ref (h 5), .ref (h 6), .int 0, .int 0, .int 0, .int 0, .ref (h 7), .ref (h 8), .ref (h 9), .ref (h 10), .ref (h 11), .ref (h 12), .ref (h 13), .ref (h 14), .ref (h 15), .ref (h 16)]), (h 0, eI G 2246 st0)]) [3, 4] rfl
  have hDc := hD.sub (ws' := [(mo, eO 10 [.ref (h 0), .ref (h 1), .ref (h 2), .long 0, .long 1, .int 0, .ref (h 3), .ref (h 4), .int 0, .ref (h 5), .ref (h 6), .int 0, .int 0, .int 0, .int 0, .ref (h 7), .ref (h 8), .ref (h 9), .ref (h 10), .ref (h 11), .ref (h 12), .ref (h 13), .ref (h 14), .ref (h 15), .ref (h 16)]), (h 0, eI G 2246 st0)]) [3, 4] (by decide) rfl
  have hFc := va_free (wc := [(mo, eO 10 [.ref (h 0), .ref (h 1), .ref (h 2), .long 0, .long 1, .int 0, .ref (h 3), .ref (h 4), .int 0, .ref (h 5), .ref (h 6), .int 0, .int 0, .int 0, .int 0, .ref (h 7), .ref (h 8), .ref (h 9), .ref (h 10), .ref (h 11), .ref (h 12), .ref (h 13), .ref (h 14), .ref (h 15), .ref (h 16)]), (h 0, eI G 2246 st0)]) hD hS hA [3, 4] rfl
  refine va_calli (va_runV (As := [.int (xs 1)]) (rest := [.int (-2)]) ⟨hx, hb, hml, hown, hts⟩ (m_box l G H.size mo (h 0) (h 1) (h 2) (h 3) (h 4) (h 5) (h 6) (h 7) (h 8) (h 9) (h 10) (h 11) (h 12) (h 13) (h 14) (h 15) (h 16) (xs 1) ) (my_cwV hts ok_X11_box w_676 rfl rfl ⟨Nat.le_of_ble_eq_true rfl, Nat.le_of_ble_eq_true rfl⟩) ⟨wP.blind, va_recv hG.1 hPc (ci := 10) (q0 := 0) rfl rfl, fun U hU hW => ⟨rfl, by rw [hU], by rw [hU]; exact hPc, kG.warm hW hG, hDc.weaken (fun _ _ _ _ => trivial)⟩⟩ rfl rfl hl.1 rfl (lv_room (Nat.le_of_ble_eq_true rfl)) dL_law_855 ⟨Nat.le_of_ble_eq_true rfl, Nat.le_of_ble_eq_true rfl⟩) hS (fun q _ h => hFc q h) hFc (fun r u t H1 locs ht hvm hw hB hz1 hk1 hS => ?_)
  obtain ⟨hP, hD⟩ := va_join (wr := [(x, eO 9 [.ref (g 0), .ref (g 1), .ref (g 2), .ref (g 3), .ref (g 4), .ref (g 5), .ref (g 6)]), (g 1, eO 0 [.ref (g 101), .ref (g 103), .ref (g 105), .ref (g 107), .ref (g 109), .ref (g 111), .ref (g 174), .int 5, .int 20]), (g 109, eO 5 [.int 10, .int 70, .ref (g 110), .int 0])]) (w1 := []) hP hD [3, 4] [0, 1, 2] rfl rfl (by decide) (by decide) hk1 hFc my_P0 my_D0
  generalize H1 = H at hP hS ⊢
  have hP : va_P G.1 vwCl [(x, eO 9 [.ref (g 0), .ref (g 1), .ref (g 2), .ref (g 3), .ref (g 4), .ref (g 5), .ref (g 6)]), (g 1, eO 0 [.ref (g 101), .ref (g 103), .ref (g 105), .ref (g 107), .ref (g 109), .ref (g 111), .ref (g 174), .int 5, .int 20]), (g 109, eO 5 [.int 10, .int 70, .ref (g 110), .int 0])] H := hP
  have hD : va_D (fun q : Nat => s.heap.size ≤ q) [(x, eO 9 [.ref (g 0), .ref (g 1), .ref (g 2), .ref (g 3), .ref (g 4), .ref (g 5), .ref (g 6)]), (g 1, eO 0 [.ref (g 101), .ref (g 103), .ref (g 105), .ref (g 107), .ref (g 109), .ref (g 111), .ref (g 174), .int 5, .int 20]), (g 109, eO 5 [.int 10, .int 70, .ref (g 110), .int 0])] := hD
  subst hw
  refine lv_icmp_eq (tgt := 1376) hx hb dL_law_858 (by decide) (fun c_858 => ?_) (fun c_858 => absurd (by decide) c_858)
  exact law_end l C0 hS (lv_sub hl [0, 3] rfl)
set_option maxHeartbeats 4000000 in
set_option maxRecDepth 100000 in
theorem law_16 {p : Program} {e : Env} {s : State} {m : MethodId} {below : List Frame} {meth : Method} {c : Code} (l : Launch) {b : Nat} {xs : Nat → Int32} (G : gW) (C0 : lw_At p s m meth c b 10 xs) (hG : kG G s) {x mo : Nat} {g h : Nat → Nat} {H : Heap} {locs : List Loc} {ls : Array Slot} (hP : va_P G.1 vwCl (lwW G x g mo h) H) (hD : va_D (fun q : Nat => s.heap.size ≤ q) (lwW G x g mo h)) (hS : va_S (fun q : Nat => s.heap.size ≤ q) s.heap H locs) (hl : lv_has ls 4 [(0, .ref b), (1, .ref x), (2, .ref mo), (3, .int 0)]) : W p l e room_1 s m #[Value.ref b] below meth c H locs 333 19609 (lw_Z below #[Value.ref b] s) (F0 m 863 ls []) := by
  obtain ⟨hx, hb, hr, hml, hown, hts0, hX, hbl, hlocks, hgv⟩ := id C0
  have hts : ∀ w ∈ TT, w.before #[Value.ref b] s = true := fun w h => hts0 w (List.mem_filter.mp h).1
  have hA : ∀ q : Nat, s.heap.size ≤ q → (fun q : Nat => s.heap.size ≤ q) q := fun _ h => h
  have hbA : ¬ (fun q : Nat => s.heap.size ≤ q) b := Nat.not_le.mpr hbl
  have hD := hD.sub (ws' := [(x, eO 9 [.ref (g 0), .ref (g 1), .ref (g 2), .ref (g 3), .ref (g 4), .ref (g 5), .ref (g 6)]), (g 1, eO 0 [.ref (g 101), .ref (g 103), .ref (g 105), .ref (g 107), .ref (g 109), .ref (g 111), .ref (g 174), .int 5, .int 20]), (g 109, eO 5 [.int 10, .int 70, .ref (g 110), .int 0]), (mo, eO 10 [.ref (h 0), .ref (h 1), .ref (h 2), .long 0, .long 1, .int 0, .ref (h 3), .ref (h 4), .int 0, .ref (h 5), .ref (h 6), .int 0, .int 0, .int 0, .int 0, .ref (h 7), .ref (h 8), .ref (h 9), .ref (h 10), .ref (h 11), .ref (h 12), .ref (h 13), .ref (h 14), .ref (h 15), .ref (h 16)]), (h 0, eI G 2246 st0)]) [0, 2, 11, 269, 270] (by decide) rfl
  have hP := hP.sub (ws' := [(x, eO 9 [.ref (g 0), .ref (g 1), .ref (g 2), .ref (g 3), .ref (g 4), .ref (g 5), .ref (g 6)]), (g 1, eO 0 [.ref (g 101), .ref (g 103), .ref (g 105), .ref (g 107), .ref (g 109), .ref (g 111), .ref (g 174), .int 5, .int 20]), (g 109, eO 5 [.int 10, .int 70, .ref (g 110), .int 0]), (mo, eO 10 [.ref (h 0), .ref (h 1), .ref (h 2), .long 0, .long 1, .int 0, .ref (h 3), .ref (h 4), .int 0, .ref (h 5), .ref (h 6), .int 0, .int 0, .int 0, .int 0, .ref (h 7), .ref (h 8), .ref (h 9), .ref (h 10), .ref (h 11), .ref (h 12), .ref (h 13), .ref (h 14), .ref (h 15), .ref (h 16)]), (h 0, eI G 2246 st0)]) [0, 2, 11, 269, 270] rfl
  refine lv_aload_n hx hb dL_law_863 rfl (lv_at hl 1 rfl) ?_
  refine lv_aload_n hx hb dL_law_864 rfl (lv_at hl 0 rfl) ?_
  refine lv_iload_n hx hb dL_law_865 rfl (lv_at hl 3 rfl) ?_
  refine lv_iconst (v := 1) hx hb dL_law_866 (by decide) ?_
  refine lv_iadd hx hb dL_law_867 ?_
  refine my_bei (v := 1) (by decide) ?_
  refine va_sld hx hb hX hbl hbA hS (by unfold vp_in; decide) dL_law_868 ?_
  refine my_bei (v := xs 1) rfl ?_
  refine lv_aload_n hx hb dL_law_869 rfl (lv_at hl 0 rfl) ?_
  refine lv_iload_n hx hb dL_law_870 rfl (lv_at hl 3 rfl) ?_
  refine lv_iconst (v := 2) hx hb dL_law_871 (by decide) ?_
  refine lv_iadd hx hb dL_law_872 ?_
  refine my_bei (v := 2) (by decide) ?_
  refine va_sld hx hb hX hbl hbA hS (by unfold vp_in; decide) dL_law_873 ?_
  refine my_bei (v := xs 2) rfl ?_
  have hPc := hP.sub (ws' := [(x, eO 9 [.ref (g 0), .ref (g 1), .ref (g 2), .ref (g 3), .ref (g 4), .ref (g 5), .ref (g 6)]), (g 1, eO 0 [.ref (g 101), .ref (g 103), .ref (g 105), .ref (g 107), .ref (g 109), .ref (g 111), .ref (g 174), .int 5, .int 20]), (g 109, eO 5 [.int 10, .int 70, .ref (g 110), .int 0])]) [0, 1, 2] rfl
  refine rd_calli (va_runV (As := [.int (xs 1), .int (xs 2)]) (rest := []) ⟨hx, hb, hml, hown, hts⟩ (p_drawn l G x (g 0) (g 1) (g 2) (g 3) (g 4) (g 5) (g 6) (g 101) (g 103) (g 105) (g 107) (g 109) (g 111) (g 174) (g 110) (xs 1) (xs 2) ) (my_cwV hts ok_X10_drawn w_684 rfl rfl ⟨Nat.le_of_ble_eq_true rfl, Nat.le_of_ble_eq_true rfl⟩) ⟨rP.blind, va_recv hG.1 hPc (ci := 9) (q0 := 0) rfl rfl, fun U hU hW => ⟨rfl, by rw [hU]; exact hPc, kG.warm hW hG⟩⟩ rfl rfl hl.1 rfl (lv_room (Nat.le_of_ble_eq_true rfl)) dL_law_874 ⟨Nat.le_of_ble_eq_true rfl, Nat.le_of_ble_eq_true rfl⟩) (fun r hr9 => ?_)
  subst hr9
  refine lv_aload_n hx hb dL_law_877 rfl (lv_at hl 2 rfl) ?_
  refine lv_aload_n hx hb dL_law_878 rfl (lv_at hl 0 rfl) ?_
  refine lv_iload_n hx hb dL_law_879 rfl (lv_at hl 3 rfl) ?_
  refine lv_iconst (v := 1) hx hb dL_law_880 (by decide) ?_
  refine lv_iadd hx hb dL_law_881 ?_
  refine my_bei (v := 1) (by decide) ?_
  refine va_sld hx hb hX hbl hbA hS (by unfold vp_in; decide) dL_law_882 ?_
  refine my_bei (v := xs 1) rfl ?_
  refine lv_aload_n hx hb dL_law_883 rfl (lv_at hl 0 rfl) ?_
  refine lv_iload_n hx hb dL_law_884 rfl (lv_at hl 3 rfl) ?_
  refine lv_iconst (v := 2) hx hb dL_law_885 (by decide) ?_
  refine lv_iadd hx hb dL_law_886 ?_
  refine my_bei (v := 2) (by decide) ?_
  refine va_sld hx hb hX hbl hbA hS (by unfold vp_in; decide) dL_law_887 ?_
  refine my_bei (v := xs 2) rfl ?_
  have hPc := hP.sub (ws' := [(mo, eO 10 [.ref (h 0), .ref (h 1), .ref (h 2), .long 0, .long 1, .int 0, .ref (h 3), .ref (h 4), .int 0, .ref (h 5), .ref (h 6), .int 0, .int 0, .int 0, .int 0, .ref (h 7), .ref (h 8), .ref (h 9), .ref (h 10), .ref (h 11), .ref (h 12), .ref (h 13), .ref (h 14), .ref (h 15), .ref (h 16)]), (h 0, eI G 2246 st0)]) [3, 4] rfl
  have hDc := hD.sub (ws' := [(mo, eO 10 [.ref (h 0), .ref (h 1), .ref (h 2), .long 0, .long 1, .int 0, .ref (h 3), .ref (h 4), .int 0, .ref (h 5), .ref (h 6), .int 0, .int 0, .int 0, .int 0, .ref (h 7), .ref (h 8), .ref (h 9), .ref (h 10), .ref (h 11), .ref (h 12), .ref (h 13), .ref (h 14), .ref (h 15), .ref (h 16)]), (h 0, eI G 2246 st0)]) [3, 4] (by decide) rfl
  have hFc := va_free (wc := [(mo, eO 10 [.ref (h 0), .ref (h 1), .ref (h 2), .long 0, .long 1, .int 0, .ref (h 3), .ref (h 4), .int 0, .ref (h 5), .ref (h 6), .int 0, .int 0, .int 0, .int 0, .ref (h 7), .ref (h 8), .ref (h 9), .ref (h 10), .ref (h 11), .ref (h 12), .ref (h 13), .ref (h 14), .ref (h 15), .ref (h 16)]), (h 0, eI G 2246 st0)]) hD hS hA [3, 4] rfl
  refine va_calli (va_runV (As := [.int (xs 1), .int (xs 2)]) (rest := [.int (-2)]) ⟨hx, hb, hml, hown, hts⟩ (m_drawn l G H.size mo (h 0) (h 1) (h 2) (h 3) (h 4) (h 5) (h 6) (h 7) (h 8) (h 9) (h 10) (h 11) (h 12) (h 13) (h 14) (h 15) (h 16) (xs 1) (xs 2) ) (my_cwV hts ok_X11_drawn w_692 rfl rfl ⟨Nat.le_of_ble_eq_true rfl, Nat.le_of_ble_eq_true rfl⟩) ⟨wP.blind, va_recv hG.1 hPc (ci := 10) (q0 := 0) rfl rfl, fun U hU hW => ⟨rfl, by rw [hU], by rw [hU]; exact hPc, kG.warm hW hG, hDc.weaken (fun _ _ _ _ => trivial)⟩⟩ rfl rfl hl.1 rfl (lv_room (Nat.le_of_ble_eq_true rfl)) dL_law_888 ⟨Nat.le_of_ble_eq_true rfl, Nat.le_of_ble_eq_true rfl⟩) hS (fun q _ h => hFc q h) hFc (fun r u t H1 locs ht hvm hw hB hz1 hk1 hS => ?_)
  obtain ⟨hP, hD⟩ := va_join (wr := [(x, eO 9 [.ref (g 0), .ref (g 1), .ref (g 2), .ref (g 3), .ref (g 4), .ref (g 5), .ref (g 6)]), (g 1, eO 0 [.ref (g 101), .ref (g 103), .ref (g 105), .ref (g 107), .ref (g 109), .ref (g 111), .ref (g 174), .int 5, .int 20]), (g 109, eO 5 [.int 10, .int 70, .ref (g 110), .int 0])]) (w1 := []) hP hD [3, 4] [0, 1, 2] rfl rfl (by decide) (by decide) hk1 hFc my_P0 my_D0
  generalize H1 = H at hP hS ⊢
  have hP : va_P G.1 vwCl [(x, eO 9 [.ref (g 0), .ref (g 1), .ref (g 2), .ref (g 3), .ref (g 4), .ref (g 5), .ref (g 6)]), (g 1, eO 0 [.ref (g 101), .ref (g 103), .ref (g 105), .ref (g 107), .ref (g 109), .ref (g 111), .ref (g 174), .int 5, .int 20]), (g 109, eO 5 [.int 10, .int 70, .ref (g 110), .int 0])] H := hP
  have hD : va_D (fun q : Nat => s.heap.size ≤ q) [(x, eO 9 [.ref (g 0), .ref (g 1), .ref (g 2), .ref (g 3), .ref (g 4), .ref (g 5), .ref (g 6)]), (g 1, eO 0 [.ref (g 101), .ref (g 103), .ref (g 105), .ref (g 107), .ref (g 109), .ref (g 111), .ref (g 174), .int 5, .int 20]), (g 109, eO 5 [.int 10, .int 70, .ref (g 110), .int 0])] := hD
  subst hw
  refine lv_icmp_eq (tgt := 1376) hx hb dL_law_891 (by decide) (fun c_891 => ?_) (fun c_891 => absurd (by decide) c_891)
  exact law_end l C0 hS (lv_sub hl [0, 3] rfl)
set_option maxHeartbeats 4000000 in
set_option maxRecDepth 100000 in
theorem law_17 {p : Program} {e : Env} {s : State} {m : MethodId} {below : List Frame} {meth : Method} {c : Code} (l : Launch) {b : Nat} {xs : Nat → Int32} (G : gW) (C0 : lw_At p s m meth c b 10 xs) (hG : kG G s) {x mo : Nat} {g h : Nat → Nat} {H : Heap} {locs : List Loc} {ls : Array Slot} (hP : va_P G.1 vwCl (lwW G x g mo h) H) (hD : va_D (fun q : Nat => s.heap.size ≤ q) (lwW G x g mo h)) (hS : va_S (fun q : Nat => s.heap.size ≤ q) s.heap H locs) (hl : lv_has ls 4 [(0, .ref b), (1, .ref x), (2, .ref mo), (3, .int 0)]) : W p l e room_1 s m #[Value.ref b] below meth c H locs 333 19609 (lw_Z below #[Value.ref b] s) (F0 m 896 ls []) := by
  obtain ⟨hx, hb, hr, hml, hown, hts0, hX, hbl, hlocks, hgv⟩ := id C0
  have hts : ∀ w ∈ TT, w.before #[Value.ref b] s = true := fun w h => hts0 w (List.mem_filter.mp h).1
  have hA : ∀ q : Nat, s.heap.size ≤ q → (fun q : Nat => s.heap.size ≤ q) q := fun _ h => h
  have hbA : ¬ (fun q : Nat => s.heap.size ≤ q) b := Nat.not_le.mpr hbl
  have hD := hD.sub (ws' := [(x, eO 9 [.ref (g 0), .ref (g 1), .ref (g 2), .ref (g 3), .ref (g 4), .ref (g 5), .ref (g 6)]), (g 1, eO 0 [.ref (g 101), .ref (g 103), .ref (g 105), .ref (g 107), .ref (g 109), .ref (g 111), .ref (g 174), .int 5, .int 20]), (g 109, eO 5 [.int 10, .int 70, .ref (g 110), .int 0]), (mo, eO 10 [.ref (h 0), .ref (h 1), .ref (h 2), .long 0, .long 1, .int 0, .ref (h 3), .ref (h 4), .int 0, .ref (h 5), .ref (h 6), .int 0, .int 0, .int 0, .int 0, .ref (h 7), .ref (h 8), .ref (h 9), .ref (h 10), .ref (h 11), .ref (h 12), .ref (h 13), .ref (h 14), .ref (h 15), .ref (h 16)]), (h 0, eI G 2246 st0)]) [0, 2, 11, 269, 270] (by decide) rfl
  have hP := hP.sub (ws' := [(x, eO 9 [.ref (g 0), .ref (g 1), .ref (g 2), .ref (g 3), .ref (g 4), .ref (g 5), .ref (g 6)]), (g 1, eO 0 [.ref (g 101), .ref (g 103), .ref (g 105), .ref (g 107), .ref (g 109), .ref (g 111), .ref (g 174), .int 5, .int 20]), (g 109, eO 5 [.int 10, .int 70, .ref (g 110), .int 0]), (mo, eO 10 [.ref (h 0), .ref (h 1), .ref (h 2), .long 0, .long 1, .int 0, .ref (h 3), .ref (h 4), .int 0, .ref (h 5), .ref (h 6), .int 0, .int 0, .int 0, .int 0, .ref (h 7), .ref (h 8), .ref (h 9), .ref (h 10), .ref (h 11), .ref (h 12), .ref (h 13), .ref (h 14), .ref (h 15), .ref (h 16)]), (h 0, eI G 2246 st0)]) [0, 2, 11, 269, 270] rfl
  refine lv_aload_n hx hb dL_law_896 rfl (lv_at hl 1 rfl) ?_
  refine lv_aload_n hx hb dL_law_897 rfl (lv_at hl 0 rfl) ?_
  refine lv_iload_n hx hb dL_law_898 rfl (lv_at hl 3 rfl) ?_
  refine lv_iconst (v := 1) hx hb dL_law_899 (by decide) ?_
  refine lv_iadd hx hb dL_law_900 ?_
  refine my_bei (v := 1) (by decide) ?_
  refine va_sld hx hb hX hbl hbA hS (by unfold vp_in; decide) dL_law_901 ?_
  refine my_bei (v := xs 1) rfl ?_
  refine lv_aload_n hx hb dL_law_902 rfl (lv_at hl 0 rfl) ?_
  refine lv_iload_n hx hb dL_law_903 rfl (lv_at hl 3 rfl) ?_
  refine lv_iconst (v := 2) hx hb dL_law_904 (by decide) ?_
  refine lv_iadd hx hb dL_law_905 ?_
  refine my_bei (v := 2) (by decide) ?_
  refine va_sld hx hb hX hbl hbA hS (by unfold vp_in; decide) dL_law_906 ?_
  refine my_bei (v := xs 2) rfl ?_
  have hPc := hP.sub (ws' := [(x, eO 9 [.ref (g 0), .ref (g 1), .ref (g 2), .ref (g 3), .ref (g 4), .ref (g 5), .ref (g 6)]), (g 1, eO 0 [.ref (g 101), .ref (g 103), .ref (g 105), .ref (g 107), .ref (g 109), .ref (g 111), .ref (g 174), .int 5, .int 20]), (g 109, eO 5 [.int 10, .int 70, .ref (g 110), .int 0])]) [0, 1, 2] rfl
  refine rd_calli (va_runV (As := [.int (xs 1), .int (xs 2)]) (rest := []) ⟨hx, hb, hml, hown, hts⟩ (p_slip l G x (g 0) (g 1) (g 2) (g 3) (g 4) (g 5) (g 6) (g 101) (g 103) (g 105) (g 107) (g 109) (g 111) (g 174) (g 110) (xs 1) (xs 2) ) (my_cwV hts ok_X10_slip w_696 rfl rfl ⟨Nat.le_of_ble_eq_true rfl, Nat.le_of_ble_eq_true rfl⟩) ⟨rP.blind, va_recv hG.1 hPc (ci := 9) (q0 := 0) rfl rfl, fun U hU hW => ⟨rfl, by rw [hU]; exact hPc, kG.warm hW hG⟩⟩ rfl rfl hl.1 rfl (lv_room (Nat.le_of_ble_eq_true rfl)) dL_law_907 ⟨Nat.le_of_ble_eq_true rfl, Nat.le_of_ble_eq_true rfl⟩) (fun r hr9 => ?_)
  subst hr9
  refine lv_aload_n hx hb dL_law_910 rfl (lv_at hl 2 rfl) ?_
  refine lv_aload_n hx hb dL_law_911 rfl (lv_at hl 0 rfl) ?_
  refine lv_iload_n hx hb dL_law_912 rfl (lv_at hl 3 rfl) ?_
  refine lv_iconst (v := 1) hx hb dL_law_913 (by decide) ?_
  refine lv_iadd hx hb dL_law_914 ?_
  refine my_bei (v := 1) (by decide) ?_
  refine va_sld hx hb hX hbl hbA hS (by unfold vp_in; decide) dL_law_915 ?_
  refine my_bei (v := xs 1) rfl ?_
  refine lv_aload_n hx hb dL_law_916 rfl (lv_at hl 0 rfl) ?_
  refine lv_iload_n hx hb dL_law_917 rfl (lv_at hl 3 rfl) ?_
  refine lv_iconst (v := 2) hx hb dL_law_918 (by decide) ?_
  refine lv_iadd hx hb dL_law_919 ?_
  refine my_bei (v := 2) (by decide) ?_
  refine va_sld hx hb hX hbl hbA hS (by unfold vp_in; decide) dL_law_920 ?_
  refine my_bei (v := xs 2) rfl ?_
  have hPc := hP.sub (ws' := [(mo, eO 10 [.ref (h 0), .ref (h 1), .ref (h 2), .long 0, .long 1, .int 0, .ref (h 3), .ref (h 4), .int 0, .ref (h 5), .ref (h 6), .int 0, .int 0, .int 0, .int 0, .ref (h 7), .ref (h 8), .ref (h 9), .ref (h 10), .ref (h 11), .ref (h 12), .ref (h 13), .ref (h 14), .ref (h 15), .ref (h 16)]), (h 0, eI G 2246 st0)]) [3, 4] rfl
  have hDc := hD.sub (ws' := [(mo, eO 10 [.ref (h 0), .ref (h 1), .ref (h 2), .long 0, .long 1, .int 0, .ref (h 3), .ref (h 4), .int 0, .ref (h 5), .ref (h 6), .int 0, .int 0, .int 0, .int 0, .ref (h 7), .ref (h 8), .ref (h 9), .ref (h 10), .ref (h 11), .ref (h 12), .ref (h 13), .ref (h 14), .ref (h 15), .ref (h 16)]), (h 0, eI G 2246 st0)]) [3, 4] (by decide) rfl
  have hFc := va_free (wc := [(mo, eO 10 [.ref (h 0), .ref (h 1), .ref (h 2), .long 0, .long 1, .int 0, .ref (h 3), .ref (h 4), .int 0, .ref (h 5), .ref (h 6), .int 0, .int 0, .int 0, .int 0, .ref (h 7), .ref (h 8), .ref (h 9), .ref (h 10), .ref (h 11), .ref (h 12), .ref (h 13), .ref (h 14), .ref (h 15), .ref (h 16)]), (h 0, eI G 2246 st0)]) hD hS hA [3, 4] rfl
  refine va_calli (va_runV (As := [.int (xs 1), .int (xs 2)]) (rest := [.int (-2)]) ⟨hx, hb, hml, hown, hts⟩ (m_slip l G H.size mo (h 0) (h 1) (h 2) (h 3) (h 4) (h 5) (h 6) (h 7) (h 8) (h 9) (h 10) (h 11) (h 12) (h 13) (h 14) (h 15) (h 16) (xs 1) (xs 2) ) (my_cwV hts ok_X11_slip w_704 rfl rfl ⟨Nat.le_of_ble_eq_true rfl, Nat.le_of_ble_eq_true rfl⟩) ⟨wP.blind, va_recv hG.1 hPc (ci := 10) (q0 := 0) rfl rfl, fun U hU hW => ⟨rfl, by rw [hU], by rw [hU]; exact hPc, kG.warm hW hG, hDc.weaken (fun _ _ _ _ => trivial)⟩⟩ rfl rfl hl.1 rfl (lv_room (Nat.le_of_ble_eq_true rfl)) dL_law_921 ⟨Nat.le_of_ble_eq_true rfl, Nat.le_of_ble_eq_true rfl⟩) hS (fun q _ h => hFc q h) hFc (fun r u t H1 locs ht hvm hw hB hz1 hk1 hS => ?_)
  obtain ⟨hP, hD⟩ := va_join (wr := [(x, eO 9 [.ref (g 0), .ref (g 1), .ref (g 2), .ref (g 3), .ref (g 4), .ref (g 5), .ref (g 6)]), (g 1, eO 0 [.ref (g 101), .ref (g 103), .ref (g 105), .ref (g 107), .ref (g 109), .ref (g 111), .ref (g 174), .int 5, .int 20]), (g 109, eO 5 [.int 10, .int 70, .ref (g 110), .int 0])]) (w1 := []) hP hD [3, 4] [0, 1, 2] rfl rfl (by decide) (by decide) hk1 hFc my_P0 my_D0
  generalize H1 = H at hP hS ⊢
  have hP : va_P G.1 vwCl [(x, eO 9 [.ref (g 0), .ref (g 1), .ref (g 2), .ref (g 3), .ref (g 4), .ref (g 5), .ref (g 6)]), (g 1, eO 0 [.ref (g 101), .ref (g 103), .ref (g 105), .ref (g 107), .ref (g 109), .ref (g 111), .ref (g 174), .int 5, .int 20]), (g 109, eO 5 [.int 10, .int 70, .ref (g 110), .int 0])] H := hP
  have hD : va_D (fun q : Nat => s.heap.size ≤ q) [(x, eO 9 [.ref (g 0), .ref (g 1), .ref (g 2), .ref (g 3), .ref (g 4), .ref (g 5), .ref (g 6)]), (g 1, eO 0 [.ref (g 101), .ref (g 103), .ref (g 105), .ref (g 107), .ref (g 109), .ref (g 111), .ref (g 174), .int 5, .int 20]), (g 109, eO 5 [.int 10, .int 70, .ref (g 110), .int 0])] := hD
  subst hw
  refine lv_icmp_eq (tgt := 1376) hx hb dL_law_924 (by decide) (fun c_924 => ?_) (fun c_924 => absurd (by decide) c_924)
  exact law_end l C0 hS (lv_sub hl [0, 3] rfl)
set_option maxHeartbeats 4000000 in
set_option maxRecDepth 100000 in
theorem law_18 {p : Program} {e : Env} {s : State} {m : MethodId} {below : List Frame} {meth : Method} {c : Code} (l : Launch) {b : Nat} {xs : Nat → Int32} (G : gW) (C0 : lw_At p s m meth c b 10 xs) (hG : kG G s) {x mo : Nat} {g h : Nat → Nat} {H : Heap} {locs : List Loc} {ls : Array Slot} (hP : va_P G.1 vwCl (lwW G x g mo h) H) (hD : va_D (fun q : Nat => s.heap.size ≤ q) (lwW G x g mo h)) (hS : va_S (fun q : Nat => s.heap.size ≤ q) s.heap H locs) (hl : lv_has ls 4 [(0, .ref b), (1, .ref x), (2, .ref mo), (3, .int 0)]) : W p l e room_1 s m #[Value.ref b] below meth c H locs 333 19609 (lw_Z below #[Value.ref b] s) (F0 m 929 ls []) := by
  obtain ⟨hx, hb, hr, hml, hown, hts0, hX, hbl, hlocks, hgv⟩ := id C0
  have hts : ∀ w ∈ TT, w.before #[Value.ref b] s = true := fun w h => hts0 w (List.mem_filter.mp h).1
  have hA : ∀ q : Nat, s.heap.size ≤ q → (fun q : Nat => s.heap.size ≤ q) q := fun _ h => h
  have hbA : ¬ (fun q : Nat => s.heap.size ≤ q) b := Nat.not_le.mpr hbl
  have hD := hD.sub (ws' := [(x, eO 9 [.ref (g 0), .ref (g 1), .ref (g 2), .ref (g 3), .ref (g 4), .ref (g 5), .ref (g 6)]), (g 1, eO 0 [.ref (g 101), .ref (g 103), .ref (g 105), .ref (g 107), .ref (g 109), .ref (g 111), .ref (g 174), .int 5, .int 20]), (g 109, eO 5 [.int 10, .int 70, .ref (g 110), .int 0]), (mo, eO 10 [.ref (h 0), .ref (h 1), .ref (h 2), .long 0, .long 1, .int 0, .ref (h 3), .ref (h 4), .int 0, .ref (h 5), .ref (h 6), .int 0, .int 0, .int 0, .int 0, .ref (h 7), .ref (h 8), .ref (h 9), .ref (h 10), .ref (h 11), .ref (h 12), .ref (h 13), .ref (h 14), .ref (h 15), .ref (h 16)]), (h 0, eI G 2246 st0)]) [0, 2, 11, 269, 270] (by decide) rfl
  have hP := hP.sub (ws' := [(x, eO 9 [.ref (g 0), .ref (g 1), .ref (g 2), .ref (g 3), .ref (g 4), .ref (g 5), .ref (g 6)]), (g 1, eO 0 [.ref (g 101), .ref (g 103), .ref (g 105), .ref (g 107), .ref (g 109), .ref (g 111), .ref (g 174), .int 5, .int 20]), (g 109, eO 5 [.int 10, .int 70, .ref (g 110), .int 0]), (mo, eO 10 [.ref (h 0), .ref (h 1), .ref (h 2), .long 0, .long 1, .int 0, .ref (h 3), .ref (h 4), .int 0, .ref (h 5), .ref (h 6), .int 0, .int 0, .int 0, .int 0, .ref (h 7), .ref (h 8), .ref (h 9), .ref (h 10), .ref (h 11), .ref (h 12), .ref (h 13), .ref (h 14), .ref (h 15), .ref (h 16)]), (h 0, eI G 2246 st0)]) [0, 2, 11, 269, 270] rfl
  refine lv_aload_n hx hb dL_law_929 rfl (lv_at hl 1 rfl) ?_
  refine lv_aload_n hx hb dL_law_930 rfl (lv_at hl 0 rfl) ?_
  refine lv_iload_n hx hb dL_law_931 rfl (lv_at hl 3 rfl) ?_
  refine lv_iconst (v := 1) hx hb dL_law_932 (by decide) ?_
  refine lv_iadd hx hb dL_law_933 ?_
  refine my_bei (v := 1) (by decide) ?_
  refine va_sld hx hb hX hbl hbA hS (by unfold vp_in; decide) dL_law_934 ?_
  refine my_bei (v := xs 1) rfl ?_
  have hPc := hP.sub (ws' := [(x, eO 9 [.ref (g 0), .ref (g 1), .ref (g 2), .ref (g 3), .ref (g 4), .ref (g 5), .ref (g 6)]), (g 1, eO 0 [.ref (g 101), .ref (g 103), .ref (g 105), .ref (g 107), .ref (g 109), .ref (g 111), .ref (g 174), .int 5, .int 20]), (g 109, eO 5 [.int 10, .int 70, .ref (g 110), .int 0])]) [0, 1, 2] rfl
  refine rd_calli (va_runV (As := [.int (xs 1)]) (rest := []) ⟨hx, hb, hml, hown, hts⟩ (p_jury l G x (g 0) (g 1) (g 2) (g 3) (g 4) (g 5) (g 6) (g 101) (g 103) (g 105) (g 107) (g 109) (g 111) (g 174) (g 110) (xs 1) ) (my_cwV hts ok_X10_jury w_708 rfl rfl ⟨Nat.le_of_ble_eq_true rfl, Nat.le_of_ble_eq_true rfl⟩) ⟨rP.blind, va_recv hG.1 hPc (ci := 9) (q0 := 0) rfl rfl, fun U hU hW => ⟨rfl, by rw [hU]; exact hPc, kG.warm hW hG⟩⟩ rfl rfl hl.1 rfl (lv_room (Nat.le_of_ble_eq_true rfl)) dL_law_935 ⟨Nat.le_of_ble_eq_true rfl, Nat.le_of_ble_eq_true rfl⟩) (fun r hr9 => ?_)
  subst hr9
  refine lv_aload_n hx hb dL_law_938 rfl (lv_at hl 2 rfl) ?_
  refine lv_aload_n hx hb dL_law_939 rfl (lv_at hl 0 rfl) ?_
  refine lv_iload_n hx hb dL_law_940 rfl (lv_at hl 3 rfl) ?_
  refine lv_iconst (v := 1) hx hb dL_law_941 (by decide) ?_
  refine lv_iadd hx hb dL_law_942 ?_
  refine my_bei (v := 1) (by decide) ?_
  refine va_sld hx hb hX hbl hbA hS (by unfold vp_in; decide) dL_law_943 ?_
  refine my_bei (v := xs 1) rfl ?_
  have hPc := hP.sub (ws' := [(mo, eO 10 [.ref (h 0), .ref (h 1), .ref (h 2), .long 0, .long 1, .int 0, .ref (h 3), .ref (h 4), .int 0, .ref (h 5), .ref (h 6), .int 0, .int 0, .int 0, .int 0, .ref (h 7), .ref (h 8), .ref (h 9), .ref (h 10), .ref (h 11), .ref (h 12), .ref (h 13), .ref (h 14), .ref (h 15), .ref (h 16)]), (h 0, eI G 2246 st0)]) [3, 4] rfl
  have hDc := hD.sub (ws' := [(mo, eO 10 [.ref (h 0), .ref (h 1), .ref (h 2), .long 0, .long 1, .int 0, .ref (h 3), .ref (h 4), .int 0, .ref (h 5), .ref (h 6), .int 0, .int 0, .int 0, .int 0, .ref (h 7), .ref (h 8), .ref (h 9), .ref (h 10), .ref (h 11), .ref (h 12), .ref (h 13), .ref (h 14), .ref (h 15), .ref (h 16)]), (h 0, eI G 2246 st0)]) [3, 4] (by decide) rfl
  have hFc := va_free (wc := [(mo, eO 10 [.ref (h 0), .ref (h 1), .ref (h 2), .long 0, .long 1, .int 0, .ref (h 3), .ref (h 4), .int 0, .ref (h 5), .ref (h 6), .int 0, .int 0, .int 0, .int 0, .ref (h 7), .ref (h 8), .ref (h 9), .ref (h 10), .ref (h 11), .ref (h 12), .ref (h 13), .ref (h 14), .ref (h 15), .ref (h 16)]), (h 0, eI G 2246 st0)]) hD hS hA [3, 4] rfl
  refine va_calli (va_runV (As := [.int (xs 1)]) (rest := [.int (-2)]) ⟨hx, hb, hml, hown, hts⟩ (m_jury l G H.size mo (h 0) (h 1) (h 2) (h 3) (h 4) (h 5) (h 6) (h 7) (h 8) (h 9) (h 10) (h 11) (h 12) (h 13) (h 14) (h 15) (h 16) (xs 1) ) (my_cwV hts ok_X11_jury w_712 rfl rfl ⟨Nat.le_of_ble_eq_true rfl, Nat.le_of_ble_eq_true rfl⟩) ⟨wP.blind, va_recv hG.1 hPc (ci := 10) (q0 := 0) rfl rfl, fun U hU hW => ⟨rfl, by rw [hU], by rw [hU]; exact hPc, kG.warm hW hG, hDc.weaken (fun _ _ _ _ => trivial)⟩⟩ rfl rfl hl.1 rfl (lv_room (Nat.le_of_ble_eq_true rfl)) dL_law_944 ⟨Nat.le_of_ble_eq_true rfl, Nat.le_of_ble_eq_true rfl⟩) hS (fun q _ h => hFc q h) hFc (fun r u t H1 locs ht hvm hw hB hz1 hk1 hS => ?_)
  obtain ⟨hP, hD⟩ := va_join (wr := [(x, eO 9 [.ref (g 0), .ref (g 1), .ref (g 2), .ref (g 3), .ref (g 4), .ref (g 5), .ref (g 6)]), (g 1, eO 0 [.ref (g 101), .ref (g 103), .ref (g 105), .ref (g 107), .ref (g 109), .ref (g 111), .ref (g 174), .int 5, .int 20]), (g 109, eO 5 [.int 10, .int 70, .ref (g 110), .int 0])]) (w1 := []) hP hD [3, 4] [0, 1, 2] rfl rfl (by decide) (by decide) hk1 hFc my_P0 my_D0
  generalize H1 = H at hP hS ⊢
  have hP : va_P G.1 vwCl [(x, eO 9 [.ref (g 0), .ref (g 1), .ref (g 2), .ref (g 3), .ref (g 4), .ref (g 5), .ref (g 6)]), (g 1, eO 0 [.ref (g 101), .ref (g 103), .ref (g 105), .ref (g 107), .ref (g 109), .ref (g 111), .ref (g 174), .int 5, .int 20]), (g 109, eO 5 [.int 10, .int 70, .ref (g 110), .int 0])] H := hP
  have hD : va_D (fun q : Nat => s.heap.size ≤ q) [(x, eO 9 [.ref (g 0), .ref (g 1), .ref (g 2), .ref (g 3), .ref (g 4), .ref (g 5), .ref (g 6)]), (g 1, eO 0 [.ref (g 101), .ref (g 103), .ref (g 105), .ref (g 107), .ref (g 109), .ref (g 111), .ref (g 174), .int 5, .int 20]), (g 109, eO 5 [.int 10, .int 70, .ref (g 110), .int 0])] := hD
  subst hw
  refine lv_icmp_eq (tgt := 1376) hx hb dL_law_947 (by decide) (fun c_947 => ?_) (fun c_947 => absurd (by decide) c_947)
  exact law_end l C0 hS (lv_sub hl [0, 3] rfl)
set_option maxHeartbeats 4000000 in
set_option maxRecDepth 100000 in
theorem law_19 {p : Program} {e : Env} {s : State} {m : MethodId} {below : List Frame} {meth : Method} {c : Code} (l : Launch) {b : Nat} {xs : Nat → Int32} (G : gW) (C0 : lw_At p s m meth c b 10 xs) (hG : kG G s) {x mo : Nat} {g h : Nat → Nat} {H : Heap} {locs : List Loc} {ls : Array Slot} (hP : va_P G.1 vwCl (lwW G x g mo h) H) (hD : va_D (fun q : Nat => s.heap.size ≤ q) (lwW G x g mo h)) (hS : va_S (fun q : Nat => s.heap.size ≤ q) s.heap H locs) (hl : lv_has ls 4 [(0, .ref b), (1, .ref x), (2, .ref mo), (3, .int 0)]) : W p l e room_1 s m #[Value.ref b] below meth c H locs 333 19609 (lw_Z below #[Value.ref b] s) (F0 m 952 ls []) := by
  obtain ⟨hx, hb, hr, hml, hown, hts0, hX, hbl, hlocks, hgv⟩ := id C0
  have hts : ∀ w ∈ TT, w.before #[Value.ref b] s = true := fun w h => hts0 w (List.mem_filter.mp h).1
  have hA : ∀ q : Nat, s.heap.size ≤ q → (fun q : Nat => s.heap.size ≤ q) q := fun _ h => h
  have hbA : ¬ (fun q : Nat => s.heap.size ≤ q) b := Nat.not_le.mpr hbl
  have hD := hD.sub (ws' := [(x, eO 9 [.ref (g 0), .ref (g 1), .ref (g 2), .ref (g 3), .ref (g 4), .ref (g 5), .ref (g 6)]), (g 1, eO 0 [.ref (g 101), .ref (g 103), .ref (g 105), .ref (g 107), .ref (g 109), .ref (g 111), .ref (g 174), .int 5, .int 20]), (g 109, eO 5 [.int 10, .int 70, .ref (g 110), .int 0]), (mo, eO 10 [.ref (h 0), .ref (h 1), .ref (h 2), .long 0, .long 1, .int 0, .ref (h 3), .ref (h 4), .int 0, .ref (h 5), .ref (h 6), .int 0, .int 0, .int 0, .int 0, .ref (h 7), .ref (h 8), .ref (h 9), .ref (h 10), .ref (h 11), .ref (h 12), .ref (h 13), .ref (h 14), .ref (h 15), .ref (h 16)]), (h 0, eI G 2246 st0)]) [0, 2, 11, 269, 270] (by decide) rfl
  have hP := hP.sub (ws' := [(x, eO 9 [.ref (g 0), .ref (g 1), .ref (g 2), .ref (g 3), .ref (g 4), .ref (g 5), .ref (g 6)]), (g 1, eO 0 [.ref (g 101), .ref (g 103), .ref (g 105), .ref (g 107), .ref (g 109), .ref (g 111), .ref (g 174), .int 5, .int 20]), (g 109, eO 5 [.int 10, .int 70, .ref (g 110), .int 0]), (mo, eO 10 [.ref (h 0), .ref (h 1), .ref (h 2), .long 0, .long 1, .int 0, .ref (h 3), .ref (h 4), .int 0, .ref (h 5), .ref (h 6), .int 0, .int 0, .int 0, .int 0, .ref (h 7), .ref (h 8), .ref (h 9), .ref (h 10), .ref (h 11), .ref (h 12), .ref (h 13), .ref (h 14), .ref (h 15), .ref (h 16)]), (h 0, eI G 2246 st0)]) [0, 2, 11, 269, 270] rfl
  refine lv_aload_n hx hb dL_law_952 rfl (lv_at hl 1 rfl) ?_
  refine lv_aload_n hx hb dL_law_953 rfl (lv_at hl 0 rfl) ?_
  refine lv_iload_n hx hb dL_law_954 rfl (lv_at hl 3 rfl) ?_
  refine lv_iconst (v := 1) hx hb dL_law_955 (by decide) ?_
  refine lv_iadd hx hb dL_law_956 ?_
  refine my_bei (v := 1) (by decide) ?_
  refine va_sld hx hb hX hbl hbA hS (by unfold vp_in; decide) dL_law_957 ?_
  refine my_bei (v := xs 1) rfl ?_
  refine lv_aload_n hx hb dL_law_958 rfl (lv_at hl 0 rfl) ?_
  refine lv_iload_n hx hb dL_law_959 rfl (lv_at hl 3 rfl) ?_
  refine lv_iconst (v := 2) hx hb dL_law_960 (by decide) ?_
  refine lv_iadd hx hb dL_law_961 ?_
  refine my_bei (v := 2) (by decide) ?_
  refine va_sld hx hb hX hbl hbA hS (by unfold vp_in; decide) dL_law_962 ?_
  refine my_bei (v := xs 2) rfl ?_
  have hPc := hP.sub (ws' := [(x, eO 9 [.ref (g 0), .ref (g 1), .ref (g 2), .ref (g 3), .ref (g 4), .ref (g 5), .ref (g 6)]), (g 1, eO 0 [.ref (g 101), .ref (g 103), .ref (g 105), .ref (g 107), .ref (g 109), .ref (g 111), .ref (g 174), .int 5, .int 20]), (g 109, eO 5 [.int 10, .int 70, .ref (g 110), .int 0])]) [0, 1, 2] rfl
  refine rd_calli (va_runV (As := [.int (xs 1), .int (xs 2)]) (rest := []) ⟨hx, hb, hml, hown, hts⟩ (p_about l G x (g 0) (g 1) (g 2) (g 3) (g 4) (g 5) (g 6) (g 101) (g 103) (g 105) (g 107) (g 109) (g 111) (g 174) (g 110) (xs 1) (xs 2) ) (my_cwV hts ok_X10_about w_716 rfl rfl ⟨Nat.le_of_ble_eq_true rfl, Nat.le_of_ble_eq_true rfl⟩) ⟨rP.blind, va_recv hG.1 hPc (ci := 9) (q0 := 0) rfl rfl, fun U hU hW => ⟨rfl, by rw [hU]; exact hPc, kG.warm hW hG⟩⟩ rfl rfl hl.1 rfl (lv_room (Nat.le_of_ble_eq_true rfl)) dL_law_963 ⟨Nat.le_of_ble_eq_true rfl, Nat.le_of_ble_eq_true rfl⟩) (fun r hr9 => ?_)
  subst hr9
  refine lv_aload_n hx hb dL_law_966 rfl (lv_at hl 2 rfl) ?_
  refine lv_aload_n hx hb dL_law_967 rfl (lv_at hl 0 rfl) ?_
  refine lv_iload_n hx hb dL_law_968 rfl (lv_at hl 3 rfl) ?_
  refine lv_iconst (v := 1) hx hb dL_law_969 (by decide) ?_
  refine lv_iadd hx hb dL_law_970 ?_
  refine my_bei (v := 1) (by decide) ?_
  refine va_sld hx hb hX hbl hbA hS (by unfold vp_in; decide) dL_law_971 ?_
  refine my_bei (v := xs 1) rfl ?_
  refine lv_aload_n hx hb dL_law_972 rfl (lv_at hl 0 rfl) ?_
  refine lv_iload_n hx hb dL_law_973 rfl (lv_at hl 3 rfl) ?_
  refine lv_iconst (v := 2) hx hb dL_law_974 (by decide) ?_
  refine lv_iadd hx hb dL_law_975 ?_
  refine my_bei (v := 2) (by decide) ?_
  refine va_sld hx hb hX hbl hbA hS (by unfold vp_in; decide) dL_law_976 ?_
  refine my_bei (v := xs 2) rfl ?_
  have hPc := hP.sub (ws' := [(mo, eO 10 [.ref (h 0), .ref (h 1), .ref (h 2), .long 0, .long 1, .int 0, .ref (h 3), .ref (h 4), .int 0, .ref (h 5), .ref (h 6), .int 0, .int 0, .int 0, .int 0, .ref (h 7), .ref (h 8), .ref (h 9), .ref (h 10), .ref (h 11), .ref (h 12), .ref (h 13), .ref (h 14), .ref (h 15), .ref (h 16)]), (h 0, eI G 2246 st0)]) [3, 4] rfl
  have hDc := hD.sub (ws' := [(mo, eO 10 [.ref (h 0), .ref (h 1), .ref (h 2), .long 0, .long 1, .int 0, .ref (h 3), .ref (h 4), .int 0, .ref (h 5), .ref (h 6), .int 0, .int 0, .int 0, .int 0, .ref (h 7), .ref (h 8), .ref (h 9), .ref (h 10), .ref (h 11), .ref (h 12), .ref (h 13), .ref (h 14), .ref (h 15), .ref (h 16)]), (h 0, eI G 2246 st0)]) [3, 4] (by decide) rfl
  have hFc := va_free (wc := [(mo, eO 10 [.ref (h 0), .ref (h 1), .ref (h 2), .long 0, .long 1, .int 0, .ref (h 3), .ref (h 4), .int 0, .ref (h 5), .ref (h 6), .int 0, .int 0, .int 0, .int 0, .ref (h 7), .ref (h 8), .ref (h 9), .ref (h 10), .ref (h 11), .ref (h 12), .ref (h 13), .ref (h 14), .ref (h 15), .ref (h 16)]), (h 0, eI G 2246 st0)]) hD hS hA [3, 4] rfl
  refine va_calli (va_runV (As := [.int (xs 1), .int (xs 2)]) (rest := [.int (-2000000000)]) ⟨hx, hb, hml, hown, hts⟩ (m_about l G H.size mo (h 0) (h 1) (h 2) (h 3) (h 4) (h 5) (h 6) (h 7) (h 8) (h 9) (h 10) (h 11) (h 12) (h 13) (h 14) (h 15) (h 16) (xs 1) (xs 2) ) (my_cwV hts ok_X11_about w_725 rfl rfl ⟨Nat.le_of_ble_eq_true rfl, Nat.le_of_ble_eq_true rfl⟩) ⟨wP.blind, va_recv hG.1 hPc (ci := 10) (q0 := 0) rfl rfl, fun U hU hW => ⟨rfl, by rw [hU], by rw [hU]; exact hPc, kG.warm hW hG, hDc.weaken (fun _ _ _ _ => trivial)⟩⟩ rfl rfl hl.1 rfl (lv_room (Nat.le_of_ble_eq_true rfl)) dL_law_977 ⟨Nat.le_of_ble_eq_true rfl, Nat.le_of_ble_eq_true rfl⟩) hS (fun q _ h => hFc q h) hFc (fun r u t H1 locs ht hvm hw hB hz1 hk1 hS => ?_)
  obtain ⟨hP, hD⟩ := va_join (wr := [(x, eO 9 [.ref (g 0), .ref (g 1), .ref (g 2), .ref (g 3), .ref (g 4), .ref (g 5), .ref (g 6)]), (g 1, eO 0 [.ref (g 101), .ref (g 103), .ref (g 105), .ref (g 107), .ref (g 109), .ref (g 111), .ref (g 174), .int 5, .int 20]), (g 109, eO 5 [.int 10, .int 70, .ref (g 110), .int 0])]) (w1 := []) hP hD [3, 4] [0, 1, 2] rfl rfl (by decide) (by decide) hk1 hFc my_P0 my_D0
  generalize H1 = H at hP hS ⊢
  have hP : va_P G.1 vwCl [(x, eO 9 [.ref (g 0), .ref (g 1), .ref (g 2), .ref (g 3), .ref (g 4), .ref (g 5), .ref (g 6)]), (g 1, eO 0 [.ref (g 101), .ref (g 103), .ref (g 105), .ref (g 107), .ref (g 109), .ref (g 111), .ref (g 174), .int 5, .int 20]), (g 109, eO 5 [.int 10, .int 70, .ref (g 110), .int 0])] H := hP
  have hD : va_D (fun q : Nat => s.heap.size ≤ q) [(x, eO 9 [.ref (g 0), .ref (g 1), .ref (g 2), .ref (g 3), .ref (g 4), .ref (g 5), .ref (g 6)]), (g 1, eO 0 [.ref (g 101), .ref (g 103), .ref (g 105), .ref (g 107), .ref (g 109), .ref (g 111), .ref (g 174), .int 5, .int 20]), (g 109, eO 5 [.int 10, .int 70, .ref (g 110), .int 0])] := hD
  subst hw
  refine lv_icmp_eq (tgt := 1376) hx hb dL_law_980 (by decide) (fun c_980 => ?_) (fun c_980 => absurd (by decide) c_980)
  exact law_end l C0 hS (lv_sub hl [0, 3] rfl)
set_option maxHeartbeats 4000000 in
set_option maxRecDepth 100000 in
theorem law_20 {p : Program} {e : Env} {s : State} {m : MethodId} {below : List Frame} {meth : Method} {c : Code} (l : Launch) {b : Nat} {xs : Nat → Int32} (G : gW) (C0 : lw_At p s m meth c b 10 xs) (hG : kG G s) {x mo : Nat} {g h : Nat → Nat} {H : Heap} {locs : List Loc} {ls : Array Slot} (hP : va_P G.1 vwCl (lwW G x g mo h) H) (hD : va_D (fun q : Nat => s.heap.size ≤ q) (lwW G x g mo h)) (hS : va_S (fun q : Nat => s.heap.size ≤ q) s.heap H locs) (hl : lv_has ls 4 [(0, .ref b), (1, .ref x), (2, .ref mo), (3, .int 0)]) : W p l e room_1 s m #[Value.ref b] below meth c H locs 333 19609 (lw_Z below #[Value.ref b] s) (F0 m 985 ls []) := by
  obtain ⟨hx, hb, hr, hml, hown, hts0, hX, hbl, hlocks, hgv⟩ := id C0
  have hts : ∀ w ∈ TT, w.before #[Value.ref b] s = true := fun w h => hts0 w (List.mem_filter.mp h).1
  have hA : ∀ q : Nat, s.heap.size ≤ q → (fun q : Nat => s.heap.size ≤ q) q := fun _ h => h
  have hbA : ¬ (fun q : Nat => s.heap.size ≤ q) b := Nat.not_le.mpr hbl
  have hD := hD.sub (ws' := [(x, eO 9 [.ref (g 0), .ref (g 1), .ref (g 2), .ref (g 3), .ref (g 4), .ref (g 5), .ref (g 6)]), (g 1, eO 0 [.ref (g 101), .ref (g 103), .ref (g 105), .ref (g 107), .ref (g 109), .ref (g 111), .ref (g 174), .int 5, .int 20]), (g 0, eO 1 [.ref (g 1), .ref (g 12), .ref (g 13), .ref (g 14), .int 0]), (g 109, eO 5 [.int 10, .int 70, .ref (g 110), .int 0]), (mo, eO 10 [.ref (h 0), .ref (h 1), .ref (h 2), .long 0, .long 1, .int 0, .ref (h 3), .ref (h 4), .int 0, .ref (h 5), .ref (h 6), .int 0, .int 0, .int 0, .int 0, .ref (h 7), .ref (h 8), .ref (h 9), .ref (h 10), .ref (h 11), .ref (h 12), .ref (h 13), .ref (h 14), .ref (h 15), .ref (h 16)]), (h 0, eI G 2246 st0)]) [0, 2, 1, 11, 269, 270] (by decide) rfl
  have hP := hP.sub (ws' := [(x, eO 9 [.ref (g 0), .ref (g 1), .ref (g 2), .ref (g 3), .ref (g 4), .ref (g 5), .ref (g 6)]), (g 1, eO 0 [.ref (g 101), .ref (g 103), .ref (g 105), .ref (g 107), .ref (g 109), .ref (g 111), .ref (g 174), .int 5, .int 20]), (g 0, eO 1 [.ref (g 1), .ref (g 12), .ref (g 13), .ref (g 14), .int 0]), (g 109, eO 5 [.int 10, .int 70, .ref (g 110), .int 0]), (mo, eO 10 [.ref (h 0), .ref (h 1), .ref (h 2), .long 0, .long 1, .int 0, .ref (h 3), .ref (h 4), .int 0, .ref (h 5), .ref (h 6), .int 0, .int 0, .int 0, .int 0, .ref (h 7), .ref (h 8), .ref (h 9), .ref (h 10), .ref (h 11), .ref (h 12), .ref (h 13), .ref (h 14), .ref (h 15), .ref (h 16)]), (h 0, eI G 2246 st0)]) [0, 2, 1, 11, 269, 270] rfl
  refine lv_aload_n hx hb dL_law_985 rfl (lv_at hl 1 rfl) ?_
  refine lv_aload_n hx hb dL_law_986 rfl (lv_at hl 0 rfl) ?_
  refine lv_iload_n hx hb dL_law_987 rfl (lv_at hl 3 rfl) ?_
  refine lv_iconst (v := 1) hx hb dL_law_988 (by decide) ?_
  refine lv_iadd hx hb dL_law_989 ?_
  refine my_bei (v := 1) (by decide) ?_
  refine va_sld hx hb hX hbl hbA hS (by unfold vp_in; decide) dL_law_990 ?_
  refine my_bei (v := xs 1) rfl ?_
  have hPc := hP.sub (ws' := [(x, eO 9 [.ref (g 0), .ref (g 1), .ref (g 2), .ref (g 3), .ref (g 4), .ref (g 5), .ref (g 6)]), (g 1, eO 0 [.ref (g 101), .ref (g 103), .ref (g 105), .ref (g 107), .ref (g 109), .ref (g 111), .ref (g 174), .int 5, .int 20]), (g 0, eO 1 [.ref (g 1), .ref (g 12), .ref (g 13), .ref (g 14), .int 0]), (g 109, eO 5 [.int 10, .int 70, .ref (g 110), .int 0])]) [0, 1, 2, 3] rfl
  have hDc := hD.sub (ws' := [(x, eO 9 [.ref (g 0), .ref (g 1), .ref (g 2), .ref (g 3), .ref (g 4), .ref (g 5), .ref (g 6)]), (g 1, eO 0 [.ref (g 101), .ref (g 103), .ref (g 105), .ref (g 107), .ref (g 109), .ref (g 111), .ref (g 174), .int 5, .int 20]), (g 0, eO 1 [.ref (g 1), .ref (g 12), .ref (g 13), .ref (g 14), .int 0]), (g 109, eO 5 [.int 10, .int 70, .ref (g 110), .int 0])]) [0, 1, 2, 3] (by decide) rfl
  have hFc := va_free (wc := [(x, eO 9 [.ref (g 0), .ref (g 1), .ref (g 2), .ref (g 3), .ref (g 4), .ref (g 5), .ref (g 6)]), (g 1, eO 0 [.ref (g 101), .ref (g 103), .ref (g 105), .ref (g 107), .ref (g 109), .ref (g 111), .ref (g 174), .int 5, .int 20]), (g 0, eO 1 [.ref (g 1), .ref (g 12), .ref (g 13), .ref (g 14), .int 0]), (g 109, eO 5 [.int 10, .int 70, .ref (g 110), .int 0])]) hD hS hA [0, 1, 2, 3] rfl
  refine va_calli (va_runV (As := [.int (xs 1)]) (rest := []) ⟨hx, hb, hml, hown, hts⟩ (p_bad l G H.size x (g 0) (g 1) (g 2) (g 3) (g 4) (g 5) (g 6) (g 101) (g 103) (g 105) (g 107) (g 109) (g 111) (g 174) (g 12) (g 13) (g 14) (g 110) (xs 1) ) (my_cwV hts ok_X10_bad w_730 rfl rfl ⟨Nat.le_of_ble_eq_true rfl, Nat.le_of_ble_eq_true rfl⟩) ⟨wP.blind, va_recv hG.1 hPc (ci := 9) (q0 := 0) rfl rfl, fun U hU hW => ⟨rfl, by rw [hU], by rw [hU]; exact hPc, kG.warm hW hG, hDc.weaken (fun _ _ _ _ => trivial)⟩⟩ rfl rfl hl.1 rfl (lv_room (Nat.le_of_ble_eq_true rfl)) dL_law_991 ⟨Nat.le_of_ble_eq_true rfl, Nat.le_of_ble_eq_true rfl⟩) hS (fun q _ h => hFc q h) hFc (fun r u t H1 locs ht hvm hw hB hz1 hk1 hS => ?_)
  obtain ⟨hP, hD⟩ := va_join (wr := [(mo, eO 10 [.ref (h 0), .ref (h 1), .ref (h 2), .long 0, .long 1, .int 0, .ref (h 3), .ref (h 4), .int 0, .ref (h 5), .ref (h 6), .int 0, .int 0, .int 0, .int 0, .ref (h 7), .ref (h 8), .ref (h 9), .ref (h 10), .ref (h 11), .ref (h 12), .ref (h 13), .ref (h 14), .ref (h 15), .ref (h 16)]), (h 0, eI G 2246 st0)]) (w1 := []) hP hD [0, 1, 2, 3] [4, 5] rfl rfl (by decide) (by decide) hk1 hFc my_P0 my_D0
  generalize H1 = H at hP hS ⊢
  have hP : va_P G.1 vwCl [(mo, eO 10 [.ref (h 0), .ref (h 1), .ref (h 2), .long 0, .long 1, .int 0, .ref (h 3), .ref (h 4), .int 0, .ref (h 5), .ref (h 6), .int 0, .int 0, .int 0, .int 0, .ref (h 7), .ref (h 8), .ref (h 9), .ref (h 10), .ref (h 11), .ref (h 12), .ref (h 13), .ref (h 14), .ref (h 15), .ref (h 16)]), (h 0, eI G 2246 st0)] H := hP
  have hD : va_D (fun q : Nat => s.heap.size ≤ q) [(mo, eO 10 [.ref (h 0), .ref (h 1), .ref (h 2), .long 0, .long 1, .int 0, .ref (h 3), .ref (h 4), .int 0, .ref (h 5), .ref (h 6), .int 0, .int 0, .int 0, .int 0, .ref (h 7), .ref (h 8), .ref (h 9), .ref (h 10), .ref (h 11), .ref (h 12), .ref (h 13), .ref (h 14), .ref (h 15), .ref (h 16)]), (h 0, eI G 2246 st0)] := hD
  subst hw
  refine lv_aload_n hx hb dL_law_994 rfl (lv_at hl 2 rfl) ?_
  refine lv_aload_n hx hb dL_law_995 rfl (lv_at hl 0 rfl) ?_
  refine lv_iload_n hx hb dL_law_996 rfl (lv_at hl 3 rfl) ?_
  refine lv_iconst (v := 1) hx hb dL_law_997 (by decide) ?_
  refine lv_iadd hx hb dL_law_998 ?_
  refine my_bei (v := 1) (by decide) ?_
  refine va_sld hx hb hX hbl hbA hS (by unfold vp_in; decide) dL_law_999 ?_
  refine my_bei (v := xs 1) rfl ?_
  have hPc := hP.sub (ws' := [(mo, eO 10 [.ref (h 0), .ref (h 1), .ref (h 2), .long 0, .long 1, .int 0, .ref (h 3), .ref (h 4), .int 0, .ref (h 5), .ref (h 6), .int 0, .int 0, .int 0, .int 0, .ref (h 7), .ref (h 8), .ref (h 9), .ref (h 10), .ref (h 11), .ref (h 12), .ref (h 13), .ref (h 14), .ref (h 15), .ref (h 16)]), (h 0, eI G 2246 st0)]) [0, 1] rfl
  have hDc := hD.sub (ws' := [(mo, eO 10 [.ref (h 0), .ref (h 1), .ref (h 2), .long 0, .long 1, .int 0, .ref (h 3), .ref (h 4), .int 0, .ref (h 5), .ref (h 6), .int 0, .int 0, .int 0, .int 0, .ref (h 7), .ref (h 8), .ref (h 9), .ref (h 10), .ref (h 11), .ref (h 12), .ref (h 13), .ref (h 14), .ref (h 15), .ref (h 16)]), (h 0, eI G 2246 st0)]) [0, 1] (by decide) rfl
  have hFc := va_free (wc := [(mo, eO 10 [.ref (h 0), .ref (h 1), .ref (h 2), .long 0, .long 1, .int 0, .ref (h 3), .ref (h 4), .int 0, .ref (h 5), .ref (h 6), .int 0, .int 0, .int 0, .int 0, .ref (h 7), .ref (h 8), .ref (h 9), .ref (h 10), .ref (h 11), .ref (h 12), .ref (h 13), .ref (h 14), .ref (h 15), .ref (h 16)]), (h 0, eI G 2246 st0)]) hD hS hA [0, 1] rfl
  refine va_calli (va_runV (As := [.int (xs 1)]) (rest := [.int (if inB 0 (xs 1) 9999 = true then 0 else (-2))]) ⟨hx, hb, hml, hown, hts⟩ (m_bad l G H.size mo (h 0) (h 1) (h 2) (h 3) (h 4) (h 5) (h 6) (h 7) (h 8) (h 9) (h 10) (h 11) (h 12) (h 13) (h 14) (h 15) (h 16) (xs 1) ) (my_cwV hts ok_X11_bad w_735 rfl rfl ⟨Nat.le_of_ble_eq_true rfl, Nat.le_of_ble_eq_true rfl⟩) ⟨wP.blind, va_recv hG.1 hPc (ci := 10) (q0 := 0) rfl rfl, fun U hU hW => ⟨rfl, by rw [hU], by rw [hU]; exact hPc, kG.warm hW hG, hDc.weaken (fun _ _ _ _ => trivial)⟩⟩ rfl rfl hl.1 rfl (lv_room (Nat.le_of_ble_eq_true rfl)) dL_law_1000 ⟨Nat.le_of_ble_eq_true rfl, Nat.le_of_ble_eq_true rfl⟩) hS (fun q _ h => hFc q h) hFc (fun r u t H1 locs ht hvm hw hB hz1 hk1 hS => ?_)
  obtain ⟨hP, hD⟩ := va_join (wr := []) (w1 := []) hP hD [0, 1] [] rfl rfl (by decide) (by decide) hk1 hFc my_P0 my_D0
  generalize H1 = H at hP hS ⊢
  have hP : va_P G.1 vwCl [] H := hP
  have hD : va_D (fun q : Nat => s.heap.size ≤ q) [] := hD
  subst hw
  refine lv_icmp_eq (tgt := 1376) hx hb dL_law_1003 (by decide) (fun c_1003 => ?_) (fun c_1003 => absurd (rfl) c_1003)
  exact law_end l C0 hS (lv_sub hl [0, 3] rfl)
set_option maxHeartbeats 4000000 in
set_option maxRecDepth 100000 in
theorem law_21 {p : Program} {e : Env} {s : State} {m : MethodId} {below : List Frame} {meth : Method} {c : Code} (l : Launch) {b : Nat} {xs : Nat → Int32} (G : gW) (C0 : lw_At p s m meth c b 10 xs) (hG : kG G s) {x mo : Nat} {g h : Nat → Nat} {H : Heap} {locs : List Loc} {ls : Array Slot} (hP : va_P G.1 vwCl (lwW G x g mo h) H) (hD : va_D (fun q : Nat => s.heap.size ≤ q) (lwW G x g mo h)) (hS : va_S (fun q : Nat => s.heap.size ≤ q) s.heap H locs) (hl : lv_has ls 4 [(0, .ref b), (1, .ref x), (2, .ref mo), (3, .int 0)]) : W p l e room_1 s m #[Value.ref b] below meth c H locs 333 19609 (lw_Z below #[Value.ref b] s) (F0 m 1008 ls []) := by
  obtain ⟨hx, hb, hr, hml, hown, hts0, hX, hbl, hlocks, hgv⟩ := id C0
  have hts : ∀ w ∈ TT, w.before #[Value.ref b] s = true := fun w h => hts0 w (List.mem_filter.mp h).1
  have hA : ∀ q : Nat, s.heap.size ≤ q → (fun q : Nat => s.heap.size ≤ q) q := fun _ h => h
  have hbA : ¬ (fun q : Nat => s.heap.size ≤ q) b := Nat.not_le.mpr hbl
  have hD := hD.sub (ws' := [(x, eO 9 [.ref (g 0), .ref (g 1), .ref (g 2), .ref (g 3), .ref (g 4), .ref (g 5), .ref (g 6)]), (g 1, eO 0 [.ref (g 101), .ref (g 103), .ref (g 105), .ref (g 107), .ref (g 109), .ref (g 111), .ref (g 174), .int 5, .int 20]), (mo, eO 10 [.ref (h 0), .ref (h 1), .ref (h 2), .long 0, .long 1, .int 0, .ref (h 3), .ref (h 4), .int 0, .ref (h 5), .ref (h 6), .int 0, .int 0, .int 0, .int 0, .ref (h 7), .ref (h 8), .ref (h 9), .ref (h 10), .ref (h 11), .ref (h 12), .ref (h 13), .ref (h 14), .ref (h 15), .ref (h 16)]), (h 0, eI G 2246 st0)]) [0, 2, 269, 270] (by decide) rfl
  have hP := hP.sub (ws' := [(x, eO 9 [.ref (g 0), .ref (g 1), .ref (g 2), .ref (g 3), .ref (g 4), .ref (g 5), .ref (g 6)]), (g 1, eO 0 [.ref (g 101), .ref (g 103), .ref (g 105), .ref (g 107), .ref (g 109), .ref (g 111), .ref (g 174), .int 5, .int 20]), (mo, eO 10 [.ref (h 0), .ref (h 1), .ref (h 2), .long 0, .long 1, .int 0, .ref (h 3), .ref (h 4), .int 0, .ref (h 5), .ref (h 6), .int 0, .int 0, .int 0, .int 0, .ref (h 7), .ref (h 8), .ref (h 9), .ref (h 10), .ref (h 11), .ref (h 12), .ref (h 13), .ref (h 14), .ref (h 15), .ref (h 16)]), (h 0, eI G 2246 st0)]) [0, 2, 269, 270] rfl
  refine lv_aload_n hx hb dL_law_1008 rfl (lv_at hl 1 rfl) ?_
  refine lv_aload_n hx hb dL_law_1009 rfl (lv_at hl 0 rfl) ?_
  refine lv_iload_n hx hb dL_law_1010 rfl (lv_at hl 3 rfl) ?_
  refine lv_iconst (v := 1) hx hb dL_law_1011 (by decide) ?_
  refine lv_iadd hx hb dL_law_1012 ?_
  refine my_bei (v := 1) (by decide) ?_
  refine va_sld hx hb hX hbl hbA hS (by unfold vp_in; decide) dL_law_1013 ?_
  refine my_bei (v := xs 1) rfl ?_
  refine lv_aload_n hx hb dL_law_1014 rfl (lv_at hl 0 rfl) ?_
  refine lv_iload_n hx hb dL_law_1015 rfl (lv_at hl 3 rfl) ?_
  refine lv_iconst (v := 2) hx hb dL_law_1016 (by decide) ?_
  refine lv_iadd hx hb dL_law_1017 ?_
  refine my_bei (v := 2) (by decide) ?_
  refine va_sld hx hb hX hbl hbA hS (by unfold vp_in; decide) dL_law_1018 ?_
  refine my_bei (v := xs 2) rfl ?_
  have hPc := hP.sub (ws' := [(x, eO 9 [.ref (g 0), .ref (g 1), .ref (g 2), .ref (g 3), .ref (g 4), .ref (g 5), .ref (g 6)]), (g 1, eO 0 [.ref (g 101), .ref (g 103), .ref (g 105), .ref (g 107), .ref (g 109), .ref (g 111), .ref (g 174), .int 5, .int 20])]) [0, 1] rfl
  have hDc := hD.sub (ws' := [(x, eO 9 [.ref (g 0), .ref (g 1), .ref (g 2), .ref (g 3), .ref (g 4), .ref (g 5), .ref (g 6)]), (g 1, eO 0 [.ref (g 101), .ref (g 103), .ref (g 105), .ref (g 107), .ref (g 109), .ref (g 111), .ref (g 174), .int 5, .int 20])]) [0, 1] (by decide) rfl
  have hFc := va_free (wc := [(x, eO 9 [.ref (g 0), .ref (g 1), .ref (g 2), .ref (g 3), .ref (g 4), .ref (g 5), .ref (g 6)]), (g 1, eO 0 [.ref (g 101), .ref (g 103), .ref (g 105), .ref (g 107), .ref (g 109), .ref (g 111), .ref (g 174), .int 5, .int 20])]) hD hS hA [0, 1] rfl
  refine va_calli (va_runV (As := [.int (xs 1), .int (xs 2)]) (rest := []) ⟨hx, hb, hml, hown, hts⟩ (p_sums l G H.size x (g 0) (g 1) (g 2) (g 3) (g 4) (g 5) (g 6) (g 101) (g 103) (g 105) (g 107) (g 109) (g 111) (g 174) (xs 1) (xs 2) ) (my_cwV hts ok_X10_sums w_739 rfl rfl ⟨Nat.le_of_ble_eq_true rfl, Nat.le_of_ble_eq_true rfl⟩) ⟨wP.blind, va_recv hG.1 hPc (ci := 9) (q0 := 0) rfl rfl, fun U hU hW => ⟨rfl, by rw [hU], by rw [hU]; exact hPc, kG.warm hW hG, hDc.weaken (fun _ _ _ _ => trivial)⟩⟩ rfl rfl hl.1 rfl (lv_room (Nat.le_of_ble_eq_true rfl)) dL_law_1019 ⟨Nat.le_of_ble_eq_true rfl, Nat.le_of_ble_eq_true rfl⟩) hS (fun q _ h => hFc q h) hFc (fun r u t H1 locs ht hvm hw hB hz1 hk1 hS => ?_)
  obtain ⟨hP, hD⟩ := va_join (wr := [(mo, eO 10 [.ref (h 0), .ref (h 1), .ref (h 2), .long 0, .long 1, .int 0, .ref (h 3), .ref (h 4), .int 0, .ref (h 5), .ref (h 6), .int 0, .int 0, .int 0, .int 0, .ref (h 7), .ref (h 8), .ref (h 9), .ref (h 10), .ref (h 11), .ref (h 12), .ref (h 13), .ref (h 14), .ref (h 15), .ref (h 16)]), (h 0, eI G 2246 st0)]) (w1 := []) hP hD [0, 1] [2, 3] rfl rfl (by decide) (by decide) hk1 hFc my_P0 my_D0
  generalize H1 = H at hP hS ⊢
  have hP : va_P G.1 vwCl [(mo, eO 10 [.ref (h 0), .ref (h 1), .ref (h 2), .long 0, .long 1, .int 0, .ref (h 3), .ref (h 4), .int 0, .ref (h 5), .ref (h 6), .int 0, .int 0, .int 0, .int 0, .ref (h 7), .ref (h 8), .ref (h 9), .ref (h 10), .ref (h 11), .ref (h 12), .ref (h 13), .ref (h 14), .ref (h 15), .ref (h 16)]), (h 0, eI G 2246 st0)] H := hP
  have hD : va_D (fun q : Nat => s.heap.size ≤ q) [(mo, eO 10 [.ref (h 0), .ref (h 1), .ref (h 2), .long 0, .long 1, .int 0, .ref (h 3), .ref (h 4), .int 0, .ref (h 5), .ref (h 6), .int 0, .int 0, .int 0, .int 0, .ref (h 7), .ref (h 8), .ref (h 9), .ref (h 10), .ref (h 11), .ref (h 12), .ref (h 13), .ref (h 14), .ref (h 15), .ref (h 16)]), (h 0, eI G 2246 st0)] := hD
  subst hw
  refine lv_aload_n hx hb dL_law_1022 rfl (lv_at hl 2 rfl) ?_
  refine lv_aload_n hx hb dL_law_1023 rfl (lv_at hl 0 rfl) ?_
  refine lv_iload_n hx hb dL_law_1024 rfl (lv_at hl 3 rfl) ?_
  refine lv_iconst (v := 1) hx hb dL_law_1025 (by decide) ?_
  refine lv_iadd hx hb dL_law_1026 ?_
  refine my_bei (v := 1) (by decide) ?_
  refine va_sld hx hb hX hbl hbA hS (by unfold vp_in; decide) dL_law_1027 ?_
  refine my_bei (v := xs 1) rfl ?_
  refine lv_aload_n hx hb dL_law_1028 rfl (lv_at hl 0 rfl) ?_
  refine lv_iload_n hx hb dL_law_1029 rfl (lv_at hl 3 rfl) ?_
  refine lv_iconst (v := 2) hx hb dL_law_1030 (by decide) ?_
  refine lv_iadd hx hb dL_law_1031 ?_
  refine my_bei (v := 2) (by decide) ?_
  refine va_sld hx hb hX hbl hbA hS (by unfold vp_in; decide) dL_law_1032 ?_
  refine my_bei (v := xs 2) rfl ?_
  have hPc := hP.sub (ws' := [(mo, eO 10 [.ref (h 0), .ref (h 1), .ref (h 2), .long 0, .long 1, .int 0, .ref (h 3), .ref (h 4), .int 0, .ref (h 5), .ref (h 6), .int 0, .int 0, .int 0, .int 0, .ref (h 7), .ref (h 8), .ref (h 9), .ref (h 10), .ref (h 11), .ref (h 12), .ref (h 13), .ref (h 14), .ref (h 15), .ref (h 16)]), (h 0, eI G 2246 st0)]) [0, 1] rfl
  have hDc := hD.sub (ws' := [(mo, eO 10 [.ref (h 0), .ref (h 1), .ref (h 2), .long 0, .long 1, .int 0, .ref (h 3), .ref (h 4), .int 0, .ref (h 5), .ref (h 6), .int 0, .int 0, .int 0, .int 0, .ref (h 7), .ref (h 8), .ref (h 9), .ref (h 10), .ref (h 11), .ref (h 12), .ref (h 13), .ref (h 14), .ref (h 15), .ref (h 16)]), (h 0, eI G 2246 st0)]) [0, 1] (by decide) rfl
  have hFc := va_free (wc := [(mo, eO 10 [.ref (h 0), .ref (h 1), .ref (h 2), .long 0, .long 1, .int 0, .ref (h 3), .ref (h 4), .int 0, .ref (h 5), .ref (h 6), .int 0, .int 0, .int 0, .int 0, .ref (h 7), .ref (h 8), .ref (h 9), .ref (h 10), .ref (h 11), .ref (h 12), .ref (h 13), .ref (h 14), .ref (h 15), .ref (h 16)]), (h 0, eI G 2246 st0)]) hD hS hA [0, 1] rfl
  refine va_calli (va_runV (As := [.int (xs 1), .int (xs 2)]) (rest := [.int (if (inB 0 (xs 1) 100 = true) ∧ (inB 0 (xs 2) 1000 = true) then 1 else (-2))]) ⟨hx, hb, hml, hown, hts⟩ (m_sums l G H.size mo (h 0) (h 1) (h 2) (h 3) (h 4) (h 5) (h 6) (h 7) (h 8) (h 9) (h 10) (h 11) (h 12) (h 13) (h 14) (h 15) (h 16) (xs 1) (xs 2) ) (my_cwV hts ok_X11_sums w_743 rfl rfl ⟨Nat.le_of_ble_eq_true rfl, Nat.le_of_ble_eq_true rfl⟩) ⟨wP.blind, va_recv hG.1 hPc (ci := 10) (q0 := 0) rfl rfl, fun U hU hW => ⟨rfl, by rw [hU], by rw [hU]; exact hPc, kG.warm hW hG, hDc.weaken (fun _ _ _ _ => trivial)⟩⟩ rfl rfl hl.1 rfl (lv_room (Nat.le_of_ble_eq_true rfl)) dL_law_1033 ⟨Nat.le_of_ble_eq_true rfl, Nat.le_of_ble_eq_true rfl⟩) hS (fun q _ h => hFc q h) hFc (fun r u t H1 locs ht hvm hw hB hz1 hk1 hS => ?_)
  obtain ⟨hP, hD⟩ := va_join (wr := []) (w1 := []) hP hD [0, 1] [] rfl rfl (by decide) (by decide) hk1 hFc my_P0 my_D0
  generalize H1 = H at hP hS ⊢
  have hP : va_P G.1 vwCl [] H := hP
  have hD : va_D (fun q : Nat => s.heap.size ≤ q) [] := hD
  subst hw
  refine lv_icmp_eq (tgt := 1376) hx hb dL_law_1036 (by decide) (fun c_1036 => ?_) (fun c_1036 => absurd (rfl) c_1036)
  exact law_end l C0 hS (lv_sub hl [0, 3] rfl)
set_option maxHeartbeats 4000000 in
set_option maxRecDepth 100000 in
theorem law_22 {p : Program} {e : Env} {s : State} {m : MethodId} {below : List Frame} {meth : Method} {c : Code} (l : Launch) {b : Nat} {xs : Nat → Int32} (G : gW) (C0 : lw_At p s m meth c b 10 xs) (hG : kG G s) {x mo : Nat} {g h : Nat → Nat} {H : Heap} {locs : List Loc} {ls : Array Slot} (hP : va_P G.1 vwCl (lwW G x g mo h) H) (hD : va_D (fun q : Nat => s.heap.size ≤ q) (lwW G x g mo h)) (hS : va_S (fun q : Nat => s.heap.size ≤ q) s.heap H locs) (hl : lv_has ls 4 [(0, .ref b), (1, .ref x), (2, .ref mo), (3, .int 0)]) : W p l e room_1 s m #[Value.ref b] below meth c H locs 333 19609 (lw_Z below #[Value.ref b] s) (F0 m 1041 ls []) := by
  obtain ⟨hx, hb, hr, hml, hown, hts0, hX, hbl, hlocks, hgv⟩ := id C0
  have hts : ∀ w ∈ TT, w.before #[Value.ref b] s = true := fun w h => hts0 w (List.mem_filter.mp h).1
  have hA : ∀ q : Nat, s.heap.size ≤ q → (fun q : Nat => s.heap.size ≤ q) q := fun _ h => h
  have hbA : ¬ (fun q : Nat => s.heap.size ≤ q) b := Nat.not_le.mpr hbl
  have hD := hD.sub (ws' := [(x, eO 9 [.ref (g 0), .ref (g 1), .ref (g 2), .ref (g 3), .ref (g 4), .ref (g 5), .ref (g 6)]), (g 1, eO 0 [.ref (g 101), .ref (g 103), .ref (g 105), .ref (g 107), .ref (g 109), .ref (g 111), .ref (g 174), .int 5, .int 20]), (g 101, eO 5 [.int 30, .int 4, .ref (g 102), .int 0]), (mo, eO 10 [.ref (h 0), .ref (h 1), .ref (h 2), .long 0, .long 1, .int 0, .ref (h 3), .ref (h 4), .int 0, .ref (h 5), .ref (h 6), .int 0, .int 0, .int 0, .int 0, .ref (h 7), .ref (h 8), .ref (h 9), .ref (h 10), .ref (h 11), .ref (h 12), .ref (h 13), .ref (h 14), .ref (h 15), .ref (h 16)]), (h 0, eI G 2246 st0)]) [0, 2, 3, 269, 270] (by decide) rfl
  have hP := hP.sub (ws' := [(x, eO 9 [.ref (g 0), .ref (g 1), .ref (g 2), .ref (g 3), .ref (g 4), .ref (g 5), .ref (g 6)]), (g 1, eO 0 [.ref (g 101), .ref (g 103), .ref (g 105), .ref (g 107), .ref (g 109), .ref (g 111), .ref (g 174), .int 5, .int 20]), (g 101, eO 5 [.int 30, .int 4, .ref (g 102), .int 0]), (mo, eO 10 [.ref (h 0), .ref (h 1), .ref (h 2), .long 0, .long 1, .int 0, .ref (h 3), .ref (h 4), .int 0, .ref (h 5), .ref (h 6), .int 0, .int 0, .int 0, .int 0, .ref (h 7), .ref (h 8), .ref (h 9), .ref (h 10), .ref (h 11), .ref (h 12), .ref (h 13), .ref (h 14), .ref (h 15), .ref (h 16)]), (h 0, eI G 2246 st0)]) [0, 2, 3, 269, 270] rfl
  refine lv_aload_n hx hb dL_law_1041 rfl (lv_at hl 1 rfl) ?_
  refine lv_aload_n hx hb dL_law_1042 rfl (lv_at hl 0 rfl) ?_
  refine lv_iload_n hx hb dL_law_1043 rfl (lv_at hl 3 rfl) ?_
  refine lv_iconst (v := 1) hx hb dL_law_1044 (by decide) ?_
  refine lv_iadd hx hb dL_law_1045 ?_
  refine my_bei (v := 1) (by decide) ?_
  refine va_sld hx hb hX hbl hbA hS (by unfold vp_in; decide) dL_law_1046 ?_
  refine my_bei (v := xs 1) rfl ?_
  refine lv_aload_n hx hb dL_law_1047 rfl (lv_at hl 0 rfl) ?_
  refine lv_iload_n hx hb dL_law_1048 rfl (lv_at hl 3 rfl) ?_
  refine lv_iconst (v := 2) hx hb dL_law_1049 (by decide) ?_
  refine lv_iadd hx hb dL_law_1050 ?_
  refine my_bei (v := 2) (by decide) ?_
  refine va_sld hx hb hX hbl hbA hS (by unfold vp_in; decide) dL_law_1051 ?_
  refine my_bei (v := xs 2) rfl ?_
  have hPc := hP.sub (ws' := [(x, eO 9 [.ref (g 0), .ref (g 1), .ref (g 2), .ref (g 3), .ref (g 4), .ref (g 5), .ref (g 6)]), (g 1, eO 0 [.ref (g 101), .ref (g 103), .ref (g 105), .ref (g 107), .ref (g 109), .ref (g 111), .ref (g 174), .int 5, .int 20]), (g 101, eO 5 [.int 30, .int 4, .ref (g 102), .int 0])]) [0, 1, 2] rfl
  refine rd_calli (va_runV (As := [.int (xs 1), .int (xs 2)]) (rest := []) ⟨hx, hb, hml, hown, hts⟩ (p_owed l G x (g 0) (g 1) (g 2) (g 3) (g 4) (g 5) (g 6) (g 101) (g 103) (g 105) (g 107) (g 109) (g 111) (g 174) (g 102) (xs 1) (xs 2) ) (my_cwV hts ok_X10_owed w_747 rfl rfl ⟨Nat.le_of_ble_eq_true rfl, Nat.le_of_ble_eq_true rfl⟩) ⟨rP.blind, va_recv hG.1 hPc (ci := 9) (q0 := 0) rfl rfl, fun U hU hW => ⟨rfl, by rw [hU]; exact hPc, kG.warm hW hG⟩⟩ rfl rfl hl.1 rfl (lv_room (Nat.le_of_ble_eq_true rfl)) dL_law_1052 ⟨Nat.le_of_ble_eq_true rfl, Nat.le_of_ble_eq_true rfl⟩) (fun r hr9 => ?_)
  subst hr9
  refine lv_aload_n hx hb dL_law_1055 rfl (lv_at hl 2 rfl) ?_
  refine lv_aload_n hx hb dL_law_1056 rfl (lv_at hl 0 rfl) ?_
  refine lv_iload_n hx hb dL_law_1057 rfl (lv_at hl 3 rfl) ?_
  refine lv_iconst (v := 1) hx hb dL_law_1058 (by decide) ?_
  refine lv_iadd hx hb dL_law_1059 ?_
  refine my_bei (v := 1) (by decide) ?_
  refine va_sld hx hb hX hbl hbA hS (by unfold vp_in; decide) dL_law_1060 ?_
  refine my_bei (v := xs 1) rfl ?_
  refine lv_aload_n hx hb dL_law_1061 rfl (lv_at hl 0 rfl) ?_
  refine lv_iload_n hx hb dL_law_1062 rfl (lv_at hl 3 rfl) ?_
  refine lv_iconst (v := 2) hx hb dL_law_1063 (by decide) ?_
  refine lv_iadd hx hb dL_law_1064 ?_
  refine my_bei (v := 2) (by decide) ?_
  refine va_sld hx hb hX hbl hbA hS (by unfold vp_in; decide) dL_law_1065 ?_
  refine my_bei (v := xs 2) rfl ?_
  have hPc := hP.sub (ws' := [(mo, eO 10 [.ref (h 0), .ref (h 1), .ref (h 2), .long 0, .long 1, .int 0, .ref (h 3), .ref (h 4), .int 0, .ref (h 5), .ref (h 6), .int 0, .int 0, .int 0, .int 0, .ref (h 7), .ref (h 8), .ref (h 9), .ref (h 10), .ref (h 11), .ref (h 12), .ref (h 13), .ref (h 14), .ref (h 15), .ref (h 16)]), (h 0, eI G 2246 st0)]) [3, 4] rfl
  refine rd_calli (va_runV (As := [.int (xs 1), .int (xs 2)]) (rest := [.int (-1000000)]) ⟨hx, hb, hml, hown, hts⟩ (m_owed l G mo (h 0) (h 1) (h 2) (h 3) (h 4) (h 5) (h 6) (h 7) (h 8) (h 9) (h 10) (h 11) (h 12) (h 13) (h 14) (h 15) (h 16) (xs 1) (xs 2) ) (my_cwV hts ok_X11_owed w_752 rfl rfl ⟨Nat.le_of_ble_eq_true rfl, Nat.le_of_ble_eq_true rfl⟩) ⟨rP.blind, va_recv hG.1 hPc (ci := 10) (q0 := 0) rfl rfl, fun U hU hW => ⟨rfl, by rw [hU]; exact hPc, kG.warm hW hG⟩⟩ rfl rfl hl.1 rfl (lv_room (Nat.le_of_ble_eq_true rfl)) dL_law_1066 ⟨Nat.le_of_ble_eq_true rfl, Nat.le_of_ble_eq_true rfl⟩) (fun r hr9 => ?_)
  subst hr9
  refine lv_icmp_eq (tgt := 1376) hx hb dL_law_1069 (by decide) (fun c_1069 => ?_) (fun c_1069 => absurd (by decide) c_1069)
  exact law_end l C0 hS (lv_sub hl [0, 3] rfl)
set_option maxHeartbeats 4000000 in
set_option maxRecDepth 100000 in
theorem law_23 {p : Program} {e : Env} {s : State} {m : MethodId} {below : List Frame} {meth : Method} {c : Code} (l : Launch) {b : Nat} {xs : Nat → Int32} (G : gW) (C0 : lw_At p s m meth c b 10 xs) (hG : kG G s) {x mo : Nat} {g h : Nat → Nat} {H : Heap} {locs : List Loc} {ls : Array Slot} (hP : va_P G.1 vwCl (lwW G x g mo h) H) (hD : va_D (fun q : Nat => s.heap.size ≤ q) (lwW G x g mo h)) (hS : va_S (fun q : Nat => s.heap.size ≤ q) s.heap H locs) (hl : lv_has ls 4 [(0, .ref b), (1, .ref x), (2, .ref mo), (3, .int 0)]) : W p l e room_1 s m #[Value.ref b] below meth c H locs 333 19609 (lw_Z below #[Value.ref b] s) (F0 m 1074 ls []) := by
  obtain ⟨hx, hb, hr, hml, hown, hts0, hX, hbl, hlocks, hgv⟩ := id C0
  have hts : ∀ w ∈ TT, w.before #[Value.ref b] s = true := fun w h => hts0 w (List.mem_filter.mp h).1
  have hA : ∀ q : Nat, s.heap.size ≤ q → (fun q : Nat => s.heap.size ≤ q) q := fun _ h => h
  have hbA : ¬ (fun q : Nat => s.heap.size ≤ q) b := Nat.not_le.mpr hbl
  have hD := hD.sub (ws' := [(x, eO 9 [.ref (g 0), .ref (g 1), .ref (g 2), .ref (g 3), .ref (g 4), .ref (g 5), .ref (g 6)]), (g 5, eO 2 [.long 0, .long 1]), (mo, eO 10 [.ref (h 0), .ref (h 1), .ref (h 2), .long 0, .long 1, .int 0, .ref (h 3), .ref (h 4), .int 0, .ref (h 5), .ref (h 6), .int 0, .int 0, .int 0, .int 0, .ref (h 7), .ref (h 8), .ref (h 9), .ref (h 10), .ref (h 11), .ref (h 12), .ref (h 13), .ref (h 14), .ref (h 15), .ref (h 16)])]) [0, 92, 269] (by decide) rfl
  have hP := hP.sub (ws' := [(x, eO 9 [.ref (g 0), .ref (g 1), .ref (g 2), .ref (g 3), .ref (g 4), .ref (g 5), .ref (g 6)]), (g 5, eO 2 [.long 0, .long 1]), (mo, eO 10 [.ref (h 0), .ref (h 1), .ref (h 2), .long 0, .long 1, .int 0, .ref (h 3), .ref (h 4), .int 0, .ref (h 5), .ref (h 6), .int 0, .int 0, .int 0, .int 0, .ref (h 7), .ref (h 8), .ref (h 9), .ref (h 10), .ref (h 11), .ref (h 12), .ref (h 13), .ref (h 14), .ref (h 15), .ref (h 16)])]) [0, 92, 269] rfl
  refine lv_aload_n hx hb dL_law_1074 rfl (lv_at hl 1 rfl) ?_
  refine lv_aload_n hx hb dL_law_1075 rfl (lv_at hl 0 rfl) ?_
  refine lv_iload_n hx hb dL_law_1076 rfl (lv_at hl 3 rfl) ?_
  refine lv_iconst (v := 1) hx hb dL_law_1077 (by decide) ?_
  refine lv_iadd hx hb dL_law_1078 ?_
  refine my_bei (v := 1) (by decide) ?_
  refine va_sld hx hb hX hbl hbA hS (by unfold vp_in; decide) dL_law_1079 ?_
  refine my_bei (v := xs 1) rfl ?_
  refine lv_aload_n hx hb dL_law_1080 rfl (lv_at hl 0 rfl) ?_
  refine lv_iload_n hx hb dL_law_1081 rfl (lv_at hl 3 rfl) ?_
  refine lv_iconst (v := 2) hx hb dL_law_1082 (by decide) ?_
  refine lv_iadd hx hb dL_law_1083 ?_
  refine my_bei (v := 2) (by decide) ?_
  refine va_sld hx hb hX hbl hbA hS (by unfold vp_in; decide) dL_law_1084 ?_
  refine my_bei (v := xs 2) rfl ?_
  refine lv_aload_n hx hb dL_law_1085 rfl (lv_at hl 0 rfl) ?_
  refine lv_iload_n hx hb dL_law_1086 rfl (lv_at hl 3 rfl) ?_
  refine lv_iconst (v := 3) hx hb dL_law_1087 (by decide) ?_
  refine lv_iadd hx hb dL_law_1088 ?_
  refine my_bei (v := 3) (by decide) ?_
  refine va_sld hx hb hX hbl hbA hS (by unfold vp_in; decide) dL_law_1089 ?_
  refine my_bei (v := xs 3) rfl ?_
  refine lv_aload_n hx hb dL_law_1090 rfl (lv_at hl 0 rfl) ?_
  refine lv_iload_n hx hb dL_law_1091 rfl (lv_at hl 3 rfl) ?_
  refine lv_iconst (v := 4) hx hb dL_law_1092 (by decide) ?_
  refine lv_iadd hx hb dL_law_1093 ?_
  refine my_bei (v := 4) (by decide) ?_
  refine va_sld hx hb hX hbl hbA hS (by unfold vp_in; decide) dL_law_1094 ?_
  refine my_bei (v := xs 4) rfl ?_
  have hPc := hP.sub (ws' := [(x, eO 9 [.ref (g 0), .ref (g 1), .ref (g 2), .ref (g 3), .ref (g 4), .ref (g 5), .ref (g 6)]), (g 5, eO 2 [.long 0, .long 1])]) [0, 1] rfl
  have hDc := hD.sub (ws' := [(x, eO 9 [.ref (g 0), .ref (g 1), .ref (g 2), .ref (g 3), .ref (g 4), .ref (g 5), .ref (g 6)]), (g 5, eO 2 [.long 0, .long 1])]) [0, 1] (by decide) rfl
  have hFc := va_free (wc := [(x, eO 9 [.ref (g 0), .ref (g 1), .ref (g 2), .ref (g 3), .ref (g 4), .ref (g 5), .ref (g 6)]), (g 5, eO 2 [.long 0, .long 1])]) hD hS hA [0, 1] rfl
  refine va_calli (va_runV (As := [.int (xs 1), .int (xs 2), .int (xs 3), .int (xs 4)]) (rest := []) ⟨hx, hb, hml, hown, hts⟩ (p_chance l G H.size x (g 0) (g 1) (g 2) (g 3) (g 4) (g 5) (g 6) (xs 1) (xs 2) (xs 3) (xs 4) ) (my_cwV hts ok_X10_chance w_757 rfl rfl ⟨Nat.le_of_ble_eq_true rfl, Nat.le_of_ble_eq_true rfl⟩) ⟨wP.blind, va_recv hG.1 hPc (ci := 9) (q0 := 0) rfl rfl, fun U hU hW => ⟨rfl, by rw [hU], by rw [hU]; exact hPc, kG.warm hW hG, hDc.weaken (fun _ _ _ _ => trivial)⟩⟩ rfl rfl hl.1 rfl (lv_room (Nat.le_of_ble_eq_true rfl)) dL_law_1095 ⟨Nat.le_of_ble_eq_true rfl, Nat.le_of_ble_eq_true rfl⟩) hS (fun q _ h => hFc q h) hFc (fun r u t H1 locs ht hvm hw hB hz1 hk1 hS => ?_)
  obtain ⟨hP, hD⟩ := va_join (wr := [(mo, eO 10 [.ref (h 0), .ref (h 1), .ref (h 2), .long 0, .long 1, .int 0, .ref (h 3), .ref (h 4), .int 0, .ref (h 5), .ref (h 6), .int 0, .int 0, .int 0, .int 0, .ref (h 7), .ref (h 8), .ref (h 9), .ref (h 10), .ref (h 11), .ref (h 12), .ref (h 13), .ref (h 14), .ref (h 15), .ref (h 16)])]) (w1 := []) hP hD [0, 1] [2] rfl rfl (by decide) (by decide) hk1 hFc my_P0 my_D0
  generalize H1 = H at hP hS ⊢
  have hP : va_P G.1 vwCl [(mo, eO 10 [.ref (h 0), .ref (h 1), .ref (h 2), .long 0, .long 1, .int 0, .ref (h 3), .ref (h 4), .int 0, .ref (h 5), .ref (h 6), .int 0, .int 0, .int 0, .int 0, .ref (h 7), .ref (h 8), .ref (h 9), .ref (h 10), .ref (h 11), .ref (h 12), .ref (h 13), .ref (h 14), .ref (h 15), .ref (h 16)])] H := hP
  have hD : va_D (fun q : Nat => s.heap.size ≤ q) [(mo, eO 10 [.ref (h 0), .ref (h 1), .ref (h 2), .long 0, .long 1, .int 0, .ref (h 3), .ref (h 4), .int 0, .ref (h 5), .ref (h 6), .int 0, .int 0, .int 0, .int 0, .ref (h 7), .ref (h 8), .ref (h 9), .ref (h 10), .ref (h 11), .ref (h 12), .ref (h 13), .ref (h 14), .ref (h 15), .ref (h 16)])] := hD
  subst hw
  refine lv_aload_n hx hb dL_law_1098 rfl (lv_at hl 2 rfl) ?_
  refine lv_aload_n hx hb dL_law_1099 rfl (lv_at hl 0 rfl) ?_
  refine lv_iload_n hx hb dL_law_1100 rfl (lv_at hl 3 rfl) ?_
  refine lv_iconst (v := 1) hx hb dL_law_1101 (by decide) ?_
  refine lv_iadd hx hb dL_law_1102 ?_
  refine my_bei (v := 1) (by decide) ?_
  refine va_sld hx hb hX hbl hbA hS (by unfold vp_in; decide) dL_law_1103 ?_
  refine my_bei (v := xs 1) rfl ?_
  refine lv_aload_n hx hb dL_law_1104 rfl (lv_at hl 0 rfl) ?_
  refine lv_iload_n hx hb dL_law_1105 rfl (lv_at hl 3 rfl) ?_
  refine lv_iconst (v := 2) hx hb dL_law_1106 (by decide) ?_
  refine lv_iadd hx hb dL_law_1107 ?_
  refine my_bei (v := 2) (by decide) ?_
  refine va_sld hx hb hX hbl hbA hS (by unfold vp_in; decide) dL_law_1108 ?_
  refine my_bei (v := xs 2) rfl ?_
  refine lv_aload_n hx hb dL_law_1109 rfl (lv_at hl 0 rfl) ?_
  refine lv_iload_n hx hb dL_law_1110 rfl (lv_at hl 3 rfl) ?_
  refine lv_iconst (v := 3) hx hb dL_law_1111 (by decide) ?_
  refine lv_iadd hx hb dL_law_1112 ?_
  refine my_bei (v := 3) (by decide) ?_
  refine va_sld hx hb hX hbl hbA hS (by unfold vp_in; decide) dL_law_1113 ?_
  refine my_bei (v := xs 3) rfl ?_
  refine lv_aload_n hx hb dL_law_1114 rfl (lv_at hl 0 rfl) ?_
  refine lv_iload_n hx hb dL_law_1115 rfl (lv_at hl 3 rfl) ?_
  refine lv_iconst (v := 4) hx hb dL_law_1116 (by decide) ?_
  refine lv_iadd hx hb dL_law_1117 ?_
  refine my_bei (v := 4) (by decide) ?_
  refine va_sld hx hb hX hbl hbA hS (by unfold vp_in; decide) dL_law_1118 ?_
  refine my_bei (v := xs 4) rfl ?_
  have hPc := hP.sub (ws' := [(mo, eO 10 [.ref (h 0), .ref (h 1), .ref (h 2), .long 0, .long 1, .int 0, .ref (h 3), .ref (h 4), .int 0, .ref (h 5), .ref (h 6), .int 0, .int 0, .int 0, .int 0, .ref (h 7), .ref (h 8), .ref (h 9), .ref (h 10), .ref (h 11), .ref (h 12), .ref (h 13), .ref (h 14), .ref (h 15), .ref (h 16)])]) [0] rfl
  have hDc := hD.sub (ws' := [(mo, eO 10 [.ref (h 0), .ref (h 1), .ref (h 2), .long 0, .long 1, .int 0, .ref (h 3), .ref (h 4), .int 0, .ref (h 5), .ref (h 6), .int 0, .int 0, .int 0, .int 0, .ref (h 7), .ref (h 8), .ref (h 9), .ref (h 10), .ref (h 11), .ref (h 12), .ref (h 13), .ref (h 14), .ref (h 15), .ref (h 16)])]) [0] (by decide) rfl
  have hFc := va_free (wc := [(mo, eO 10 [.ref (h 0), .ref (h 1), .ref (h 2), .long 0, .long 1, .int 0, .ref (h 3), .ref (h 4), .int 0, .ref (h 5), .ref (h 6), .int 0, .int 0, .int 0, .int 0, .ref (h 7), .ref (h 8), .ref (h 9), .ref (h 10), .ref (h 11), .ref (h 12), .ref (h 13), .ref (h 14), .ref (h 15), .ref (h 16)])]) hD hS hA [0] rfl
  refine va_calli (va_runV (As := [.int (xs 1), .int (xs 2), .int (xs 3), .int (xs 4)]) (rest := [.int (if (inB 0 (xs 1) 40 = true) ∧ (inB 0 (xs 2) (xs 1) = true) ∧ (inB 0 (xs 3) (xs 1) = true) ∧ (inB 0 (xs 4) 40 = true) then (if chS (xs 1) (xs 2) (xs 3) (xs 4) = 0 then 0 else 1) else (-2))]) ⟨hx, hb, hml, hown, hts⟩ (m_chance l G H.size mo (h 0) (h 1) (h 2) (h 3) (h 4) (h 5) (h 6) (h 7) (h 8) (h 9) (h 10) (h 11) (h 12) (h 13) (h 14) (h 15) (h 16) (xs 1) (xs 2) (xs 3) (xs 4) ) (my_cwV hts ok_X11_chance w_771 rfl rfl ⟨Nat.le_of_ble_eq_true rfl, Nat.le_of_ble_eq_true rfl⟩) ⟨wP.blind, va_recv hG.1 hPc (ci := 10) (q0 := 0) rfl rfl, fun U hU hW => ⟨rfl, by rw [hU], by rw [hU]; exact hPc, kG.warm hW hG, hDc.weaken (fun _ _ _ _ => trivial)⟩⟩ rfl rfl hl.1 rfl (lv_room (Nat.le_of_ble_eq_true rfl)) dL_law_1119 ⟨Nat.le_of_ble_eq_true rfl, Nat.le_of_ble_eq_true rfl⟩) hS (fun q _ h => hFc q h) hFc (fun r u t H1 locs ht hvm hw hB hz1 hk1 hS => ?_)
  obtain ⟨hP, hD⟩ := va_join (wr := []) (w1 := []) hP hD [0] [] rfl rfl (by decide) (by decide) hk1 hFc my_P0 my_D0
  generalize H1 = H at hP hS ⊢
  have hP : va_P G.1 vwCl [] H := hP
  have hD : va_D (fun q : Nat => s.heap.size ≤ q) [] := hD
  subst hw
  refine lv_icmp_eq (tgt := 1376) hx hb dL_law_1122 (by decide) (fun c_1122 => ?_) (fun c_1122 => absurd (rfl) c_1122)
  exact law_end l C0 hS (lv_sub hl [0, 3] rfl)

set_option maxHeartbeats 4000000 in
set_option maxRecDepth 100000 in
theorem law_24 {p : Program} {e : Env} {s : State} {m : MethodId} {below : List Frame} {meth : Method} {c : Code} (l : Launch) {b : Nat} {xs : Nat → Int32} (G : gW) (C0 : lw_At p s m meth c b 10 xs) (hG : kG G s) {x mo : Nat} {g h : Nat → Nat} {H : Heap} {locs : List Loc} {ls : Array Slot} (hP : va_P G.1 vwCl (lwW G x g mo h) H) (hD : va_D (fun q : Nat => s.heap.size ≤ q) (lwW G x g mo h)) (hS : va_S (fun q : Nat => s.heap.size ≤ q) s.heap H locs) (hl : lv_has ls 4 [(0, .ref b), (1, .ref x), (2, .ref mo), (3, .int 0)]) : W p l e room_1 s m #[Value.ref b] below meth c H locs 333 19609 (lw_Z below #[Value.ref b] s) (F0 m 1127 ls []) := by
  obtain ⟨hx, hb, hr, hml, hown, hts0, hX, hbl, hlocks, hgv⟩ := id C0
  have hts : ∀ w ∈ TT, w.before #[Value.ref b] s = true := fun w h => hts0 w (List.mem_filter.mp h).1
  have hA : ∀ q : Nat, s.heap.size ≤ q → (fun q : Nat => s.heap.size ≤ q) q := fun _ h => h
  have hbA : ¬ (fun q : Nat => s.heap.size ≤ q) b := Nat.not_le.mpr hbl
  have hD := hD.sub (ws' := [(x, eO 9 [.ref (g 0), .ref (g 1), .ref (g 2), .ref (g 3), .ref (g 4), .ref (g 5), .ref (g 6)]), (g 1, eO 0 [.ref (g 101), .ref (g 103), .ref (g 105), .ref (g 107), .ref (g 109), .ref (g 111), .ref (g 174), .int 5, .int 20]), (g 109, eO 5 [.int 10, .int 70, .ref (g 110), .int 0]), (mo, eO 10 [.ref (h 0), .ref (h 1), .ref (h 2), .long 0, .long 1, .int 0, .ref (h 3), .ref (h 4), .int 0, .ref (h 5), .ref (h 6), .int 0, .int 0, .int 0, .int 0, .ref (h 7), .ref (h 8), .ref (h 9), .ref (h 10), .ref (h 11), .ref (h 12), .ref (h 13), .ref (h 14), .ref (h 15), .ref (h 16)]), (h 0, eI G 2246 st0)]) [0, 2, 11, 269, 270] (by decide) rfl
  have hP := hP.sub (ws' := [(x, eO 9 [.ref (g 0), .ref (g 1), .ref (g 2), .ref (g 3), .ref (g 4), .ref (g 5), .ref (g 6)]), (g 1, eO 0 [.ref (g 101), .ref (g 103), .ref (g 105), .ref (g 107), .ref (g 109), .ref (g 111), .ref (g 174), .int 5, .int 20]), (g 109, eO 5 [.int 10, .int 70, .ref (g 110), .int 0]), (mo, eO 10 [.ref (h 0), .ref (h 1), .ref (h 2), .long 0, .long 1, .int 0, .ref (h 3), .ref (h 4), .int 0, .ref (h 5), .ref (h 6), .int 0, .int 0, .int 0, .int 0, .ref (h 7), .ref (h 8), .ref (h 9), .ref (h 10), .ref (h 11), .ref (h 12), .ref (h 13), .ref (h 14), .ref (h 15), .ref (h 16)]), (h 0, eI G 2246 st0)]) [0, 2, 11, 269, 270] rfl
  refine lv_aload_n hx hb dL_law_1127 rfl (lv_at hl 1 rfl) ?_
  refine lv_aload_n hx hb dL_law_1128 rfl (lv_at hl 0 rfl) ?_
  refine lv_iload_n hx hb dL_law_1129 rfl (lv_at hl 3 rfl) ?_
  refine lv_iconst (v := 1) hx hb dL_law_1130 (by decide) ?_
  refine lv_iadd hx hb dL_law_1131 ?_
  refine my_bei (v := 1) (by decide) ?_
  refine va_sld hx hb hX hbl hbA hS (by unfold vp_in; decide) dL_law_1132 ?_
  refine my_bei (v := xs 1) rfl ?_
  refine lv_aload_n hx hb dL_law_1133 rfl (lv_at hl 0 rfl) ?_
  refine lv_iload_n hx hb dL_law_1134 rfl (lv_at hl 3 rfl) ?_
  refine lv_iconst (v := 2) hx hb dL_law_1135 (by decide) ?_
  refine lv_iadd hx hb dL_law_1136 ?_
  refine my_bei (v := 2) (by decide) ?_
  refine va_sld hx hb hX hbl hbA hS (by unfold vp_in; decide) dL_law_1137 ?_
  refine my_bei (v := xs 2) rfl ?_
  have hPc := hP.sub (ws' := [(x, eO 9 [.ref (g 0), .ref (g 1), .ref (g 2), .ref (g 3), .ref (g 4), .ref (g 5), .ref (g 6)]), (g 1, eO 0 [.ref (g 101), .ref (g 103), .ref (g 105), .ref (g 107), .ref (g 109), .ref (g 111), .ref (g 174), .int 5, .int 20]), (g 109, eO 5 [.int 10, .int 70, .ref (g 110), .int 0])]) [0, 1, 2] rfl
  refine rd_calli (va_runV (As := [.int (xs 1), .int (xs 2)]) (rest := []) ⟨hx, hb, hml, hown, hts⟩ (p_twelve l G x (g 0) (g 1) (g 2) (g 3) (g 4) (g 5) (g 6) (g 101) (g 103) (g 105) (g 107) (g 109) (g 111) (g 174) (g 110) (xs 1) (xs 2) ) (my_cwV hts ok_X10_twelve w_787 rfl rfl ⟨Nat.le_of_ble_eq_true rfl, Nat.le_of_ble_eq_true rfl⟩) ⟨rP.blind, va_recv hG.1 hPc (ci := 9) (q0 := 0) rfl rfl, fun U hU hW => ⟨rfl, by rw [hU]; exact hPc, kG.warm hW hG⟩⟩ rfl rfl hl.1 rfl (lv_room (Nat.le_of_ble_eq_true rfl)) dL_law_1138 ⟨Nat.le_of_ble_eq_true rfl, Nat.le_of_ble_eq_true rfl⟩) (fun r hr9 => ?_)
  subst hr9
  refine lv_aload_n hx hb dL_law_1141 rfl (lv_at hl 2 rfl) ?_
  refine lv_aload_n hx hb dL_law_1142 rfl (lv_at hl 0 rfl) ?_
  refine lv_iload_n hx hb dL_law_1143 rfl (lv_at hl 3 rfl) ?_
  refine lv_iconst (v := 1) hx hb dL_law_1144 (by decide) ?_
  refine lv_iadd hx hb dL_law_1145 ?_
  refine my_bei (v := 1) (by decide) ?_
  refine va_sld hx hb hX hbl hbA hS (by unfold vp_in; decide) dL_law_1146 ?_
  refine my_bei (v := xs 1) rfl ?_
  refine lv_aload_n hx hb dL_law_1147 rfl (lv_at hl 0 rfl) ?_
  refine lv_iload_n hx hb dL_law_1148 rfl (lv_at hl 3 rfl) ?_
  refine lv_iconst (v := 2) hx hb dL_law_1149 (by decide) ?_
  refine lv_iadd hx hb dL_law_1150 ?_
  refine my_bei (v := 2) (by decide) ?_
  refine va_sld hx hb hX hbl hbA hS (by unfold vp_in; decide) dL_law_1151 ?_
  refine my_bei (v := xs 2) rfl ?_
  have hPc := hP.sub (ws' := [(mo, eO 10 [.ref (h 0), .ref (h 1), .ref (h 2), .long 0, .long 1, .int 0, .ref (h 3), .ref (h 4), .int 0, .ref (h 5), .ref (h 6), .int 0, .int 0, .int 0, .int 0, .ref (h 7), .ref (h 8), .ref (h 9), .ref (h 10), .ref (h 11), .ref (h 12), .ref (h 13), .ref (h 14), .ref (h 15), .ref (h 16)]), (h 0, eI G 2246 st0)]) [3, 4] rfl
  have hDc := hD.sub (ws' := [(mo, eO 10 [.ref (h 0), .ref (h 1), .ref (h 2), .long 0, .long 1, .int 0, .ref (h 3), .ref (h 4), .int 0, .ref (h 5), .ref (h 6), .int 0, .int 0, .int 0, .int 0, .ref (h 7), .ref (h 8), .ref (h 9), .ref (h 10), .ref (h 11), .ref (h 12), .ref (h 13), .ref (h 14), .ref (h 15), .ref (h 16)]), (h 0, eI G 2246 st0)]) [3, 4] (by decide) rfl
  have hFc := va_free (wc := [(mo, eO 10 [.ref (h 0), .ref (h 1), .ref (h 2), .long 0, .long 1, .int 0, .ref (h 3), .ref (h 4), .int 0, .ref (h 5), .ref (h 6), .int 0, .int 0, .int 0, .int 0, .ref (h 7), .ref (h 8), .ref (h 9), .ref (h 10), .ref (h 11), .ref (h 12), .ref (h 13), .ref (h 14), .ref (h 15), .ref (h 16)]), (h 0, eI G 2246 st0)]) hD hS hA [3, 4] rfl
  refine va_calli (va_runV (As := [.int (xs 1), .int (xs 2)]) (rest := [.int (-2)]) ⟨hx, hb, hml, hown, hts⟩ (m_twelve l G H.size mo (h 0) (h 1) (h 2) (h 3) (h 4) (h 5) (h 6) (h 7) (h 8) (h 9) (h 10) (h 11) (h 12) (h 13) (h 14) (h 15) (h 16) (xs 1) (xs 2) ) (my_cwV hts ok_X11_twelve w_793 rfl rfl ⟨Nat.le_of_ble_eq_true rfl, Nat.le_of_ble_eq_true rfl⟩) ⟨wP.blind, va_recv hG.1 hPc (ci := 10) (q0 := 0) rfl rfl, fun U hU hW => ⟨rfl, by rw [hU], by rw [hU]; exact hPc, kG.warm hW hG, hDc.weaken (fun _ _ _ _ => trivial)⟩⟩ rfl rfl hl.1 rfl (lv_room (Nat.le_of_ble_eq_true rfl)) dL_law_1152 ⟨Nat.le_of_ble_eq_true rfl, Nat.le_of_ble_eq_true rfl⟩) hS (fun q _ h => hFc q h) hFc (fun r u t H1 locs ht hvm hw hB hz1 hk1 hS => ?_)
  obtain ⟨hP, hD⟩ := va_join (wr := [(x, eO 9 [.ref (g 0), .ref (g 1), .ref (g 2), .ref (g 3), .ref (g 4), .ref (g 5), .ref (g 6)]), (g 1, eO 0 [.ref (g 101), .ref (g 103), .ref (g 105), .ref (g 107), .ref (g 109), .ref (g 111), .ref (g 174), .int 5, .int 20]), (g 109, eO 5 [.int 10, .int 70, .ref (g 110), .int 0])]) (w1 := []) hP hD [3, 4] [0, 1, 2] rfl rfl (by decide) (by decide) hk1 hFc my_P0 my_D0
  generalize H1 = H at hP hS ⊢
  have hP : va_P G.1 vwCl [(x, eO 9 [.ref (g 0), .ref (g 1), .ref (g 2), .ref (g 3), .ref (g 4), .ref (g 5), .ref (g 6)]), (g 1, eO 0 [.ref (g 101), .ref (g 103), .ref (g 105), .ref (g 107), .ref (g 109), .ref (g 111), .ref (g 174), .int 5, .int 20]), (g 109, eO 5 [.int 10, .int 70, .ref (g 110), .int 0])] H := hP
  have hD : va_D (fun q : Nat => s.heap.size ≤ q) [(x, eO 9 [.ref (g 0), .ref (g 1), .ref (g 2), .ref (g 3), .ref (g 4), .ref (g 5), .ref (g 6)]), (g 1, eO 0 [.ref (g 101), .ref (g 103), .ref (g 105), .ref (g 107), .ref (g 109), .ref (g 111), .ref (g 174), .int 5, .int 20]), (g 109, eO 5 [.int 10, .int 70, .ref (g 110), .int 0])] := hD
  subst hw
  refine lv_icmp_eq (tgt := 1376) hx hb dL_law_1155 (by decide) (fun c_1155 => ?_) (fun c_1155 => absurd (by decide) c_1155)
  exact law_end l C0 hS (lv_sub hl [0, 3] rfl)
set_option maxHeartbeats 4000000 in
set_option maxRecDepth 100000 in
theorem law_25 {p : Program} {e : Env} {s : State} {m : MethodId} {below : List Frame} {meth : Method} {c : Code} (l : Launch) {b : Nat} {xs : Nat → Int32} (G : gW) (C0 : lw_At p s m meth c b 10 xs) (hG : kG G s) {x mo : Nat} {g h : Nat → Nat} {H : Heap} {locs : List Loc} {ls : Array Slot} (hP : va_P G.1 vwCl (lwW G x g mo h) H) (hD : va_D (fun q : Nat => s.heap.size ≤ q) (lwW G x g mo h)) (hS : va_S (fun q : Nat => s.heap.size ≤ q) s.heap H locs) (hl : lv_has ls 4 [(0, .ref b), (1, .ref x), (2, .ref mo), (3, .int 0)]) : W p l e room_1 s m #[Value.ref b] below meth c H locs 333 19609 (lw_Z below #[Value.ref b] s) (F0 m 1160 ls []) := by
  obtain ⟨hx, hb, hr, hml, hown, hts0, hX, hbl, hlocks, hgv⟩ := id C0
  have hts : ∀ w ∈ TT, w.before #[Value.ref b] s = true := fun w h => hts0 w (List.mem_filter.mp h).1
  have hA : ∀ q : Nat, s.heap.size ≤ q → (fun q : Nat => s.heap.size ≤ q) q := fun _ h => h
  have hbA : ¬ (fun q : Nat => s.heap.size ≤ q) b := Nat.not_le.mpr hbl
  have hD := hD.sub (ws' := [(x, eO 9 [.ref (g 0), .ref (g 1), .ref (g 2), .ref (g 3), .ref (g 4), .ref (g 5), .ref (g 6)]), (g 5, eO 2 [.long 0, .long 1]), (mo, eO 10 [.ref (h 0), .ref (h 1), .ref (h 2), .long 0, .long 1, .int 0, .ref (h 3), .ref (h 4), .int 0, .ref (h 5), .ref (h 6), .int 0, .int 0, .int 0, .int 0, .ref (h 7), .ref (h 8), .ref (h 9), .ref (h 10), .ref (h 11), .ref (h 12), .ref (h 13), .ref (h 14), .ref (h 15), .ref (h 16)])]) [0, 92, 269] (by decide) rfl
  have hP := hP.sub (ws' := [(x, eO 9 [.ref (g 0), .ref (g 1), .ref (g 2), .ref (g 3), .ref (g 4), .ref (g 5), .ref (g 6)]), (g 5, eO 2 [.long 0, .long 1]), (mo, eO 10 [.ref (h 0), .ref (h 1), .ref (h 2), .long 0, .long 1, .int 0, .ref (h 3), .ref (h 4), .int 0, .ref (h 5), .ref (h 6), .int 0, .int 0, .int 0, .int 0, .ref (h 7), .ref (h 8), .ref (h 9), .ref (h 10), .ref (h 11), .ref (h 12), .ref (h 13), .ref (h 14), .ref (h 15), .ref (h 16)])]) [0, 92, 269] rfl
  refine lv_aload_n hx hb dL_law_1160 rfl (lv_at hl 1 rfl) ?_
  refine lv_aload_n hx hb dL_law_1161 rfl (lv_at hl 0 rfl) ?_
  refine lv_iload_n hx hb dL_law_1162 rfl (lv_at hl 3 rfl) ?_
  refine lv_iconst (v := 1) hx hb dL_law_1163 (by decide) ?_
  refine lv_iadd hx hb dL_law_1164 ?_
  refine my_bei (v := 1) (by decide) ?_
  refine va_sld hx hb hX hbl hbA hS (by unfold vp_in; decide) dL_law_1165 ?_
  refine my_bei (v := xs 1) rfl ?_
  have hPc := hP.sub (ws' := [(x, eO 9 [.ref (g 0), .ref (g 1), .ref (g 2), .ref (g 3), .ref (g 4), .ref (g 5), .ref (g 6)]), (g 5, eO 2 [.long 0, .long 1])]) [0, 1] rfl
  refine rd_calll (va_runV (As := [.int (xs 1)]) (rest := []) ⟨hx, hb, hml, hown, hts⟩ (p_part l G x (g 0) (g 1) (g 2) (g 3) (g 4) (g 5) (g 6) (xs 1) ) (my_cwV hts ok_X10_part w_797 rfl rfl ⟨Nat.le_of_ble_eq_true rfl, Nat.le_of_ble_eq_true rfl⟩) ⟨rP.blind, va_recv hG.1 hPc (ci := 9) (q0 := 0) rfl rfl, fun U hU hW => ⟨rfl, by rw [hU]; exact hPc, kG.warm hW hG⟩⟩ rfl rfl hl.1 rfl (lv_room (Nat.le_of_ble_eq_true rfl)) dL_law_1166 ⟨Nat.le_of_ble_eq_true rfl, Nat.le_of_ble_eq_true rfl⟩) (fun r hr9 => ?_)
  subst hr9
  refine lv_aload_n hx hb dL_law_1169 rfl (lv_at hl 2 rfl) ?_
  refine lv_aload_n hx hb dL_law_1170 rfl (lv_at hl 0 rfl) ?_
  refine lv_iload_n hx hb dL_law_1171 rfl (lv_at hl 3 rfl) ?_
  refine lv_iconst (v := 1) hx hb dL_law_1172 (by decide) ?_
  refine lv_iadd hx hb dL_law_1173 ?_
  refine my_bei (v := 1) (by decide) ?_
  refine va_sld hx hb hX hbl hbA hS (by unfold vp_in; decide) dL_law_1174 ?_
  refine my_bei (v := xs 1) rfl ?_
  have hPc := hP.sub (ws' := [(mo, eO 10 [.ref (h 0), .ref (h 1), .ref (h 2), .long 0, .long 1, .int 0, .ref (h 3), .ref (h 4), .int 0, .ref (h 5), .ref (h 6), .int 0, .int 0, .int 0, .int 0, .ref (h 7), .ref (h 8), .ref (h 9), .ref (h 10), .ref (h 11), .ref (h 12), .ref (h 13), .ref (h 14), .ref (h 15), .ref (h 16)])]) [2] rfl
  refine rd_calll (va_runV (As := [.int (xs 1)]) (rest := [.long (if (xs 1) = 0 then 0 else if (xs 1) = 1 then 1 else (-1))]) ⟨hx, hb, hml, hown, hts⟩ (m_part l G mo (h 0) (h 1) (h 2) (h 3) (h 4) (h 5) (h 6) (h 7) (h 8) (h 9) (h 10) (h 11) (h 12) (h 13) (h 14) (h 15) (h 16) (xs 1) ) (my_cwV hts ok_X11_part w_802 rfl rfl ⟨Nat.le_of_ble_eq_true rfl, Nat.le_of_ble_eq_true rfl⟩) ⟨rP.blind, va_recv hG.1 hPc (ci := 10) (q0 := 0) rfl rfl, fun U hU hW => ⟨rfl, by rw [hU]; exact hPc, kG.warm hW hG⟩⟩ rfl rfl hl.1 rfl (lv_room (Nat.le_of_ble_eq_true rfl)) dL_law_1175 ⟨Nat.le_of_ble_eq_true rfl, Nat.le_of_ble_eq_true rfl⟩) (fun r hr9 => ?_)
  subst hr9
  refine W.lcmp hx hb dL_law_1178 ?_
  refine my_bei (v := 0) ((lg_cmp_eq _ _).mpr rfl) ?_
  refine lv_if_eq (tgt := 1376) hx hb dL_law_1179 (by decide) (fun c_1179 => ?_) (fun c_1179 => absurd (by decide) c_1179)
  exact law_end l C0 hS (lv_sub hl [0, 3] rfl)
set_option maxHeartbeats 4000000 in
set_option maxRecDepth 100000 in
theorem law_26 {p : Program} {e : Env} {s : State} {m : MethodId} {below : List Frame} {meth : Method} {c : Code} (l : Launch) {b : Nat} {xs : Nat → Int32} (G : gW) (C0 : lw_At p s m meth c b 10 xs) (hG : kG G s) {x mo : Nat} {g h : Nat → Nat} {H : Heap} {locs : List Loc} {ls : Array Slot} (hP : va_P G.1 vwCl (lwW G x g mo h) H) (hD : va_D (fun q : Nat => s.heap.size ≤ q) (lwW G x g mo h)) (hS : va_S (fun q : Nat => s.heap.size ≤ q) s.heap H locs) (hl : lv_has ls 4 [(0, .ref b), (1, .ref x), (2, .ref mo), (3, .int 0)]) : W p l e room_1 s m #[Value.ref b] below meth c H locs 333 19609 (lw_Z below #[Value.ref b] s) (F0 m 1184 ls []) := by
  obtain ⟨hx, hb, hr, hml, hown, hts0, hX, hbl, hlocks, hgv⟩ := id C0
  have hts : ∀ w ∈ TT, w.before #[Value.ref b] s = true := fun w h => hts0 w (List.mem_filter.mp h).1
  have hA : ∀ q : Nat, s.heap.size ≤ q → (fun q : Nat => s.heap.size ≤ q) q := fun _ h => h
  have hbA : ¬ (fun q : Nat => s.heap.size ≤ q) b := Nat.not_le.mpr hbl
  have hD := hD.sub (ws' := [(x, eO 9 [.ref (g 0), .ref (g 1), .ref (g 2), .ref (g 3), .ref (g 4), .ref (g 5), .ref (g 6)]), (g 1, eO 0 [.ref (g 101), .ref (g 103), .ref (g 105), .ref (g 107), .ref (g 109), .ref (g 111), .ref (g 174), .int 5, .int 20]), (g 109, eO 5 [.int 10, .int 70, .ref (g 110), .int 0]), (mo, eO 10 [.ref (h 0), .ref (h 1), .ref (h 2), .long 0, .long 1, .int 0, .ref (h 3), .ref (h 4), .int 0, .ref (h 5), .ref (h 6), .int 0, .int 0, .int 0, .int 0, .ref (h 7), .ref (h 8), .ref (h 9), .ref (h 10), .ref (h 11), .ref (h 12), .ref (h 13), .ref (h 14), .ref (h 15), .ref (h 16)]), (h 0, eI G 2246 st0)]) [0, 2, 11, 269, 270] (by decide) rfl
  have hP := hP.sub (ws' := [(x, eO 9 [.ref (g 0), .ref (g 1), .ref (g 2), .ref (g 3), .ref (g 4), .ref (g 5), .ref (g 6)]), (g 1, eO 0 [.ref (g 101), .ref (g 103), .ref (g 105), .ref (g 107), .ref (g 109), .ref (g 111), .ref (g 174), .int 5, .int 20]), (g 109, eO 5 [.int 10, .int 70, .ref (g 110), .int 0]), (mo, eO 10 [.ref (h 0), .ref (h 1), .ref (h 2), .long 0, .long 1, .int 0, .ref (h 3), .ref (h 4), .int 0, .ref (h 5), .ref (h 6), .int 0, .int 0, .int 0, .int 0, .ref (h 7), .ref (h 8), .ref (h 9), .ref (h 10), .ref (h 11), .ref (h 12), .ref (h 13), .ref (h 14), .ref (h 15), .ref (h 16)]), (h 0, eI G 2246 st0)]) [0, 2, 11, 269, 270] rfl
  refine lv_aload_n hx hb dL_law_1184 rfl (lv_at hl 1 rfl) ?_
  refine lv_aload_n hx hb dL_law_1185 rfl (lv_at hl 0 rfl) ?_
  refine lv_iload_n hx hb dL_law_1186 rfl (lv_at hl 3 rfl) ?_
  refine lv_iconst (v := 1) hx hb dL_law_1187 (by decide) ?_
  refine lv_iadd hx hb dL_law_1188 ?_
  refine my_bei (v := 1) (by decide) ?_
  refine va_sld hx hb hX hbl hbA hS (by unfold vp_in; decide) dL_law_1189 ?_
  refine my_bei (v := xs 1) rfl ?_
  refine lv_aload_n hx hb dL_law_1190 rfl (lv_at hl 0 rfl) ?_
  refine lv_iload_n hx hb dL_law_1191 rfl (lv_at hl 3 rfl) ?_
  refine lv_iconst (v := 2) hx hb dL_law_1192 (by decide) ?_
  refine lv_iadd hx hb dL_law_1193 ?_
  refine my_bei (v := 2) (by decide) ?_
  refine va_sld hx hb hX hbl hbA hS (by unfold vp_in; decide) dL_law_1194 ?_
  refine my_bei (v := xs 2) rfl ?_
  refine lv_aload_n hx hb dL_law_1195 rfl (lv_at hl 0 rfl) ?_
  refine lv_iload_n hx hb dL_law_1196 rfl (lv_at hl 3 rfl) ?_
  refine lv_iconst (v := 3) hx hb dL_law_1197 (by decide) ?_
  refine lv_iadd hx hb dL_law_1198 ?_
  refine my_bei (v := 3) (by decide) ?_
  refine va_sld hx hb hX hbl hbA hS (by unfold vp_in; decide) dL_law_1199 ?_
  refine my_bei (v := xs 3) rfl ?_
  have hPc := hP.sub (ws' := [(x, eO 9 [.ref (g 0), .ref (g 1), .ref (g 2), .ref (g 3), .ref (g 4), .ref (g 5), .ref (g 6)]), (g 1, eO 0 [.ref (g 101), .ref (g 103), .ref (g 105), .ref (g 107), .ref (g 109), .ref (g 111), .ref (g 174), .int 5, .int 20]), (g 109, eO 5 [.int 10, .int 70, .ref (g 110), .int 0])]) [0, 1, 2] rfl
  refine rd_calli (va_runV (As := [.int (xs 1), .int (xs 2), .int (xs 3)]) (rest := []) ⟨hx, hb, hml, hown, hts⟩ (p_beside l G x (g 0) (g 1) (g 2) (g 3) (g 4) (g 5) (g 6) (g 101) (g 103) (g 105) (g 107) (g 109) (g 111) (g 174) (g 110) (xs 1) (xs 2) (xs 3) ) (my_cwV hts ok_X10_beside w_806 rfl rfl ⟨Nat.le_of_ble_eq_true rfl, Nat.le_of_ble_eq_true rfl⟩) ⟨rP.blind, va_recv hG.1 hPc (ci := 9) (q0 := 0) rfl rfl, fun U hU hW => ⟨rfl, by rw [hU]; exact hPc, kG.warm hW hG⟩⟩ rfl rfl hl.1 rfl (lv_room (Nat.le_of_ble_eq_true rfl)) dL_law_1200 ⟨Nat.le_of_ble_eq_true rfl, Nat.le_of_ble_eq_true rfl⟩) (fun r hr9 => ?_)
  subst hr9
  refine lv_aload_n hx hb dL_law_1203 rfl (lv_at hl 2 rfl) ?_
  refine lv_aload_n hx hb dL_law_1204 rfl (lv_at hl 0 rfl) ?_
  refine lv_iload_n hx hb dL_law_1205 rfl (lv_at hl 3 rfl) ?_
  refine lv_iconst (v := 1) hx hb dL_law_1206 (by decide) ?_
  refine lv_iadd hx hb dL_law_1207 ?_
  refine my_bei (v := 1) (by decide) ?_
  refine va_sld hx hb hX hbl hbA hS (by unfold vp_in; decide) dL_law_1208 ?_
  refine my_bei (v := xs 1) rfl ?_
  refine lv_aload_n hx hb dL_law_1209 rfl (lv_at hl 0 rfl) ?_
  refine lv_iload_n hx hb dL_law_1210 rfl (lv_at hl 3 rfl) ?_
  refine lv_iconst (v := 2) hx hb dL_law_1211 (by decide) ?_
  refine lv_iadd hx hb dL_law_1212 ?_
  refine my_bei (v := 2) (by decide) ?_
  refine va_sld hx hb hX hbl hbA hS (by unfold vp_in; decide) dL_law_1213 ?_
  refine my_bei (v := xs 2) rfl ?_
  refine lv_aload_n hx hb dL_law_1214 rfl (lv_at hl 0 rfl) ?_
  refine lv_iload_n hx hb dL_law_1215 rfl (lv_at hl 3 rfl) ?_
  refine lv_iconst (v := 3) hx hb dL_law_1216 (by decide) ?_
  refine lv_iadd hx hb dL_law_1217 ?_
  refine my_bei (v := 3) (by decide) ?_
  refine va_sld hx hb hX hbl hbA hS (by unfold vp_in; decide) dL_law_1218 ?_
  refine my_bei (v := xs 3) rfl ?_
  have hPc := hP.sub (ws' := [(mo, eO 10 [.ref (h 0), .ref (h 1), .ref (h 2), .long 0, .long 1, .int 0, .ref (h 3), .ref (h 4), .int 0, .ref (h 5), .ref (h 6), .int 0, .int 0, .int 0, .int 0, .ref (h 7), .ref (h 8), .ref (h 9), .ref (h 10), .ref (h 11), .ref (h 12), .ref (h 13), .ref (h 14), .ref (h 15), .ref (h 16)]), (h 0, eI G 2246 st0)]) [3, 4] rfl
  have hDc := hD.sub (ws' := [(mo, eO 10 [.ref (h 0), .ref (h 1), .ref (h 2), .long 0, .long 1, .int 0, .ref (h 3), .ref (h 4), .int 0, .ref (h 5), .ref (h 6), .int 0, .int 0, .int 0, .int 0, .ref (h 7), .ref (h 8), .ref (h 9), .ref (h 10), .ref (h 11), .ref (h 12), .ref (h 13), .ref (h 14), .ref (h 15), .ref (h 16)]), (h 0, eI G 2246 st0)]) [3, 4] (by decide) rfl
  have hFc := va_free (wc := [(mo, eO 10 [.ref (h 0), .ref (h 1), .ref (h 2), .long 0, .long 1, .int 0, .ref (h 3), .ref (h 4), .int 0, .ref (h 5), .ref (h 6), .int 0, .int 0, .int 0, .int 0, .ref (h 7), .ref (h 8), .ref (h 9), .ref (h 10), .ref (h 11), .ref (h 12), .ref (h 13), .ref (h 14), .ref (h 15), .ref (h 16)]), (h 0, eI G 2246 st0)]) hD hS hA [3, 4] rfl
  refine va_calli (va_runV (As := [.int (xs 1), .int (xs 2), .int (xs 3)]) (rest := [.int (-2)]) ⟨hx, hb, hml, hown, hts⟩ (m_beside l G H.size mo (h 0) (h 1) (h 2) (h 3) (h 4) (h 5) (h 6) (h 7) (h 8) (h 9) (h 10) (h 11) (h 12) (h 13) (h 14) (h 15) (h 16) (xs 1) (xs 2) (xs 3) ) (my_cwV hts ok_X11_beside w_811 rfl rfl ⟨Nat.le_of_ble_eq_true rfl, Nat.le_of_ble_eq_true rfl⟩) ⟨wP.blind, va_recv hG.1 hPc (ci := 10) (q0 := 0) rfl rfl, fun U hU hW => ⟨rfl, by rw [hU], by rw [hU]; exact hPc, kG.warm hW hG, hDc.weaken (fun _ _ _ _ => trivial)⟩⟩ rfl rfl hl.1 rfl (lv_room (Nat.le_of_ble_eq_true rfl)) dL_law_1219 ⟨Nat.le_of_ble_eq_true rfl, Nat.le_of_ble_eq_true rfl⟩) hS (fun q _ h => hFc q h) hFc (fun r u t H1 locs ht hvm hw hB hz1 hk1 hS => ?_)
  obtain ⟨hP, hD⟩ := va_join (wr := [(x, eO 9 [.ref (g 0), .ref (g 1), .ref (g 2), .ref (g 3), .ref (g 4), .ref (g 5), .ref (g 6)]), (g 1, eO 0 [.ref (g 101), .ref (g 103), .ref (g 105), .ref (g 107), .ref (g 109), .ref (g 111), .ref (g 174), .int 5, .int 20]), (g 109, eO 5 [.int 10, .int 70, .ref (g 110), .int 0])]) (w1 := []) hP hD [3, 4] [0, 1, 2] rfl rfl (by decide) (by decide) hk1 hFc my_P0 my_D0
  generalize H1 = H at hP hS ⊢
  have hP : va_P G.1 vwCl [(x, eO 9 [.ref (g 0), .ref (g 1), .ref (g 2), .ref (g 3), .ref (g 4), .ref (g 5), .ref (g 6)]), (g 1, eO 0 [.ref (g 101), .ref (g 103), .ref (g 105), .ref (g 107), .ref (g 109), .ref (g 111), .ref (g 174), .int 5, .int 20]), (g 109, eO 5 [.int 10, .int 70, .ref (g 110), .int 0])] H := hP
  have hD : va_D (fun q : Nat => s.heap.size ≤ q) [(x, eO 9 [.ref (g 0), .ref (g 1), .ref (g 2), .ref (g 3), .ref (g 4), .ref (g 5), .ref (g 6)]), (g 1, eO 0 [.ref (g 101), .ref (g 103), .ref (g 105), .ref (g 107), .ref (g 109), .ref (g 111), .ref (g 174), .int 5, .int 20]), (g 109, eO 5 [.int 10, .int 70, .ref (g 110), .int 0])] := hD
  subst hw
  refine lv_icmp_eq (tgt := 1376) hx hb dL_law_1222 (by decide) (fun c_1222 => ?_) (fun c_1222 => absurd (by decide) c_1222)
  exact law_end l C0 hS (lv_sub hl [0, 3] rfl)
set_option maxHeartbeats 4000000 in
set_option maxRecDepth 100000 in
theorem law_27 {p : Program} {e : Env} {s : State} {m : MethodId} {below : List Frame} {meth : Method} {c : Code} (l : Launch) {b : Nat} {xs : Nat → Int32} (G : gW) (C0 : lw_At p s m meth c b 10 xs) (hG : kG G s) {x mo : Nat} {g h : Nat → Nat} {H : Heap} {locs : List Loc} {ls : Array Slot} (hP : va_P G.1 vwCl (lwW G x g mo h) H) (hD : va_D (fun q : Nat => s.heap.size ≤ q) (lwW G x g mo h)) (hS : va_S (fun q : Nat => s.heap.size ≤ q) s.heap H locs) (hl : lv_has ls 4 [(0, .ref b), (1, .ref x), (2, .ref mo), (3, .int 0)]) : W p l e room_1 s m #[Value.ref b] below meth c H locs 333 19609 (lw_Z below #[Value.ref b] s) (F0 m 1227 ls []) := by
  obtain ⟨hx, hb, hr, hml, hown, hts0, hX, hbl, hlocks, hgv⟩ := id C0
  have hts : ∀ w ∈ TT, w.before #[Value.ref b] s = true := fun w h => hts0 w (List.mem_filter.mp h).1
  have hA : ∀ q : Nat, s.heap.size ≤ q → (fun q : Nat => s.heap.size ≤ q) q := fun _ h => h
  have hbA : ¬ (fun q : Nat => s.heap.size ≤ q) b := Nat.not_le.mpr hbl
  have hD := hD.sub (ws' := [(x, eO 9 [.ref (g 0), .ref (g 1), .ref (g 2), .ref (g 3), .ref (g 4), .ref (g 5), .ref (g 6)]), (g 1, eO 0 [.ref (g 101), .ref (g 103), .ref (g 105), .ref (g 107), .ref (g 109), .ref (g 111), .ref (g 174), .int 5, .int 20]), (g 109, eO 5 [.int 10, .int 70, .ref (g 110), .int 0]), (g 6, eO 8 [.ref (g 8), .ref (g 9), .ref (g 10), .ref (g 11), .int 0, .int 0]), (g 9, eI G 6 (fun _ => 0)), (mo, eO 10 [.ref (h 0), .ref (h 1), .ref (h 2), .long 0, .long 1, .int 0, .ref (h 3), .ref (h 4), .int 0, .ref (h 5), .ref (h 6), .int 0, .int 0, .int 0, .int 0, .ref (h 7), .ref (h 8), .ref (h 9), .ref (h 10), .ref (h 11), .ref (h 12), .ref (h 13), .ref (h 14), .ref (h 15), .ref (h 16)]), (h 0, eI G 2246 st0)]) [0, 2, 11, 93, 94, 269, 270] (by decide) rfl
  have hP := hP.sub (ws' := [(x, eO 9 [.ref (g 0), .ref (g 1), .ref (g 2), .ref (g 3), .ref (g 4), .ref (g 5), .ref (g 6)]), (g 1, eO 0 [.ref (g 101), .ref (g 103), .ref (g 105), .ref (g 107), .ref (g 109), .ref (g 111), .ref (g 174), .int 5, .int 20]), (g 109, eO 5 [.int 10, .int 70, .ref (g 110), .int 0]), (g 6, eO 8 [.ref (g 8), .ref (g 9), .ref (g 10), .ref (g 11), .int 0, .int 0]), (g 9, eI G 6 (fun _ => 0)), (mo, eO 10 [.ref (h 0), .ref (h 1), .ref (h 2), .long 0, .long 1, .int 0, .ref (h 3), .ref (h 4), .int 0, .ref (h 5), .ref (h 6), .int 0, .int 0, .int 0, .int 0, .ref (h 7), .ref (h 8), .ref (h 9), .ref (h 10), .ref (h 11), .ref (h 12), .ref (h 13), .ref (h 14), .ref (h 15), .ref (h 16)]), (h 0, eI G 2246 st0)]) [0, 2, 11, 93, 94, 269, 270] rfl
  refine lv_aload_n hx hb dL_law_1227 rfl (lv_at hl 1 rfl) ?_
  refine lv_aload_n hx hb dL_law_1228 rfl (lv_at hl 0 rfl) ?_
  refine lv_iload_n hx hb dL_law_1229 rfl (lv_at hl 3 rfl) ?_
  refine lv_iconst (v := 1) hx hb dL_law_1230 (by decide) ?_
  refine lv_iadd hx hb dL_law_1231 ?_
  refine my_bei (v := 1) (by decide) ?_
  refine va_sld hx hb hX hbl hbA hS (by unfold vp_in; decide) dL_law_1232 ?_
  refine my_bei (v := xs 1) rfl ?_
  refine lv_aload_n hx hb dL_law_1233 rfl (lv_at hl 0 rfl) ?_
  refine lv_iload_n hx hb dL_law_1234 rfl (lv_at hl 3 rfl) ?_
  refine lv_iconst (v := 2) hx hb dL_law_1235 (by decide) ?_
  refine lv_iadd hx hb dL_law_1236 ?_
  refine my_bei (v := 2) (by decide) ?_
  refine va_sld hx hb hX hbl hbA hS (by unfold vp_in; decide) dL_law_1237 ?_
  refine my_bei (v := xs 2) rfl ?_
  have hPc := hP.sub (ws' := [(x, eO 9 [.ref (g 0), .ref (g 1), .ref (g 2), .ref (g 3), .ref (g 4), .ref (g 5), .ref (g 6)]), (g 1, eO 0 [.ref (g 101), .ref (g 103), .ref (g 105), .ref (g 107), .ref (g 109), .ref (g 111), .ref (g 174), .int 5, .int 20]), (g 109, eO 5 [.int 10, .int 70, .ref (g 110), .int 0]), (g 6, eO 8 [.ref (g 8), .ref (g 9), .ref (g 10), .ref (g 11), .int 0, .int 0]), (g 9, eI G 6 (fun _ => 0))]) [0, 1, 2, 3, 4] rfl
  have hDc := hD.sub (ws' := [(x, eO 9 [.ref (g 0), .ref (g 1), .ref (g 2), .ref (g 3), .ref (g 4), .ref (g 5), .ref (g 6)]), (g 1, eO 0 [.ref (g 101), .ref (g 103), .ref (g 105), .ref (g 107), .ref (g 109), .ref (g 111), .ref (g 174), .int 5, .int 20]), (g 109, eO 5 [.int 10, .int 70, .ref (g 110), .int 0]), (g 6, eO 8 [.ref (g 8), .ref (g 9), .ref (g 10), .ref (g 11), .int 0, .int 0]), (g 9, eI G 6 (fun _ => 0))]) [0, 1, 2, 3, 4] (by decide) rfl
  have hFc := va_free (wc := [(x, eO 9 [.ref (g 0), .ref (g 1), .ref (g 2), .ref (g 3), .ref (g 4), .ref (g 5), .ref (g 6)]), (g 1, eO 0 [.ref (g 101), .ref (g 103), .ref (g 105), .ref (g 107), .ref (g 109), .ref (g 111), .ref (g 174), .int 5, .int 20]), (g 109, eO 5 [.int 10, .int 70, .ref (g 110), .int 0]), (g 6, eO 8 [.ref (g 8), .ref (g 9), .ref (g 10), .ref (g 11), .int 0, .int 0]), (g 9, eI G 6 (fun _ => 0))]) hD hS hA [0, 1, 2, 3, 4] rfl
  refine va_calli (va_runV (As := [.int (xs 1), .int (xs 2)]) (rest := []) ⟨hx, hb, hml, hown, hts⟩ (p_clash l G H.size x (g 0) (g 1) (g 2) (g 3) (g 4) (g 5) (g 6) (g 101) (g 103) (g 105) (g 107) (g 109) (g 111) (g 174) (g 110) (g 8) (g 9) (g 10) (g 11) (xs 1) (xs 2) ) (my_cwV hts ok_X10_clash w_815 rfl rfl ⟨Nat.le_of_ble_eq_true rfl, Nat.le_of_ble_eq_true rfl⟩) ⟨wP.blind, va_recv hG.1 hPc (ci := 9) (q0 := 0) rfl rfl, fun U hU hW => ⟨rfl, by rw [hU], by rw [hU]; exact hPc, kG.warm hW hG, hDc.weaken (fun _ _ _ _ => trivial)⟩⟩ rfl rfl hl.1 rfl (lv_room (Nat.le_of_ble_eq_true rfl)) dL_law_1238 ⟨Nat.le_of_ble_eq_true rfl, Nat.le_of_ble_eq_true rfl⟩) hS (fun q _ h => hFc q h) hFc (fun r u t H1 locs ht hvm hw hB hz1 hk1 hS => ?_)
  obtain ⟨hP, hD⟩ := va_join (wr := [(mo, eO 10 [.ref (h 0), .ref (h 1), .ref (h 2), .long 0, .long 1, .int 0, .ref (h 3), .ref (h 4), .int 0, .ref (h 5), .ref (h 6), .int 0, .int 0, .int 0, .int 0, .ref (h 7), .ref (h 8), .ref (h 9), .ref (h 10), .ref (h 11), .ref (h 12), .ref (h 13), .ref (h 14), .ref (h 15), .ref (h 16)]), (h 0, eI G 2246 st0)]) (w1 := []) hP hD [0, 1, 2, 3, 4] [5, 6] rfl rfl (by decide) (by decide) hk1 hFc my_P0 my_D0
  generalize H1 = H at hP hS ⊢
  have hP : va_P G.1 vwCl [(mo, eO 10 [.ref (h 0), .ref (h 1), .ref (h 2), .long 0, .long 1, .int 0, .ref (h 3), .ref (h 4), .int 0, .ref (h 5), .ref (h 6), .int 0, .int 0, .int 0, .int 0, .ref (h 7), .ref (h 8), .ref (h 9), .ref (h 10), .ref (h 11), .ref (h 12), .ref (h 13), .ref (h 14), .ref (h 15), .ref (h 16)]), (h 0, eI G 2246 st0)] H := hP
  have hD : va_D (fun q : Nat => s.heap.size ≤ q) [(mo, eO 10 [.ref (h 0), .ref (h 1), .ref (h 2), .long 0, .long 1, .int 0, .ref (h 3), .ref (h 4), .int 0, .ref (h 5), .ref (h 6), .int 0, .int 0, .int 0, .int 0, .ref (h 7), .ref (h 8), .ref (h 9), .ref (h 10), .ref (h 11), .ref (h 12), .ref (h 13), .ref (h 14), .ref (h 15), .ref (h 16)]), (h 0, eI G 2246 st0)] := hD
  subst hw
  refine lv_aload_n hx hb dL_law_1241 rfl (lv_at hl 2 rfl) ?_
  refine lv_aload_n hx hb dL_law_1242 rfl (lv_at hl 0 rfl) ?_
  refine lv_iload_n hx hb dL_law_1243 rfl (lv_at hl 3 rfl) ?_
  refine lv_iconst (v := 1) hx hb dL_law_1244 (by decide) ?_
  refine lv_iadd hx hb dL_law_1245 ?_
  refine my_bei (v := 1) (by decide) ?_
  refine va_sld hx hb hX hbl hbA hS (by unfold vp_in; decide) dL_law_1246 ?_
  refine my_bei (v := xs 1) rfl ?_
  refine lv_aload_n hx hb dL_law_1247 rfl (lv_at hl 0 rfl) ?_
  refine lv_iload_n hx hb dL_law_1248 rfl (lv_at hl 3 rfl) ?_
  refine lv_iconst (v := 2) hx hb dL_law_1249 (by decide) ?_
  refine lv_iadd hx hb dL_law_1250 ?_
  refine my_bei (v := 2) (by decide) ?_
  refine va_sld hx hb hX hbl hbA hS (by unfold vp_in; decide) dL_law_1251 ?_
  refine my_bei (v := xs 2) rfl ?_
  have hPc := hP.sub (ws' := [(mo, eO 10 [.ref (h 0), .ref (h 1), .ref (h 2), .long 0, .long 1, .int 0, .ref (h 3), .ref (h 4), .int 0, .ref (h 5), .ref (h 6), .int 0, .int 0, .int 0, .int 0, .ref (h 7), .ref (h 8), .ref (h 9), .ref (h 10), .ref (h 11), .ref (h 12), .ref (h 13), .ref (h 14), .ref (h 15), .ref (h 16)]), (h 0, eI G 2246 st0)]) [0, 1] rfl
  have hDc := hD.sub (ws' := [(mo, eO 10 [.ref (h 0), .ref (h 1), .ref (h 2), .long 0, .long 1, .int 0, .ref (h 3), .ref (h 4), .int 0, .ref (h 5), .ref (h 6), .int 0, .int 0, .int 0, .int 0, .ref (h 7), .ref (h 8), .ref (h 9), .ref (h 10), .ref (h 11), .ref (h 12), .ref (h 13), .ref (h 14), .ref (h 15), .ref (h 16)]), (h 0, eI G 2246 st0)]) [0, 1] (by decide) rfl
  have hFc := va_free (wc := [(mo, eO 10 [.ref (h 0), .ref (h 1), .ref (h 2), .long 0, .long 1, .int 0, .ref (h 3), .ref (h 4), .int 0, .ref (h 5), .ref (h 6), .int 0, .int 0, .int 0, .int 0, .ref (h 7), .ref (h 8), .ref (h 9), .ref (h 10), .ref (h 11), .ref (h 12), .ref (h 13), .ref (h 14), .ref (h 15), .ref (h 16)]), (h 0, eI G 2246 st0)]) hD hS hA [0, 1] rfl
  refine va_calli (va_runV (As := [.int (xs 1), .int (xs 2)]) (rest := [.int (if (xs 1) = 0 ∧ (xs 2) = (-1) then 0 else (-10))]) ⟨hx, hb, hml, hown, hts⟩ (m_clash l G H.size mo (h 0) (h 1) (h 2) (h 3) (h 4) (h 5) (h 6) (h 7) (h 8) (h 9) (h 10) (h 11) (h 12) (h 13) (h 14) (h 15) (h 16) (xs 1) (xs 2) ) (my_cwV hts ok_X11_clash w_859 rfl rfl ⟨Nat.le_of_ble_eq_true rfl, Nat.le_of_ble_eq_true rfl⟩) ⟨wP.blind, va_recv hG.1 hPc (ci := 10) (q0 := 0) rfl rfl, fun U hU hW => ⟨rfl, by rw [hU], by rw [hU]; exact hPc, kG.warm hW hG, hDc.weaken (fun _ _ _ _ => trivial)⟩⟩ rfl rfl hl.1 rfl (lv_room (Nat.le_of_ble_eq_true rfl)) dL_law_1252 ⟨Nat.le_of_ble_eq_true rfl, Nat.le_of_ble_eq_true rfl⟩) hS (fun q _ h => hFc q h) hFc (fun r u t H1 locs ht hvm hw hB hz1 hk1 hS => ?_)
  obtain ⟨hP, hD⟩ := va_join (wr := []) (w1 := []) hP hD [0, 1] [] rfl rfl (by decide) (by decide) hk1 hFc my_P0 my_D0
  generalize H1 = H at hP hS ⊢
  have hP : va_P G.1 vwCl [] H := hP
  have hD : va_D (fun q : Nat => s.heap.size ≤ q) [] := hD
  subst hw
  refine lv_icmp_eq (tgt := 1376) hx hb dL_law_1255 (by decide) (fun c_1255 => ?_) (fun c_1255 => absurd (rfl) c_1255)
  exact law_end l C0 hS (lv_sub hl [0, 3] rfl)
set_option maxHeartbeats 4000000 in
set_option maxRecDepth 100000 in
theorem law_28 {p : Program} {e : Env} {s : State} {m : MethodId} {below : List Frame} {meth : Method} {c : Code} (l : Launch) {b : Nat} {xs : Nat → Int32} (G : gW) (C0 : lw_At p s m meth c b 10 xs) (hG : kG G s) {x mo : Nat} {g h : Nat → Nat} {H : Heap} {locs : List Loc} {ls : Array Slot} (hP : va_P G.1 vwCl (lwW G x g mo h) H) (hD : va_D (fun q : Nat => s.heap.size ≤ q) (lwW G x g mo h)) (hS : va_S (fun q : Nat => s.heap.size ≤ q) s.heap H locs) (hl : lv_has ls 4 [(0, .ref b), (1, .ref x), (2, .ref mo), (3, .int 0)]) : W p l e room_1 s m #[Value.ref b] below meth c H locs 333 19609 (lw_Z below #[Value.ref b] s) (F0 m 1260 ls []) := by
  obtain ⟨hx, hb, hr, hml, hown, hts0, hX, hbl, hlocks, hgv⟩ := id C0
  have hts : ∀ w ∈ TT, w.before #[Value.ref b] s = true := fun w h => hts0 w (List.mem_filter.mp h).1
  have hA : ∀ q : Nat, s.heap.size ≤ q → (fun q : Nat => s.heap.size ≤ q) q := fun _ h => h
  have hbA : ¬ (fun q : Nat => s.heap.size ≤ q) b := Nat.not_le.mpr hbl
  have hD := hD.sub (ws' := [(x, eO 9 [.ref (g 0), .ref (g 1), .ref (g 2), .ref (g 3), .ref (g 4), .ref (g 5), .ref (g 6)]), (g 1, eO 0 [.ref (g 101), .ref (g 103), .ref (g 105), .ref (g 107), .ref (g 109), .ref (g 111), .ref (g 174), .int 5, .int 20]), (g 0, eO 1 [.ref (g 1), .ref (g 12), .ref (g 13), .ref (g 14), .int 0]), (g 109, eO 5 [.int 10, .int 70, .ref (g 110), .int 0]), (g 105, eO 5 [.int 4, .int 3, .ref (g 106), .int 0]), (g 101, eO 5 [.int 30, .int 4, .ref (g 102), .int 0]), (g 107, eO 5 [.int 20, .int 3, .ref (g 108), .int 0]), (mo, eO 10 [.ref (h 0), .ref (h 1), .ref (h 2), .long 0, .long 1, .int 0, .ref (h 3), .ref (h 4), .int 0, .ref (h 5), .ref (h 6), .int 0, .int 0, .int 0, .int 0, .ref (h 7), .ref (h 8), .ref (h 9), .ref (h 10), .ref (h 11), .ref (h 12), .ref (h 13), .ref (h 14), .ref (h 15), .ref (h 16)]), (h 0, eI G 2246 st0)]) [0, 2, 1, 11, 7, 3, 9, 269, 270] (by decide) rfl
  have hP := hP.sub (ws' := [(x, eO 9 [.ref (g 0), .ref (g 1), .ref (g 2), .ref (g 3), .ref (g 4), .ref (g 5), .ref (g 6)]), (g 1, eO 0 [.ref (g 101), .ref (g 103), .ref (g 105), .ref (g 107), .ref (g 109), .ref (g 111), .ref (g 174), .int 5, .int 20]), (g 0, eO 1 [.ref (g 1), .ref (g 12), .ref (g 13), .ref (g 14), .int 0]), (g 109, eO 5 [.int 10, .int 70, .ref (g 110), .int 0]), (g 105, eO 5 [.int 4, .int 3, .ref (g 106), .int 0]), (g 101, eO 5 [.int 30, .int 4, .ref (g 102), .int 0]), (g 107, eO 5 [.int 20, .int 3, .ref (g 108), .int 0]), (mo, eO 10 [.ref (h 0), .ref (h 1), .ref (h 2), .long 0, .long 1, .int 0, .ref (h 3), .ref (h 4), .int 0, .ref (h 5), .ref (h 6), .int 0, .int 0, .int 0, .int 0, .ref (h 7), .ref (h 8), .ref (h 9), .ref (h 10), .ref (h 11), .ref (h 12), .ref (h 13), .ref (h 14), .ref (h 15), .ref (h 16)]), (h 0, eI G 2246 st0)]) [0, 2, 1, 11, 7, 3, 9, 269, 270] rfl
  refine lv_aload_n hx hb dL_law_1260 rfl (lv_at hl 1 rfl) ?_
  refine lv_aload_n hx hb dL_law_1261 rfl (lv_at hl 0 rfl) ?_
  refine lv_iload_n hx hb dL_law_1262 rfl (lv_at hl 3 rfl) ?_
  refine lv_iconst (v := 1) hx hb dL_law_1263 (by decide) ?_
  refine lv_iadd hx hb dL_law_1264 ?_
  refine my_bei (v := 1) (by decide) ?_
  refine va_sld hx hb hX hbl hbA hS (by unfold vp_in; decide) dL_law_1265 ?_
  refine my_bei (v := xs 1) rfl ?_
  refine lv_aload_n hx hb dL_law_1266 rfl (lv_at hl 0 rfl) ?_
  refine lv_iload_n hx hb dL_law_1267 rfl (lv_at hl 3 rfl) ?_
  refine lv_iconst (v := 2) hx hb dL_law_1268 (by decide) ?_
  refine lv_iadd hx hb dL_law_1269 ?_
  refine my_bei (v := 2) (by decide) ?_
  refine va_sld hx hb hX hbl hbA hS (by unfold vp_in; decide) dL_law_1270 ?_
  refine my_bei (v := xs 2) rfl ?_
  have hPc := hP.sub (ws' := [(x, eO 9 [.ref (g 0), .ref (g 1), .ref (g 2), .ref (g 3), .ref (g 4), .ref (g 5), .ref (g 6)]), (g 1, eO 0 [.ref (g 101), .ref (g 103), .ref (g 105), .ref (g 107), .ref (g 109), .ref (g 111), .ref (g 174), .int 5, .int 20]), (g 0, eO 1 [.ref (g 1), .ref (g 12), .ref (g 13), .ref (g 14), .int 0]), (g 109, eO 5 [.int 10, .int 70, .ref (g 110), .int 0]), (g 105, eO 5 [.int 4, .int 3, .ref (g 106), .int 0]), (g 101, eO 5 [.int 30, .int 4, .ref (g 102), .int 0]), (g 107, eO 5 [.int 20, .int 3, .ref (g 108), .int 0])]) [0, 1, 2, 3, 4, 5, 6] rfl
  have hDc := hD.sub (ws' := [(x, eO 9 [.ref (g 0), .ref (g 1), .ref (g 2), .ref (g 3), .ref (g 4), .ref (g 5), .ref (g 6)]), (g 1, eO 0 [.ref (g 101), .ref (g 103), .ref (g 105), .ref (g 107), .ref (g 109), .ref (g 111), .ref (g 174), .int 5, .int 20]), (g 0, eO 1 [.ref (g 1), .ref (g 12), .ref (g 13), .ref (g 14), .int 0]), (g 109, eO 5 [.int 10, .int 70, .ref (g 110), .int 0]), (g 105, eO 5 [.int 4, .int 3, .ref (g 106), .int 0]), (g 101, eO 5 [.int 30, .int 4, .ref (g 102), .int 0]), (g 107, eO 5 [.int 20, .int 3, .ref (g 108), .int 0])]) [0, 1, 2, 3, 4, 5, 6] (by decide) rfl
  have hFc := va_free (wc := [(x, eO 9 [.ref (g 0), .ref (g 1), .ref (g 2), .ref (g 3), .ref (g 4), .ref (g 5), .ref (g 6)]), (g 1, eO 0 [.ref (g 101), .ref (g 103), .ref (g 105), .ref (g 107), .ref (g 109), .ref (g 111), .ref (g 174), .int 5, .int 20]), (g 0, eO 1 [.ref (g 1), .ref (g 12), .ref (g 13), .ref (g 14), .int 0]), (g 109, eO 5 [.int 10, .int 70, .ref (g 110), .int 0]), (g 105, eO 5 [.int 4, .int 3, .ref (g 106), .int 0]), (g 101, eO 5 [.int 30, .int 4, .ref (g 102), .int 0]), (g 107, eO 5 [.int 20, .int 3, .ref (g 108), .int 0])]) hD hS hA [0, 1, 2, 3, 4, 5, 6] rfl
  refine va_calli (va_runV (As := [.int (xs 1), .int (xs 2)]) (rest := []) ⟨hx, hb, hml, hown, hts⟩ (p_turn l G H.size x (g 0) (g 1) (g 2) (g 3) (g 4) (g 5) (g 6) (g 101) (g 103) (g 105) (g 107) (g 109) (g 111) (g 174) (g 12) (g 13) (g 14) (g 110) (g 106) (g 102) (g 108) (xs 1) (xs 2) ) (my_cwV hts ok_X10_turn w_871 rfl rfl ⟨Nat.le_of_ble_eq_true rfl, Nat.le_of_ble_eq_true rfl⟩) ⟨wP.blind, va_recv hG.1 hPc (ci := 9) (q0 := 0) rfl rfl, fun U hU hW => ⟨rfl, by rw [hU], by rw [hU]; exact hPc, kG.warm hW hG, hDc.weaken (fun _ _ _ _ => trivial)⟩⟩ rfl rfl hl.1 rfl (lv_room (Nat.le_of_ble_eq_true rfl)) dL_law_1271 ⟨Nat.le_of_ble_eq_true rfl, Nat.le_of_ble_eq_true rfl⟩) hS (fun q _ h => hFc q h) hFc (fun r u t H1 locs ht hvm hw hB hz1 hk1 hS => ?_)
  obtain ⟨hP, hD⟩ := va_join (wr := [(mo, eO 10 [.ref (h 0), .ref (h 1), .ref (h 2), .long 0, .long 1, .int 0, .ref (h 3), .ref (h 4), .int 0, .ref (h 5), .ref (h 6), .int 0, .int 0, .int 0, .int 0, .ref (h 7), .ref (h 8), .ref (h 9), .ref (h 10), .ref (h 11), .ref (h 12), .ref (h 13), .ref (h 14), .ref (h 15), .ref (h 16)]), (h 0, eI G 2246 st0)]) (w1 := []) hP hD [0, 1, 2, 3, 4, 5, 6] [7, 8] rfl rfl (by decide) (by decide) hk1 hFc my_P0 my_D0
  generalize H1 = H at hP hS ⊢
  have hP : va_P G.1 vwCl [(mo, eO 10 [.ref (h 0), .ref (h 1), .ref (h 2), .long 0, .long 1, .int 0, .ref (h 3), .ref (h 4), .int 0, .ref (h 5), .ref (h 6), .int 0, .int 0, .int 0, .int 0, .ref (h 7), .ref (h 8), .ref (h 9), .ref (h 10), .ref (h 11), .ref (h 12), .ref (h 13), .ref (h 14), .ref (h 15), .ref (h 16)]), (h 0, eI G 2246 st0)] H := hP
  have hD : va_D (fun q : Nat => s.heap.size ≤ q) [(mo, eO 10 [.ref (h 0), .ref (h 1), .ref (h 2), .long 0, .long 1, .int 0, .ref (h 3), .ref (h 4), .int 0, .ref (h 5), .ref (h 6), .int 0, .int 0, .int 0, .int 0, .ref (h 7), .ref (h 8), .ref (h 9), .ref (h 10), .ref (h 11), .ref (h 12), .ref (h 13), .ref (h 14), .ref (h 15), .ref (h 16)]), (h 0, eI G 2246 st0)] := hD
  subst hw
  refine lv_aload_n hx hb dL_law_1274 rfl (lv_at hl 2 rfl) ?_
  refine lv_aload_n hx hb dL_law_1275 rfl (lv_at hl 0 rfl) ?_
  refine lv_iload_n hx hb dL_law_1276 rfl (lv_at hl 3 rfl) ?_
  refine lv_iconst (v := 1) hx hb dL_law_1277 (by decide) ?_
  refine lv_iadd hx hb dL_law_1278 ?_
  refine my_bei (v := 1) (by decide) ?_
  refine va_sld hx hb hX hbl hbA hS (by unfold vp_in; decide) dL_law_1279 ?_
  refine my_bei (v := xs 1) rfl ?_
  refine lv_aload_n hx hb dL_law_1280 rfl (lv_at hl 0 rfl) ?_
  refine lv_iload_n hx hb dL_law_1281 rfl (lv_at hl 3 rfl) ?_
  refine lv_iconst (v := 2) hx hb dL_law_1282 (by decide) ?_
  refine lv_iadd hx hb dL_law_1283 ?_
  refine my_bei (v := 2) (by decide) ?_
  refine va_sld hx hb hX hbl hbA hS (by unfold vp_in; decide) dL_law_1284 ?_
  refine my_bei (v := xs 2) rfl ?_
  have hPc := hP.sub (ws' := [(mo, eO 10 [.ref (h 0), .ref (h 1), .ref (h 2), .long 0, .long 1, .int 0, .ref (h 3), .ref (h 4), .int 0, .ref (h 5), .ref (h 6), .int 0, .int 0, .int 0, .int 0, .ref (h 7), .ref (h 8), .ref (h 9), .ref (h 10), .ref (h 11), .ref (h 12), .ref (h 13), .ref (h 14), .ref (h 15), .ref (h 16)]), (h 0, eI G 2246 st0)]) [0, 1] rfl
  have hDc := hD.sub (ws' := [(mo, eO 10 [.ref (h 0), .ref (h 1), .ref (h 2), .long 0, .long 1, .int 0, .ref (h 3), .ref (h 4), .int 0, .ref (h 5), .ref (h 6), .int 0, .int 0, .int 0, .int 0, .ref (h 7), .ref (h 8), .ref (h 9), .ref (h 10), .ref (h 11), .ref (h 12), .ref (h 13), .ref (h 14), .ref (h 15), .ref (h 16)]), (h 0, eI G 2246 st0)]) [0, 1] (by decide) rfl
  have hFc := va_free (wc := [(mo, eO 10 [.ref (h 0), .ref (h 1), .ref (h 2), .long 0, .long 1, .int 0, .ref (h 3), .ref (h 4), .int 0, .ref (h 5), .ref (h 6), .int 0, .int 0, .int 0, .int 0, .ref (h 7), .ref (h 8), .ref (h 9), .ref (h 10), .ref (h 11), .ref (h 12), .ref (h 13), .ref (h 14), .ref (h 15), .ref (h 16)]), (h 0, eI G 2246 st0)]) hD hS hA [0, 1] rfl
  refine va_calli (va_runV (As := [.int (xs 1), .int (xs 2)]) (rest := [.int (if (inB 0 (xs 1) 3 = true) ∧ (inB 0 (xs 2) 9999 = true) then (-1) else (-2))]) ⟨hx, hb, hml, hown, hts⟩ (m_turn l G H.size mo (h 0) (h 1) (h 2) (h 3) (h 4) (h 5) (h 6) (h 7) (h 8) (h 9) (h 10) (h 11) (h 12) (h 13) (h 14) (h 15) (h 16) (xs 1) (xs 2) ) (my_cwV hts ok_X11_turn w_886 rfl rfl ⟨Nat.le_of_ble_eq_true rfl, Nat.le_of_ble_eq_true rfl⟩) ⟨wP.blind, va_recv hG.1 hPc (ci := 10) (q0 := 0) rfl rfl, fun U hU hW => ⟨rfl, by rw [hU], by rw [hU]; exact hPc, kG.warm hW hG, hDc.weaken (fun _ _ _ _ => trivial)⟩⟩ rfl rfl hl.1 rfl (lv_room (Nat.le_of_ble_eq_true rfl)) dL_law_1285 ⟨Nat.le_of_ble_eq_true rfl, Nat.le_of_ble_eq_true rfl⟩) hS (fun q _ h => hFc q h) hFc (fun r u t H1 locs ht hvm hw hB hz1 hk1 hS => ?_)
  obtain ⟨hP, hD⟩ := va_join (wr := []) (w1 := []) hP hD [0, 1] [] rfl rfl (by decide) (by decide) hk1 hFc my_P0 my_D0
  generalize H1 = H at hP hS ⊢
  have hP : va_P G.1 vwCl [] H := hP
  have hD : va_D (fun q : Nat => s.heap.size ≤ q) [] := hD
  subst hw
  refine lv_icmp_eq (tgt := 1376) hx hb dL_law_1288 (by decide) (fun c_1288 => ?_) (fun c_1288 => absurd (rfl) c_1288)
  exact law_end l C0 hS (lv_sub hl [0, 3] rfl)

set_option maxHeartbeats 4000000 in
set_option maxRecDepth 100000 in
theorem law_0 {p : Program} {e : Env} {s : State} {m : MethodId} {below : List Frame} {meth : Method} {c : Code} (l : Launch) {b : Nat} {xs : Nat → Int32} (G : gW) (C0 : lw_At p s m meth c b 10 xs) (hG : kG G s) {x mo : Nat} {g h : Nat → Nat} {H : Heap} {locs : List Loc} {ls : Array Slot} (hP : va_P G.1 vwCl (lwW G x g mo h) H) (hD : va_D (fun q : Nat => s.heap.size ≤ q) (lwW G x g mo h)) (hS : va_S (fun q : Nat => s.heap.size ≤ q) s.heap H locs) (hl : lv_has ls 4 [(0, .ref b), (1, .ref x), (2, .ref mo), (3, .int 0)]) : W p l e room_1 s m #[Value.ref b] below meth c H locs 333 19609 (lw_Z below #[Value.ref b] s) (F0 m 180 ls []) := by
  obtain ⟨hx, hb, hr, hml, hown, hts0, hX, hbl, hlocks, hgv⟩ := id C0
  have hts : ∀ w ∈ TT, w.before #[Value.ref b] s = true := fun w h => hts0 w (List.mem_filter.mp h).1
  have hA : ∀ q : Nat, s.heap.size ≤ q → (fun q : Nat => s.heap.size ≤ q) q := fun _ h => h
  have hbA : ¬ (fun q : Nat => s.heap.size ≤ q) b := Nat.not_le.mpr hbl
  have hD := hD.sub (ws' := [(x, eO 9 [.ref (g 0), .ref (g 1), .ref (g 2), .ref (g 3), .ref (g 4), .ref (g 5), .ref (g 6)]), (g 1, eO 0 [.ref (g 101), .ref (g 103), .ref (g 105), .ref (g 107), .ref (g 109), .ref (g 111), .ref (g 174), .int 5, .int 20]), (g 101, eO 5 [.int 30, .int 4, .ref (g 102), .int 0]), (g 102, eI G 120 (fun _ => 0)), (g 0, eO 1 [.ref (g 1), .ref (g 12), .ref (g 13), .ref (g 14), .int 0]), (mo, eO 10 [.ref (h 0), .ref (h 1), .ref (h 2), .long 0, .long 1, .int 0, .ref (h 3), .ref (h 4), .int 0, .ref (h 5), .ref (h 6), .int 0, .int 0, .int 0, .int 0, .ref (h 7), .ref (h 8), .ref (h 9), .ref (h 10), .ref (h 11), .ref (h 12), .ref (h 13), .ref (h 14), .ref (h 15), .ref (h 16)]), (h 0, eI G 2246 st0)]) [0, 2, 3, 4, 1, 269, 270] (by decide) rfl
  have hP := hP.sub (ws' := [(x, eO 9 [.ref (g 0), .ref (g 1), .ref (g 2), .ref (g 3), .ref (g 4), .ref (g 5), .ref (g 6)]), (g 1, eO 0 [.ref (g 101), .ref (g 103), .ref (g 105), .ref (g 107), .ref (g 109), .ref (g 111), .ref (g 174), .int 5, .int 20]), (g 101, eO 5 [.int 30, .int 4, .ref (g 102), .int 0]), (g 102, eI G 120 (fun _ => 0)), (g 0, eO 1 [.ref (g 1), .ref (g 12), .ref (g 13), .ref (g 14), .int 0]), (mo, eO 10 [.ref (h 0), .ref (h 1), .ref (h 2), .long 0, .long 1, .int 0, .ref (h 3), .ref (h 4), .int 0, .ref (h 5), .ref (h 6), .int 0, .int 0, .int 0, .int 0, .ref (h 7), .ref (h 8), .ref (h 9), .ref (h 10), .ref (h 11), .ref (h 12), .ref (h 13), .ref (h 14), .ref (h 15), .ref (h 16)]), (h 0, eI G 2246 st0)]) [0, 2, 3, 4, 1, 269, 270] rfl
  refine lv_aload_n hx hb dL_law_180 rfl (lv_at hl 1 rfl) ?_
  refine lv_aload_n hx hb dL_law_181 rfl (lv_at hl 0 rfl) ?_
  refine lv_iload_n hx hb dL_law_182 rfl (lv_at hl 3 rfl) ?_
  refine lv_iconst (v := 1) hx hb dL_law_183 (by decide) ?_
  refine lv_iadd hx hb dL_law_184 ?_
  refine my_bei (v := 1) (by decide) ?_
  refine va_sld hx hb hX hbl hbA hS (by unfold vp_in; decide) dL_law_185 ?_
  refine my_bei (v := xs 1) rfl ?_
  refine lv_aload_n hx hb dL_law_186 rfl (lv_at hl 0 rfl) ?_
  refine lv_iload_n hx hb dL_law_187 rfl (lv_at hl 3 rfl) ?_
  refine lv_iconst (v := 2) hx hb dL_law_188 (by decide) ?_
  refine lv_iadd hx hb dL_law_189 ?_
  refine my_bei (v := 2) (by decide) ?_
  refine va_sld hx hb hX hbl hbA hS (by unfold vp_in; decide) dL_law_190 ?_
  refine my_bei (v := xs 2) rfl ?_
  refine lv_aload_n hx hb dL_law_191 rfl (lv_at hl 0 rfl) ?_
  refine lv_iload_n hx hb dL_law_192 rfl (lv_at hl 3 rfl) ?_
  refine lv_iconst (v := 3) hx hb dL_law_193 (by decide) ?_
  refine lv_iadd hx hb dL_law_194 ?_
  refine my_bei (v := 3) (by decide) ?_
  refine va_sld hx hb hX hbl hbA hS (by unfold vp_in; decide) dL_law_195 ?_
  refine my_bei (v := xs 3) rfl ?_
  refine lv_aload_n hx hb dL_law_196 rfl (lv_at hl 0 rfl) ?_
  refine lv_iload_n hx hb dL_law_197 rfl (lv_at hl 3 rfl) ?_
  refine lv_iconst (v := 4) hx hb dL_law_198 (by decide) ?_
  refine lv_iadd hx hb dL_law_199 ?_
  refine my_bei (v := 4) (by decide) ?_
  refine va_sld hx hb hX hbl hbA hS (by unfold vp_in; decide) dL_law_200 ?_
  refine my_bei (v := xs 4) rfl ?_
  have hPc := hP.sub (ws' := [(x, eO 9 [.ref (g 0), .ref (g 1), .ref (g 2), .ref (g 3), .ref (g 4), .ref (g 5), .ref (g 6)]), (g 1, eO 0 [.ref (g 101), .ref (g 103), .ref (g 105), .ref (g 107), .ref (g 109), .ref (g 111), .ref (g 174), .int 5, .int 20]), (g 101, eO 5 [.int 30, .int 4, .ref (g 102), .int 0]), (g 102, eI G 120 (fun _ => 0)), (g 0, eO 1 [.ref (g 1), .ref (g 12), .ref (g 13), .ref (g 14), .int 0])]) [0, 1, 2, 3, 4] rfl
  have hDc := hD.sub (ws' := [(x, eO 9 [.ref (g 0), .ref (g 1), .ref (g 2), .ref (g 3), .ref (g 4), .ref (g 5), .ref (g 6)]), (g 1, eO 0 [.ref (g 101), .ref (g 103), .ref (g 105), .ref (g 107), .ref (g 109), .ref (g 111), .ref (g 174), .int 5, .int 20]), (g 101, eO 5 [.int 30, .int 4, .ref (g 102), .int 0]), (g 102, eI G 120 (fun _ => 0)), (g 0, eO 1 [.ref (g 1), .ref (g 12), .ref (g 13), .ref (g 14), .int 0])]) [0, 1, 2, 3, 4] (by decide) rfl
  have hFc := va_free (wc := [(x, eO 9 [.ref (g 0), .ref (g 1), .ref (g 2), .ref (g 3), .ref (g 4), .ref (g 5), .ref (g 6)]), (g 1, eO 0 [.ref (g 101), .ref (g 103), .ref (g 105), .ref (g 107), .ref (g 109), .ref (g 111), .ref (g 174), .int 5, .int 20]), (g 101, eO 5 [.int 30, .int 4, .ref (g 102), .int 0]), (g 102, eI G 120 (fun _ => 0)), (g 0, eO 1 [.ref (g 1), .ref (g 12), .ref (g 13), .ref (g 14), .int 0])]) hD hS hA [0, 1, 2, 3, 4] rfl
  refine va_calli (va_runV (As := [.int (xs 1), .int (xs 2), .int (xs 3), .int (xs 4)]) (rest := []) ⟨hx, hb, hml, hown, hts⟩ (p_person l G H.size x (g 0) (g 1) (g 2) (g 3) (g 4) (g 5) (g 6) (g 101) (g 103) (g 105) (g 107) (g 109) (g 111) (g 174) (g 102) (g 12) (g 13) (g 14) (xs 1) (xs 2) (xs 3) (xs 4) ) (my_cwV hts ok_X10_person w_130 rfl rfl ⟨Nat.le_of_ble_eq_true rfl, Nat.le_of_ble_eq_true rfl⟩) ⟨wP.blind, va_recv hG.1 hPc (ci := 9) (q0 := 0) rfl rfl, fun U hU hW => ⟨rfl, by rw [hU], by rw [hU]; exact hPc, kG.warm hW hG, hDc.weaken (fun _ _ _ _ => trivial)⟩⟩ rfl rfl hl.1 rfl (lv_room (Nat.le_of_ble_eq_true rfl)) dL_law_201 ⟨Nat.le_of_ble_eq_true rfl, Nat.le_of_ble_eq_true rfl⟩) hS (fun q _ h => hFc q h) hFc (fun r u t H1 locs ht hvm hw hB hz1 hk1 hS => ?_)
  obtain ⟨hP, hD⟩ := va_join (wr := [(mo, eO 10 [.ref (h 0), .ref (h 1), .ref (h 2), .long 0, .long 1, .int 0, .ref (h 3), .ref (h 4), .int 0, .ref (h 5), .ref (h 6), .int 0, .int 0, .int 0, .int 0, .ref (h 7), .ref (h 8), .ref (h 9), .ref (h 10), .ref (h 11), .ref (h 12), .ref (h 13), .ref (h 14), .ref (h 15), .ref (h 16)]), (h 0, eI G 2246 st0)]) (w1 := []) hP hD [0, 1, 2, 3, 4] [5, 6] rfl rfl (by decide) (by decide) hk1 hFc my_P0 my_D0
  generalize H1 = H at hP hS ⊢
  have hP : va_P G.1 vwCl [(mo, eO 10 [.ref (h 0), .ref (h 1), .ref (h 2), .long 0, .long 1, .int 0, .ref (h 3), .ref (h 4), .int 0, .ref (h 5), .ref (h 6), .int 0, .int 0, .int 0, .int 0, .ref (h 7), .ref (h 8), .ref (h 9), .ref (h 10), .ref (h 11), .ref (h 12), .ref (h 13), .ref (h 14), .ref (h 15), .ref (h 16)]), (h 0, eI G 2246 st0)] H := hP
  have hD : va_D (fun q : Nat => s.heap.size ≤ q) [(mo, eO 10 [.ref (h 0), .ref (h 1), .ref (h 2), .long 0, .long 1, .int 0, .ref (h 3), .ref (h 4), .int 0, .ref (h 5), .ref (h 6), .int 0, .int 0, .int 0, .int 0, .ref (h 7), .ref (h 8), .ref (h 9), .ref (h 10), .ref (h 11), .ref (h 12), .ref (h 13), .ref (h 14), .ref (h 15), .ref (h 16)]), (h 0, eI G 2246 st0)] := hD
  subst hw
  refine lv_aload_n hx hb dL_law_204 rfl (lv_at hl 2 rfl) ?_
  refine lv_aload_n hx hb dL_law_205 rfl (lv_at hl 0 rfl) ?_
  refine lv_iload_n hx hb dL_law_206 rfl (lv_at hl 3 rfl) ?_
  refine lv_iconst (v := 1) hx hb dL_law_207 (by decide) ?_
  refine lv_iadd hx hb dL_law_208 ?_
  refine my_bei (v := 1) (by decide) ?_
  refine va_sld hx hb hX hbl hbA hS (by unfold vp_in; decide) dL_law_209 ?_
  refine my_bei (v := xs 1) rfl ?_
  refine lv_aload_n hx hb dL_law_210 rfl (lv_at hl 0 rfl) ?_
  refine lv_iload_n hx hb dL_law_211 rfl (lv_at hl 3 rfl) ?_
  refine lv_iconst (v := 2) hx hb dL_law_212 (by decide) ?_
  refine lv_iadd hx hb dL_law_213 ?_
  refine my_bei (v := 2) (by decide) ?_
  refine va_sld hx hb hX hbl hbA hS (by unfold vp_in; decide) dL_law_214 ?_
  refine my_bei (v := xs 2) rfl ?_
  refine lv_aload_n hx hb dL_law_215 rfl (lv_at hl 0 rfl) ?_
  refine lv_iload_n hx hb dL_law_216 rfl (lv_at hl 3 rfl) ?_
  refine lv_iconst (v := 3) hx hb dL_law_217 (by decide) ?_
  refine lv_iadd hx hb dL_law_218 ?_
  refine my_bei (v := 3) (by decide) ?_
  refine va_sld hx hb hX hbl hbA hS (by unfold vp_in; decide) dL_law_219 ?_
  refine my_bei (v := xs 3) rfl ?_
  refine lv_aload_n hx hb dL_law_220 rfl (lv_at hl 0 rfl) ?_
  refine lv_iload_n hx hb dL_law_221 rfl (lv_at hl 3 rfl) ?_
  refine lv_iconst (v := 4) hx hb dL_law_222 (by decide) ?_
  refine lv_iadd hx hb dL_law_223 ?_
  refine my_bei (v := 4) (by decide) ?_
  refine va_sld hx hb hX hbl hbA hS (by unfold vp_in; decide) dL_law_224 ?_
  refine my_bei (v := xs 4) rfl ?_
  have hPc := hP.sub (ws' := [(mo, eO 10 [.ref (h 0), .ref (h 1), .ref (h 2), .long 0, .long 1, .int 0, .ref (h 3), .ref (h 4), .int 0, .ref (h 5), .ref (h 6), .int 0, .int 0, .int 0, .int 0, .ref (h 7), .ref (h 8), .ref (h 9), .ref (h 10), .ref (h 11), .ref (h 12), .ref (h 13), .ref (h 14), .ref (h 15), .ref (h 16)]), (h 0, eI G 2246 st0)]) [0, 1] rfl
  have hDc := hD.sub (ws' := [(mo, eO 10 [.ref (h 0), .ref (h 1), .ref (h 2), .long 0, .long 1, .int 0, .ref (h 3), .ref (h 4), .int 0, .ref (h 5), .ref (h 6), .int 0, .int 0, .int 0, .int 0, .ref (h 7), .ref (h 8), .ref (h 9), .ref (h 10), .ref (h 11), .ref (h 12), .ref (h 13), .ref (h 14), .ref (h 15), .ref (h 16)]), (h 0, eI G 2246 st0)]) [0, 1] (by decide) rfl
  have hFc := va_free (wc := [(mo, eO 10 [.ref (h 0), .ref (h 1), .ref (h 2), .long 0, .long 1, .int 0, .ref (h 3), .ref (h 4), .int 0, .ref (h 5), .ref (h 6), .int 0, .int 0, .int 0, .int 0, .ref (h 7), .ref (h 8), .ref (h 9), .ref (h 10), .ref (h 11), .ref (h 12), .ref (h 13), .ref (h 14), .ref (h 15), .ref (h 16)]), (h 0, eI G 2246 st0)]) hD hS hA [0, 1] rfl
  refine va_calli (va_runV (As := [.int (xs 1), .int (xs 2), .int (xs 3), .int (xs 4)]) (rest := [.int (if (inB 0 (xs 1) 3 = true) ∧ (inB 0 (xs 2) 3 = true) ∧ (inB 0 (xs 3) 1000 = true) ∧ (inB 0 (xs 4) 99 = true) then 0 else (-2))]) ⟨hx, hb, hml, hown, hts⟩ (m_person l G H.size mo (h 0) (h 1) (h 2) (h 3) (h 4) (h 5) (h 6) (h 7) (h 8) (h 9) (h 10) (h 11) (h 12) (h 13) (h 14) (h 15) (h 16) (xs 1) (xs 2) (xs 3) (xs 4) ) (my_cwV hts ok_X11_person w_155 rfl rfl ⟨Nat.le_of_ble_eq_true rfl, Nat.le_of_ble_eq_true rfl⟩) ⟨wP.blind, va_recv hG.1 hPc (ci := 10) (q0 := 0) rfl rfl, fun U hU hW => ⟨rfl, by rw [hU], by rw [hU]; exact hPc, kG.warm hW hG, hDc.weaken (fun _ _ _ _ => trivial)⟩⟩ rfl rfl hl.1 rfl (lv_room (Nat.le_of_ble_eq_true rfl)) dL_law_225 ⟨Nat.le_of_ble_eq_true rfl, Nat.le_of_ble_eq_true rfl⟩) hS (fun q _ h => hFc q h) hFc (fun r u t H1 locs ht hvm hw hB hz1 hk1 hS => ?_)
  obtain ⟨hP, hD⟩ := va_join (wr := []) (w1 := []) hP hD [0, 1] [] rfl rfl (by decide) (by decide) hk1 hFc my_P0 my_D0
  generalize H1 = H at hP hS ⊢
  have hP : va_P G.1 vwCl [] H := hP
  have hD : va_D (fun q : Nat => s.heap.size ≤ q) [] := hD
  subst hw
  refine lv_icmp_eq (tgt := 1376) hx hb dL_law_228 (by decide) (fun c_228 => ?_) (fun c_228 => absurd (rfl) c_228)
  exact law_end l C0 hS (lv_sub hl [0, 3] rfl)
set_option maxHeartbeats 4000000 in
set_option maxRecDepth 100000 in
theorem law_1 {p : Program} {e : Env} {s : State} {m : MethodId} {below : List Frame} {meth : Method} {c : Code} (l : Launch) {b : Nat} {xs : Nat → Int32} (G : gW) (C0 : lw_At p s m meth c b 10 xs) (hG : kG G s) {x mo : Nat} {g h : Nat → Nat} {H : Heap} {locs : List Loc} {ls : Array Slot} (hP : va_P G.1 vwCl (lwW G x g mo h) H) (hD : va_D (fun q : Nat => s.heap.size ≤ q) (lwW G x g mo h)) (hS : va_S (fun q : Nat => s.heap.size ≤ q) s.heap H locs) (hl : lv_has ls 4 [(0, .ref b), (1, .ref x), (2, .ref mo), (3, .int 0)]) : W p l e room_1 s m #[Value.ref b] below meth c H locs 333 19609 (lw_Z below #[Value.ref b] s) (F0 m 233 ls []) := by
  obtain ⟨hx, hb, hr, hml, hown, hts0, hX, hbl, hlocks, hgv⟩ := id C0
  have hts : ∀ w ∈ TT, w.before #[Value.ref b] s = true := fun w h => hts0 w (List.mem_filter.mp h).1
  have hA : ∀ q : Nat, s.heap.size ≤ q → (fun q : Nat => s.heap.size ≤ q) q := fun _ h => h
  have hbA : ¬ (fun q : Nat => s.heap.size ≤ q) b := Nat.not_le.mpr hbl
  have hD := hD.sub (ws' := [(x, eO 9 [.ref (g 0), .ref (g 1), .ref (g 2), .ref (g 3), .ref (g 4), .ref (g 5), .ref (g 6)]), (g 1, eO 0 [.ref (g 101), .ref (g 103), .ref (g 105), .ref (g 107), .ref (g 109), .ref (g 111), .ref (g 174), .int 5, .int 20]), (g 101, eO 5 [.int 30, .int 4, .ref (g 102), .int 0]), (mo, eO 10 [.ref (h 0), .ref (h 1), .ref (h 2), .long 0, .long 1, .int 0, .ref (h 3), .ref (h 4), .int 0, .ref (h 5), .ref (h 6), .int 0, .int 0, .int 0, .int 0, .ref (h 7), .ref (h 8), .ref (h 9), .ref (h 10), .ref (h 11), .ref (h 12), .ref (h 13), .ref (h 14), .ref (h 15), .ref (h 16)]), (h 0, eI G 2246 st0)]) [0, 2, 3, 269, 270] (by decide) rfl
  have hP := hP.sub (ws' := [(x, eO 9 [.ref (g 0), .ref (g 1), .ref (g 2), .ref (g 3), .ref (g 4), .ref (g 5), .ref (g 6)]), (g 1, eO 0 [.ref (g 101), .ref (g 103), .ref (g 105), .ref (g 107), .ref (g 109), .ref (g 111), .ref (g 174), .int 5, .int 20]), (g 101, eO 5 [.int 30, .int 4, .ref (g 102), .int 0]), (mo, eO 10 [.ref (h 0), .ref (h 1), .ref (h 2), .long 0, .long 1, .int 0, .ref (h 3), .ref (h 4), .int 0, .ref (h 5), .ref (h 6), .int 0, .int 0, .int 0, .int 0, .ref (h 7), .ref (h 8), .ref (h 9), .ref (h 10), .ref (h 11), .ref (h 12), .ref (h 13), .ref (h 14), .ref (h 15), .ref (h 16)]), (h 0, eI G 2246 st0)]) [0, 2, 3, 269, 270] rfl
  refine lv_aload_n hx hb dL_law_233 rfl (lv_at hl 1 rfl) ?_
  refine lv_aload_n hx hb dL_law_234 rfl (lv_at hl 0 rfl) ?_
  refine lv_iload_n hx hb dL_law_235 rfl (lv_at hl 3 rfl) ?_
  refine lv_iconst (v := 1) hx hb dL_law_236 (by decide) ?_
  refine lv_iadd hx hb dL_law_237 ?_
  refine my_bei (v := 1) (by decide) ?_
  refine va_sld hx hb hX hbl hbA hS (by unfold vp_in; decide) dL_law_238 ?_
  refine my_bei (v := xs 1) rfl ?_
  refine lv_aload_n hx hb dL_law_239 rfl (lv_at hl 0 rfl) ?_
  refine lv_iload_n hx hb dL_law_240 rfl (lv_at hl 3 rfl) ?_
  refine lv_iconst (v := 2) hx hb dL_law_241 (by decide) ?_
  refine lv_iadd hx hb dL_law_242 ?_
  refine my_bei (v := 2) (by decide) ?_
  refine va_sld hx hb hX hbl hbA hS (by unfold vp_in; decide) dL_law_243 ?_
  refine my_bei (v := xs 2) rfl ?_
  refine lv_aload_n hx hb dL_law_244 rfl (lv_at hl 0 rfl) ?_
  refine lv_iload_n hx hb dL_law_245 rfl (lv_at hl 3 rfl) ?_
  refine lv_iconst (v := 3) hx hb dL_law_246 (by decide) ?_
  refine lv_iadd hx hb dL_law_247 ?_
  refine my_bei (v := 3) (by decide) ?_
  refine va_sld hx hb hX hbl hbA hS (by unfold vp_in; decide) dL_law_248 ?_
  refine my_bei (v := xs 3) rfl ?_
  have hPc := hP.sub (ws' := [(x, eO 9 [.ref (g 0), .ref (g 1), .ref (g 2), .ref (g 3), .ref (g 4), .ref (g 5), .ref (g 6)]), (g 1, eO 0 [.ref (g 101), .ref (g 103), .ref (g 105), .ref (g 107), .ref (g 109), .ref (g 111), .ref (g 174), .int 5, .int 20]), (g 101, eO 5 [.int 30, .int 4, .ref (g 102), .int 0])]) [0, 1, 2] rfl
  refine rd_calli (va_runV (As := [.int (xs 1), .int (xs 2), .int (xs 3)]) (rest := []) ⟨hx, hb, hml, hown, hts⟩ (p_kin l G x (g 0) (g 1) (g 2) (g 3) (g 4) (g 5) (g 6) (g 101) (g 103) (g 105) (g 107) (g 109) (g 111) (g 174) (g 102) (xs 1) (xs 2) (xs 3) ) (my_cwV hts ok_X10_kin w_170 rfl rfl ⟨Nat.le_of_ble_eq_true rfl, Nat.le_of_ble_eq_true rfl⟩) ⟨rP.blind, va_recv hG.1 hPc (ci := 9) (q0 := 0) rfl rfl, fun U hU hW => ⟨rfl, by rw [hU]; exact hPc, kG.warm hW hG⟩⟩ rfl rfl hl.1 rfl (lv_room (Nat.le_of_ble_eq_true rfl)) dL_law_249 ⟨Nat.le_of_ble_eq_true rfl, Nat.le_of_ble_eq_true rfl⟩) (fun r hr9 => ?_)
  subst hr9
  refine lv_aload_n hx hb dL_law_252 rfl (lv_at hl 2 rfl) ?_
  refine lv_aload_n hx hb dL_law_253 rfl (lv_at hl 0 rfl) ?_
  refine lv_iload_n hx hb dL_law_254 rfl (lv_at hl 3 rfl) ?_
  refine lv_iconst (v := 1) hx hb dL_law_255 (by decide) ?_
  refine lv_iadd hx hb dL_law_256 ?_
  refine my_bei (v := 1) (by decide) ?_
  refine va_sld hx hb hX hbl hbA hS (by unfold vp_in; decide) dL_law_257 ?_
  refine my_bei (v := xs 1) rfl ?_
  refine lv_aload_n hx hb dL_law_258 rfl (lv_at hl 0 rfl) ?_
  refine lv_iload_n hx hb dL_law_259 rfl (lv_at hl 3 rfl) ?_
  refine lv_iconst (v := 2) hx hb dL_law_260 (by decide) ?_
  refine lv_iadd hx hb dL_law_261 ?_
  refine my_bei (v := 2) (by decide) ?_
  refine va_sld hx hb hX hbl hbA hS (by unfold vp_in; decide) dL_law_262 ?_
  refine my_bei (v := xs 2) rfl ?_
  refine lv_aload_n hx hb dL_law_263 rfl (lv_at hl 0 rfl) ?_
  refine lv_iload_n hx hb dL_law_264 rfl (lv_at hl 3 rfl) ?_
  refine lv_iconst (v := 3) hx hb dL_law_265 (by decide) ?_
  refine lv_iadd hx hb dL_law_266 ?_
  refine my_bei (v := 3) (by decide) ?_
  refine va_sld hx hb hX hbl hbA hS (by unfold vp_in; decide) dL_law_267 ?_
  refine my_bei (v := xs 3) rfl ?_
  have hPc := hP.sub (ws' := [(mo, eO 10 [.ref (h 0), .ref (h 1), .ref (h 2), .long 0, .long 1, .int 0, .ref (h 3), .ref (h 4), .int 0, .ref (h 5), .ref (h 6), .int 0, .int 0, .int 0, .int 0, .ref (h 7), .ref (h 8), .ref (h 9), .ref (h 10), .ref (h 11), .ref (h 12), .ref (h 13), .ref (h 14), .ref (h 15), .ref (h 16)]), (h 0, eI G 2246 st0)]) [3, 4] rfl
  refine rd_calli (va_runV (As := [.int (xs 1), .int (xs 2), .int (xs 3)]) (rest := [.int (-2)]) ⟨hx, hb, hml, hown, hts⟩ (m_kin l G mo (h 0) (h 1) (h 2) (h 3) (h 4) (h 5) (h 6) (h 7) (h 8) (h 9) (h 10) (h 11) (h 12) (h 13) (h 14) (h 15) (h 16) (xs 1) (xs 2) (xs 3) ) (my_cwV hts ok_X11_kin w_181 rfl rfl ⟨Nat.le_of_ble_eq_true rfl, Nat.le_of_ble_eq_true rfl⟩) ⟨rP.blind, va_recv hG.1 hPc (ci := 10) (q0 := 0) rfl rfl, fun U hU hW => ⟨rfl, by rw [hU]; exact hPc, kG.warm hW hG⟩⟩ rfl rfl hl.1 rfl (lv_room (Nat.le_of_ble_eq_true rfl)) dL_law_268 ⟨Nat.le_of_ble_eq_true rfl, Nat.le_of_ble_eq_true rfl⟩) (fun r hr9 => ?_)
  subst hr9
  refine lv_icmp_eq (tgt := 1376) hx hb dL_law_271 (by decide) (fun c_271 => ?_) (fun c_271 => absurd (by decide) c_271)
  exact law_end l C0 hS (lv_sub hl [0, 3] rfl)
set_option maxHeartbeats 4000000 in
set_option maxRecDepth 100000 in
theorem law_2 {p : Program} {e : Env} {s : State} {m : MethodId} {below : List Frame} {meth : Method} {c : Code} (l : Launch) {b : Nat} {xs : Nat → Int32} (G : gW) (C0 : lw_At p s m meth c b 10 xs) (hG : kG G s) {x mo : Nat} {g h : Nat → Nat} {H : Heap} {locs : List Loc} {ls : Array Slot} (hP : va_P G.1 vwCl (lwW G x g mo h) H) (hD : va_D (fun q : Nat => s.heap.size ≤ q) (lwW G x g mo h)) (hS : va_S (fun q : Nat => s.heap.size ≤ q) s.heap H locs) (hl : lv_has ls 4 [(0, .ref b), (1, .ref x), (2, .ref mo), (3, .int 0)]) : W p l e room_1 s m #[Value.ref b] below meth c H locs 333 19609 (lw_Z below #[Value.ref b] s) (F0 m 276 ls []) := by
  obtain ⟨hx, hb, hr, hml, hown, hts0, hX, hbl, hlocks, hgv⟩ := id C0
  have hts : ∀ w ∈ TT, w.before #[Value.ref b] s = true := fun w h => hts0 w (List.mem_filter.mp h).1
  have hA : ∀ q : Nat, s.heap.size ≤ q → (fun q : Nat => s.heap.size ≤ q) q := fun _ h => h
  have hbA : ¬ (fun q : Nat => s.heap.size ≤ q) b := Nat.not_le.mpr hbl
  have hD := hD.sub (ws' := [(x, eO 9 [.ref (g 0), .ref (g 1), .ref (g 2), .ref (g 3), .ref (g 4), .ref (g 5), .ref (g 6)]), (g 1, eO 0 [.ref (g 101), .ref (g 103), .ref (g 105), .ref (g 107), .ref (g 109), .ref (g 111), .ref (g 174), .int 5, .int 20]), (g 101, eO 5 [.int 30, .int 4, .ref (g 102), .int 0]), (g 105, eO 5 [.int 4, .int 3, .ref (g 106), .int 0]), (g 106, eI G 12 (fun _ => 0)), (g 0, eO 1 [.ref (g 1), .ref (g 12), .ref (g 13), .ref (g 14), .int 0]), (mo, eO 10 [.ref (h 0), .ref (h 1), .ref (h 2), .long 0, .long 1, .int 0, .ref (h 3), .ref (h 4), .int 0, .ref (h 5), .ref (h 6), .int 0, .int 0, .int 0, .int 0, .ref (h 7), .ref (h 8), .ref (h 9), .ref (h 10), .ref (h 11), .ref (h 12), .ref (h 13), .ref (h 14), .ref (h 15), .ref (h 16)]), (h 0, eI G 2246 st0)]) [0, 2, 3, 7, 8, 1, 269, 270] (by decide) rfl
  have hP := hP.sub (ws' := [(x, eO 9 [.ref (g 0), .ref (g 1), .ref (g 2), .ref (g 3), .ref (g 4), .ref (g 5), .ref (g 6)]), (g 1, eO 0 [.ref (g 101), .ref (g 103), .ref (g 105), .ref (g 107), .ref (g 109), .ref (g 111), .ref (g 174), .int 5, .int 20]), (g 101, eO 5 [.int 30, .int 4, .ref (g 102), .int 0]), (g 105, eO 5 [.int 4, .int 3, .ref (g 106), .int 0]), (g 106, eI G 12 (fun _ => 0)), (g 0, eO 1 [.ref (g 1), .ref (g 12), .ref (g 13), .ref (g 14), .int 0]), (mo, eO 10 [.ref (h 0), .ref (h 1), .ref (h 2), .long 0, .long 1, .int 0, .ref (h 3), .ref (h 4), .int 0, .ref (h 5), .ref (h 6), .int 0, .int 0, .int 0, .int 0, .ref (h 7), .ref (h 8), .ref (h 9), .ref (h 10), .ref (h 11), .ref (h 12), .ref (h 13), .ref (h 14), .ref (h 15), .ref (h 16)]), (h 0, eI G 2246 st0)]) [0, 2, 3, 7, 8, 1, 269, 270] rfl
  refine lv_aload_n hx hb dL_law_276 rfl (lv_at hl 1 rfl) ?_
  refine lv_aload_n hx hb dL_law_277 rfl (lv_at hl 0 rfl) ?_
  refine lv_iload_n hx hb dL_law_278 rfl (lv_at hl 3 rfl) ?_
  refine lv_iconst (v := 1) hx hb dL_law_279 (by decide) ?_
  refine lv_iadd hx hb dL_law_280 ?_
  refine my_bei (v := 1) (by decide) ?_
  refine va_sld hx hb hX hbl hbA hS (by unfold vp_in; decide) dL_law_281 ?_
  refine my_bei (v := xs 1) rfl ?_
  refine lv_aload_n hx hb dL_law_282 rfl (lv_at hl 0 rfl) ?_
  refine lv_iload_n hx hb dL_law_283 rfl (lv_at hl 3 rfl) ?_
  refine lv_iconst (v := 2) hx hb dL_law_284 (by decide) ?_
  refine lv_iadd hx hb dL_law_285 ?_
  refine my_bei (v := 2) (by decide) ?_
  refine va_sld hx hb hX hbl hbA hS (by unfold vp_in; decide) dL_law_286 ?_
  refine my_bei (v := xs 2) rfl ?_
  refine lv_aload_n hx hb dL_law_287 rfl (lv_at hl 0 rfl) ?_
  refine lv_iload_n hx hb dL_law_288 rfl (lv_at hl 3 rfl) ?_
  refine lv_iconst (v := 3) hx hb dL_law_289 (by decide) ?_
  refine lv_iadd hx hb dL_law_290 ?_
  refine my_bei (v := 3) (by decide) ?_
  refine va_sld hx hb hX hbl hbA hS (by unfold vp_in; decide) dL_law_291 ?_
  refine my_bei (v := xs 3) rfl ?_
  have hPc := hP.sub (ws' := [(x, eO 9 [.ref (g 0), .ref (g 1), .ref (g 2), .ref (g 3), .ref (g 4), .ref (g 5), .ref (g 6)]), (g 1, eO 0 [.ref (g 101), .ref (g 103), .ref (g 105), .ref (g 107), .ref (g 109), .ref (g 111), .ref (g 174), .int 5, .int 20]), (g 101, eO 5 [.int 30, .int 4, .ref (g 102), .int 0]), (g 105, eO 5 [.int 4, .int 3, .ref (g 106), .int 0]), (g 106, eI G 12 (fun _ => 0)), (g 0, eO 1 [.ref (g 1), .ref (g 12), .ref (g 13), .ref (g 14), .int 0])]) [0, 1, 2, 3, 4, 5] rfl
  have hDc := hD.sub (ws' := [(x, eO 9 [.ref (g 0), .ref (g 1), .ref (g 2), .ref (g 3), .ref (g 4), .ref (g 5), .ref (g 6)]), (g 1, eO 0 [.ref (g 101), .ref (g 103), .ref (g 105), .ref (g 107), .ref (g 109), .ref (g 111), .ref (g 174), .int 5, .int 20]), (g 101, eO 5 [.int 30, .int 4, .ref (g 102), .int 0]), (g 105, eO 5 [.int 4, .int 3, .ref (g 106), .int 0]), (g 106, eI G 12 (fun _ => 0)), (g 0, eO 1 [.ref (g 1), .ref (g 12), .ref (g 13), .ref (g 14), .int 0])]) [0, 1, 2, 3, 4, 5] (by decide) rfl
  have hFc := va_free (wc := [(x, eO 9 [.ref (g 0), .ref (g 1), .ref (g 2), .ref (g 3), .ref (g 4), .ref (g 5), .ref (g 6)]), (g 1, eO 0 [.ref (g 101), .ref (g 103), .ref (g 105), .ref (g 107), .ref (g 109), .ref (g 111), .ref (g 174), .int 5, .int 20]), (g 101, eO 5 [.int 30, .int 4, .ref (g 102), .int 0]), (g 105, eO 5 [.int 4, .int 3, .ref (g 106), .int 0]), (g 106, eI G 12 (fun _ => 0)), (g 0, eO 1 [.ref (g 1), .ref (g 12), .ref (g 13), .ref (g 14), .int 0])]) hD hS hA [0, 1, 2, 3, 4, 5] rfl
  refine va_calli (va_runV (As := [.int (xs 1), .int (xs 2), .int (xs 3)]) (rest := []) ⟨hx, hb, hml, hown, hts⟩ (p_roll l G H.size x (g 0) (g 1) (g 2) (g 3) (g 4) (g 5) (g 6) (g 101) (g 103) (g 105) (g 107) (g 109) (g 111) (g 174) (g 102) (g 106) (g 12) (g 13) (g 14) (xs 1) (xs 2) (xs 3) ) (my_cwV hts ok_X10_roll w_194 rfl rfl ⟨Nat.le_of_ble_eq_true rfl, Nat.le_of_ble_eq_true rfl⟩) ⟨wP.blind, va_recv hG.1 hPc (ci := 9) (q0 := 0) rfl rfl, fun U hU hW => ⟨rfl, by rw [hU], by rw [hU]; exact hPc, kG.warm hW hG, hDc.weaken (fun _ _ _ _ => trivial)⟩⟩ rfl rfl hl.1 rfl (lv_room (Nat.le_of_ble_eq_true rfl)) dL_law_292 ⟨Nat.le_of_ble_eq_true rfl, Nat.le_of_ble_eq_true rfl⟩) hS (fun q _ h => hFc q h) hFc (fun r u t H1 locs ht hvm hw hB hz1 hk1 hS => ?_)
  obtain ⟨hP, hD⟩ := va_join (wr := [(mo, eO 10 [.ref (h 0), .ref (h 1), .ref (h 2), .long 0, .long 1, .int 0, .ref (h 3), .ref (h 4), .int 0, .ref (h 5), .ref (h 6), .int 0, .int 0, .int 0, .int 0, .ref (h 7), .ref (h 8), .ref (h 9), .ref (h 10), .ref (h 11), .ref (h 12), .ref (h 13), .ref (h 14), .ref (h 15), .ref (h 16)]), (h 0, eI G 2246 st0)]) (w1 := []) hP hD [0, 1, 2, 3, 4, 5] [6, 7] rfl rfl (by decide) (by decide) hk1 hFc my_P0 my_D0
  generalize H1 = H at hP hS ⊢
  have hP : va_P G.1 vwCl [(mo, eO 10 [.ref (h 0), .ref (h 1), .ref (h 2), .long 0, .long 1, .int 0, .ref (h 3), .ref (h 4), .int 0, .ref (h 5), .ref (h 6), .int 0, .int 0, .int 0, .int 0, .ref (h 7), .ref (h 8), .ref (h 9), .ref (h 10), .ref (h 11), .ref (h 12), .ref (h 13), .ref (h 14), .ref (h 15), .ref (h 16)]), (h 0, eI G 2246 st0)] H := hP
  have hD : va_D (fun q : Nat => s.heap.size ≤ q) [(mo, eO 10 [.ref (h 0), .ref (h 1), .ref (h 2), .long 0, .long 1, .int 0, .ref (h 3), .ref (h 4), .int 0, .ref (h 5), .ref (h 6), .int 0, .int 0, .int 0, .int 0, .ref (h 7), .ref (h 8), .ref (h 9), .ref (h 10), .ref (h 11), .ref (h 12), .ref (h 13), .ref (h 14), .ref (h 15), .ref (h 16)]), (h 0, eI G 2246 st0)] := hD
  subst hw
  refine lv_aload_n hx hb dL_law_295 rfl (lv_at hl 2 rfl) ?_
  refine lv_aload_n hx hb dL_law_296 rfl (lv_at hl 0 rfl) ?_
  refine lv_iload_n hx hb dL_law_297 rfl (lv_at hl 3 rfl) ?_
  refine lv_iconst (v := 1) hx hb dL_law_298 (by decide) ?_
  refine lv_iadd hx hb dL_law_299 ?_
  refine my_bei (v := 1) (by decide) ?_
  refine va_sld hx hb hX hbl hbA hS (by unfold vp_in; decide) dL_law_300 ?_
  refine my_bei (v := xs 1) rfl ?_
  refine lv_aload_n hx hb dL_law_301 rfl (lv_at hl 0 rfl) ?_
  refine lv_iload_n hx hb dL_law_302 rfl (lv_at hl 3 rfl) ?_
  refine lv_iconst (v := 2) hx hb dL_law_303 (by decide) ?_
  refine lv_iadd hx hb dL_law_304 ?_
  refine my_bei (v := 2) (by decide) ?_
  refine va_sld hx hb hX hbl hbA hS (by unfold vp_in; decide) dL_law_305 ?_
  refine my_bei (v := xs 2) rfl ?_
  refine lv_aload_n hx hb dL_law_306 rfl (lv_at hl 0 rfl) ?_
  refine lv_iload_n hx hb dL_law_307 rfl (lv_at hl 3 rfl) ?_
  refine lv_iconst (v := 3) hx hb dL_law_308 (by decide) ?_
  refine lv_iadd hx hb dL_law_309 ?_
  refine my_bei (v := 3) (by decide) ?_
  refine va_sld hx hb hX hbl hbA hS (by unfold vp_in; decide) dL_law_310 ?_
  refine my_bei (v := xs 3) rfl ?_
  have hPc := hP.sub (ws' := [(mo, eO 10 [.ref (h 0), .ref (h 1), .ref (h 2), .long 0, .long 1, .int 0, .ref (h 3), .ref (h 4), .int 0, .ref (h 5), .ref (h 6), .int 0, .int 0, .int 0, .int 0, .ref (h 7), .ref (h 8), .ref (h 9), .ref (h 10), .ref (h 11), .ref (h 12), .ref (h 13), .ref (h 14), .ref (h 15), .ref (h 16)]), (h 0, eI G 2246 st0)]) [0, 1] rfl
  have hDc := hD.sub (ws' := [(mo, eO 10 [.ref (h 0), .ref (h 1), .ref (h 2), .long 0, .long 1, .int 0, .ref (h 3), .ref (h 4), .int 0, .ref (h 5), .ref (h 6), .int 0, .int 0, .int 0, .int 0, .ref (h 7), .ref (h 8), .ref (h 9), .ref (h 10), .ref (h 11), .ref (h 12), .ref (h 13), .ref (h 14), .ref (h 15), .ref (h 16)]), (h 0, eI G 2246 st0)]) [0, 1] (by decide) rfl
  have hFc := va_free (wc := [(mo, eO 10 [.ref (h 0), .ref (h 1), .ref (h 2), .long 0, .long 1, .int 0, .ref (h 3), .ref (h 4), .int 0, .ref (h 5), .ref (h 6), .int 0, .int 0, .int 0, .int 0, .ref (h 7), .ref (h 8), .ref (h 9), .ref (h 10), .ref (h 11), .ref (h 12), .ref (h 13), .ref (h 14), .ref (h 15), .ref (h 16)]), (h 0, eI G 2246 st0)]) hD hS hA [0, 1] rfl
  refine va_calli (va_runV (As := [.int (xs 1), .int (xs 2), .int (xs 3)]) (rest := [.int (if (xs 1) = 0 ∧ (inB 0 (xs 2) 199 = true) ∧ (inB 0 (xs 3) 9999 = true) then 0 else (-2))]) ⟨hx, hb, hml, hown, hts⟩ (m_roll l G H.size mo (h 0) (h 1) (h 2) (h 3) (h 4) (h 5) (h 6) (h 7) (h 8) (h 9) (h 10) (h 11) (h 12) (h 13) (h 14) (h 15) (h 16) (xs 1) (xs 2) (xs 3) ) (my_cwV hts ok_X11_roll w_208 rfl rfl ⟨Nat.le_of_ble_eq_true rfl, Nat.le_of_ble_eq_true rfl⟩) ⟨wP.blind, va_recv hG.1 hPc (ci := 10) (q0 := 0) rfl rfl, fun U hU hW => ⟨rfl, by rw [hU], by rw [hU]; exact hPc, kG.warm hW hG, hDc.weaken (fun _ _ _ _ => trivial)⟩⟩ rfl rfl hl.1 rfl (lv_room (Nat.le_of_ble_eq_true rfl)) dL_law_311 ⟨Nat.le_of_ble_eq_true rfl, Nat.le_of_ble_eq_true rfl⟩) hS (fun q _ h => hFc q h) hFc (fun r u t H1 locs ht hvm hw hB hz1 hk1 hS => ?_)
  obtain ⟨hP, hD⟩ := va_join (wr := []) (w1 := []) hP hD [0, 1] [] rfl rfl (by decide) (by decide) hk1 hFc my_P0 my_D0
  generalize H1 = H at hP hS ⊢
  have hP : va_P G.1 vwCl [] H := hP
  have hD : va_D (fun q : Nat => s.heap.size ≤ q) [] := hD
  subst hw
  refine lv_icmp_eq (tgt := 1376) hx hb dL_law_314 (by decide) (fun c_314 => ?_) (fun c_314 => absurd (rfl) c_314)
  exact law_end l C0 hS (lv_sub hl [0, 3] rfl)
set_option maxHeartbeats 4000000 in
set_option maxRecDepth 100000 in
theorem law_3 {p : Program} {e : Env} {s : State} {m : MethodId} {below : List Frame} {meth : Method} {c : Code} (l : Launch) {b : Nat} {xs : Nat → Int32} (G : gW) (C0 : lw_At p s m meth c b 10 xs) (hG : kG G s) {x mo : Nat} {g h : Nat → Nat} {H : Heap} {locs : List Loc} {ls : Array Slot} (hP : va_P G.1 vwCl (lwW G x g mo h) H) (hD : va_D (fun q : Nat => s.heap.size ≤ q) (lwW G x g mo h)) (hS : va_S (fun q : Nat => s.heap.size ≤ q) s.heap H locs) (hl : lv_has ls 4 [(0, .ref b), (1, .ref x), (2, .ref mo), (3, .int 0)]) : W p l e room_1 s m #[Value.ref b] below meth c H locs 333 19609 (lw_Z below #[Value.ref b] s) (F0 m 319 ls []) := by
  obtain ⟨hx, hb, hr, hml, hown, hts0, hX, hbl, hlocks, hgv⟩ := id C0
  have hts : ∀ w ∈ TT, w.before #[Value.ref b] s = true := fun w h => hts0 w (List.mem_filter.mp h).1
  have hA : ∀ q : Nat, s.heap.size ≤ q → (fun q : Nat => s.heap.size ≤ q) q := fun _ h => h
  have hbA : ¬ (fun q : Nat => s.heap.size ≤ q) b := Nat.not_le.mpr hbl
  have hD := hD.sub (ws' := [(x, eO 9 [.ref (g 0), .ref (g 1), .ref (g 2), .ref (g 3), .ref (g 4), .ref (g 5), .ref (g 6)]), (g 1, eO 0 [.ref (g 101), .ref (g 103), .ref (g 105), .ref (g 107), .ref (g 109), .ref (g 111), .ref (g 174), .int 5, .int 20]), (g 105, eO 5 [.int 4, .int 3, .ref (g 106), .int 0]), (g 101, eO 5 [.int 30, .int 4, .ref (g 102), .int 0]), (mo, eO 10 [.ref (h 0), .ref (h 1), .ref (h 2), .long 0, .long 1, .int 0, .ref (h 3), .ref (h 4), .int 0, .ref (h 5), .ref (h 6), .int 0, .int 0, .int 0, .int 0, .ref (h 7), .ref (h 8), .ref (h 9), .ref (h 10), .ref (h 11), .ref (h 12), .ref (h 13), .ref (h 14), .ref (h 15), .ref (h 16)]), (h 0, eI G 2246 st0)]) [0, 2, 7, 3, 269, 270] (by decide) rfl
  have hP := hP.sub (ws' := [(x, eO 9 [.ref (g 0), .ref (g 1), .ref (g 2), .ref (g 3), .ref (g 4), .ref (g 5), .ref (g 6)]), (g 1, eO 0 [.ref (g 101), .ref (g 103), .ref (g 105), .ref (g 107), .ref (g 109), .ref (g 111), .ref (g 174), .int 5, .int 20]), (g 105, eO 5 [.int 4, .int 3, .ref (g 106), .int 0]), (g 101, eO 5 [.int 30, .int 4, .ref (g 102), .int 0]), (mo, eO 10 [.ref (h 0), .ref (h 1), .ref (h 2), .long 0, .long 1, .int 0, .ref (h 3), .ref (h 4), .int 0, .ref (h 5), .ref (h 6), .int 0, .int 0, .int 0, .int 0, .ref (h 7), .ref (h 8), .ref (h 9), .ref (h 10), .ref (h 11), .ref (h 12), .ref (h 13), .ref (h 14), .ref (h 15), .ref (h 16)]), (h 0, eI G 2246 st0)]) [0, 2, 7, 3, 269, 270] rfl
  refine lv_aload_n hx hb dL_law_319 rfl (lv_at hl 1 rfl) ?_
  refine lv_aload_n hx hb dL_law_320 rfl (lv_at hl 0 rfl) ?_
  refine lv_iload_n hx hb dL_law_321 rfl (lv_at hl 3 rfl) ?_
  refine lv_iconst (v := 1) hx hb dL_law_322 (by decide) ?_
  refine lv_iadd hx hb dL_law_323 ?_
  refine my_bei (v := 1) (by decide) ?_
  refine va_sld hx hb hX hbl hbA hS (by unfold vp_in; decide) dL_law_324 ?_
  refine my_bei (v := xs 1) rfl ?_
  have hPc := hP.sub (ws' := [(x, eO 9 [.ref (g 0), .ref (g 1), .ref (g 2), .ref (g 3), .ref (g 4), .ref (g 5), .ref (g 6)]), (g 1, eO 0 [.ref (g 101), .ref (g 103), .ref (g 105), .ref (g 107), .ref (g 109), .ref (g 111), .ref (g 174), .int 5, .int 20]), (g 105, eO 5 [.int 4, .int 3, .ref (g 106), .int 0]), (g 101, eO 5 [.int 30, .int 4, .ref (g 102), .int 0])]) [0, 1, 2, 3] rfl
  refine rd_calli (va_runV (As := [.int (xs 1)]) (rest := []) ⟨hx, hb, hml, hown, hts⟩ (p_rollOf l G x (g 0) (g 1) (g 2) (g 3) (g 4) (g 5) (g 6) (g 101) (g 103) (g 105) (g 107) (g 109) (g 111) (g 174) (g 106) (g 102) (xs 1) ) (my_cwV hts ok_X10_rollOf w_217 rfl rfl ⟨Nat.le_of_ble_eq_true rfl, Nat.le_of_ble_eq_true rfl⟩) ⟨rP.blind, va_recv hG.1 hPc (ci := 9) (q0 := 0) rfl rfl, fun U hU hW => ⟨rfl, by rw [hU]; exact hPc, kG.warm hW hG⟩⟩ rfl rfl hl.1 rfl (lv_room (Nat.le_of_ble_eq_true rfl)) dL_law_325 ⟨Nat.le_of_ble_eq_true rfl, Nat.le_of_ble_eq_true rfl⟩) (fun r hr9 => ?_)
  subst hr9
  refine lv_aload_n hx hb dL_law_328 rfl (lv_at hl 2 rfl) ?_
  refine lv_aload_n hx hb dL_law_329 rfl (lv_at hl 0 rfl) ?_
  refine lv_iload_n hx hb dL_law_330 rfl (lv_at hl 3 rfl) ?_
  refine lv_iconst (v := 1) hx hb dL_law_331 (by decide) ?_
  refine lv_iadd hx hb dL_law_332 ?_
  refine my_bei (v := 1) (by decide) ?_
  refine va_sld hx hb hX hbl hbA hS (by unfold vp_in; decide) dL_law_333 ?_
  refine my_bei (v := xs 1) rfl ?_
  have hPc := hP.sub (ws' := [(mo, eO 10 [.ref (h 0), .ref (h 1), .ref (h 2), .long 0, .long 1, .int 0, .ref (h 3), .ref (h 4), .int 0, .ref (h 5), .ref (h 6), .int 0, .int 0, .int 0, .int 0, .ref (h 7), .ref (h 8), .ref (h 9), .ref (h 10), .ref (h 11), .ref (h 12), .ref (h 13), .ref (h 14), .ref (h 15), .ref (h 16)]), (h 0, eI G 2246 st0)]) [4, 5] rfl
  refine rd_calli (va_runV (As := [.int (xs 1)]) (rest := [.int (if inB 0 (xs 1) 9999 = true then 0 else (-2))]) ⟨hx, hb, hml, hown, hts⟩ (m_rollOf l G mo (h 0) (h 1) (h 2) (h 3) (h 4) (h 5) (h 6) (h 7) (h 8) (h 9) (h 10) (h 11) (h 12) (h 13) (h 14) (h 15) (h 16) (xs 1) ) (my_cwV hts ok_X11_rollOf w_230 rfl rfl ⟨Nat.le_of_ble_eq_true rfl, Nat.le_of_ble_eq_true rfl⟩) ⟨rP.blind, va_recv hG.1 hPc (ci := 10) (q0 := 0) rfl rfl, fun U hU hW => ⟨rfl, by rw [hU]; exact hPc, kG.warm hW hG⟩⟩ rfl rfl hl.1 rfl (lv_room (Nat.le_of_ble_eq_true rfl)) dL_law_334 ⟨Nat.le_of_ble_eq_true rfl, Nat.le_of_ble_eq_true rfl⟩) (fun r hr9 => ?_)
  subst hr9
  refine lv_icmp_eq (tgt := 1376) hx hb dL_law_337 (by decide) (fun c_337 => ?_) (fun c_337 => absurd (rfl) c_337)
  exact law_end l C0 hS (lv_sub hl [0, 3] rfl)
set_option maxHeartbeats 4000000 in
set_option maxRecDepth 100000 in
theorem law_4 {p : Program} {e : Env} {s : State} {m : MethodId} {below : List Frame} {meth : Method} {c : Code} (l : Launch) {b : Nat} {xs : Nat → Int32} (G : gW) (C0 : lw_At p s m meth c b 10 xs) (hG : kG G s) {x mo : Nat} {g h : Nat → Nat} {H : Heap} {locs : List Loc} {ls : Array Slot} (hP : va_P G.1 vwCl (lwW G x g mo h) H) (hD : va_D (fun q : Nat => s.heap.size ≤ q) (lwW G x g mo h)) (hS : va_S (fun q : Nat => s.heap.size ≤ q) s.heap H locs) (hl : lv_has ls 4 [(0, .ref b), (1, .ref x), (2, .ref mo), (3, .int 0)]) : W p l e room_1 s m #[Value.ref b] below meth c H locs 333 19609 (lw_Z below #[Value.ref b] s) (F0 m 342 ls []) := by
  obtain ⟨hx, hb, hr, hml, hown, hts0, hX, hbl, hlocks, hgv⟩ := id C0
  have hts : ∀ w ∈ TT, w.before #[Value.ref b] s = true := fun w h => hts0 w (List.mem_filter.mp h).1
  have hA : ∀ q : Nat, s.heap.size ≤ q → (fun q : Nat => s.heap.size ≤ q) q := fun _ h => h
  have hbA : ¬ (fun q : Nat => s.heap.size ≤ q) b := Nat.not_le.mpr hbl
  rcases pick4 (xs 1) with h4 | h4 | h4 | h4 | h4
  · have hD := hD.sub (ws' := [(x, eO 9 [.ref (g 0), .ref (g 1), .ref (g 2), .ref (g 3), .ref (g 4), .ref (g 5), .ref (g 6)]), (g 1, eO 0 [.ref (g 101), .ref (g 103), .ref (g 105), .ref (g 107), .ref (g 109), .ref (g 111), .ref (g 174), .int 5, .int 20]), (g 174, eO 6 [.ref (g 175), .ref (g 176)]), (g 175, eA G 5 4 (aL [g 177, g 180, g 183, g 186])), (g 177, eO 7 [.ref (g 178), .ref (g 179), .int 0, .int 0]), (g 178, eI G 50 (fun _ => 0)), (mo, eO 10 [.ref (h 0), .ref (h 1), .ref (h 2), .long 0, .long 1, .int 0, .ref (h 3), .ref (h 4), .int 0, .ref (h 5), .ref (h 6), .int 0, .int 0, .int 0, .int 0, .ref (h 7), .ref (h 8), .ref (h 9), .ref (h 10), .ref (h 11), .ref (h 12), .ref (h 13), .ref (h 14), .ref (h 15), .ref (h 16)]), (h 0, eI G 2246 st0)]) [0, 2, 75, 76, 77, 78, 269, 270] (by decide) rfl
    have hP := hP.sub (ws' := [(x, eO 9 [.ref (g 0), .ref (g 1), .ref (g 2), .ref (g 3), .ref (g 4), .ref (g 5), .ref (g 6)]), (g 1, eO 0 [.ref (g 101), .ref (g 103), .ref (g 105), .ref (g 107), .ref (g 109), .ref (g 111), .ref (g 174), .int 5, .int 20]), (g 174, eO 6 [.ref (g 175), .ref (g 176)]), (g 175, eA G 5 4 (aL [g 177, g 180, g 183, g 186])), (g 177, eO 7 [.ref (g 178), .ref (g 179), .int 0, .int 0]), (g 178, eI G 50 (fun _ => 0)), (mo, eO 10 [.ref (h 0), .ref (h 1), .ref (h 2), .long 0, .long 1, .int 0, .ref (h 3), .ref (h 4), .int 0, .ref (h 5), .ref (h 6), .int 0, .int 0, .int 0, .int 0, .ref (h 7), .ref (h 8), .ref (h 9), .ref (h 10), .ref (h 11), .ref (h 12), .ref (h 13), .ref (h 14), .ref (h 15), .ref (h 16)]), (h 0, eI G 2246 st0)]) [0, 2, 75, 76, 77, 78, 269, 270] rfl
    refine lv_aload_n hx hb dL_law_342 rfl (lv_at hl 1 rfl) ?_
    refine lv_aload_n hx hb dL_law_343 rfl (lv_at hl 0 rfl) ?_
    refine lv_iload_n hx hb dL_law_344 rfl (lv_at hl 3 rfl) ?_
    refine lv_iconst (v := 1) hx hb dL_law_345 (by decide) ?_
    refine lv_iadd hx hb dL_law_346 ?_
    refine my_bei (v := 1) (by decide) ?_
    refine va_sld hx hb hX hbl hbA hS (by unfold vp_in; decide) dL_law_347 ?_
    refine my_bei (v := xs 1) rfl ?_
    refine lv_aload_n hx hb dL_law_348 rfl (lv_at hl 0 rfl) ?_
    refine lv_iload_n hx hb dL_law_349 rfl (lv_at hl 3 rfl) ?_
    refine lv_iconst (v := 2) hx hb dL_law_350 (by decide) ?_
    refine lv_iadd hx hb dL_law_351 ?_
    refine my_bei (v := 2) (by decide) ?_
    refine va_sld hx hb hX hbl hbA hS (by unfold vp_in; decide) dL_law_352 ?_
    refine my_bei (v := xs 2) rfl ?_
    have hPc := hP.sub (ws' := [(x, eO 9 [.ref (g 0), .ref (g 1), .ref (g 2), .ref (g 3), .ref (g 4), .ref (g 5), .ref (g 6)]), (g 1, eO 0 [.ref (g 101), .ref (g 103), .ref (g 105), .ref (g 107), .ref (g 109), .ref (g 111), .ref (g 174), .int 5, .int 20]), (g 174, eO 6 [.ref (g 175), .ref (g 176)]), (g 175, eA G 5 4 (aL [g 177, g 180, g 183, g 186])), (g 177, eO 7 [.ref (g 178), .ref (g 179), .int 0, .int 0]), (g 178, eI G 50 (fun _ => 0))]) [0, 1, 2, 3, 4, 5] rfl
    have hDc := hD.sub (ws' := [(x, eO 9 [.ref (g 0), .ref (g 1), .ref (g 2), .ref (g 3), .ref (g 4), .ref (g 5), .ref (g 6)]), (g 1, eO 0 [.ref (g 101), .ref (g 103), .ref (g 105), .ref (g 107), .ref (g 109), .ref (g 111), .ref (g 174), .int 5, .int 20]), (g 174, eO 6 [.ref (g 175), .ref (g 176)]), (g 175, eA G 5 4 (aL [g 177, g 180, g 183, g 186])), (g 177, eO 7 [.ref (g 178), .ref (g 179), .int 0, .int 0]), (g 178, eI G 50 (fun _ => 0))]) [0, 1, 2, 3, 4, 5] (by decide) rfl
    have hFc := va_free (wc := [(x, eO 9 [.ref (g 0), .ref (g 1), .ref (g 2), .ref (g 3), .ref (g 4), .ref (g 5), .ref (g 6)]), (g 1, eO 0 [.ref (g 101), .ref (g 103), .ref (g 105), .ref (g 107), .ref (g 109), .ref (g 111), .ref (g 174), .int 5, .int 20]), (g 174, eO 6 [.ref (g 175), .ref (g 176)]), (g 175, eA G 5 4 (aL [g 177, g 180, g 183, g 186])), (g 177, eO 7 [.ref (g 178), .ref (g 179), .int 0, .int 0]), (g 178, eI G 50 (fun _ => 0))]) hD hS hA [0, 1, 2, 3, 4, 5] rfl
    refine va_calli (va_runV (As := [.int (xs 1), .int (xs 2)]) (rest := []) ⟨hx, hb, hml, hown, hts⟩ (p_write l G H.size x (g 0) (g 1) (g 2) (g 3) (g 4) (g 5) (g 6) (g 101) (g 103) (g 105) (g 107) (g 109) (g 111) (g 174) (g 175) (g 176) (g 177) (g 178) (g 179) (aL [g 177, g 180, g 183, g 186]) (xs 1) (xs 2) (fun _ => by rw [h4]; rfl)) (my_cwV hts ok_X10_write w_238 rfl rfl ⟨Nat.le_of_ble_eq_true rfl, Nat.le_of_ble_eq_true rfl⟩) ⟨wP.blind, va_recv hG.1 hPc (ci := 9) (q0 := 0) rfl rfl, fun U hU hW => ⟨rfl, by rw [hU], by rw [hU]; exact hPc, kG.warm hW hG, hDc.weaken (fun _ _ _ _ => trivial)⟩⟩ rfl rfl hl.1 rfl (lv_room (Nat.le_of_ble_eq_true rfl)) dL_law_353 ⟨Nat.le_of_ble_eq_true rfl, Nat.le_of_ble_eq_true rfl⟩) hS (fun q _ h => hFc q h) hFc (fun r u t H1 locs ht hvm hw hB hz1 hk1 hS => ?_)
    obtain ⟨hP, hD⟩ := va_join (wr := [(mo, eO 10 [.ref (h 0), .ref (h 1), .ref (h 2), .long 0, .long 1, .int 0, .ref (h 3), .ref (h 4), .int 0, .ref (h 5), .ref (h 6), .int 0, .int 0, .int 0, .int 0, .ref (h 7), .ref (h 8), .ref (h 9), .ref (h 10), .ref (h 11), .ref (h 12), .ref (h 13), .ref (h 14), .ref (h 15), .ref (h 16)]), (h 0, eI G 2246 st0)]) (w1 := []) hP hD [0, 1, 2, 3, 4, 5] [6, 7] rfl rfl (by decide) (by decide) hk1 hFc my_P0 my_D0
    generalize H1 = H at hP hS ⊢
    have hP : va_P G.1 vwCl [(mo, eO 10 [.ref (h 0), .ref (h 1), .ref (h 2), .long 0, .long 1, .int 0, .ref (h 3), .ref (h 4), .int 0, .ref (h 5), .ref (h 6), .int 0, .int 0, .int 0, .int 0, .ref (h 7), .ref (h 8), .ref (h 9), .ref (h 10), .ref (h 11), .ref (h 12), .ref (h 13), .ref (h 14), .ref (h 15), .ref (h 16)]), (h 0, eI G 2246 st0)] H := hP
    have hD : va_D (fun q : Nat => s.heap.size ≤ q) [(mo, eO 10 [.ref (h 0), .ref (h 1), .ref (h 2), .long 0, .long 1, .int 0, .ref (h 3), .ref (h 4), .int 0, .ref (h 5), .ref (h 6), .int 0, .int 0, .int 0, .int 0, .ref (h 7), .ref (h 8), .ref (h 9), .ref (h 10), .ref (h 11), .ref (h 12), .ref (h 13), .ref (h 14), .ref (h 15), .ref (h 16)]), (h 0, eI G 2246 st0)] := hD
    subst hw
    refine lv_aload_n hx hb dL_law_356 rfl (lv_at hl 2 rfl) ?_
    refine lv_aload_n hx hb dL_law_357 rfl (lv_at hl 0 rfl) ?_
    refine lv_iload_n hx hb dL_law_358 rfl (lv_at hl 3 rfl) ?_
    refine lv_iconst (v := 1) hx hb dL_law_359 (by decide) ?_
    refine lv_iadd hx hb dL_law_360 ?_
    refine my_bei (v := 1) (by decide) ?_
    refine va_sld hx hb hX hbl hbA hS (by unfold vp_in; decide) dL_law_361 ?_
    refine my_bei (v := xs 1) rfl ?_
    refine lv_aload_n hx hb dL_law_362 rfl (lv_at hl 0 rfl) ?_
    refine lv_iload_n hx hb dL_law_363 rfl (lv_at hl 3 rfl) ?_
    refine lv_iconst (v := 2) hx hb dL_law_364 (by decide) ?_
    refine lv_iadd hx hb dL_law_365 ?_
    refine my_bei (v := 2) (by decide) ?_
    refine va_sld hx hb hX hbl hbA hS (by unfold vp_in; decide) dL_law_366 ?_
    refine my_bei (v := xs 2) rfl ?_
    have hPc := hP.sub (ws' := [(mo, eO 10 [.ref (h 0), .ref (h 1), .ref (h 2), .long 0, .long 1, .int 0, .ref (h 3), .ref (h 4), .int 0, .ref (h 5), .ref (h 6), .int 0, .int 0, .int 0, .int 0, .ref (h 7), .ref (h 8), .ref (h 9), .ref (h 10), .ref (h 11), .ref (h 12), .ref (h 13), .ref (h 14), .ref (h 15), .ref (h 16)]), (h 0, eI G 2246 st0)]) [0, 1] rfl
    have hDc := hD.sub (ws' := [(mo, eO 10 [.ref (h 0), .ref (h 1), .ref (h 2), .long 0, .long 1, .int 0, .ref (h 3), .ref (h 4), .int 0, .ref (h 5), .ref (h 6), .int 0, .int 0, .int 0, .int 0, .ref (h 7), .ref (h 8), .ref (h 9), .ref (h 10), .ref (h 11), .ref (h 12), .ref (h 13), .ref (h 14), .ref (h 15), .ref (h 16)]), (h 0, eI G 2246 st0)]) [0, 1] (by decide) rfl
    have hFc := va_free (wc := [(mo, eO 10 [.ref (h 0), .ref (h 1), .ref (h 2), .long 0, .long 1, .int 0, .ref (h 3), .ref (h 4), .int 0, .ref (h 5), .ref (h 6), .int 0, .int 0, .int 0, .int 0, .ref (h 7), .ref (h 8), .ref (h 9), .ref (h 10), .ref (h 11), .ref (h 12), .ref (h 13), .ref (h 14), .ref (h 15), .ref (h 16)]), (h 0, eI G 2246 st0)]) hD hS hA [0, 1] rfl
    refine va_calli (va_runV (As := [.int (xs 1), .int (xs 2)]) (rest := [.int (if (inB 0 (xs 1) 3 = true) ∧ (inB 0 (xs 2) 127 = true) then 1 else (-2))]) ⟨hx, hb, hml, hown, hts⟩ (m_write l G H.size mo (h 0) (h 1) (h 2) (h 3) (h 4) (h 5) (h 6) (h 7) (h 8) (h 9) (h 10) (h 11) (h 12) (h 13) (h 14) (h 15) (h 16) (xs 1) (xs 2) ) (my_cwV hts ok_X11_write w_254 rfl rfl ⟨Nat.le_of_ble_eq_true rfl, Nat.le_of_ble_eq_true rfl⟩) ⟨wP.blind, va_recv hG.1 hPc (ci := 10) (q0 := 0) rfl rfl, fun U hU hW => ⟨rfl, by rw [hU], by rw [hU]; exact hPc, kG.warm hW hG, hDc.weaken (fun _ _ _ _ => trivial)⟩⟩ rfl rfl hl.1 rfl (lv_room (Nat.le_of_ble_eq_true rfl)) dL_law_367 ⟨Nat.le_of_ble_eq_true rfl, Nat.le_of_ble_eq_true rfl⟩) hS (fun q _ h => hFc q h) hFc (fun r u t H1 locs ht hvm hw hB hz1 hk1 hS => ?_)
    obtain ⟨hP, hD⟩ := va_join (wr := []) (w1 := []) hP hD [0, 1] [] rfl rfl (by decide) (by decide) hk1 hFc my_P0 my_D0
    generalize H1 = H at hP hS ⊢
    have hP : va_P G.1 vwCl [] H := hP
    have hD : va_D (fun q : Nat => s.heap.size ≤ q) [] := hD
    subst hw
    refine lv_icmp_eq (tgt := 1376) hx hb dL_law_370 (by decide) (fun c_370 => ?_) (fun c_370 => absurd (rfl) c_370)
    exact law_end l C0 hS (lv_sub hl [0, 3] rfl)
  · have hD := hD.sub (ws' := [(x, eO 9 [.ref (g 0), .ref (g 1), .ref (g 2), .ref (g 3), .ref (g 4), .ref (g 5), .ref (g 6)]), (g 1, eO 0 [.ref (g 101), .ref (g 103), .ref (g 105), .ref (g 107), .ref (g 109), .ref (g 111), .ref (g 174), .int 5, .int 20]), (g 174, eO 6 [.ref (g 175), .ref (g 176)]), (g 175, eA G 5 4 (aL [g 177, g 180, g 183, g 186])), (g 180, eO 7 [.ref (g 181), .ref (g 182), .int 0, .int 0]), (g 181, eI G 50 (fun _ => 0)), (mo, eO 10 [.ref (h 0), .ref (h 1), .ref (h 2), .long 0, .long 1, .int 0, .ref (h 3), .ref (h 4), .int 0, .ref (h 5), .ref (h 6), .int 0, .int 0, .int 0, .int 0, .ref (h 7), .ref (h 8), .ref (h 9), .ref (h 10), .ref (h 11), .ref (h 12), .ref (h 13), .ref (h 14), .ref (h 15), .ref (h 16)]), (h 0, eI G 2246 st0)]) [0, 2, 75, 76, 80, 81, 269, 270] (by decide) rfl
    have hP := hP.sub (ws' := [(x, eO 9 [.ref (g 0), .ref (g 1), .ref (g 2), .ref (g 3), .ref (g 4), .ref (g 5), .ref (g 6)]), (g 1, eO 0 [.ref (g 101), .ref (g 103), .ref (g 105), .ref (g 107), .ref (g 109), .ref (g 111), .ref (g 174), .int 5, .int 20]), (g 174, eO 6 [.ref (g 175), .ref (g 176)]), (g 175, eA G 5 4 (aL [g 177, g 180, g 183, g 186])), (g 180, eO 7 [.ref (g 181), .ref (g 182), .int 0, .int 0]), (g 181, eI G 50 (fun _ => 0)), (mo, eO 10 [.ref (h 0), .ref (h 1), .ref (h 2), .long 0, .long 1, .int 0, .ref (h 3), .ref (h 4), .int 0, .ref (h 5), .ref (h 6), .int 0, .int 0, .int 0, .int 0, .ref (h 7), .ref (h 8), .ref (h 9), .ref (h 10), .ref (h 11), .ref (h 12), .ref (h 13), .ref (h 14), .ref (h 15), .ref (h 16)]), (h 0, eI G 2246 st0)]) [0, 2, 75, 76, 80, 81, 269, 270] rfl
    refine lv_aload_n hx hb dL_law_342 rfl (lv_at hl 1 rfl) ?_
    refine lv_aload_n hx hb dL_law_343 rfl (lv_at hl 0 rfl) ?_
    refine lv_iload_n hx hb dL_law_344 rfl (lv_at hl 3 rfl) ?_
    refine lv_iconst (v := 1) hx hb dL_law_345 (by decide) ?_
    refine lv_iadd hx hb dL_law_346 ?_
    refine my_bei (v := 1) (by decide) ?_
    refine va_sld hx hb hX hbl hbA hS (by unfold vp_in; decide) dL_law_347 ?_
    refine my_bei (v := xs 1) rfl ?_
    refine lv_aload_n hx hb dL_law_348 rfl (lv_at hl 0 rfl) ?_
    refine lv_iload_n hx hb dL_law_349 rfl (lv_at hl 3 rfl) ?_
    refine lv_iconst (v := 2) hx hb dL_law_350 (by decide) ?_
    refine lv_iadd hx hb dL_law_351 ?_
    refine my_bei (v := 2) (by decide) ?_
    refine va_sld hx hb hX hbl hbA hS (by unfold vp_in; decide) dL_law_352 ?_
    refine my_bei (v := xs 2) rfl ?_
    have hPc := hP.sub (ws' := [(x, eO 9 [.ref (g 0), .ref (g 1), .ref (g 2), .ref (g 3), .ref (g 4), .ref (g 5), .ref (g 6)]), (g 1, eO 0 [.ref (g 101), .ref (g 103), .ref (g 105), .ref (g 107), .ref (g 109), .ref (g 111), .ref (g 174), .int 5, .int 20]), (g 174, eO 6 [.ref (g 175), .ref (g 176)]), (g 175, eA G 5 4 (aL [g 177, g 180, g 183, g 186])), (g 180, eO 7 [.ref (g 181), .ref (g 182), .int 0, .int 0]), (g 181, eI G 50 (fun _ => 0))]) [0, 1, 2, 3, 4, 5] rfl
    have hDc := hD.sub (ws' := [(x, eO 9 [.ref (g 0), .ref (g 1), .ref (g 2), .ref (g 3), .ref (g 4), .ref (g 5), .ref (g 6)]), (g 1, eO 0 [.ref (g 101), .ref (g 103), .ref (g 105), .ref (g 107), .ref (g 109), .ref (g 111), .ref (g 174), .int 5, .int 20]), (g 174, eO 6 [.ref (g 175), .ref (g 176)]), (g 175, eA G 5 4 (aL [g 177, g 180, g 183, g 186])), (g 180, eO 7 [.ref (g 181), .ref (g 182), .int 0, .int 0]), (g 181, eI G 50 (fun _ => 0))]) [0, 1, 2, 3, 4, 5] (by decide) rfl
    have hFc := va_free (wc := [(x, eO 9 [.ref (g 0), .ref (g 1), .ref (g 2), .ref (g 3), .ref (g 4), .ref (g 5), .ref (g 6)]), (g 1, eO 0 [.ref (g 101), .ref (g 103), .ref (g 105), .ref (g 107), .ref (g 109), .ref (g 111), .ref (g 174), .int 5, .int 20]), (g 174, eO 6 [.ref (g 175), .ref (g 176)]), (g 175, eA G 5 4 (aL [g 177, g 180, g 183, g 186])), (g 180, eO 7 [.ref (g 181), .ref (g 182), .int 0, .int 0]), (g 181, eI G 50 (fun _ => 0))]) hD hS hA [0, 1, 2, 3, 4, 5] rfl
    refine va_calli (va_runV (As := [.int (xs 1), .int (xs 2)]) (rest := []) ⟨hx, hb, hml, hown, hts⟩ (p_write l G H.size x (g 0) (g 1) (g 2) (g 3) (g 4) (g 5) (g 6) (g 101) (g 103) (g 105) (g 107) (g 109) (g 111) (g 174) (g 175) (g 176) (g 180) (g 181) (g 182) (aL [g 177, g 180, g 183, g 186]) (xs 1) (xs 2) (fun _ => by rw [h4]; rfl)) (my_cwV hts ok_X10_write w_238 rfl rfl ⟨Nat.le_of_ble_eq_true rfl, Nat.le_of_ble_eq_true rfl⟩) ⟨wP.blind, va_recv hG.1 hPc (ci := 9) (q0 := 0) rfl rfl, fun U hU hW => ⟨rfl, by rw [hU], by rw [hU]; exact hPc, kG.warm hW hG, hDc.weaken (fun _ _ _ _ => trivial)⟩⟩ rfl rfl hl.1 rfl (lv_room (Nat.le_of_ble_eq_true rfl)) dL_law_353 ⟨Nat.le_of_ble_eq_true rfl, Nat.le_of_ble_eq_true rfl⟩) hS (fun q _ h => hFc q h) hFc (fun r u t H1 locs ht hvm hw hB hz1 hk1 hS => ?_)
    obtain ⟨hP, hD⟩ := va_join (wr := [(mo, eO 10 [.ref (h 0), .ref (h 1), .ref (h 2), .long 0, .long 1, .int 0, .ref (h 3), .ref (h 4), .int 0, .ref (h 5), .ref (h 6), .int 0, .int 0, .int 0, .int 0, .ref (h 7), .ref (h 8), .ref (h 9), .ref (h 10), .ref (h 11), .ref (h 12), .ref (h 13), .ref (h 14), .ref (h 15), .ref (h 16)]), (h 0, eI G 2246 st0)]) (w1 := []) hP hD [0, 1, 2, 3, 4, 5] [6, 7] rfl rfl (by decide) (by decide) hk1 hFc my_P0 my_D0
    generalize H1 = H at hP hS ⊢
    have hP : va_P G.1 vwCl [(mo, eO 10 [.ref (h 0), .ref (h 1), .ref (h 2), .long 0, .long 1, .int 0, .ref (h 3), .ref (h 4), .int 0, .ref (h 5), .ref (h 6), .int 0, .int 0, .int 0, .int 0, .ref (h 7), .ref (h 8), .ref (h 9), .ref (h 10), .ref (h 11), .ref (h 12), .ref (h 13), .ref (h 14), .ref (h 15), .ref (h 16)]), (h 0, eI G 2246 st0)] H := hP
    have hD : va_D (fun q : Nat => s.heap.size ≤ q) [(mo, eO 10 [.ref (h 0), .ref (h 1), .ref (h 2), .long 0, .long 1, .int 0, .ref (h 3), .ref (h 4), .int 0, .ref (h 5), .ref (h 6), .int 0, .int 0, .int 0, .int 0, .ref (h 7), .ref (h 8), .ref (h 9), .ref (h 10), .ref (h 11), .ref (h 12), .ref (h 13), .ref (h 14), .ref (h 15), .ref (h 16)]), (h 0, eI G 2246 st0)] := hD
    subst hw
    refine lv_aload_n hx hb dL_law_356 rfl (lv_at hl 2 rfl) ?_
    refine lv_aload_n hx hb dL_law_357 rfl (lv_at hl 0 rfl) ?_
    refine lv_iload_n hx hb dL_law_358 rfl (lv_at hl 3 rfl) ?_
    refine lv_iconst (v := 1) hx hb dL_law_359 (by decide) ?_
    refine lv_iadd hx hb dL_law_360 ?_
    refine my_bei (v := 1) (by decide) ?_
    refine va_sld hx hb hX hbl hbA hS (by unfold vp_in; decide) dL_law_361 ?_
    refine my_bei (v := xs 1) rfl ?_
    refine lv_aload_n hx hb dL_law_362 rfl (lv_at hl 0 rfl) ?_
    refine lv_iload_n hx hb dL_law_363 rfl (lv_at hl 3 rfl) ?_
    refine lv_iconst (v := 2) hx hb dL_law_364 (by decide) ?_
    refine lv_iadd hx hb dL_law_365 ?_
    refine my_bei (v := 2) (by decide) ?_
    refine va_sld hx hb hX hbl hbA hS (by unfold vp_in; decide) dL_law_366 ?_
    refine my_bei (v := xs 2) rfl ?_
    have hPc := hP.sub (ws' := [(mo, eO 10 [.ref (h 0), .ref (h 1), .ref (h 2), .long 0, .long 1, .int 0, .ref (h 3), .ref (h 4), .int 0, .ref (h 5), .ref (h 6), .int 0, .int 0, .int 0, .int 0, .ref (h 7), .ref (h 8), .ref (h 9), .ref (h 10), .ref (h 11), .ref (h 12), .ref (h 13), .ref (h 14), .ref (h 15), .ref (h 16)]), (h 0, eI G 2246 st0)]) [0, 1] rfl
    have hDc := hD.sub (ws' := [(mo, eO 10 [.ref (h 0), .ref (h 1), .ref (h 2), .long 0, .long 1, .int 0, .ref (h 3), .ref (h 4), .int 0, .ref (h 5), .ref (h 6), .int 0, .int 0, .int 0, .int 0, .ref (h 7), .ref (h 8), .ref (h 9), .ref (h 10), .ref (h 11), .ref (h 12), .ref (h 13), .ref (h 14), .ref (h 15), .ref (h 16)]), (h 0, eI G 2246 st0)]) [0, 1] (by decide) rfl
    have hFc := va_free (wc := [(mo, eO 10 [.ref (h 0), .ref (h 1), .ref (h 2), .long 0, .long 1, .int 0, .ref (h 3), .ref (h 4), .int 0, .ref (h 5), .ref (h 6), .int 0, .int 0, .int 0, .int 0, .ref (h 7), .ref (h 8), .ref (h 9), .ref (h 10), .ref (h 11), .ref (h 12), .ref (h 13), .ref (h 14), .ref (h 15), .ref (h 16)]), (h 0, eI G 2246 st0)]) hD hS hA [0, 1] rfl
    refine va_calli (va_runV (As := [.int (xs 1), .int (xs 2)]) (rest := [.int (if (inB 0 (xs 1) 3 = true) ∧ (inB 0 (xs 2) 127 = true) then 1 else (-2))]) ⟨hx, hb, hml, hown, hts⟩ (m_write l G H.size mo (h 0) (h 1) (h 2) (h 3) (h 4) (h 5) (h 6) (h 7) (h 8) (h 9) (h 10) (h 11) (h 12) (h 13) (h 14) (h 15) (h 16) (xs 1) (xs 2) ) (my_cwV hts ok_X11_write w_254 rfl rfl ⟨Nat.le_of_ble_eq_true rfl, Nat.le_of_ble_eq_true rfl⟩) ⟨wP.blind, va_recv hG.1 hPc (ci := 10) (q0 := 0) rfl rfl, fun U hU hW => ⟨rfl, by rw [hU], by rw [hU]; exact hPc, kG.warm hW hG, hDc.weaken (fun _ _ _ _ => trivial)⟩⟩ rfl rfl hl.1 rfl (lv_room (Nat.le_of_ble_eq_true rfl)) dL_law_367 ⟨Nat.le_of_ble_eq_true rfl, Nat.le_of_ble_eq_true rfl⟩) hS (fun q _ h => hFc q h) hFc (fun r u t H1 locs ht hvm hw hB hz1 hk1 hS => ?_)
    obtain ⟨hP, hD⟩ := va_join (wr := []) (w1 := []) hP hD [0, 1] [] rfl rfl (by decide) (by decide) hk1 hFc my_P0 my_D0
    generalize H1 = H at hP hS ⊢
    have hP : va_P G.1 vwCl [] H := hP
    have hD : va_D (fun q : Nat => s.heap.size ≤ q) [] := hD
    subst hw
    refine lv_icmp_eq (tgt := 1376) hx hb dL_law_370 (by decide) (fun c_370 => ?_) (fun c_370 => absurd (rfl) c_370)
    exact law_end l C0 hS (lv_sub hl [0, 3] rfl)
  · have hD := hD.sub (ws' := [(x, eO 9 [.ref (g 0), .ref (g 1), .ref (g 2), .ref (g 3), .ref (g 4), .ref (g 5), .ref (g 6)]), (g 1, eO 0 [.ref (g 101), .ref (g 103), .ref (g 105), .ref (g 107), .ref (g 109), .ref (g 111), .ref (g 174), .int 5, .int 20]), (g 174, eO 6 [.ref (g 175), .ref (g 176)]), (g 175, eA G 5 4 (aL [g 177, g 180, g 183, g 186])), (g 183, eO 7 [.ref (g 184), .ref (g 185), .int 0, .int 0]), (g 184, eI G 50 (fun _ => 0)), (mo, eO 10 [.ref (h 0), .ref (h 1), .ref (h 2), .long 0, .long 1, .int 0, .ref (h 3), .ref (h 4), .int 0, .ref (h 5), .ref (h 6), .int 0, .int 0, .int 0, .int 0, .ref (h 7), .ref (h 8), .ref (h 9), .ref (h 10), .ref (h 11), .ref (h 12), .ref (h 13), .ref (h 14), .ref (h 15), .ref (h 16)]), (h 0, eI G 2246 st0)]) [0, 2, 75, 76, 83, 84, 269, 270] (by decide) rfl
    have hP := hP.sub (ws' := [(x, eO 9 [.ref (g 0), .ref (g 1), .ref (g 2), .ref (g 3), .ref (g 4), .ref (g 5), .ref (g 6)]), (g 1, eO 0 [.ref (g 101), .ref (g 103), .ref (g 105), .ref (g 107), .ref (g 109), .ref (g 111), .ref (g 174), .int 5, .int 20]), (g 174, eO 6 [.ref (g 175), .ref (g 176)]), (g 175, eA G 5 4 (aL [g 177, g 180, g 183, g 186])), (g 183, eO 7 [.ref (g 184), .ref (g 185), .int 0, .int 0]), (g 184, eI G 50 (fun _ => 0)), (mo, eO 10 [.ref (h 0), .ref (h 1), .ref (h 2), .long 0, .long 1, .int 0, .ref (h 3), .ref (h 4), .int 0, .ref (h 5), .ref (h 6), .int 0, .int 0, .int 0, .int 0, .ref (h 7), .ref (h 8), .ref (h 9), .ref (h 10), .ref (h 11), .ref (h 12), .ref (h 13), .ref (h 14), .ref (h 15), .ref (h 16)]), (h 0, eI G 2246 st0)]) [0, 2, 75, 76, 83, 84, 269, 270] rfl
    refine lv_aload_n hx hb dL_law_342 rfl (lv_at hl 1 rfl) ?_
    refine lv_aload_n hx hb dL_law_343 rfl (lv_at hl 0 rfl) ?_
    refine lv_iload_n hx hb dL_law_344 rfl (lv_at hl 3 rfl) ?_
    refine lv_iconst (v := 1) hx hb dL_law_345 (by decide) ?_
    refine lv_iadd hx hb dL_law_346 ?_
    refine my_bei (v := 1) (by decide) ?_
    refine va_sld hx hb hX hbl hbA hS (by unfold vp_in; decide) dL_law_347 ?_
    refine my_bei (v := xs 1) rfl ?_
    refine lv_aload_n hx hb dL_law_348 rfl (lv_at hl 0 rfl) ?_
    refine lv_iload_n hx hb dL_law_349 rfl (lv_at hl 3 rfl) ?_
    refine lv_iconst (v := 2) hx hb dL_law_350 (by decide) ?_
    refine lv_iadd hx hb dL_law_351 ?_
    refine my_bei (v := 2) (by decide) ?_
    refine va_sld hx hb hX hbl hbA hS (by unfold vp_in; decide) dL_law_352 ?_
    refine my_bei (v := xs 2) rfl ?_
    have hPc := hP.sub (ws' := [(x, eO 9 [.ref (g 0), .ref (g 1), .ref (g 2), .ref (g 3), .ref (g 4), .ref (g 5), .ref (g 6)]), (g 1, eO 0 [.ref (g 101), .ref (g 103), .ref (g 105), .ref (g 107), .ref (g 109), .ref (g 111), .ref (g 174), .int 5, .int 20]), (g 174, eO 6 [.ref (g 175), .ref (g 176)]), (g 175, eA G 5 4 (aL [g 177, g 180, g 183, g 186])), (g 183, eO 7 [.ref (g 184), .ref (g 185), .int 0, .int 0]), (g 184, eI G 50 (fun _ => 0))]) [0, 1, 2, 3, 4, 5] rfl
    have hDc := hD.sub (ws' := [(x, eO 9 [.ref (g 0), .ref (g 1), .ref (g 2), .ref (g 3), .ref (g 4), .ref (g 5), .ref (g 6)]), (g 1, eO 0 [.ref (g 101), .ref (g 103), .ref (g 105), .ref (g 107), .ref (g 109), .ref (g 111), .ref (g 174), .int 5, .int 20]), (g 174, eO 6 [.ref (g 175), .ref (g 176)]), (g 175, eA G 5 4 (aL [g 177, g 180, g 183, g 186])), (g 183, eO 7 [.ref (g 184), .ref (g 185), .int 0, .int 0]), (g 184, eI G 50 (fun _ => 0))]) [0, 1, 2, 3, 4, 5] (by decide) rfl
    have hFc := va_free (wc := [(x, eO 9 [.ref (g 0), .ref (g 1), .ref (g 2), .ref (g 3), .ref (g 4), .ref (g 5), .ref (g 6)]), (g 1, eO 0 [.ref (g 101), .ref (g 103), .ref (g 105), .ref (g 107), .ref (g 109), .ref (g 111), .ref (g 174), .int 5, .int 20]), (g 174, eO 6 [.ref (g 175), .ref (g 176)]), (g 175, eA G 5 4 (aL [g 177, g 180, g 183, g 186])), (g 183, eO 7 [.ref (g 184), .ref (g 185), .int 0, .int 0]), (g 184, eI G 50 (fun _ => 0))]) hD hS hA [0, 1, 2, 3, 4, 5] rfl
    refine va_calli (va_runV (As := [.int (xs 1), .int (xs 2)]) (rest := []) ⟨hx, hb, hml, hown, hts⟩ (p_write l G H.size x (g 0) (g 1) (g 2) (g 3) (g 4) (g 5) (g 6) (g 101) (g 103) (g 105) (g 107) (g 109) (g 111) (g 174) (g 175) (g 176) (g 183) (g 184) (g 185) (aL [g 177, g 180, g 183, g 186]) (xs 1) (xs 2) (fun _ => by rw [h4]; rfl)) (my_cwV hts ok_X10_write w_238 rfl rfl ⟨Nat.le_of_ble_eq_true rfl, Nat.le_of_ble_eq_true rfl⟩) ⟨wP.blind, va_recv hG.1 hPc (ci := 9) (q0 := 0) rfl rfl, fun U hU hW => ⟨rfl, by rw [hU], by rw [hU]; exact hPc, kG.warm hW hG, hDc.weaken (fun _ _ _ _ => trivial)⟩⟩ rfl rfl hl.1 rfl (lv_room (Nat.le_of_ble_eq_true rfl)) dL_law_353 ⟨Nat.le_of_ble_eq_true rfl, Nat.le_of_ble_eq_true rfl⟩) hS (fun q _ h => hFc q h) hFc (fun r u t H1 locs ht hvm hw hB hz1 hk1 hS => ?_)
    obtain ⟨hP, hD⟩ := va_join (wr := [(mo, eO 10 [.ref (h 0), .ref (h 1), .ref (h 2), .long 0, .long 1, .int 0, .ref (h 3), .ref (h 4), .int 0, .ref (h 5), .ref (h 6), .int 0, .int 0, .int 0, .int 0, .ref (h 7), .ref (h 8), .ref (h 9), .ref (h 10), .ref (h 11), .ref (h 12), .ref (h 13), .ref (h 14), .ref (h 15), .ref (h 16)]), (h 0, eI G 2246 st0)]) (w1 := []) hP hD [0, 1, 2, 3, 4, 5] [6, 7] rfl rfl (by decide) (by decide) hk1 hFc my_P0 my_D0
    generalize H1 = H at hP hS ⊢
    have hP : va_P G.1 vwCl [(mo, eO 10 [.ref (h 0), .ref (h 1), .ref (h 2), .long 0, .long 1, .int 0, .ref (h 3), .ref (h 4), .int 0, .ref (h 5), .ref (h 6), .int 0, .int 0, .int 0, .int 0, .ref (h 7), .ref (h 8), .ref (h 9), .ref (h 10), .ref (h 11), .ref (h 12), .ref (h 13), .ref (h 14), .ref (h 15), .ref (h 16)]), (h 0, eI G 2246 st0)] H := hP
    have hD : va_D (fun q : Nat => s.heap.size ≤ q) [(mo, eO 10 [.ref (h 0), .ref (h 1), .ref (h 2), .long 0, .long 1, .int 0, .ref (h 3), .ref (h 4), .int 0, .ref (h 5), .ref (h 6), .int 0, .int 0, .int 0, .int 0, .ref (h 7), .ref (h 8), .ref (h 9), .ref (h 10), .ref (h 11), .ref (h 12), .ref (h 13), .ref (h 14), .ref (h 15), .ref (h 16)]), (h 0, eI G 2246 st0)] := hD
    subst hw
    refine lv_aload_n hx hb dL_law_356 rfl (lv_at hl 2 rfl) ?_
    refine lv_aload_n hx hb dL_law_357 rfl (lv_at hl 0 rfl) ?_
    refine lv_iload_n hx hb dL_law_358 rfl (lv_at hl 3 rfl) ?_
    refine lv_iconst (v := 1) hx hb dL_law_359 (by decide) ?_
    refine lv_iadd hx hb dL_law_360 ?_
    refine my_bei (v := 1) (by decide) ?_
    refine va_sld hx hb hX hbl hbA hS (by unfold vp_in; decide) dL_law_361 ?_
    refine my_bei (v := xs 1) rfl ?_
    refine lv_aload_n hx hb dL_law_362 rfl (lv_at hl 0 rfl) ?_
    refine lv_iload_n hx hb dL_law_363 rfl (lv_at hl 3 rfl) ?_
    refine lv_iconst (v := 2) hx hb dL_law_364 (by decide) ?_
    refine lv_iadd hx hb dL_law_365 ?_
    refine my_bei (v := 2) (by decide) ?_
    refine va_sld hx hb hX hbl hbA hS (by unfold vp_in; decide) dL_law_366 ?_
    refine my_bei (v := xs 2) rfl ?_
    have hPc := hP.sub (ws' := [(mo, eO 10 [.ref (h 0), .ref (h 1), .ref (h 2), .long 0, .long 1, .int 0, .ref (h 3), .ref (h 4), .int 0, .ref (h 5), .ref (h 6), .int 0, .int 0, .int 0, .int 0, .ref (h 7), .ref (h 8), .ref (h 9), .ref (h 10), .ref (h 11), .ref (h 12), .ref (h 13), .ref (h 14), .ref (h 15), .ref (h 16)]), (h 0, eI G 2246 st0)]) [0, 1] rfl
    have hDc := hD.sub (ws' := [(mo, eO 10 [.ref (h 0), .ref (h 1), .ref (h 2), .long 0, .long 1, .int 0, .ref (h 3), .ref (h 4), .int 0, .ref (h 5), .ref (h 6), .int 0, .int 0, .int 0, .int 0, .ref (h 7), .ref (h 8), .ref (h 9), .ref (h 10), .ref (h 11), .ref (h 12), .ref (h 13), .ref (h 14), .ref (h 15), .ref (h 16)]), (h 0, eI G 2246 st0)]) [0, 1] (by decide) rfl
    have hFc := va_free (wc := [(mo, eO 10 [.ref (h 0), .ref (h 1), .ref (h 2), .long 0, .long 1, .int 0, .ref (h 3), .ref (h 4), .int 0, .ref (h 5), .ref (h 6), .int 0, .int 0, .int 0, .int 0, .ref (h 7), .ref (h 8), .ref (h 9), .ref (h 10), .ref (h 11), .ref (h 12), .ref (h 13), .ref (h 14), .ref (h 15), .ref (h 16)]), (h 0, eI G 2246 st0)]) hD hS hA [0, 1] rfl
    refine va_calli (va_runV (As := [.int (xs 1), .int (xs 2)]) (rest := [.int (if (inB 0 (xs 1) 3 = true) ∧ (inB 0 (xs 2) 127 = true) then 1 else (-2))]) ⟨hx, hb, hml, hown, hts⟩ (m_write l G H.size mo (h 0) (h 1) (h 2) (h 3) (h 4) (h 5) (h 6) (h 7) (h 8) (h 9) (h 10) (h 11) (h 12) (h 13) (h 14) (h 15) (h 16) (xs 1) (xs 2) ) (my_cwV hts ok_X11_write w_254 rfl rfl ⟨Nat.le_of_ble_eq_true rfl, Nat.le_of_ble_eq_true rfl⟩) ⟨wP.blind, va_recv hG.1 hPc (ci := 10) (q0 := 0) rfl rfl, fun U hU hW => ⟨rfl, by rw [hU], by rw [hU]; exact hPc, kG.warm hW hG, hDc.weaken (fun _ _ _ _ => trivial)⟩⟩ rfl rfl hl.1 rfl (lv_room (Nat.le_of_ble_eq_true rfl)) dL_law_367 ⟨Nat.le_of_ble_eq_true rfl, Nat.le_of_ble_eq_true rfl⟩) hS (fun q _ h => hFc q h) hFc (fun r u t H1 locs ht hvm hw hB hz1 hk1 hS => ?_)
    obtain ⟨hP, hD⟩ := va_join (wr := []) (w1 := []) hP hD [0, 1] [] rfl rfl (by decide) (by decide) hk1 hFc my_P0 my_D0
    generalize H1 = H at hP hS ⊢
    have hP : va_P G.1 vwCl [] H := hP
    have hD : va_D (fun q : Nat => s.heap.size ≤ q) [] := hD
    subst hw
    refine lv_icmp_eq (tgt := 1376) hx hb dL_law_370 (by decide) (fun c_370 => ?_) (fun c_370 => absurd (rfl) c_370)
    exact law_end l C0 hS (lv_sub hl [0, 3] rfl)
  · have hD := hD.sub (ws' := [(x, eO 9 [.ref (g 0), .ref (g 1), .ref (g 2), .ref (g 3), .ref (g 4), .ref (g 5), .ref (g 6)]), (g 1, eO 0 [.ref (g 101), .ref (g 103), .ref (g 105), .ref (g 107), .ref (g 109), .ref (g 111), .ref (g 174), .int 5, .int 20]), (g 174, eO 6 [.ref (g 175), .ref (g 176)]), (g 175, eA G 5 4 (aL [g 177, g 180, g 183, g 186])), (g 186, eO 7 [.ref (g 187), .ref (g 188), .int 0, .int 0]), (g 187, eI G 50 (fun _ => 0)), (mo, eO 10 [.ref (h 0), .ref (h 1), .ref (h 2), .long 0, .long 1, .int 0, .ref (h 3), .ref (h 4), .int 0, .ref (h 5), .ref (h 6), .int 0, .int 0, .int 0, .int 0, .ref (h 7), .ref (h 8), .ref (h 9), .ref (h 10), .ref (h 11), .ref (h 12), .ref (h 13), .ref (h 14), .ref (h 15), .ref (h 16)]), (h 0, eI G 2246 st0)]) [0, 2, 75, 76, 86, 87, 269, 270] (by decide) rfl
    have hP := hP.sub (ws' := [(x, eO 9 [.ref (g 0), .ref (g 1), .ref (g 2), .ref (g 3), .ref (g 4), .ref (g 5), .ref (g 6)]), (g 1, eO 0 [.ref (g 101), .ref (g 103), .ref (g 105), .ref (g 107), .ref (g 109), .ref (g 111), .ref (g 174), .int 5, .int 20]), (g 174, eO 6 [.ref (g 175), .ref (g 176)]), (g 175, eA G 5 4 (aL [g 177, g 180, g 183, g 186])), (g 186, eO 7 [.ref (g 187), .ref (g 188), .int 0, .int 0]), (g 187, eI G 50 (fun _ => 0)), (mo, eO 10 [.ref (h 0), .ref (h 1), .ref (h 2), .long 0, .long 1, .int 0, .ref (h 3), .ref (h 4), .int 0, .ref (h 5), .ref (h 6), .int 0, .int 0, .int 0, .int 0, .ref (h 7), .ref (h 8), .ref (h 9), .ref (h 10), .ref (h 11), .ref (h 12), .ref (h 13), .ref (h 14), .ref (h 15), .ref (h 16)]), (h 0, eI G 2246 st0)]) [0, 2, 75, 76, 86, 87, 269, 270] rfl
    refine lv_aload_n hx hb dL_law_342 rfl (lv_at hl 1 rfl) ?_
    refine lv_aload_n hx hb dL_law_343 rfl (lv_at hl 0 rfl) ?_
    refine lv_iload_n hx hb dL_law_344 rfl (lv_at hl 3 rfl) ?_
    refine lv_iconst (v := 1) hx hb dL_law_345 (by decide) ?_
    refine lv_iadd hx hb dL_law_346 ?_
    refine my_bei (v := 1) (by decide) ?_
    refine va_sld hx hb hX hbl hbA hS (by unfold vp_in; decide) dL_law_347 ?_
    refine my_bei (v := xs 1) rfl ?_
    refine lv_aload_n hx hb dL_law_348 rfl (lv_at hl 0 rfl) ?_
    refine lv_iload_n hx hb dL_law_349 rfl (lv_at hl 3 rfl) ?_
    refine lv_iconst (v := 2) hx hb dL_law_350 (by decide) ?_
    refine lv_iadd hx hb dL_law_351 ?_
    refine my_bei (v := 2) (by decide) ?_
    refine va_sld hx hb hX hbl hbA hS (by unfold vp_in; decide) dL_law_352 ?_
    refine my_bei (v := xs 2) rfl ?_
    have hPc := hP.sub (ws' := [(x, eO 9 [.ref (g 0), .ref (g 1), .ref (g 2), .ref (g 3), .ref (g 4), .ref (g 5), .ref (g 6)]), (g 1, eO 0 [.ref (g 101), .ref (g 103), .ref (g 105), .ref (g 107), .ref (g 109), .ref (g 111), .ref (g 174), .int 5, .int 20]), (g 174, eO 6 [.ref (g 175), .ref (g 176)]), (g 175, eA G 5 4 (aL [g 177, g 180, g 183, g 186])), (g 186, eO 7 [.ref (g 187), .ref (g 188), .int 0, .int 0]), (g 187, eI G 50 (fun _ => 0))]) [0, 1, 2, 3, 4, 5] rfl
    have hDc := hD.sub (ws' := [(x, eO 9 [.ref (g 0), .ref (g 1), .ref (g 2), .ref (g 3), .ref (g 4), .ref (g 5), .ref (g 6)]), (g 1, eO 0 [.ref (g 101), .ref (g 103), .ref (g 105), .ref (g 107), .ref (g 109), .ref (g 111), .ref (g 174), .int 5, .int 20]), (g 174, eO 6 [.ref (g 175), .ref (g 176)]), (g 175, eA G 5 4 (aL [g 177, g 180, g 183, g 186])), (g 186, eO 7 [.ref (g 187), .ref (g 188), .int 0, .int 0]), (g 187, eI G 50 (fun _ => 0))]) [0, 1, 2, 3, 4, 5] (by decide) rfl
    have hFc := va_free (wc := [(x, eO 9 [.ref (g 0), .ref (g 1), .ref (g 2), .ref (g 3), .ref (g 4), .ref (g 5), .ref (g 6)]), (g 1, eO 0 [.ref (g 101), .ref (g 103), .ref (g 105), .ref (g 107), .ref (g 109), .ref (g 111), .ref (g 174), .int 5, .int 20]), (g 174, eO 6 [.ref (g 175), .ref (g 176)]), (g 175, eA G 5 4 (aL [g 177, g 180, g 183, g 186])), (g 186, eO 7 [.ref (g 187), .ref (g 188), .int 0, .int 0]), (g 187, eI G 50 (fun _ => 0))]) hD hS hA [0, 1, 2, 3, 4, 5] rfl
    refine va_calli (va_runV (As := [.int (xs 1), .int (xs 2)]) (rest := []) ⟨hx, hb, hml, hown, hts⟩ (p_write l G H.size x (g 0) (g 1) (g 2) (g 3) (g 4) (g 5) (g 6) (g 101) (g 103) (g 105) (g 107) (g 109) (g 111) (g 174) (g 175) (g 176) (g 186) (g 187) (g 188) (aL [g 177, g 180, g 183, g 186]) (xs 1) (xs 2) (fun _ => by rw [h4]; rfl)) (my_cwV hts ok_X10_write w_238 rfl rfl ⟨Nat.le_of_ble_eq_true rfl, Nat.le_of_ble_eq_true rfl⟩) ⟨wP.blind, va_recv hG.1 hPc (ci := 9) (q0 := 0) rfl rfl, fun U hU hW => ⟨rfl, by rw [hU], by rw [hU]; exact hPc, kG.warm hW hG, hDc.weaken (fun _ _ _ _ => trivial)⟩⟩ rfl rfl hl.1 rfl (lv_room (Nat.le_of_ble_eq_true rfl)) dL_law_353 ⟨Nat.le_of_ble_eq_true rfl, Nat.le_of_ble_eq_true rfl⟩) hS (fun q _ h => hFc q h) hFc (fun r u t H1 locs ht hvm hw hB hz1 hk1 hS => ?_)
    obtain ⟨hP, hD⟩ := va_join (wr := [(mo, eO 10 [.ref (h 0), .ref (h 1), .ref (h 2), .long 0, .long 1, .int 0, .ref (h 3), .ref (h 4), .int 0, .ref (h 5), .ref (h 6), .int 0, .int 0, .int 0, .int 0, .ref (h 7), .ref (h 8), .ref (h 9), .ref (h 10), .ref (h 11), .ref (h 12), .ref (h 13), .ref (h 14), .ref (h 15), .ref (h 16)]), (h 0, eI G 2246 st0)]) (w1 := []) hP hD [0, 1, 2, 3, 4, 5] [6, 7] rfl rfl (by decide) (by decide) hk1 hFc my_P0 my_D0
    generalize H1 = H at hP hS ⊢
    have hP : va_P G.1 vwCl [(mo, eO 10 [.ref (h 0), .ref (h 1), .ref (h 2), .long 0, .long 1, .int 0, .ref (h 3), .ref (h 4), .int 0, .ref (h 5), .ref (h 6), .int 0, .int 0, .int 0, .int 0, .ref (h 7), .ref (h 8), .ref (h 9), .ref (h 10), .ref (h 11), .ref (h 12), .ref (h 13), .ref (h 14), .ref (h 15), .ref (h 16)]), (h 0, eI G 2246 st0)] H := hP
    have hD : va_D (fun q : Nat => s.heap.size ≤ q) [(mo, eO 10 [.ref (h 0), .ref (h 1), .ref (h 2), .long 0, .long 1, .int 0, .ref (h 3), .ref (h 4), .int 0, .ref (h 5), .ref (h 6), .int 0, .int 0, .int 0, .int 0, .ref (h 7), .ref (h 8), .ref (h 9), .ref (h 10), .ref (h 11), .ref (h 12), .ref (h 13), .ref (h 14), .ref (h 15), .ref (h 16)]), (h 0, eI G 2246 st0)] := hD
    subst hw
    refine lv_aload_n hx hb dL_law_356 rfl (lv_at hl 2 rfl) ?_
    refine lv_aload_n hx hb dL_law_357 rfl (lv_at hl 0 rfl) ?_
    refine lv_iload_n hx hb dL_law_358 rfl (lv_at hl 3 rfl) ?_
    refine lv_iconst (v := 1) hx hb dL_law_359 (by decide) ?_
    refine lv_iadd hx hb dL_law_360 ?_
    refine my_bei (v := 1) (by decide) ?_
    refine va_sld hx hb hX hbl hbA hS (by unfold vp_in; decide) dL_law_361 ?_
    refine my_bei (v := xs 1) rfl ?_
    refine lv_aload_n hx hb dL_law_362 rfl (lv_at hl 0 rfl) ?_
    refine lv_iload_n hx hb dL_law_363 rfl (lv_at hl 3 rfl) ?_
    refine lv_iconst (v := 2) hx hb dL_law_364 (by decide) ?_
    refine lv_iadd hx hb dL_law_365 ?_
    refine my_bei (v := 2) (by decide) ?_
    refine va_sld hx hb hX hbl hbA hS (by unfold vp_in; decide) dL_law_366 ?_
    refine my_bei (v := xs 2) rfl ?_
    have hPc := hP.sub (ws' := [(mo, eO 10 [.ref (h 0), .ref (h 1), .ref (h 2), .long 0, .long 1, .int 0, .ref (h 3), .ref (h 4), .int 0, .ref (h 5), .ref (h 6), .int 0, .int 0, .int 0, .int 0, .ref (h 7), .ref (h 8), .ref (h 9), .ref (h 10), .ref (h 11), .ref (h 12), .ref (h 13), .ref (h 14), .ref (h 15), .ref (h 16)]), (h 0, eI G 2246 st0)]) [0, 1] rfl
    have hDc := hD.sub (ws' := [(mo, eO 10 [.ref (h 0), .ref (h 1), .ref (h 2), .long 0, .long 1, .int 0, .ref (h 3), .ref (h 4), .int 0, .ref (h 5), .ref (h 6), .int 0, .int 0, .int 0, .int 0, .ref (h 7), .ref (h 8), .ref (h 9), .ref (h 10), .ref (h 11), .ref (h 12), .ref (h 13), .ref (h 14), .ref (h 15), .ref (h 16)]), (h 0, eI G 2246 st0)]) [0, 1] (by decide) rfl
    have hFc := va_free (wc := [(mo, eO 10 [.ref (h 0), .ref (h 1), .ref (h 2), .long 0, .long 1, .int 0, .ref (h 3), .ref (h 4), .int 0, .ref (h 5), .ref (h 6), .int 0, .int 0, .int 0, .int 0, .ref (h 7), .ref (h 8), .ref (h 9), .ref (h 10), .ref (h 11), .ref (h 12), .ref (h 13), .ref (h 14), .ref (h 15), .ref (h 16)]), (h 0, eI G 2246 st0)]) hD hS hA [0, 1] rfl
    refine va_calli (va_runV (As := [.int (xs 1), .int (xs 2)]) (rest := [.int (if (inB 0 (xs 1) 3 = true) ∧ (inB 0 (xs 2) 127 = true) then 1 else (-2))]) ⟨hx, hb, hml, hown, hts⟩ (m_write l G H.size mo (h 0) (h 1) (h 2) (h 3) (h 4) (h 5) (h 6) (h 7) (h 8) (h 9) (h 10) (h 11) (h 12) (h 13) (h 14) (h 15) (h 16) (xs 1) (xs 2) ) (my_cwV hts ok_X11_write w_254 rfl rfl ⟨Nat.le_of_ble_eq_true rfl, Nat.le_of_ble_eq_true rfl⟩) ⟨wP.blind, va_recv hG.1 hPc (ci := 10) (q0 := 0) rfl rfl, fun U hU hW => ⟨rfl, by rw [hU], by rw [hU]; exact hPc, kG.warm hW hG, hDc.weaken (fun _ _ _ _ => trivial)⟩⟩ rfl rfl hl.1 rfl (lv_room (Nat.le_of_ble_eq_true rfl)) dL_law_367 ⟨Nat.le_of_ble_eq_true rfl, Nat.le_of_ble_eq_true rfl⟩) hS (fun q _ h => hFc q h) hFc (fun r u t H1 locs ht hvm hw hB hz1 hk1 hS => ?_)
    obtain ⟨hP, hD⟩ := va_join (wr := []) (w1 := []) hP hD [0, 1] [] rfl rfl (by decide) (by decide) hk1 hFc my_P0 my_D0
    generalize H1 = H at hP hS ⊢
    have hP : va_P G.1 vwCl [] H := hP
    have hD : va_D (fun q : Nat => s.heap.size ≤ q) [] := hD
    subst hw
    refine lv_icmp_eq (tgt := 1376) hx hb dL_law_370 (by decide) (fun c_370 => ?_) (fun c_370 => absurd (rfl) c_370)
    exact law_end l C0 hS (lv_sub hl [0, 3] rfl)
  · have hD := hD.sub (ws' := [(x, eO 9 [.ref (g 0), .ref (g 1), .ref (g 2), .ref (g 3), .ref (g 4), .ref (g 5), .ref (g 6)]), (g 1, eO 0 [.ref (g 101), .ref (g 103), .ref (g 105), .ref (g 107), .ref (g 109), .ref (g 111), .ref (g 174), .int 5, .int 20]), (g 174, eO 6 [.ref (g 175), .ref (g 176)]), (g 175, eA G 5 4 (aL [g 177, g 180, g 183, g 186])), (g 177, eO 7 [.ref (g 178), .ref (g 179), .int 0, .int 0]), (g 178, eI G 50 (fun _ => 0)), (mo, eO 10 [.ref (h 0), .ref (h 1), .ref (h 2), .long 0, .long 1, .int 0, .ref (h 3), .ref (h 4), .int 0, .ref (h 5), .ref (h 6), .int 0, .int 0, .int 0, .int 0, .ref (h 7), .ref (h 8), .ref (h 9), .ref (h 10), .ref (h 11), .ref (h 12), .ref (h 13), .ref (h 14), .ref (h 15), .ref (h 16)]), (h 0, eI G 2246 st0)]) [0, 2, 75, 76, 77, 78, 269, 270] (by decide) rfl
    have hP := hP.sub (ws' := [(x, eO 9 [.ref (g 0), .ref (g 1), .ref (g 2), .ref (g 3), .ref (g 4), .ref (g 5), .ref (g 6)]), (g 1, eO 0 [.ref (g 101), .ref (g 103), .ref (g 105), .ref (g 107), .ref (g 109), .ref (g 111), .ref (g 174), .int 5, .int 20]), (g 174, eO 6 [.ref (g 175), .ref (g 176)]), (g 175, eA G 5 4 (aL [g 177, g 180, g 183, g 186])), (g 177, eO 7 [.ref (g 178), .ref (g 179), .int 0, .int 0]), (g 178, eI G 50 (fun _ => 0)), (mo, eO 10 [.ref (h 0), .ref (h 1), .ref (h 2), .long 0, .long 1, .int 0, .ref (h 3), .ref (h 4), .int 0, .ref (h 5), .ref (h 6), .int 0, .int 0, .int 0, .int 0, .ref (h 7), .ref (h 8), .ref (h 9), .ref (h 10), .ref (h 11), .ref (h 12), .ref (h 13), .ref (h 14), .ref (h 15), .ref (h 16)]), (h 0, eI G 2246 st0)]) [0, 2, 75, 76, 77, 78, 269, 270] rfl
    refine lv_aload_n hx hb dL_law_342 rfl (lv_at hl 1 rfl) ?_
    refine lv_aload_n hx hb dL_law_343 rfl (lv_at hl 0 rfl) ?_
    refine lv_iload_n hx hb dL_law_344 rfl (lv_at hl 3 rfl) ?_
    refine lv_iconst (v := 1) hx hb dL_law_345 (by decide) ?_
    refine lv_iadd hx hb dL_law_346 ?_
    refine my_bei (v := 1) (by decide) ?_
    refine va_sld hx hb hX hbl hbA hS (by unfold vp_in; decide) dL_law_347 ?_
    refine my_bei (v := xs 1) rfl ?_
    refine lv_aload_n hx hb dL_law_348 rfl (lv_at hl 0 rfl) ?_
    refine lv_iload_n hx hb dL_law_349 rfl (lv_at hl 3 rfl) ?_
    refine lv_iconst (v := 2) hx hb dL_law_350 (by decide) ?_
    refine lv_iadd hx hb dL_law_351 ?_
    refine my_bei (v := 2) (by decide) ?_
    refine va_sld hx hb hX hbl hbA hS (by unfold vp_in; decide) dL_law_352 ?_
    refine my_bei (v := xs 2) rfl ?_
    have hPc := hP.sub (ws' := [(x, eO 9 [.ref (g 0), .ref (g 1), .ref (g 2), .ref (g 3), .ref (g 4), .ref (g 5), .ref (g 6)]), (g 1, eO 0 [.ref (g 101), .ref (g 103), .ref (g 105), .ref (g 107), .ref (g 109), .ref (g 111), .ref (g 174), .int 5, .int 20]), (g 174, eO 6 [.ref (g 175), .ref (g 176)]), (g 175, eA G 5 4 (aL [g 177, g 180, g 183, g 186])), (g 177, eO 7 [.ref (g 178), .ref (g 179), .int 0, .int 0]), (g 178, eI G 50 (fun _ => 0))]) [0, 1, 2, 3, 4, 5] rfl
    have hDc := hD.sub (ws' := [(x, eO 9 [.ref (g 0), .ref (g 1), .ref (g 2), .ref (g 3), .ref (g 4), .ref (g 5), .ref (g 6)]), (g 1, eO 0 [.ref (g 101), .ref (g 103), .ref (g 105), .ref (g 107), .ref (g 109), .ref (g 111), .ref (g 174), .int 5, .int 20]), (g 174, eO 6 [.ref (g 175), .ref (g 176)]), (g 175, eA G 5 4 (aL [g 177, g 180, g 183, g 186])), (g 177, eO 7 [.ref (g 178), .ref (g 179), .int 0, .int 0]), (g 178, eI G 50 (fun _ => 0))]) [0, 1, 2, 3, 4, 5] (by decide) rfl
    have hFc := va_free (wc := [(x, eO 9 [.ref (g 0), .ref (g 1), .ref (g 2), .ref (g 3), .ref (g 4), .ref (g 5), .ref (g 6)]), (g 1, eO 0 [.ref (g 101), .ref (g 103), .ref (g 105), .ref (g 107), .ref (g 109), .ref (g 111), .ref (g 174), .int 5, .int 20]), (g 174, eO 6 [.ref (g 175), .ref (g 176)]), (g 175, eA G 5 4 (aL [g 177, g 180, g 183, g 186])), (g 177, eO 7 [.ref (g 178), .ref (g 179), .int 0, .int 0]), (g 178, eI G 50 (fun _ => 0))]) hD hS hA [0, 1, 2, 3, 4, 5] rfl
    refine va_calli (va_runV (As := [.int (xs 1), .int (xs 2)]) (rest := []) ⟨hx, hb, hml, hown, hts⟩ (p_write l G H.size x (g 0) (g 1) (g 2) (g 3) (g 4) (g 5) (g 6) (g 101) (g 103) (g 105) (g 107) (g 109) (g 111) (g 174) (g 175) (g 176) (g 177) (g 178) (g 179) (aL [g 177, g 180, g 183, g 186]) (xs 1) (xs 2) (fun z => absurd z h4)) (my_cwV hts ok_X10_write w_238 rfl rfl ⟨Nat.le_of_ble_eq_true rfl, Nat.le_of_ble_eq_true rfl⟩) ⟨wP.blind, va_recv hG.1 hPc (ci := 9) (q0 := 0) rfl rfl, fun U hU hW => ⟨rfl, by rw [hU], by rw [hU]; exact hPc, kG.warm hW hG, hDc.weaken (fun _ _ _ _ => trivial)⟩⟩ rfl rfl hl.1 rfl (lv_room (Nat.le_of_ble_eq_true rfl)) dL_law_353 ⟨Nat.le_of_ble_eq_true rfl, Nat.le_of_ble_eq_true rfl⟩) hS (fun q _ h => hFc q h) hFc (fun r u t H1 locs ht hvm hw hB hz1 hk1 hS => ?_)
    obtain ⟨hP, hD⟩ := va_join (wr := [(mo, eO 10 [.ref (h 0), .ref (h 1), .ref (h 2), .long 0, .long 1, .int 0, .ref (h 3), .ref (h 4), .int 0, .ref (h 5), .ref (h 6), .int 0, .int 0, .int 0, .int 0, .ref (h 7), .ref (h 8), .ref (h 9), .ref (h 10), .ref (h 11), .ref (h 12), .ref (h 13), .ref (h 14), .ref (h 15), .ref (h 16)]), (h 0, eI G 2246 st0)]) (w1 := []) hP hD [0, 1, 2, 3, 4, 5] [6, 7] rfl rfl (by decide) (by decide) hk1 hFc my_P0 my_D0
    generalize H1 = H at hP hS ⊢
    have hP : va_P G.1 vwCl [(mo, eO 10 [.ref (h 0), .ref (h 1), .ref (h 2), .long 0, .long 1, .int 0, .ref (h 3), .ref (h 4), .int 0, .ref (h 5), .ref (h 6), .int 0, .int 0, .int 0, .int 0, .ref (h 7), .ref (h 8), .ref (h 9), .ref (h 10), .ref (h 11), .ref (h 12), .ref (h 13), .ref (h 14), .ref (h 15), .ref (h 16)]), (h 0, eI G 2246 st0)] H := hP
    have hD : va_D (fun q : Nat => s.heap.size ≤ q) [(mo, eO 10 [.ref (h 0), .ref (h 1), .ref (h 2), .long 0, .long 1, .int 0, .ref (h 3), .ref (h 4), .int 0, .ref (h 5), .ref (h 6), .int 0, .int 0, .int 0, .int 0, .ref (h 7), .ref (h 8), .ref (h 9), .ref (h 10), .ref (h 11), .ref (h 12), .ref (h 13), .ref (h 14), .ref (h 15), .ref (h 16)]), (h 0, eI G 2246 st0)] := hD
    subst hw
    refine lv_aload_n hx hb dL_law_356 rfl (lv_at hl 2 rfl) ?_
    refine lv_aload_n hx hb dL_law_357 rfl (lv_at hl 0 rfl) ?_
    refine lv_iload_n hx hb dL_law_358 rfl (lv_at hl 3 rfl) ?_
    refine lv_iconst (v := 1) hx hb dL_law_359 (by decide) ?_
    refine lv_iadd hx hb dL_law_360 ?_
    refine my_bei (v := 1) (by decide) ?_
    refine va_sld hx hb hX hbl hbA hS (by unfold vp_in; decide) dL_law_361 ?_
    refine my_bei (v := xs 1) rfl ?_
    refine lv_aload_n hx hb dL_law_362 rfl (lv_at hl 0 rfl) ?_
    refine lv_iload_n hx hb dL_law_363 rfl (lv_at hl 3 rfl) ?_
    refine lv_iconst (v := 2) hx hb dL_law_364 (by decide) ?_
    refine lv_iadd hx hb dL_law_365 ?_
    refine my_bei (v := 2) (by decide) ?_
    refine va_sld hx hb hX hbl hbA hS (by unfold vp_in; decide) dL_law_366 ?_
    refine my_bei (v := xs 2) rfl ?_
    have hPc := hP.sub (ws' := [(mo, eO 10 [.ref (h 0), .ref (h 1), .ref (h 2), .long 0, .long 1, .int 0, .ref (h 3), .ref (h 4), .int 0, .ref (h 5), .ref (h 6), .int 0, .int 0, .int 0, .int 0, .ref (h 7), .ref (h 8), .ref (h 9), .ref (h 10), .ref (h 11), .ref (h 12), .ref (h 13), .ref (h 14), .ref (h 15), .ref (h 16)]), (h 0, eI G 2246 st0)]) [0, 1] rfl
    have hDc := hD.sub (ws' := [(mo, eO 10 [.ref (h 0), .ref (h 1), .ref (h 2), .long 0, .long 1, .int 0, .ref (h 3), .ref (h 4), .int 0, .ref (h 5), .ref (h 6), .int 0, .int 0, .int 0, .int 0, .ref (h 7), .ref (h 8), .ref (h 9), .ref (h 10), .ref (h 11), .ref (h 12), .ref (h 13), .ref (h 14), .ref (h 15), .ref (h 16)]), (h 0, eI G 2246 st0)]) [0, 1] (by decide) rfl
    have hFc := va_free (wc := [(mo, eO 10 [.ref (h 0), .ref (h 1), .ref (h 2), .long 0, .long 1, .int 0, .ref (h 3), .ref (h 4), .int 0, .ref (h 5), .ref (h 6), .int 0, .int 0, .int 0, .int 0, .ref (h 7), .ref (h 8), .ref (h 9), .ref (h 10), .ref (h 11), .ref (h 12), .ref (h 13), .ref (h 14), .ref (h 15), .ref (h 16)]), (h 0, eI G 2246 st0)]) hD hS hA [0, 1] rfl
    refine va_calli (va_runV (As := [.int (xs 1), .int (xs 2)]) (rest := [.int (if (inB 0 (xs 1) 3 = true) ∧ (inB 0 (xs 2) 127 = true) then 1 else (-2))]) ⟨hx, hb, hml, hown, hts⟩ (m_write l G H.size mo (h 0) (h 1) (h 2) (h 3) (h 4) (h 5) (h 6) (h 7) (h 8) (h 9) (h 10) (h 11) (h 12) (h 13) (h 14) (h 15) (h 16) (xs 1) (xs 2) ) (my_cwV hts ok_X11_write w_254 rfl rfl ⟨Nat.le_of_ble_eq_true rfl, Nat.le_of_ble_eq_true rfl⟩) ⟨wP.blind, va_recv hG.1 hPc (ci := 10) (q0 := 0) rfl rfl, fun U hU hW => ⟨rfl, by rw [hU], by rw [hU]; exact hPc, kG.warm hW hG, hDc.weaken (fun _ _ _ _ => trivial)⟩⟩ rfl rfl hl.1 rfl (lv_room (Nat.le_of_ble_eq_true rfl)) dL_law_367 ⟨Nat.le_of_ble_eq_true rfl, Nat.le_of_ble_eq_true rfl⟩) hS (fun q _ h => hFc q h) hFc (fun r u t H1 locs ht hvm hw hB hz1 hk1 hS => ?_)
    obtain ⟨hP, hD⟩ := va_join (wr := []) (w1 := []) hP hD [0, 1] [] rfl rfl (by decide) (by decide) hk1 hFc my_P0 my_D0
    generalize H1 = H at hP hS ⊢
    have hP : va_P G.1 vwCl [] H := hP
    have hD : va_D (fun q : Nat => s.heap.size ≤ q) [] := hD
    subst hw
    refine lv_icmp_eq (tgt := 1376) hx hb dL_law_370 (by decide) (fun c_370 => ?_) (fun c_370 => absurd (rfl) c_370)
    exact law_end l C0 hS (lv_sub hl [0, 3] rfl)
set_option maxHeartbeats 4000000 in
set_option maxRecDepth 100000 in
theorem law_5 {p : Program} {e : Env} {s : State} {m : MethodId} {below : List Frame} {meth : Method} {c : Code} (l : Launch) {b : Nat} {xs : Nat → Int32} (G : gW) (C0 : lw_At p s m meth c b 10 xs) (hG : kG G s) {x mo : Nat} {g h : Nat → Nat} {H : Heap} {locs : List Loc} {ls : Array Slot} (hP : va_P G.1 vwCl (lwW G x g mo h) H) (hD : va_D (fun q : Nat => s.heap.size ≤ q) (lwW G x g mo h)) (hS : va_S (fun q : Nat => s.heap.size ≤ q) s.heap H locs) (hl : lv_has ls 4 [(0, .ref b), (1, .ref x), (2, .ref mo), (3, .int 0)]) : W p l e room_1 s m #[Value.ref b] below meth c H locs 333 19609 (lw_Z below #[Value.ref b] s) (F0 m 375 ls []) := by
  obtain ⟨hx, hb, hr, hml, hown, hts0, hX, hbl, hlocks, hgv⟩ := id C0
  have hts : ∀ w ∈ TT, w.before #[Value.ref b] s = true := fun w h => hts0 w (List.mem_filter.mp h).1
  have hA : ∀ q : Nat, s.heap.size ≤ q → (fun q : Nat => s.heap.size ≤ q) q := fun _ h => h
  have hbA : ¬ (fun q : Nat => s.heap.size ≤ q) b := Nat.not_le.mpr hbl
  rcases pick4 (xs 1) with h4 | h4 | h4 | h4 | h4
  · have hD := hD.sub (ws' := [(x, eO 9 [.ref (g 0), .ref (g 1), .ref (g 2), .ref (g 3), .ref (g 4), .ref (g 5), .ref (g 6)]), (g 1, eO 0 [.ref (g 101), .ref (g 103), .ref (g 105), .ref (g 107), .ref (g 109), .ref (g 111), .ref (g 174), .int 5, .int 20]), (g 174, eO 6 [.ref (g 175), .ref (g 176)]), (g 175, eA G 5 4 (aL [g 177, g 180, g 183, g 186])), (g 177, eO 7 [.ref (g 178), .ref (g 179), .int 0, .int 0]), (mo, eO 10 [.ref (h 0), .ref (h 1), .ref (h 2), .long 0, .long 1, .int 0, .ref (h 3), .ref (h 4), .int 0, .ref (h 5), .ref (h 6), .int 0, .int 0, .int 0, .int 0, .ref (h 7), .ref (h 8), .ref (h 9), .ref (h 10), .ref (h 11), .ref (h 12), .ref (h 13), .ref (h 14), .ref (h 15), .ref (h 16)]), (h 0, eI G 2246 st0)]) [0, 2, 75, 76, 77, 269, 270] (by decide) rfl
    have hP := hP.sub (ws' := [(x, eO 9 [.ref (g 0), .ref (g 1), .ref (g 2), .ref (g 3), .ref (g 4), .ref (g 5), .ref (g 6)]), (g 1, eO 0 [.ref (g 101), .ref (g 103), .ref (g 105), .ref (g 107), .ref (g 109), .ref (g 111), .ref (g 174), .int 5, .int 20]), (g 174, eO 6 [.ref (g 175), .ref (g 176)]), (g 175, eA G 5 4 (aL [g 177, g 180, g 183, g 186])), (g 177, eO 7 [.ref (g 178), .ref (g 179), .int 0, .int 0]), (mo, eO 10 [.ref (h 0), .ref (h 1), .ref (h 2), .long 0, .long 1, .int 0, .ref (h 3), .ref (h 4), .int 0, .ref (h 5), .ref (h 6), .int 0, .int 0, .int 0, .int 0, .ref (h 7), .ref (h 8), .ref (h 9), .ref (h 10), .ref (h 11), .ref (h 12), .ref (h 13), .ref (h 14), .ref (h 15), .ref (h 16)]), (h 0, eI G 2246 st0)]) [0, 2, 75, 76, 77, 269, 270] rfl
    refine lv_aload_n hx hb dL_law_375 rfl (lv_at hl 1 rfl) ?_
    refine lv_aload_n hx hb dL_law_376 rfl (lv_at hl 0 rfl) ?_
    refine lv_iload_n hx hb dL_law_377 rfl (lv_at hl 3 rfl) ?_
    refine lv_iconst (v := 1) hx hb dL_law_378 (by decide) ?_
    refine lv_iadd hx hb dL_law_379 ?_
    refine my_bei (v := 1) (by decide) ?_
    refine va_sld hx hb hX hbl hbA hS (by unfold vp_in; decide) dL_law_380 ?_
    refine my_bei (v := xs 1) rfl ?_
    have hPc := hP.sub (ws' := [(x, eO 9 [.ref (g 0), .ref (g 1), .ref (g 2), .ref (g 3), .ref (g 4), .ref (g 5), .ref (g 6)]), (g 1, eO 0 [.ref (g 101), .ref (g 103), .ref (g 105), .ref (g 107), .ref (g 109), .ref (g 111), .ref (g 174), .int 5, .int 20]), (g 174, eO 6 [.ref (g 175), .ref (g 176)]), (g 175, eA G 5 4 (aL [g 177, g 180, g 183, g 186])), (g 177, eO 7 [.ref (g 178), .ref (g 179), .int 0, .int 0])]) [0, 1, 2, 3, 4] rfl
    have hDc := hD.sub (ws' := [(x, eO 9 [.ref (g 0), .ref (g 1), .ref (g 2), .ref (g 3), .ref (g 4), .ref (g 5), .ref (g 6)]), (g 1, eO 0 [.ref (g 101), .ref (g 103), .ref (g 105), .ref (g 107), .ref (g 109), .ref (g 111), .ref (g 174), .int 5, .int 20]), (g 174, eO 6 [.ref (g 175), .ref (g 176)]), (g 175, eA G 5 4 (aL [g 177, g 180, g 183, g 186])), (g 177, eO 7 [.ref (g 178), .ref (g 179), .int 0, .int 0])]) [0, 1, 2, 3, 4] (by decide) rfl
    have hFc := va_free (wc := [(x, eO 9 [.ref (g 0), .ref (g 1), .ref (g 2), .ref (g 3), .ref (g 4), .ref (g 5), .ref (g 6)]), (g 1, eO 0 [.ref (g 101), .ref (g 103), .ref (g 105), .ref (g 107), .ref (g 109), .ref (g 111), .ref (g 174), .int 5, .int 20]), (g 174, eO 6 [.ref (g 175), .ref (g 176)]), (g 175, eA G 5 4 (aL [g 177, g 180, g 183, g 186])), (g 177, eO 7 [.ref (g 178), .ref (g 179), .int 0, .int 0])]) hD hS hA [0, 1, 2, 3, 4] rfl
    refine va_calli (va_runV (As := [.int (xs 1)]) (rest := []) ⟨hx, hb, hml, hown, hts⟩ (p_erase l G H.size x (g 0) (g 1) (g 2) (g 3) (g 4) (g 5) (g 6) (g 101) (g 103) (g 105) (g 107) (g 109) (g 111) (g 174) (g 175) (g 176) (g 177) (g 178) (g 179) (aL [g 177, g 180, g 183, g 186]) (xs 1) (fun _ => by rw [h4]; rfl)) (my_cwV hts ok_X10_erase w_262 rfl rfl ⟨Nat.le_of_ble_eq_true rfl, Nat.le_of_ble_eq_true rfl⟩) ⟨wP.blind, va_recv hG.1 hPc (ci := 9) (q0 := 0) rfl rfl, fun U hU hW => ⟨rfl, by rw [hU], by rw [hU]; exact hPc, kG.warm hW hG, hDc.weaken (fun _ _ _ _ => trivial)⟩⟩ rfl rfl hl.1 rfl (lv_room (Nat.le_of_ble_eq_true rfl)) dL_law_381 ⟨Nat.le_of_ble_eq_true rfl, Nat.le_of_ble_eq_true rfl⟩) hS (fun q _ h => hFc q h) hFc (fun r u t H1 locs ht hvm hw hB hz1 hk1 hS => ?_)
    obtain ⟨hP, hD⟩ := va_join (wr := [(mo, eO 10 [.ref (h 0), .ref (h 1), .ref (h 2), .long 0, .long 1, .int 0, .ref (h 3), .ref (h 4), .int 0, .ref (h 5), .ref (h 6), .int 0, .int 0, .int 0, .int 0, .ref (h 7), .ref (h 8), .ref (h 9), .ref (h 10), .ref (h 11), .ref (h 12), .ref (h 13), .ref (h 14), .ref (h 15), .ref (h 16)]), (h 0, eI G 2246 st0)]) (w1 := []) hP hD [0, 1, 2, 3, 4] [5, 6] rfl rfl (by decide) (by decide) hk1 hFc my_P0 my_D0
    generalize H1 = H at hP hS ⊢
    have hP : va_P G.1 vwCl [(mo, eO 10 [.ref (h 0), .ref (h 1), .ref (h 2), .long 0, .long 1, .int 0, .ref (h 3), .ref (h 4), .int 0, .ref (h 5), .ref (h 6), .int 0, .int 0, .int 0, .int 0, .ref (h 7), .ref (h 8), .ref (h 9), .ref (h 10), .ref (h 11), .ref (h 12), .ref (h 13), .ref (h 14), .ref (h 15), .ref (h 16)]), (h 0, eI G 2246 st0)] H := hP
    have hD : va_D (fun q : Nat => s.heap.size ≤ q) [(mo, eO 10 [.ref (h 0), .ref (h 1), .ref (h 2), .long 0, .long 1, .int 0, .ref (h 3), .ref (h 4), .int 0, .ref (h 5), .ref (h 6), .int 0, .int 0, .int 0, .int 0, .ref (h 7), .ref (h 8), .ref (h 9), .ref (h 10), .ref (h 11), .ref (h 12), .ref (h 13), .ref (h 14), .ref (h 15), .ref (h 16)]), (h 0, eI G 2246 st0)] := hD
    subst hw
    refine lv_aload_n hx hb dL_law_384 rfl (lv_at hl 2 rfl) ?_
    refine lv_aload_n hx hb dL_law_385 rfl (lv_at hl 0 rfl) ?_
    refine lv_iload_n hx hb dL_law_386 rfl (lv_at hl 3 rfl) ?_
    refine lv_iconst (v := 1) hx hb dL_law_387 (by decide) ?_
    refine lv_iadd hx hb dL_law_388 ?_
    refine my_bei (v := 1) (by decide) ?_
    refine va_sld hx hb hX hbl hbA hS (by unfold vp_in; decide) dL_law_389 ?_
    refine my_bei (v := xs 1) rfl ?_
    have hPc := hP.sub (ws' := [(mo, eO 10 [.ref (h 0), .ref (h 1), .ref (h 2), .long 0, .long 1, .int 0, .ref (h 3), .ref (h 4), .int 0, .ref (h 5), .ref (h 6), .int 0, .int 0, .int 0, .int 0, .ref (h 7), .ref (h 8), .ref (h 9), .ref (h 10), .ref (h 11), .ref (h 12), .ref (h 13), .ref (h 14), .ref (h 15), .ref (h 16)]), (h 0, eI G 2246 st0)]) [0, 1] rfl
    have hDc := hD.sub (ws' := [(mo, eO 10 [.ref (h 0), .ref (h 1), .ref (h 2), .long 0, .long 1, .int 0, .ref (h 3), .ref (h 4), .int 0, .ref (h 5), .ref (h 6), .int 0, .int 0, .int 0, .int 0, .ref (h 7), .ref (h 8), .ref (h 9), .ref (h 10), .ref (h 11), .ref (h 12), .ref (h 13), .ref (h 14), .ref (h 15), .ref (h 16)]), (h 0, eI G 2246 st0)]) [0, 1] (by decide) rfl
    have hFc := va_free (wc := [(mo, eO 10 [.ref (h 0), .ref (h 1), .ref (h 2), .long 0, .long 1, .int 0, .ref (h 3), .ref (h 4), .int 0, .ref (h 5), .ref (h 6), .int 0, .int 0, .int 0, .int 0, .ref (h 7), .ref (h 8), .ref (h 9), .ref (h 10), .ref (h 11), .ref (h 12), .ref (h 13), .ref (h 14), .ref (h 15), .ref (h 16)]), (h 0, eI G 2246 st0)]) hD hS hA [0, 1] rfl
    refine va_calli (va_runV (As := [.int (xs 1)]) (rest := [.int (if inB 0 (xs 1) 3 = true then 0 else (-2))]) ⟨hx, hb, hml, hown, hts⟩ (m_erase l G H.size mo (h 0) (h 1) (h 2) (h 3) (h 4) (h 5) (h 6) (h 7) (h 8) (h 9) (h 10) (h 11) (h 12) (h 13) (h 14) (h 15) (h 16) (xs 1) ) (my_cwV hts ok_X11_erase w_270 rfl rfl ⟨Nat.le_of_ble_eq_true rfl, Nat.le_of_ble_eq_true rfl⟩) ⟨wP.blind, va_recv hG.1 hPc (ci := 10) (q0 := 0) rfl rfl, fun U hU hW => ⟨rfl, by rw [hU], by rw [hU]; exact hPc, kG.warm hW hG, hDc.weaken (fun _ _ _ _ => trivial)⟩⟩ rfl rfl hl.1 rfl (lv_room (Nat.le_of_ble_eq_true rfl)) dL_law_390 ⟨Nat.le_of_ble_eq_true rfl, Nat.le_of_ble_eq_true rfl⟩) hS (fun q _ h => hFc q h) hFc (fun r u t H1 locs ht hvm hw hB hz1 hk1 hS => ?_)
    obtain ⟨hP, hD⟩ := va_join (wr := []) (w1 := []) hP hD [0, 1] [] rfl rfl (by decide) (by decide) hk1 hFc my_P0 my_D0
    generalize H1 = H at hP hS ⊢
    have hP : va_P G.1 vwCl [] H := hP
    have hD : va_D (fun q : Nat => s.heap.size ≤ q) [] := hD
    subst hw
    refine lv_icmp_eq (tgt := 1376) hx hb dL_law_393 (by decide) (fun c_393 => ?_) (fun c_393 => absurd (rfl) c_393)
    exact law_end l C0 hS (lv_sub hl [0, 3] rfl)
  · have hD := hD.sub (ws' := [(x, eO 9 [.ref (g 0), .ref (g 1), .ref (g 2), .ref (g 3), .ref (g 4), .ref (g 5), .ref (g 6)]), (g 1, eO 0 [.ref (g 101), .ref (g 103), .ref (g 105), .ref (g 107), .ref (g 109), .ref (g 111), .ref (g 174), .int 5, .int 20]), (g 174, eO 6 [.ref (g 175), .ref (g 176)]), (g 175, eA G 5 4 (aL [g 177, g 180, g 183, g 186])), (g 180, eO 7 [.ref (g 181), .ref (g 182), .int 0, .int 0]), (mo, eO 10 [.ref (h 0), .ref (h 1), .ref (h 2), .long 0, .long 1, .int 0, .ref (h 3), .ref (h 4), .int 0, .ref (h 5), .ref (h 6), .int 0, .int 0, .int 0, .int 0, .ref (h 7), .ref (h 8), .ref (h 9), .ref (h 10), .ref (h 11), .ref (h 12), .ref (h 13), .ref (h 14), .ref (h 15), .ref (h 16)]), (h 0, eI G 2246 st0)]) [0, 2, 75, 76, 80, 269, 270] (by decide) rfl
    have hP := hP.sub (ws' := [(x, eO 9 [.ref (g 0), .ref (g 1), .ref (g 2), .ref (g 3), .ref (g 4), .ref (g 5), .ref (g 6)]), (g 1, eO 0 [.ref (g 101), .ref (g 103), .ref (g 105), .ref (g 107), .ref (g 109), .ref (g 111), .ref (g 174), .int 5, .int 20]), (g 174, eO 6 [.ref (g 175), .ref (g 176)]), (g 175, eA G 5 4 (aL [g 177, g 180, g 183, g 186])), (g 180, eO 7 [.ref (g 181), .ref (g 182), .int 0, .int 0]), (mo, eO 10 [.ref (h 0), .ref (h 1), .ref (h 2), .long 0, .long 1, .int 0, .ref (h 3), .ref (h 4), .int 0, .ref (h 5), .ref (h 6), .int 0, .int 0, .int 0, .int 0, .ref (h 7), .ref (h 8), .ref (h 9), .ref (h 10), .ref (h 11), .ref (h 12), .ref (h 13), .ref (h 14), .ref (h 15), .ref (h 16)]), (h 0, eI G 2246 st0)]) [0, 2, 75, 76, 80, 269, 270] rfl
    refine lv_aload_n hx hb dL_law_375 rfl (lv_at hl 1 rfl) ?_
    refine lv_aload_n hx hb dL_law_376 rfl (lv_at hl 0 rfl) ?_
    refine lv_iload_n hx hb dL_law_377 rfl (lv_at hl 3 rfl) ?_
    refine lv_iconst (v := 1) hx hb dL_law_378 (by decide) ?_
    refine lv_iadd hx hb dL_law_379 ?_
    refine my_bei (v := 1) (by decide) ?_
    refine va_sld hx hb hX hbl hbA hS (by unfold vp_in; decide) dL_law_380 ?_
    refine my_bei (v := xs 1) rfl ?_
    have hPc := hP.sub (ws' := [(x, eO 9 [.ref (g 0), .ref (g 1), .ref (g 2), .ref (g 3), .ref (g 4), .ref (g 5), .ref (g 6)]), (g 1, eO 0 [.ref (g 101), .ref (g 103), .ref (g 105), .ref (g 107), .ref (g 109), .ref (g 111), .ref (g 174), .int 5, .int 20]), (g 174, eO 6 [.ref (g 175), .ref (g 176)]), (g 175, eA G 5 4 (aL [g 177, g 180, g 183, g 186])), (g 180, eO 7 [.ref (g 181), .ref (g 182), .int 0, .int 0])]) [0, 1, 2, 3, 4] rfl
    have hDc := hD.sub (ws' := [(x, eO 9 [.ref (g 0), .ref (g 1), .ref (g 2), .ref (g 3), .ref (g 4), .ref (g 5), .ref (g 6)]), (g 1, eO 0 [.ref (g 101), .ref (g 103), .ref (g 105), .ref (g 107), .ref (g 109), .ref (g 111), .ref (g 174), .int 5, .int 20]), (g 174, eO 6 [.ref (g 175), .ref (g 176)]), (g 175, eA G 5 4 (aL [g 177, g 180, g 183, g 186])), (g 180, eO 7 [.ref (g 181), .ref (g 182), .int 0, .int 0])]) [0, 1, 2, 3, 4] (by decide) rfl
    have hFc := va_free (wc := [(x, eO 9 [.ref (g 0), .ref (g 1), .ref (g 2), .ref (g 3), .ref (g 4), .ref (g 5), .ref (g 6)]), (g 1, eO 0 [.ref (g 101), .ref (g 103), .ref (g 105), .ref (g 107), .ref (g 109), .ref (g 111), .ref (g 174), .int 5, .int 20]), (g 174, eO 6 [.ref (g 175), .ref (g 176)]), (g 175, eA G 5 4 (aL [g 177, g 180, g 183, g 186])), (g 180, eO 7 [.ref (g 181), .ref (g 182), .int 0, .int 0])]) hD hS hA [0, 1, 2, 3, 4] rfl
    refine va_calli (va_runV (As := [.int (xs 1)]) (rest := []) ⟨hx, hb, hml, hown, hts⟩ (p_erase l G H.size x (g 0) (g 1) (g 2) (g 3) (g 4) (g 5) (g 6) (g 101) (g 103) (g 105) (g 107) (g 109) (g 111) (g 174) (g 175) (g 176) (g 180) (g 181) (g 182) (aL [g 177, g 180, g 183, g 186]) (xs 1) (fun _ => by rw [h4]; rfl)) (my_cwV hts ok_X10_erase w_262 rfl rfl ⟨Nat.le_of_ble_eq_true rfl, Nat.le_of_ble_eq_true rfl⟩) ⟨wP.blind, va_recv hG.1 hPc (ci := 9) (q0 := 0) rfl rfl, fun U hU hW => ⟨rfl, by rw [hU], by rw [hU]; exact hPc, kG.warm hW hG, hDc.weaken (fun _ _ _ _ => trivial)⟩⟩ rfl rfl hl.1 rfl (lv_room (Nat.le_of_ble_eq_true rfl)) dL_law_381 ⟨Nat.le_of_ble_eq_true rfl, Nat.le_of_ble_eq_true rfl⟩) hS (fun q _ h => hFc q h) hFc (fun r u t H1 locs ht hvm hw hB hz1 hk1 hS => ?_)
    obtain ⟨hP, hD⟩ := va_join (wr := [(mo, eO 10 [.ref (h 0), .ref (h 1), .ref (h 2), .long 0, .long 1, .int 0, .ref (h 3), .ref (h 4), .int 0, .ref (h 5), .ref (h 6), .int 0, .int 0, .int 0, .int 0, .ref (h 7), .ref (h 8), .ref (h 9), .ref (h 10), .ref (h 11), .ref (h 12), .ref (h 13), .ref (h 14), .ref (h 15), .ref (h 16)]), (h 0, eI G 2246 st0)]) (w1 := []) hP hD [0, 1, 2, 3, 4] [5, 6] rfl rfl (by decide) (by decide) hk1 hFc my_P0 my_D0
    generalize H1 = H at hP hS ⊢
    have hP : va_P G.1 vwCl [(mo, eO 10 [.ref (h 0), .ref (h 1), .ref (h 2), .long 0, .long 1, .int 0, .ref (h 3), .ref (h 4), .int 0, .ref (h 5), .ref (h 6), .int 0, .int 0, .int 0, .int 0, .ref (h 7), .ref (h 8), .ref (h 9), .ref (h 10), .ref (h 11), .ref (h 12), .ref (h 13), .ref (h 14), .ref (h 15), .ref (h 16)]), (h 0, eI G 2246 st0)] H := hP
    have hD : va_D (fun q : Nat => s.heap.size ≤ q) [(mo, eO 10 [.ref (h 0), .ref (h 1), .ref (h 2), .long 0, .long 1, .int 0, .ref (h 3), .ref (h 4), .int 0, .ref (h 5), .ref (h 6), .int 0, .int 0, .int 0, .int 0, .ref (h 7), .ref (h 8), .ref (h 9), .ref (h 10), .ref (h 11), .ref (h 12), .ref (h 13), .ref (h 14), .ref (h 15), .ref (h 16)]), (h 0, eI G 2246 st0)] := hD
    subst hw
    refine lv_aload_n hx hb dL_law_384 rfl (lv_at hl 2 rfl) ?_
    refine lv_aload_n hx hb dL_law_385 rfl (lv_at hl 0 rfl) ?_
    refine lv_iload_n hx hb dL_law_386 rfl (lv_at hl 3 rfl) ?_
    refine lv_iconst (v := 1) hx hb dL_law_387 (by decide) ?_
    refine lv_iadd hx hb dL_law_388 ?_
    refine my_bei (v := 1) (by decide) ?_
    refine va_sld hx hb hX hbl hbA hS (by unfold vp_in; decide) dL_law_389 ?_
    refine my_bei (v := xs 1) rfl ?_
    have hPc := hP.sub (ws' := [(mo, eO 10 [.ref (h 0), .ref (h 1), .ref (h 2), .long 0, .long 1, .int 0, .ref (h 3), .ref (h 4), .int 0, .ref (h 5), .ref (h 6), .int 0, .int 0, .int 0, .int 0, .ref (h 7), .ref (h 8), .ref (h 9), .ref (h 10), .ref (h 11), .ref (h 12), .ref (h 13), .ref (h 14), .ref (h 15), .ref (h 16)]), (h 0, eI G 2246 st0)]) [0, 1] rfl
    have hDc := hD.sub (ws' := [(mo, eO 10 [.ref (h 0), .ref (h 1), .ref (h 2), .long 0, .long 1, .int 0, .ref (h 3), .ref (h 4), .int 0, .ref (h 5), .ref (h 6), .int 0, .int 0, .int 0, .int 0, .ref (h 7), .ref (h 8), .ref (h 9), .ref (h 10), .ref (h 11), .ref (h 12), .ref (h 13), .ref (h 14), .ref (h 15), .ref (h 16)]), (h 0, eI G 2246 st0)]) [0, 1] (by decide) rfl
    have hFc := va_free (wc := [(mo, eO 10 [.ref (h 0), .ref (h 1), .ref (h 2), .long 0, .long 1, .int 0, .ref (h 3), .ref (h 4), .int 0, .ref (h 5), .ref (h 6), .int 0, .int 0, .int 0, .int 0, .ref (h 7), .ref (h 8), .ref (h 9), .ref (h 10), .ref (h 11), .ref (h 12), .ref (h 13), .ref (h 14), .ref (h 15), .ref (h 16)]), (h 0, eI G 2246 st0)]) hD hS hA [0, 1] rfl
    refine va_calli (va_runV (As := [.int (xs 1)]) (rest := [.int (if inB 0 (xs 1) 3 = true then 0 else (-2))]) ⟨hx, hb, hml, hown, hts⟩ (m_erase l G H.size mo (h 0) (h 1) (h 2) (h 3) (h 4) (h 5) (h 6) (h 7) (h 8) (h 9) (h 10) (h 11) (h 12) (h 13) (h 14) (h 15) (h 16) (xs 1) ) (my_cwV hts ok_X11_erase w_270 rfl rfl ⟨Nat.le_of_ble_eq_true rfl, Nat.le_of_ble_eq_true rfl⟩) ⟨wP.blind, va_recv hG.1 hPc (ci := 10) (q0 := 0) rfl rfl, fun U hU hW => ⟨rfl, by rw [hU], by rw [hU]; exact hPc, kG.warm hW hG, hDc.weaken (fun _ _ _ _ => trivial)⟩⟩ rfl rfl hl.1 rfl (lv_room (Nat.le_of_ble_eq_true rfl)) dL_law_390 ⟨Nat.le_of_ble_eq_true rfl, Nat.le_of_ble_eq_true rfl⟩) hS (fun q _ h => hFc q h) hFc (fun r u t H1 locs ht hvm hw hB hz1 hk1 hS => ?_)
    obtain ⟨hP, hD⟩ := va_join (wr := []) (w1 := []) hP hD [0, 1] [] rfl rfl (by decide) (by decide) hk1 hFc my_P0 my_D0
    generalize H1 = H at hP hS ⊢
    have hP : va_P G.1 vwCl [] H := hP
    have hD : va_D (fun q : Nat => s.heap.size ≤ q) [] := hD
    subst hw
    refine lv_icmp_eq (tgt := 1376) hx hb dL_law_393 (by decide) (fun c_393 => ?_) (fun c_393 => absurd (rfl) c_393)
    exact law_end l C0 hS (lv_sub hl [0, 3] rfl)
  · have hD := hD.sub (ws' := [(x, eO 9 [.ref (g 0), .ref (g 1), .ref (g 2), .ref (g 3), .ref (g 4), .ref (g 5), .ref (g 6)]), (g 1, eO 0 [.ref (g 101), .ref (g 103), .ref (g 105), .ref (g 107), .ref (g 109), .ref (g 111), .ref (g 174), .int 5, .int 20]), (g 174, eO 6 [.ref (g 175), .ref (g 176)]), (g 175, eA G 5 4 (aL [g 177, g 180, g 183, g 186])), (g 183, eO 7 [.ref (g 184), .ref (g 185), .int 0, .int 0]), (mo, eO 10 [.ref (h 0), .ref (h 1), .ref (h 2), .long 0, .long 1, .int 0, .ref (h 3), .ref (h 4), .int 0, .ref (h 5), .ref (h 6), .int 0, .int 0, .int 0, .int 0, .ref (h 7), .ref (h 8), .ref (h 9), .ref (h 10), .ref (h 11), .ref (h 12), .ref (h 13), .ref (h 14), .ref (h 15), .ref (h 16)]), (h 0, eI G 2246 st0)]) [0, 2, 75, 76, 83, 269, 270] (by decide) rfl
    have hP := hP.sub (ws' := [(x, eO 9 [.ref (g 0), .ref (g 1), .ref (g 2), .ref (g 3), .ref (g 4), .ref (g 5), .ref (g 6)]), (g 1, eO 0 [.ref (g 101), .ref (g 103), .ref (g 105), .ref (g 107), .ref (g 109), .ref (g 111), .ref (g 174), .int 5, .int 20]), (g 174, eO 6 [.ref (g 175), .ref (g 176)]), (g 175, eA G 5 4 (aL [g 177, g 180, g 183, g 186])), (g 183, eO 7 [.ref (g 184), .ref (g 185), .int 0, .int 0]), (mo, eO 10 [.ref (h 0), .ref (h 1), .ref (h 2), .long 0, .long 1, .int 0, .ref (h 3), .ref (h 4), .int 0, .ref (h 5), .ref (h 6), .int 0, .int 0, .int 0, .int 0, .ref (h 7), .ref (h 8), .ref (h 9), .ref (h 10), .ref (h 11), .ref (h 12), .ref (h 13), .ref (h 14), .ref (h 15), .ref (h 16)]), (h 0, eI G 2246 st0)]) [0, 2, 75, 76, 83, 269, 270] rfl
    refine lv_aload_n hx hb dL_law_375 rfl (lv_at hl 1 rfl) ?_
    refine lv_aload_n hx hb dL_law_376 rfl (lv_at hl 0 rfl) ?_
    refine lv_iload_n hx hb dL_law_377 rfl (lv_at hl 3 rfl) ?_
    refine lv_iconst (v := 1) hx hb dL_law_378 (by decide) ?_
    refine lv_iadd hx hb dL_law_379 ?_
    refine my_bei (v := 1) (by decide) ?_
    refine va_sld hx hb hX hbl hbA hS (by unfold vp_in; decide) dL_law_380 ?_
    refine my_bei (v := xs 1) rfl ?_
    have hPc := hP.sub (ws' := [(x, eO 9 [.ref (g 0), .ref (g 1), .ref (g 2), .ref (g 3), .ref (g 4), .ref (g 5), .ref (g 6)]), (g 1, eO 0 [.ref (g 101), .ref (g 103), .ref (g 105), .ref (g 107), .ref (g 109), .ref (g 111), .ref (g 174), .int 5, .int 20]), (g 174, eO 6 [.ref (g 175), .ref (g 176)]), (g 175, eA G 5 4 (aL [g 177, g 180, g 183, g 186])), (g 183, eO 7 [.ref (g 184), .ref (g 185), .int 0, .int 0])]) [0, 1, 2, 3, 4] rfl
    have hDc := hD.sub (ws' := [(x, eO 9 [.ref (g 0), .ref (g 1), .ref (g 2), .ref (g 3), .ref (g 4), .ref (g 5), .ref (g 6)]), (g 1, eO 0 [.ref (g 101), .ref (g 103), .ref (g 105), .ref (g 107), .ref (g 109), .ref (g 111), .ref (g 174), .int 5, .int 20]), (g 174, eO 6 [.ref (g 175), .ref (g 176)]), (g 175, eA G 5 4 (aL [g 177, g 180, g 183, g 186])), (g 183, eO 7 [.ref (g 184), .ref (g 185), .int 0, .int 0])]) [0, 1, 2, 3, 4] (by decide) rfl
    have hFc := va_free (wc := [(x, eO 9 [.ref (g 0), .ref (g 1), .ref (g 2), .ref (g 3), .ref (g 4), .ref (g 5), .ref (g 6)]), (g 1, eO 0 [.ref (g 101), .ref (g 103), .ref (g 105), .ref (g 107), .ref (g 109), .ref (g 111), .ref (g 174), .int 5, .int 20]), (g 174, eO 6 [.ref (g 175), .ref (g 176)]), (g 175, eA G 5 4 (aL [g 177, g 180, g 183, g 186])), (g 183, eO 7 [.ref (g 184), .ref (g 185), .int 0, .int 0])]) hD hS hA [0, 1, 2, 3, 4] rfl
    refine va_calli (va_runV (As := [.int (xs 1)]) (rest := []) ⟨hx, hb, hml, hown, hts⟩ (p_erase l G H.size x (g 0) (g 1) (g 2) (g 3) (g 4) (g 5) (g 6) (g 101) (g 103) (g 105) (g 107) (g 109) (g 111) (g 174) (g 175) (g 176) (g 183) (g 184) (g 185) (aL [g 177, g 180, g 183, g 186]) (xs 1) (fun _ => by rw [h4]; rfl)) (my_cwV hts ok_X10_erase w_262 rfl rfl ⟨Nat.le_of_ble_eq_true rfl, Nat.le_of_ble_eq_true rfl⟩) ⟨wP.blind, va_recv hG.1 hPc (ci := 9) (q0 := 0) rfl rfl, fun U hU hW => ⟨rfl, by rw [hU], by rw [hU]; exact hPc, kG.warm hW hG, hDc.weaken (fun _ _ _ _ => trivial)⟩⟩ rfl rfl hl.1 rfl (lv_room (Nat.le_of_ble_eq_true rfl)) dL_law_381 ⟨Nat.le_of_ble_eq_true rfl, Nat.le_of_ble_eq_true rfl⟩) hS (fun q _ h => hFc q h) hFc (fun r u t H1 locs ht hvm hw hB hz1 hk1 hS => ?_)
    obtain ⟨hP, hD⟩ := va_join (wr := [(mo, eO 10 [.ref (h 0), .ref (h 1), .ref (h 2), .long 0, .long 1, .int 0, .ref (h 3), .ref (h 4), .int 0, .ref (h 5), .ref (h 6), .int 0, .int 0, .int 0, .int 0, .ref (h 7), .ref (h 8), .ref (h 9), .ref (h 10), .ref (h 11), .ref (h 12), .ref (h 13), .ref (h 14), .ref (h 15), .ref (h 16)]), (h 0, eI G 2246 st0)]) (w1 := []) hP hD [0, 1, 2, 3, 4] [5, 6] rfl rfl (by decide) (by decide) hk1 hFc my_P0 my_D0
    generalize H1 = H at hP hS ⊢
    have hP : va_P G.1 vwCl [(mo, eO 10 [.ref (h 0), .ref (h 1), .ref (h 2), .long 0, .long 1, .int 0, .ref (h 3), .ref (h 4), .int 0, .ref (h 5), .ref (h 6), .int 0, .int 0, .int 0, .int 0, .ref (h 7), .ref (h 8), .ref (h 9), .ref (h 10), .ref (h 11), .ref (h 12), .ref (h 13), .ref (h 14), .ref (h 15), .ref (h 16)]), (h 0, eI G 2246 st0)] H := hP
    have hD : va_D (fun q : Nat => s.heap.size ≤ q) [(mo, eO 10 [.ref (h 0), .ref (h 1), .ref (h 2), .long 0, .long 1, .int 0, .ref (h 3), .ref (h 4), .int 0, .ref (h 5), .ref (h 6), .int 0, .int 0, .int 0, .int 0, .ref (h 7), .ref (h 8), .ref (h 9), .ref (h 10), .ref (h 11), .ref (h 12), .ref (h 13), .ref (h 14), .ref (h 15), .ref (h 16)]), (h 0, eI G 2246 st0)] := hD
    subst hw
    refine lv_aload_n hx hb dL_law_384 rfl (lv_at hl 2 rfl) ?_
    refine lv_aload_n hx hb dL_law_385 rfl (lv_at hl 0 rfl) ?_
    refine lv_iload_n hx hb dL_law_386 rfl (lv_at hl 3 rfl) ?_
    refine lv_iconst (v := 1) hx hb dL_law_387 (by decide) ?_
    refine lv_iadd hx hb dL_law_388 ?_
    refine my_bei (v := 1) (by decide) ?_
    refine va_sld hx hb hX hbl hbA hS (by unfold vp_in; decide) dL_law_389 ?_
    refine my_bei (v := xs 1) rfl ?_
    have hPc := hP.sub (ws' := [(mo, eO 10 [.ref (h 0), .ref (h 1), .ref (h 2), .long 0, .long 1, .int 0, .ref (h 3), .ref (h 4), .int 0, .ref (h 5), .ref (h 6), .int 0, .int 0, .int 0, .int 0, .ref (h 7), .ref (h 8), .ref (h 9), .ref (h 10), .ref (h 11), .ref (h 12), .ref (h 13), .ref (h 14), .ref (h 15), .ref (h 16)]), (h 0, eI G 2246 st0)]) [0, 1] rfl
    have hDc := hD.sub (ws' := [(mo, eO 10 [.ref (h 0), .ref (h 1), .ref (h 2), .long 0, .long 1, .int 0, .ref (h 3), .ref (h 4), .int 0, .ref (h 5), .ref (h 6), .int 0, .int 0, .int 0, .int 0, .ref (h 7), .ref (h 8), .ref (h 9), .ref (h 10), .ref (h 11), .ref (h 12), .ref (h 13), .ref (h 14), .ref (h 15), .ref (h 16)]), (h 0, eI G 2246 st0)]) [0, 1] (by decide) rfl
    have hFc := va_free (wc := [(mo, eO 10 [.ref (h 0), .ref (h 1), .ref (h 2), .long 0, .long 1, .int 0, .ref (h 3), .ref (h 4), .int 0, .ref (h 5), .ref (h 6), .int 0, .int 0, .int 0, .int 0, .ref (h 7), .ref (h 8), .ref (h 9), .ref (h 10), .ref (h 11), .ref (h 12), .ref (h 13), .ref (h 14), .ref (h 15), .ref (h 16)]), (h 0, eI G 2246 st0)]) hD hS hA [0, 1] rfl
    refine va_calli (va_runV (As := [.int (xs 1)]) (rest := [.int (if inB 0 (xs 1) 3 = true then 0 else (-2))]) ⟨hx, hb, hml, hown, hts⟩ (m_erase l G H.size mo (h 0) (h 1) (h 2) (h 3) (h 4) (h 5) (h 6) (h 7) (h 8) (h 9) (h 10) (h 11) (h 12) (h 13) (h 14) (h 15) (h 16) (xs 1) ) (my_cwV hts ok_X11_erase w_270 rfl rfl ⟨Nat.le_of_ble_eq_true rfl, Nat.le_of_ble_eq_true rfl⟩) ⟨wP.blind, va_recv hG.1 hPc (ci := 10) (q0 := 0) rfl rfl, fun U hU hW => ⟨rfl, by rw [hU], by rw [hU]; exact hPc, kG.warm hW hG, hDc.weaken (fun _ _ _ _ => trivial)⟩⟩ rfl rfl hl.1 rfl (lv_room (Nat.le_of_ble_eq_true rfl)) dL_law_390 ⟨Nat.le_of_ble_eq_true rfl, Nat.le_of_ble_eq_true rfl⟩) hS (fun q _ h => hFc q h) hFc (fun r u t H1 locs ht hvm hw hB hz1 hk1 hS => ?_)
    obtain ⟨hP, hD⟩ := va_join (wr := []) (w1 := []) hP hD [0, 1] [] rfl rfl (by decide) (by decide) hk1 hFc my_P0 my_D0
    generalize H1 = H at hP hS ⊢
    have hP : va_P G.1 vwCl [] H := hP
    have hD : va_D (fun q : Nat => s.heap.size ≤ q) [] := hD
    subst hw
    refine lv_icmp_eq (tgt := 1376) hx hb dL_law_393 (by decide) (fun c_393 => ?_) (fun c_393 => absurd (rfl) c_393)
    exact law_end l C0 hS (lv_sub hl [0, 3] rfl)
  · have hD := hD.sub (ws' := [(x, eO 9 [.ref (g 0), .ref (g 1), .ref (g 2), .ref (g 3), .ref (g 4), .ref (g 5), .ref (g 6)]), (g 1, eO 0 [.ref (g 101), .ref (g 103), .ref (g 105), .ref (g 107), .ref (g 109), .ref (g 111), .ref (g 174), .int 5, .int 20]), (g 174, eO 6 [.ref (g 175), .ref (g 176)]), (g 175, eA G 5 4 (aL [g 177, g 180, g 183, g 186])), (g 186, eO 7 [.ref (g 187), .ref (g 188), .int 0, .int 0]), (mo, eO 10 [.ref (h 0), .ref (h 1), .ref (h 2), .long 0, .long 1, .int 0, .ref (h 3), .ref (h 4), .int 0, .ref (h 5), .ref (h 6), .int 0, .int 0, .int 0, .int 0, .ref (h 7), .ref (h 8), .ref (h 9), .ref (h 10), .ref (h 11), .ref (h 12), .ref (h 13), .ref (h 14), .ref (h 15), .ref (h 16)]), (h 0, eI G 2246 st0)]) [0, 2, 75, 76, 86, 269, 270] (by decide) rfl
    have hP := hP.sub (ws' := [(x, eO 9 [.ref (g 0), .ref (g 1), .ref (g 2), .ref (g 3), .ref (g 4), .ref (g 5), .ref (g 6)]), (g 1, eO 0 [.ref (g 101), .ref (g 103), .ref (g 105), .ref (g 107), .ref (g 109), .ref (g 111), .ref (g 174), .int 5, .int 20]), (g 174, eO 6 [.ref (g 175), .ref (g 176)]), (g 175, eA G 5 4 (aL [g 177, g 180, g 183, g 186])), (g 186, eO 7 [.ref (g 187), .ref (g 188), .int 0, .int 0]), (mo, eO 10 [.ref (h 0), .ref (h 1), .ref (h 2), .long 0, .long 1, .int 0, .ref (h 3), .ref (h 4), .int 0, .ref (h 5), .ref (h 6), .int 0, .int 0, .int 0, .int 0, .ref (h 7), .ref (h 8), .ref (h 9), .ref (h 10), .ref (h 11), .ref (h 12), .ref (h 13), .ref (h 14), .ref (h 15), .ref (h 16)]), (h 0, eI G 2246 st0)]) [0, 2, 75, 76, 86, 269, 270] rfl
    refine lv_aload_n hx hb dL_law_375 rfl (lv_at hl 1 rfl) ?_
    refine lv_aload_n hx hb dL_law_376 rfl (lv_at hl 0 rfl) ?_
    refine lv_iload_n hx hb dL_law_377 rfl (lv_at hl 3 rfl) ?_
    refine lv_iconst (v := 1) hx hb dL_law_378 (by decide) ?_
    refine lv_iadd hx hb dL_law_379 ?_
    refine my_bei (v := 1) (by decide) ?_
    refine va_sld hx hb hX hbl hbA hS (by unfold vp_in; decide) dL_law_380 ?_
    refine my_bei (v := xs 1) rfl ?_
    have hPc := hP.sub (ws' := [(x, eO 9 [.ref (g 0), .ref (g 1), .ref (g 2), .ref (g 3), .ref (g 4), .ref (g 5), .ref (g 6)]), (g 1, eO 0 [.ref (g 101), .ref (g 103), .ref (g 105), .ref (g 107), .ref (g 109), .ref (g 111), .ref (g 174), .int 5, .int 20]), (g 174, eO 6 [.ref (g 175), .ref (g 176)]), (g 175, eA G 5 4 (aL [g 177, g 180, g 183, g 186])), (g 186, eO 7 [.ref (g 187), .ref (g 188), .int 0, .int 0])]) [0, 1, 2, 3, 4] rfl
    have hDc := hD.sub (ws' := [(x, eO 9 [.ref (g 0), .ref (g 1), .ref (g 2), .ref (g 3), .ref (g 4), .ref (g 5), .ref (g 6)]), (g 1, eO 0 [.ref (g 101), .ref (g 103), .ref (g 105), .ref (g 107), .ref (g 109), .ref (g 111), .ref (g 174), .int 5, .int 20]), (g 174, eO 6 [.ref (g 175), .ref (g 176)]), (g 175, eA G 5 4 (aL [g 177, g 180, g 183, g 186])), (g 186, eO 7 [.ref (g 187), .ref (g 188), .int 0, .int 0])]) [0, 1, 2, 3, 4] (by decide) rfl
    have hFc := va_free (wc := [(x, eO 9 [.ref (g 0), .ref (g 1), .ref (g 2), .ref (g 3), .ref (g 4), .ref (g 5), .ref (g 6)]), (g 1, eO 0 [.ref (g 101), .ref (g 103), .ref (g 105), .ref (g 107), .ref (g 109), .ref (g 111), .ref (g 174), .int 5, .int 20]), (g 174, eO 6 [.ref (g 175), .ref (g 176)]), (g 175, eA G 5 4 (aL [g 177, g 180, g 183, g 186])), (g 186, eO 7 [.ref (g 187), .ref (g 188), .int 0, .int 0])]) hD hS hA [0, 1, 2, 3, 4] rfl
    refine va_calli (va_runV (As := [.int (xs 1)]) (rest := []) ⟨hx, hb, hml, hown, hts⟩ (p_erase l G H.size x (g 0) (g 1) (g 2) (g 3) (g 4) (g 5) (g 6) (g 101) (g 103) (g 105) (g 107) (g 109) (g 111) (g 174) (g 175) (g 176) (g 186) (g 187) (g 188) (aL [g 177, g 180, g 183, g 186]) (xs 1) (fun _ => by rw [h4]; rfl)) (my_cwV hts ok_X10_erase w_262 rfl rfl ⟨Nat.le_of_ble_eq_true rfl, Nat.le_of_ble_eq_true rfl⟩) ⟨wP.blind, va_recv hG.1 hPc (ci := 9) (q0 := 0) rfl rfl, fun U hU hW => ⟨rfl, by rw [hU], by rw [hU]; exact hPc, kG.warm hW hG, hDc.weaken (fun _ _ _ _ => trivial)⟩⟩ rfl rfl hl.1 rfl (lv_room (Nat.le_of_ble_eq_true rfl)) dL_law_381 ⟨Nat.le_of_ble_eq_true rfl, Nat.le_of_ble_eq_true rfl⟩) hS (fun q _ h => hFc q h) hFc (fun r u t H1 locs ht hvm hw hB hz1 hk1 hS => ?_)
    obtain ⟨hP, hD⟩ := va_join (wr := [(mo, eO 10 [.ref (h 0), .ref (h 1), .ref (h 2), .long 0, .long 1, .int 0, .ref (h 3), .ref (h 4), .int 0, .ref (h 5), .ref (h 6), .int 0, .int 0, .int 0, .int 0, .ref (h 7), .ref (h 8), .ref (h 9), .ref (h 10), .ref (h 11), .ref (h 12), .ref (h 13), .ref (h 14), .ref (h 15), .ref (h 16)]), (h 0, eI G 2246 st0)]) (w1 := []) hP hD [0, 1, 2, 3, 4] [5, 6] rfl rfl (by decide) (by decide) hk1 hFc my_P0 my_D0
    generalize H1 = H at hP hS ⊢
    have hP : va_P G.1 vwCl [(mo, eO 10 [.ref (h 0), .ref (h 1), .ref (h 2), .long 0, .long 1, .int 0, .ref (h 3), .ref (h 4), .int 0, .ref (h 5), .ref (h 6), .int 0, .int 0, .int 0, .int 0, .ref (h 7), .ref (h 8), .ref (h 9), .ref (h 10), .ref (h 11), .ref (h 12), .ref (h 13), .ref (h 14), .ref (h 15), .ref (h 16)]), (h 0, eI G 2246 st0)] H := hP
    have hD : va_D (fun q : Nat => s.heap.size ≤ q) [(mo, eO 10 [.ref (h 0), .ref (h 1), .ref (h 2), .long 0, .long 1, .int 0, .ref (h 3), .ref (h 4), .int 0, .ref (h 5), .ref (h 6), .int 0, .int 0, .int 0, .int 0, .ref (h 7), .ref (h 8), .ref (h 9), .ref (h 10), .ref (h 11), .ref (h 12), .ref (h 13), .ref (h 14), .ref (h 15), .ref (h 16)]), (h 0, eI G 2246 st0)] := hD
    subst hw
    refine lv_aload_n hx hb dL_law_384 rfl (lv_at hl 2 rfl) ?_
    refine lv_aload_n hx hb dL_law_385 rfl (lv_at hl 0 rfl) ?_
    refine lv_iload_n hx hb dL_law_386 rfl (lv_at hl 3 rfl) ?_
    refine lv_iconst (v := 1) hx hb dL_law_387 (by decide) ?_
    refine lv_iadd hx hb dL_law_388 ?_
    refine my_bei (v := 1) (by decide) ?_
    refine va_sld hx hb hX hbl hbA hS (by unfold vp_in; decide) dL_law_389 ?_
    refine my_bei (v := xs 1) rfl ?_
    have hPc := hP.sub (ws' := [(mo, eO 10 [.ref (h 0), .ref (h 1), .ref (h 2), .long 0, .long 1, .int 0, .ref (h 3), .ref (h 4), .int 0, .ref (h 5), .ref (h 6), .int 0, .int 0, .int 0, .int 0, .ref (h 7), .ref (h 8), .ref (h 9), .ref (h 10), .ref (h 11), .ref (h 12), .ref (h 13), .ref (h 14), .ref (h 15), .ref (h 16)]), (h 0, eI G 2246 st0)]) [0, 1] rfl
    have hDc := hD.sub (ws' := [(mo, eO 10 [.ref (h 0), .ref (h 1), .ref (h 2), .long 0, .long 1, .int 0, .ref (h 3), .ref (h 4), .int 0, .ref (h 5), .ref (h 6), .int 0, .int 0, .int 0, .int 0, .ref (h 7), .ref (h 8), .ref (h 9), .ref (h 10), .ref (h 11), .ref (h 12), .ref (h 13), .ref (h 14), .ref (h 15), .ref (h 16)]), (h 0, eI G 2246 st0)]) [0, 1] (by decide) rfl
    have hFc := va_free (wc := [(mo, eO 10 [.ref (h 0), .ref (h 1), .ref (h 2), .long 0, .long 1, .int 0, .ref (h 3), .ref (h 4), .int 0, .ref (h 5), .ref (h 6), .int 0, .int 0, .int 0, .int 0, .ref (h 7), .ref (h 8), .ref (h 9), .ref (h 10), .ref (h 11), .ref (h 12), .ref (h 13), .ref (h 14), .ref (h 15), .ref (h 16)]), (h 0, eI G 2246 st0)]) hD hS hA [0, 1] rfl
    refine va_calli (va_runV (As := [.int (xs 1)]) (rest := [.int (if inB 0 (xs 1) 3 = true then 0 else (-2))]) ⟨hx, hb, hml, hown, hts⟩ (m_erase l G H.size mo (h 0) (h 1) (h 2) (h 3) (h 4) (h 5) (h 6) (h 7) (h 8) (h 9) (h 10) (h 11) (h 12) (h 13) (h 14) (h 15) (h 16) (xs 1) ) (my_cwV hts ok_X11_erase w_270 rfl rfl ⟨Nat.le_of_ble_eq_true rfl, Nat.le_of_ble_eq_true rfl⟩) ⟨wP.blind, va_recv hG.1 hPc (ci := 10) (q0 := 0) rfl rfl, fun U hU hW => ⟨rfl, by rw [hU], by rw [hU]; exact hPc, kG.warm hW hG, hDc.weaken (fun _ _ _ _ => trivial)⟩⟩ rfl rfl hl.1 rfl (lv_room (Nat.le_of_ble_eq_true rfl)) dL_law_390 ⟨Nat.le_of_ble_eq_true rfl, Nat.le_of_ble_eq_true rfl⟩) hS (fun q _ h => hFc q h) hFc (fun r u t H1 locs ht hvm hw hB hz1 hk1 hS => ?_)
    obtain ⟨hP, hD⟩ := va_join (wr := []) (w1 := []) hP hD [0, 1] [] rfl rfl (by decide) (by decide) hk1 hFc my_P0 my_D0
    generalize H1 = H at hP hS ⊢
    have hP : va_P G.1 vwCl [] H := hP
    have hD : va_D (fun q : Nat => s.heap.size ≤ q) [] := hD
    subst hw
    refine lv_icmp_eq (tgt := 1376) hx hb dL_law_393 (by decide) (fun c_393 => ?_) (fun c_393 => absurd (rfl) c_393)
    exact law_end l C0 hS (lv_sub hl [0, 3] rfl)
  · have hD := hD.sub (ws' := [(x, eO 9 [.ref (g 0), .ref (g 1), .ref (g 2), .ref (g 3), .ref (g 4), .ref (g 5), .ref (g 6)]), (g 1, eO 0 [.ref (g 101), .ref (g 103), .ref (g 105), .ref (g 107), .ref (g 109), .ref (g 111), .ref (g 174), .int 5, .int 20]), (g 174, eO 6 [.ref (g 175), .ref (g 176)]), (g 175, eA G 5 4 (aL [g 177, g 180, g 183, g 186])), (g 177, eO 7 [.ref (g 178), .ref (g 179), .int 0, .int 0]), (mo, eO 10 [.ref (h 0), .ref (h 1), .ref (h 2), .long 0, .long 1, .int 0, .ref (h 3), .ref (h 4), .int 0, .ref (h 5), .ref (h 6), .int 0, .int 0, .int 0, .int 0, .ref (h 7), .ref (h 8), .ref (h 9), .ref (h 10), .ref (h 11), .ref (h 12), .ref (h 13), .ref (h 14), .ref (h 15), .ref (h 16)]), (h 0, eI G 2246 st0)]) [0, 2, 75, 76, 77, 269, 270] (by decide) rfl
    have hP := hP.sub (ws' := [(x, eO 9 [.ref (g 0), .ref (g 1), .ref (g 2), .ref (g 3), .ref (g 4), .ref (g 5), .ref (g 6)]), (g 1, eO 0 [.ref (g 101), .ref (g 103), .ref (g 105), .ref (g 107), .ref (g 109), .ref (g 111), .ref (g 174), .int 5, .int 20]), (g 174, eO 6 [.ref (g 175), .ref (g 176)]), (g 175, eA G 5 4 (aL [g 177, g 180, g 183, g 186])), (g 177, eO 7 [.ref (g 178), .ref (g 179), .int 0, .int 0]), (mo, eO 10 [.ref (h 0), .ref (h 1), .ref (h 2), .long 0, .long 1, .int 0, .ref (h 3), .ref (h 4), .int 0, .ref (h 5), .ref (h 6), .int 0, .int 0, .int 0, .int 0, .ref (h 7), .ref (h 8), .ref (h 9), .ref (h 10), .ref (h 11), .ref (h 12), .ref (h 13), .ref (h 14), .ref (h 15), .ref (h 16)]), (h 0, eI G 2246 st0)]) [0, 2, 75, 76, 77, 269, 270] rfl
    refine lv_aload_n hx hb dL_law_375 rfl (lv_at hl 1 rfl) ?_
    refine lv_aload_n hx hb dL_law_376 rfl (lv_at hl 0 rfl) ?_
    refine lv_iload_n hx hb dL_law_377 rfl (lv_at hl 3 rfl) ?_
    refine lv_iconst (v := 1) hx hb dL_law_378 (by decide) ?_
    refine lv_iadd hx hb dL_law_379 ?_
    refine my_bei (v := 1) (by decide) ?_
    refine va_sld hx hb hX hbl hbA hS (by unfold vp_in; decide) dL_law_380 ?_
    refine my_bei (v := xs 1) rfl ?_
    have hPc := hP.sub (ws' := [(x, eO 9 [.ref (g 0), .ref (g 1), .ref (g 2), .ref (g 3), .ref (g 4), .ref (g 5), .ref (g 6)]), (g 1, eO 0 [.ref (g 101), .ref (g 103), .ref (g 105), .ref (g 107), .ref (g 109), .ref (g 111), .ref (g 174), .int 5, .int 20]), (g 174, eO 6 [.ref (g 175), .ref (g 176)]), (g 175, eA G 5 4 (aL [g 177, g 180, g 183, g 186])), (g 177, eO 7 [.ref (g 178), .ref (g 179), .int 0, .int 0])]) [0, 1, 2, 3, 4] rfl
    have hDc := hD.sub (ws' := [(x, eO 9 [.ref (g 0), .ref (g 1), .ref (g 2), .ref (g 3), .ref (g 4), .ref (g 5), .ref (g 6)]), (g 1, eO 0 [.ref (g 101), .ref (g 103), .ref (g 105), .ref (g 107), .ref (g 109), .ref (g 111), .ref (g 174), .int 5, .int 20]), (g 174, eO 6 [.ref (g 175), .ref (g 176)]), (g 175, eA G 5 4 (aL [g 177, g 180, g 183, g 186])), (g 177, eO 7 [.ref (g 178), .ref (g 179), .int 0, .int 0])]) [0, 1, 2, 3, 4] (by decide) rfl
    have hFc := va_free (wc := [(x, eO 9 [.ref (g 0), .ref (g 1), .ref (g 2), .ref (g 3), .ref (g 4), .ref (g 5), .ref (g 6)]), (g 1, eO 0 [.ref (g 101), .ref (g 103), .ref (g 105), .ref (g 107), .ref (g 109), .ref (g 111), .ref (g 174), .int 5, .int 20]), (g 174, eO 6 [.ref (g 175), .ref (g 176)]), (g 175, eA G 5 4 (aL [g 177, g 180, g 183, g 186])), (g 177, eO 7 [.ref (g 178), .ref (g 179), .int 0, .int 0])]) hD hS hA [0, 1, 2, 3, 4] rfl
    refine va_calli (va_runV (As := [.int (xs 1)]) (rest := []) ⟨hx, hb, hml, hown, hts⟩ (p_erase l G H.size x (g 0) (g 1) (g 2) (g 3) (g 4) (g 5) (g 6) (g 101) (g 103) (g 105) (g 107) (g 109) (g 111) (g 174) (g 175) (g 176) (g 177) (g 178) (g 179) (aL [g 177, g 180, g 183, g 186]) (xs 1) (fun z => absurd z h4)) (my_cwV hts ok_X10_erase w_262 rfl rfl ⟨Nat.le_of_ble_eq_true rfl, Nat.le_of_ble_eq_true rfl⟩) ⟨wP.blind, va_recv hG.1 hPc (ci := 9) (q0 := 0) rfl rfl, fun U hU hW => ⟨rfl, by rw [hU], by rw [hU]; exact hPc, kG.warm hW hG, hDc.weaken (fun _ _ _ _ => trivial)⟩⟩ rfl rfl hl.1 rfl (lv_room (Nat.le_of_ble_eq_true rfl)) dL_law_381 ⟨Nat.le_of_ble_eq_true rfl, Nat.le_of_ble_eq_true rfl⟩) hS (fun q _ h => hFc q h) hFc (fun r u t H1 locs ht hvm hw hB hz1 hk1 hS => ?_)
    obtain ⟨hP, hD⟩ := va_join (wr := [(mo, eO 10 [.ref (h 0), .ref (h 1), .ref (h 2), .long 0, .long 1, .int 0, .ref (h 3), .ref (h 4), .int 0, .ref (h 5), .ref (h 6), .int 0, .int 0, .int 0, .int 0, .ref (h 7), .ref (h 8), .ref (h 9), .ref (h 10), .ref (h 11), .ref (h 12), .ref (h 13), .ref (h 14), .ref (h 15), .ref (h 16)]), (h 0, eI G 2246 st0)]) (w1 := []) hP hD [0, 1, 2, 3, 4] [5, 6] rfl rfl (by decide) (by decide) hk1 hFc my_P0 my_D0
    generalize H1 = H at hP hS ⊢
    have hP : va_P G.1 vwCl [(mo, eO 10 [.ref (h 0), .ref (h 1), .ref (h 2), .long 0, .long 1, .int 0, .ref (h 3), .ref (h 4), .int 0, .ref (h 5), .ref (h 6), .int 0, .int 0, .int 0, .int 0, .ref (h 7), .ref (h 8), .ref (h 9), .ref (h 10), .ref (h 11), .ref (h 12), .ref (h 13), .ref (h 14), .ref (h 15), .ref (h 16)]), (h 0, eI G 2246 st0)] H := hP
    have hD : va_D (fun q : Nat => s.heap.size ≤ q) [(mo, eO 10 [.ref (h 0), .ref (h 1), .ref (h 2), .long 0, .long 1, .int 0, .ref (h 3), .ref (h 4), .int 0, .ref (h 5), .ref (h 6), .int 0, .int 0, .int 0, .int 0, .ref (h 7), .ref (h 8), .ref (h 9), .ref (h 10), .ref (h 11), .ref (h 12), .ref (h 13), .ref (h 14), .ref (h 15), .ref (h 16)]), (h 0, eI G 2246 st0)] := hD
    subst hw
    refine lv_aload_n hx hb dL_law_384 rfl (lv_at hl 2 rfl) ?_
    refine lv_aload_n hx hb dL_law_385 rfl (lv_at hl 0 rfl) ?_
    refine lv_iload_n hx hb dL_law_386 rfl (lv_at hl 3 rfl) ?_
    refine lv_iconst (v := 1) hx hb dL_law_387 (by decide) ?_
    refine lv_iadd hx hb dL_law_388 ?_
    refine my_bei (v := 1) (by decide) ?_
    refine va_sld hx hb hX hbl hbA hS (by unfold vp_in; decide) dL_law_389 ?_
    refine my_bei (v := xs 1) rfl ?_
    have hPc := hP.sub (ws' := [(mo, eO 10 [.ref (h 0), .ref (h 1), .ref (h 2), .long 0, .long 1, .int 0, .ref (h 3), .ref (h 4), .int 0, .ref (h 5), .ref (h 6), .int 0, .int 0, .int 0, .int 0, .ref (h 7), .ref (h 8), .ref (h 9), .ref (h 10), .ref (h 11), .ref (h 12), .ref (h 13), .ref (h 14), .ref (h 15), .ref (h 16)]), (h 0, eI G 2246 st0)]) [0, 1] rfl
    have hDc := hD.sub (ws' := [(mo, eO 10 [.ref (h 0), .ref (h 1), .ref (h 2), .long 0, .long 1, .int 0, .ref (h 3), .ref (h 4), .int 0, .ref (h 5), .ref (h 6), .int 0, .int 0, .int 0, .int 0, .ref (h 7), .ref (h 8), .ref (h 9), .ref (h 10), .ref (h 11), .ref (h 12), .ref (h 13), .ref (h 14), .ref (h 15), .ref (h 16)]), (h 0, eI G 2246 st0)]) [0, 1] (by decide) rfl
    have hFc := va_free (wc := [(mo, eO 10 [.ref (h 0), .ref (h 1), .ref (h 2), .long 0, .long 1, .int 0, .ref (h 3), .ref (h 4), .int 0, .ref (h 5), .ref (h 6), .int 0, .int 0, .int 0, .int 0, .ref (h 7), .ref (h 8), .ref (h 9), .ref (h 10), .ref (h 11), .ref (h 12), .ref (h 13), .ref (h 14), .ref (h 15), .ref (h 16)]), (h 0, eI G 2246 st0)]) hD hS hA [0, 1] rfl
    refine va_calli (va_runV (As := [.int (xs 1)]) (rest := [.int (if inB 0 (xs 1) 3 = true then 0 else (-2))]) ⟨hx, hb, hml, hown, hts⟩ (m_erase l G H.size mo (h 0) (h 1) (h 2) (h 3) (h 4) (h 5) (h 6) (h 7) (h 8) (h 9) (h 10) (h 11) (h 12) (h 13) (h 14) (h 15) (h 16) (xs 1) ) (my_cwV hts ok_X11_erase w_270 rfl rfl ⟨Nat.le_of_ble_eq_true rfl, Nat.le_of_ble_eq_true rfl⟩) ⟨wP.blind, va_recv hG.1 hPc (ci := 10) (q0 := 0) rfl rfl, fun U hU hW => ⟨rfl, by rw [hU], by rw [hU]; exact hPc, kG.warm hW hG, hDc.weaken (fun _ _ _ _ => trivial)⟩⟩ rfl rfl hl.1 rfl (lv_room (Nat.le_of_ble_eq_true rfl)) dL_law_390 ⟨Nat.le_of_ble_eq_true rfl, Nat.le_of_ble_eq_true rfl⟩) hS (fun q _ h => hFc q h) hFc (fun r u t H1 locs ht hvm hw hB hz1 hk1 hS => ?_)
    obtain ⟨hP, hD⟩ := va_join (wr := []) (w1 := []) hP hD [0, 1] [] rfl rfl (by decide) (by decide) hk1 hFc my_P0 my_D0
    generalize H1 = H at hP hS ⊢
    have hP : va_P G.1 vwCl [] H := hP
    have hD : va_D (fun q : Nat => s.heap.size ≤ q) [] := hD
    subst hw
    refine lv_icmp_eq (tgt := 1376) hx hb dL_law_393 (by decide) (fun c_393 => ?_) (fun c_393 => absurd (rfl) c_393)
    exact law_end l C0 hS (lv_sub hl [0, 3] rfl)
set_option maxHeartbeats 4000000 in
set_option maxRecDepth 100000 in
theorem law_6 {p : Program} {e : Env} {s : State} {m : MethodId} {below : List Frame} {meth : Method} {c : Code} (l : Launch) {b : Nat} {xs : Nat → Int32} (G : gW) (C0 : lw_At p s m meth c b 10 xs) (hG : kG G s) {x mo : Nat} {g h : Nat → Nat} {H : Heap} {locs : List Loc} {ls : Array Slot} (hP : va_P G.1 vwCl (lwW G x g mo h) H) (hD : va_D (fun q : Nat => s.heap.size ≤ q) (lwW G x g mo h)) (hS : va_S (fun q : Nat => s.heap.size ≤ q) s.heap H locs) (hl : lv_has ls 4 [(0, .ref b), (1, .ref x), (2, .ref mo), (3, .int 0)]) : W p l e room_1 s m #[Value.ref b] below meth c H locs 333 19609 (lw_Z below #[Value.ref b] s) (F0 m 398 ls []) := by
  obtain ⟨hx, hb, hr, hml, hown, hts0, hX, hbl, hlocks, hgv⟩ := id C0
  have hts : ∀ w ∈ TT, w.before #[Value.ref b] s = true := fun w h => hts0 w (List.mem_filter.mp h).1
  have hA : ∀ q : Nat, s.heap.size ≤ q → (fun q : Nat => s.heap.size ≤ q) q := fun _ h => h
  have hbA : ¬ (fun q : Nat => s.heap.size ≤ q) b := Nat.not_le.mpr hbl
  rcases pick4 (xs 1) with h4 | h4 | h4 | h4 | h4
  · have hD := hD.sub (ws' := [(x, eO 9 [.ref (g 0), .ref (g 1), .ref (g 2), .ref (g 3), .ref (g 4), .ref (g 5), .ref (g 6)]), (g 1, eO 0 [.ref (g 101), .ref (g 103), .ref (g 105), .ref (g 107), .ref (g 109), .ref (g 111), .ref (g 174), .int 5, .int 20]), (g 174, eO 6 [.ref (g 175), .ref (g 176)]), (g 175, eA G 5 4 (aL [g 177, g 180, g 183, g 186])), (g 177, eO 7 [.ref (g 178), .ref (g 179), .int 0, .int 0]), (g 4, eO 4 [.ref (g 7), .int 0, .int 0, .int 0, .int 0]), (mo, eO 10 [.ref (h 0), .ref (h 1), .ref (h 2), .long 0, .long 1, .int 0, .ref (h 3), .ref (h 4), .int 0, .ref (h 5), .ref (h 6), .int 0, .int 0, .int 0, .int 0, .ref (h 7), .ref (h 8), .ref (h 9), .ref (h 10), .ref (h 11), .ref (h 12), .ref (h 13), .ref (h 14), .ref (h 15), .ref (h 16)]), (h 0, eI G 2246 st0)]) [0, 2, 75, 76, 77, 91, 269, 270] (by decide) rfl
    have hP := hP.sub (ws' := [(x, eO 9 [.ref (g 0), .ref (g 1), .ref (g 2), .ref (g 3), .ref (g 4), .ref (g 5), .ref (g 6)]), (g 1, eO 0 [.ref (g 101), .ref (g 103), .ref (g 105), .ref (g 107), .ref (g 109), .ref (g 111), .ref (g 174), .int 5, .int 20]), (g 174, eO 6 [.ref (g 175), .ref (g 176)]), (g 175, eA G 5 4 (aL [g 177, g 180, g 183, g 186])), (g 177, eO 7 [.ref (g 178), .ref (g 179), .int 0, .int 0]), (g 4, eO 4 [.ref (g 7), .int 0, .int 0, .int 0, .int 0]), (mo, eO 10 [.ref (h 0), .ref (h 1), .ref (h 2), .long 0, .long 1, .int 0, .ref (h 3), .ref (h 4), .int 0, .ref (h 5), .ref (h 6), .int 0, .int 0, .int 0, .int 0, .ref (h 7), .ref (h 8), .ref (h 9), .ref (h 10), .ref (h 11), .ref (h 12), .ref (h 13), .ref (h 14), .ref (h 15), .ref (h 16)]), (h 0, eI G 2246 st0)]) [0, 2, 75, 76, 77, 91, 269, 270] rfl
    refine lv_aload_n hx hb dL_law_398 rfl (lv_at hl 1 rfl) ?_
    refine lv_aload_n hx hb dL_law_399 rfl (lv_at hl 0 rfl) ?_
    refine lv_iload_n hx hb dL_law_400 rfl (lv_at hl 3 rfl) ?_
    refine lv_iconst (v := 1) hx hb dL_law_401 (by decide) ?_
    refine lv_iadd hx hb dL_law_402 ?_
    refine my_bei (v := 1) (by decide) ?_
    refine va_sld hx hb hX hbl hbA hS (by unfold vp_in; decide) dL_law_403 ?_
    refine my_bei (v := xs 1) rfl ?_
    have hPc := hP.sub (ws' := [(x, eO 9 [.ref (g 0), .ref (g 1), .ref (g 2), .ref (g 3), .ref (g 4), .ref (g 5), .ref (g 6)]), (g 1, eO 0 [.ref (g 101), .ref (g 103), .ref (g 105), .ref (g 107), .ref (g 109), .ref (g 111), .ref (g 174), .int 5, .int 20]), (g 174, eO 6 [.ref (g 175), .ref (g 176)]), (g 175, eA G 5 4 (aL [g 177, g 180, g 183, g 186])), (g 177, eO 7 [.ref (g 178), .ref (g 179), .int 0, .int 0]), (g 4, eO 4 [.ref (g 7), .int 0, .int 0, .int 0, .int 0])]) [0, 1, 2, 3, 4, 5] rfl
    have hDc := hD.sub (ws' := [(x, eO 9 [.ref (g 0), .ref (g 1), .ref (g 2), .ref (g 3), .ref (g 4), .ref (g 5), .ref (g 6)]), (g 1, eO 0 [.ref (g 101), .ref (g 103), .ref (g 105), .ref (g 107), .ref (g 109), .ref (g 111), .ref (g 174), .int 5, .int 20]), (g 174, eO 6 [.ref (g 175), .ref (g 176)]), (g 175, eA G 5 4 (aL [g 177, g 180, g 183, g 186])), (g 177, eO 7 [.ref (g 178), .ref (g 179), .int 0, .int 0]), (g 4, eO 4 [.ref (g 7), .int 0, .int 0, .int 0, .int 0])]) [0, 1, 2, 3, 4, 5] (by decide) rfl
    have hFc := va_free (wc := [(x, eO 9 [.ref (g 0), .ref (g 1), .ref (g 2), .ref (g 3), .ref (g 4), .ref (g 5), .ref (g 6)]), (g 1, eO 0 [.ref (g 101), .ref (g 103), .ref (g 105), .ref (g 107), .ref (g 109), .ref (g 111), .ref (g 174), .int 5, .int 20]), (g 174, eO 6 [.ref (g 175), .ref (g 176)]), (g 175, eA G 5 4 (aL [g 177, g 180, g 183, g 186])), (g 177, eO 7 [.ref (g 178), .ref (g 179), .int 0, .int 0]), (g 4, eO 4 [.ref (g 7), .int 0, .int 0, .int 0, .int 0])]) hD hS hA [0, 1, 2, 3, 4, 5] rfl
    refine va_calli (va_runV (As := [.int (xs 1)]) (rest := []) ⟨hx, hb, hml, hown, hts⟩ (p_fault l G H.size x (g 0) (g 1) (g 2) (g 3) (g 4) (g 5) (g 6) (g 101) (g 103) (g 105) (g 107) (g 109) (g 111) (g 174) (g 175) (g 176) (g 177) (g 178) (g 179) (g 7) (aL [g 177, g 180, g 183, g 186]) (xs 1) (fun _ => by rw [h4]; rfl)) (my_cwV hts ok_X10_fault w_274 rfl rfl ⟨Nat.le_of_ble_eq_true rfl, Nat.le_of_ble_eq_true rfl⟩) ⟨wP.blind, va_recv hG.1 hPc (ci := 9) (q0 := 0) rfl rfl, fun U hU hW => ⟨rfl, by rw [hU], by rw [hU]; exact hPc, kG.warm hW hG, hDc.weaken (fun _ _ _ _ => trivial)⟩⟩ rfl rfl hl.1 rfl (lv_room (Nat.le_of_ble_eq_true rfl)) dL_law_404 ⟨Nat.le_of_ble_eq_true rfl, Nat.le_of_ble_eq_true rfl⟩) hS (fun q _ h => hFc q h) hFc (fun r u t H1 locs ht hvm hw hB hz1 hk1 hS => ?_)
    obtain ⟨hP, hD⟩ := va_join (wr := [(mo, eO 10 [.ref (h 0), .ref (h 1), .ref (h 2), .long 0, .long 1, .int 0, .ref (h 3), .ref (h 4), .int 0, .ref (h 5), .ref (h 6), .int 0, .int 0, .int 0, .int 0, .ref (h 7), .ref (h 8), .ref (h 9), .ref (h 10), .ref (h 11), .ref (h 12), .ref (h 13), .ref (h 14), .ref (h 15), .ref (h 16)]), (h 0, eI G 2246 st0)]) (w1 := []) hP hD [0, 1, 2, 3, 4, 5] [6, 7] rfl rfl (by decide) (by decide) hk1 hFc my_P0 my_D0
    generalize H1 = H at hP hS ⊢
    have hP : va_P G.1 vwCl [(mo, eO 10 [.ref (h 0), .ref (h 1), .ref (h 2), .long 0, .long 1, .int 0, .ref (h 3), .ref (h 4), .int 0, .ref (h 5), .ref (h 6), .int 0, .int 0, .int 0, .int 0, .ref (h 7), .ref (h 8), .ref (h 9), .ref (h 10), .ref (h 11), .ref (h 12), .ref (h 13), .ref (h 14), .ref (h 15), .ref (h 16)]), (h 0, eI G 2246 st0)] H := hP
    have hD : va_D (fun q : Nat => s.heap.size ≤ q) [(mo, eO 10 [.ref (h 0), .ref (h 1), .ref (h 2), .long 0, .long 1, .int 0, .ref (h 3), .ref (h 4), .int 0, .ref (h 5), .ref (h 6), .int 0, .int 0, .int 0, .int 0, .ref (h 7), .ref (h 8), .ref (h 9), .ref (h 10), .ref (h 11), .ref (h 12), .ref (h 13), .ref (h 14), .ref (h 15), .ref (h 16)]), (h 0, eI G 2246 st0)] := hD
    subst hw
    refine lv_aload_n hx hb dL_law_407 rfl (lv_at hl 2 rfl) ?_
    refine lv_aload_n hx hb dL_law_408 rfl (lv_at hl 0 rfl) ?_
    refine lv_iload_n hx hb dL_law_409 rfl (lv_at hl 3 rfl) ?_
    refine lv_iconst (v := 1) hx hb dL_law_410 (by decide) ?_
    refine lv_iadd hx hb dL_law_411 ?_
    refine my_bei (v := 1) (by decide) ?_
    refine va_sld hx hb hX hbl hbA hS (by unfold vp_in; decide) dL_law_412 ?_
    refine my_bei (v := xs 1) rfl ?_
    have hPc := hP.sub (ws' := [(mo, eO 10 [.ref (h 0), .ref (h 1), .ref (h 2), .long 0, .long 1, .int 0, .ref (h 3), .ref (h 4), .int 0, .ref (h 5), .ref (h 6), .int 0, .int 0, .int 0, .int 0, .ref (h 7), .ref (h 8), .ref (h 9), .ref (h 10), .ref (h 11), .ref (h 12), .ref (h 13), .ref (h 14), .ref (h 15), .ref (h 16)]), (h 0, eI G 2246 st0)]) [0, 1] rfl
    have hDc := hD.sub (ws' := [(mo, eO 10 [.ref (h 0), .ref (h 1), .ref (h 2), .long 0, .long 1, .int 0, .ref (h 3), .ref (h 4), .int 0, .ref (h 5), .ref (h 6), .int 0, .int 0, .int 0, .int 0, .ref (h 7), .ref (h 8), .ref (h 9), .ref (h 10), .ref (h 11), .ref (h 12), .ref (h 13), .ref (h 14), .ref (h 15), .ref (h 16)]), (h 0, eI G 2246 st0)]) [0, 1] (by decide) rfl
    have hFc := va_free (wc := [(mo, eO 10 [.ref (h 0), .ref (h 1), .ref (h 2), .long 0, .long 1, .int 0, .ref (h 3), .ref (h 4), .int 0, .ref (h 5), .ref (h 6), .int 0, .int 0, .int 0, .int 0, .ref (h 7), .ref (h 8), .ref (h 9), .ref (h 10), .ref (h 11), .ref (h 12), .ref (h 13), .ref (h 14), .ref (h 15), .ref (h 16)]), (h 0, eI G 2246 st0)]) hD hS hA [0, 1] rfl
    refine va_calli (va_runV (As := [.int (xs 1)]) (rest := [.int (if inB 0 (xs 1) 3 = true then 1 else (-2))]) ⟨hx, hb, hml, hown, hts⟩ (m_fault l G H.size mo (h 0) (h 1) (h 2) (h 3) (h 4) (h 5) (h 6) (h 7) (h 8) (h 9) (h 10) (h 11) (h 12) (h 13) (h 14) (h 15) (h 16) (xs 1) ) (my_cwV hts ok_X11_fault w_341 rfl rfl ⟨Nat.le_of_ble_eq_true rfl, Nat.le_of_ble_eq_true rfl⟩) ⟨wP.blind, va_recv hG.1 hPc (ci := 10) (q0 := 0) rfl rfl, fun U hU hW => ⟨rfl, by rw [hU], by rw [hU]; exact hPc, kG.warm hW hG, hDc.weaken (fun _ _ _ _ => trivial)⟩⟩ rfl rfl hl.1 rfl (lv_room (Nat.le_of_ble_eq_true rfl)) dL_law_413 ⟨Nat.le_of_ble_eq_true rfl, Nat.le_of_ble_eq_true rfl⟩) hS (fun q _ h => hFc q h) hFc (fun r u t H1 locs ht hvm hw hB hz1 hk1 hS => ?_)
    obtain ⟨hP, hD⟩ := va_join (wr := []) (w1 := []) hP hD [0, 1] [] rfl rfl (by decide) (by decide) hk1 hFc my_P0 my_D0
    generalize H1 = H at hP hS ⊢
    have hP : va_P G.1 vwCl [] H := hP
    have hD : va_D (fun q : Nat => s.heap.size ≤ q) [] := hD
    subst hw
    refine lv_icmp_eq (tgt := 1376) hx hb dL_law_416 (by decide) (fun c_416 => ?_) (fun c_416 => absurd (rfl) c_416)
    exact law_end l C0 hS (lv_sub hl [0, 3] rfl)
  · have hD := hD.sub (ws' := [(x, eO 9 [.ref (g 0), .ref (g 1), .ref (g 2), .ref (g 3), .ref (g 4), .ref (g 5), .ref (g 6)]), (g 1, eO 0 [.ref (g 101), .ref (g 103), .ref (g 105), .ref (g 107), .ref (g 109), .ref (g 111), .ref (g 174), .int 5, .int 20]), (g 174, eO 6 [.ref (g 175), .ref (g 176)]), (g 175, eA G 5 4 (aL [g 177, g 180, g 183, g 186])), (g 180, eO 7 [.ref (g 181), .ref (g 182), .int 0, .int 0]), (g 4, eO 4 [.ref (g 7), .int 0, .int 0, .int 0, .int 0]), (mo, eO 10 [.ref (h 0), .ref (h 1), .ref (h 2), .long 0, .long 1, .int 0, .ref (h 3), .ref (h 4), .int 0, .ref (h 5), .ref (h 6), .int 0, .int 0, .int 0, .int 0, .ref (h 7), .ref (h 8), .ref (h 9), .ref (h 10), .ref (h 11), .ref (h 12), .ref (h 13), .ref (h 14), .ref (h 15), .ref (h 16)]), (h 0, eI G 2246 st0)]) [0, 2, 75, 76, 80, 91, 269, 270] (by decide) rfl
    have hP := hP.sub (ws' := [(x, eO 9 [.ref (g 0), .ref (g 1), .ref (g 2), .ref (g 3), .ref (g 4), .ref (g 5), .ref (g 6)]), (g 1, eO 0 [.ref (g 101), .ref (g 103), .ref (g 105), .ref (g 107), .ref (g 109), .ref (g 111), .ref (g 174), .int 5, .int 20]), (g 174, eO 6 [.ref (g 175), .ref (g 176)]), (g 175, eA G 5 4 (aL [g 177, g 180, g 183, g 186])), (g 180, eO 7 [.ref (g 181), .ref (g 182), .int 0, .int 0]), (g 4, eO 4 [.ref (g 7), .int 0, .int 0, .int 0, .int 0]), (mo, eO 10 [.ref (h 0), .ref (h 1), .ref (h 2), .long 0, .long 1, .int 0, .ref (h 3), .ref (h 4), .int 0, .ref (h 5), .ref (h 6), .int 0, .int 0, .int 0, .int 0, .ref (h 7), .ref (h 8), .ref (h 9), .ref (h 10), .ref (h 11), .ref (h 12), .ref (h 13), .ref (h 14), .ref (h 15), .ref (h 16)]), (h 0, eI G 2246 st0)]) [0, 2, 75, 76, 80, 91, 269, 270] rfl
    refine lv_aload_n hx hb dL_law_398 rfl (lv_at hl 1 rfl) ?_
    refine lv_aload_n hx hb dL_law_399 rfl (lv_at hl 0 rfl) ?_
    refine lv_iload_n hx hb dL_law_400 rfl (lv_at hl 3 rfl) ?_
    refine lv_iconst (v := 1) hx hb dL_law_401 (by decide) ?_
    refine lv_iadd hx hb dL_law_402 ?_
    refine my_bei (v := 1) (by decide) ?_
    refine va_sld hx hb hX hbl hbA hS (by unfold vp_in; decide) dL_law_403 ?_
    refine my_bei (v := xs 1) rfl ?_
    have hPc := hP.sub (ws' := [(x, eO 9 [.ref (g 0), .ref (g 1), .ref (g 2), .ref (g 3), .ref (g 4), .ref (g 5), .ref (g 6)]), (g 1, eO 0 [.ref (g 101), .ref (g 103), .ref (g 105), .ref (g 107), .ref (g 109), .ref (g 111), .ref (g 174), .int 5, .int 20]), (g 174, eO 6 [.ref (g 175), .ref (g 176)]), (g 175, eA G 5 4 (aL [g 177, g 180, g 183, g 186])), (g 180, eO 7 [.ref (g 181), .ref (g 182), .int 0, .int 0]), (g 4, eO 4 [.ref (g 7), .int 0, .int 0, .int 0, .int 0])]) [0, 1, 2, 3, 4, 5] rfl
    have hDc := hD.sub (ws' := [(x, eO 9 [.ref (g 0), .ref (g 1), .ref (g 2), .ref (g 3), .ref (g 4), .ref (g 5), .ref (g 6)]), (g 1, eO 0 [.ref (g 101), .ref (g 103), .ref (g 105), .ref (g 107), .ref (g 109), .ref (g 111), .ref (g 174), .int 5, .int 20]), (g 174, eO 6 [.ref (g 175), .ref (g 176)]), (g 175, eA G 5 4 (aL [g 177, g 180, g 183, g 186])), (g 180, eO 7 [.ref (g 181), .ref (g 182), .int 0, .int 0]), (g 4, eO 4 [.ref (g 7), .int 0, .int 0, .int 0, .int 0])]) [0, 1, 2, 3, 4, 5] (by decide) rfl
    have hFc := va_free (wc := [(x, eO 9 [.ref (g 0), .ref (g 1), .ref (g 2), .ref (g 3), .ref (g 4), .ref (g 5), .ref (g 6)]), (g 1, eO 0 [.ref (g 101), .ref (g 103), .ref (g 105), .ref (g 107), .ref (g 109), .ref (g 111), .ref (g 174), .int 5, .int 20]), (g 174, eO 6 [.ref (g 175), .ref (g 176)]), (g 175, eA G 5 4 (aL [g 177, g 180, g 183, g 186])), (g 180, eO 7 [.ref (g 181), .ref (g 182), .int 0, .int 0]), (g 4, eO 4 [.ref (g 7), .int 0, .int 0, .int 0, .int 0])]) hD hS hA [0, 1, 2, 3, 4, 5] rfl
    refine va_calli (va_runV (As := [.int (xs 1)]) (rest := []) ⟨hx, hb, hml, hown, hts⟩ (p_fault l G H.size x (g 0) (g 1) (g 2) (g 3) (g 4) (g 5) (g 6) (g 101) (g 103) (g 105) (g 107) (g 109) (g 111) (g 174) (g 175) (g 176) (g 180) (g 181) (g 182) (g 7) (aL [g 177, g 180, g 183, g 186]) (xs 1) (fun _ => by rw [h4]; rfl)) (my_cwV hts ok_X10_fault w_274 rfl rfl ⟨Nat.le_of_ble_eq_true rfl, Nat.le_of_ble_eq_true rfl⟩) ⟨wP.blind, va_recv hG.1 hPc (ci := 9) (q0 := 0) rfl rfl, fun U hU hW => ⟨rfl, by rw [hU], by rw [hU]; exact hPc, kG.warm hW hG, hDc.weaken (fun _ _ _ _ => trivial)⟩⟩ rfl rfl hl.1 rfl (lv_room (Nat.le_of_ble_eq_true rfl)) dL_law_404 ⟨Nat.le_of_ble_eq_true rfl, Nat.le_of_ble_eq_true rfl⟩) hS (fun q _ h => hFc q h) hFc (fun r u t H1 locs ht hvm hw hB hz1 hk1 hS => ?_)
    obtain ⟨hP, hD⟩ := va_join (wr := [(mo, eO 10 [.ref (h 0), .ref (h 1), .ref (h 2), .long 0, .long 1, .int 0, .ref (h 3), .ref (h 4), .int 0, .ref (h 5), .ref (h 6), .int 0, .int 0, .int 0, .int 0, .ref (h 7), .ref (h 8), .ref (h 9), .ref (h 10), .ref (h 11), .ref (h 12), .ref (h 13), .ref (h 14), .ref (h 15), .ref (h 16)]), (h 0, eI G 2246 st0)]) (w1 := []) hP hD [0, 1, 2, 3, 4, 5] [6, 7] rfl rfl (by decide) (by decide) hk1 hFc my_P0 my_D0
    generalize H1 = H at hP hS ⊢
    have hP : va_P G.1 vwCl [(mo, eO 10 [.ref (h 0), .ref (h 1), .ref (h 2), .long 0, .long 1, .int 0, .ref (h 3), .ref (h 4), .int 0, .ref (h 5), .ref (h 6), .int 0, .int 0, .int 0, .int 0, .ref (h 7), .ref (h 8), .ref (h 9), .ref (h 10), .ref (h 11), .ref (h 12), .ref (h 13), .ref (h 14), .ref (h 15), .ref (h 16)]), (h 0, eI G 2246 st0)] H := hP
    have hD : va_D (fun q : Nat => s.heap.size ≤ q) [(mo, eO 10 [.ref (h 0), .ref (h 1), .ref (h 2), .long 0, .long 1, .int 0, .ref (h 3), .ref (h 4), .int 0, .ref (h 5), .ref (h 6), .int 0, .int 0, .int 0, .int 0, .ref (h 7), .ref (h 8), .ref (h 9), .ref (h 10), .ref (h 11), .ref (h 12), .ref (h 13), .ref (h 14), .ref (h 15), .ref (h 16)]), (h 0, eI G 2246 st0)] := hD
    subst hw
    refine lv_aload_n hx hb dL_law_407 rfl (lv_at hl 2 rfl) ?_
    refine lv_aload_n hx hb dL_law_408 rfl (lv_at hl 0 rfl) ?_
    refine lv_iload_n hx hb dL_law_409 rfl (lv_at hl 3 rfl) ?_
    refine lv_iconst (v := 1) hx hb dL_law_410 (by decide) ?_
    refine lv_iadd hx hb dL_law_411 ?_
    refine my_bei (v := 1) (by decide) ?_
    refine va_sld hx hb hX hbl hbA hS (by unfold vp_in; decide) dL_law_412 ?_
    refine my_bei (v := xs 1) rfl ?_
    have hPc := hP.sub (ws' := [(mo, eO 10 [.ref (h 0), .ref (h 1), .ref (h 2), .long 0, .long 1, .int 0, .ref (h 3), .ref (h 4), .int 0, .ref (h 5), .ref (h 6), .int 0, .int 0, .int 0, .int 0, .ref (h 7), .ref (h 8), .ref (h 9), .ref (h 10), .ref (h 11), .ref (h 12), .ref (h 13), .ref (h 14), .ref (h 15), .ref (h 16)]), (h 0, eI G 2246 st0)]) [0, 1] rfl
    have hDc := hD.sub (ws' := [(mo, eO 10 [.ref (h 0), .ref (h 1), .ref (h 2), .long 0, .long 1, .int 0, .ref (h 3), .ref (h 4), .int 0, .ref (h 5), .ref (h 6), .int 0, .int 0, .int 0, .int 0, .ref (h 7), .ref (h 8), .ref (h 9), .ref (h 10), .ref (h 11), .ref (h 12), .ref (h 13), .ref (h 14), .ref (h 15), .ref (h 16)]), (h 0, eI G 2246 st0)]) [0, 1] (by decide) rfl
    have hFc := va_free (wc := [(mo, eO 10 [.ref (h 0), .ref (h 1), .ref (h 2), .long 0, .long 1, .int 0, .ref (h 3), .ref (h 4), .int 0, .ref (h 5), .ref (h 6), .int 0, .int 0, .int 0, .int 0, .ref (h 7), .ref (h 8), .ref (h 9), .ref (h 10), .ref (h 11), .ref (h 12), .ref (h 13), .ref (h 14), .ref (h 15), .ref (h 16)]), (h 0, eI G 2246 st0)]) hD hS hA [0, 1] rfl
    refine va_calli (va_runV (As := [.int (xs 1)]) (rest := [.int (if inB 0 (xs 1) 3 = true then 1 else (-2))]) ⟨hx, hb, hml, hown, hts⟩ (m_fault l G H.size mo (h 0) (h 1) (h 2) (h 3) (h 4) (h 5) (h 6) (h 7) (h 8) (h 9) (h 10) (h 11) (h 12) (h 13) (h 14) (h 15) (h 16) (xs 1) ) (my_cwV hts ok_X11_fault w_341 rfl rfl ⟨Nat.le_of_ble_eq_true rfl, Nat.le_of_ble_eq_true rfl⟩) ⟨wP.blind, va_recv hG.1 hPc (ci := 10) (q0 := 0) rfl rfl, fun U hU hW => ⟨rfl, by rw [hU], by rw [hU]; exact hPc, kG.warm hW hG, hDc.weaken (fun _ _ _ _ => trivial)⟩⟩ rfl rfl hl.1 rfl (lv_room (Nat.le_of_ble_eq_true rfl)) dL_law_413 ⟨Nat.le_of_ble_eq_true rfl, Nat.le_of_ble_eq_true rfl⟩) hS (fun q _ h => hFc q h) hFc (fun r u t H1 locs ht hvm hw hB hz1 hk1 hS => ?_)
    obtain ⟨hP, hD⟩ := va_join (wr := []) (w1 := []) hP hD [0, 1] [] rfl rfl (by decide) (by decide) hk1 hFc my_P0 my_D0
    generalize H1 = H at hP hS ⊢
    have hP : va_P G.1 vwCl [] H := hP
    have hD : va_D (fun q : Nat => s.heap.size ≤ q) [] := hD
    subst hw
    refine lv_icmp_eq (tgt := 1376) hx hb dL_law_416 (by decide) (fun c_416 => ?_) (fun c_416 => absurd (rfl) c_416)
    exact law_end l C0 hS (lv_sub hl [0, 3] rfl)
  · have hD := hD.sub (ws' := [(x, eO 9 [.ref (g 0), .ref (g 1), .ref (g 2), .ref (g 3), .ref (g 4), .ref (g 5), .ref (g 6)]), (g 1, eO 0 [.ref (g 101), .ref (g 103), .ref (g 105), .ref (g 107), .ref (g 109), .ref (g 111), .ref (g 174), .int 5, .int 20]), (g 174, eO 6 [.ref (g 175), .ref (g 176)]), (g 175, eA G 5 4 (aL [g 177, g 180, g 183, g 186])), (g 183, eO 7 [.ref (g 184), .ref (g 185), .int 0, .int 0]), (g 4, eO 4 [.ref (g 7), .int 0, .int 0, .int 0, .int 0]), (mo, eO 10 [.ref (h 0), .ref (h 1), .ref (h 2), .long 0, .long 1, .int 0, .ref (h 3), .ref (h 4), .int 0, .ref (h 5), .ref (h 6), .int 0, .int 0, .int 0, .int 0, .ref (h 7), .ref (h 8), .ref (h 9), .ref (h 10), .ref (h 11), .ref (h 12), .ref (h 13), .ref (h 14), .ref (h 15), .ref (h 16)]), (h 0, eI G 2246 st0)]) [0, 2, 75, 76, 83, 91, 269, 270] (by decide) rfl
    have hP := hP.sub (ws' := [(x, eO 9 [.ref (g 0), .ref (g 1), .ref (g 2), .ref (g 3), .ref (g 4), .ref (g 5), .ref (g 6)]), (g 1, eO 0 [.ref (g 101), .ref (g 103), .ref (g 105), .ref (g 107), .ref (g 109), .ref (g 111), .ref (g 174), .int 5, .int 20]), (g 174, eO 6 [.ref (g 175), .ref (g 176)]), (g 175, eA G 5 4 (aL [g 177, g 180, g 183, g 186])), (g 183, eO 7 [.ref (g 184), .ref (g 185), .int 0, .int 0]), (g 4, eO 4 [.ref (g 7), .int 0, .int 0, .int 0, .int 0]), (mo, eO 10 [.ref (h 0), .ref (h 1), .ref (h 2), .long 0, .long 1, .int 0, .ref (h 3), .ref (h 4), .int 0, .ref (h 5), .ref (h 6), .int 0, .int 0, .int 0, .int 0, .ref (h 7), .ref (h 8), .ref (h 9), .ref (h 10), .ref (h 11), .ref (h 12), .ref (h 13), .ref (h 14), .ref (h 15), .ref (h 16)]), (h 0, eI G 2246 st0)]) [0, 2, 75, 76, 83, 91, 269, 270] rfl
    refine lv_aload_n hx hb dL_law_398 rfl (lv_at hl 1 rfl) ?_
    refine lv_aload_n hx hb dL_law_399 rfl (lv_at hl 0 rfl) ?_
    refine lv_iload_n hx hb dL_law_400 rfl (lv_at hl 3 rfl) ?_
    refine lv_iconst (v := 1) hx hb dL_law_401 (by decide) ?_
    refine lv_iadd hx hb dL_law_402 ?_
    refine my_bei (v := 1) (by decide) ?_
    refine va_sld hx hb hX hbl hbA hS (by unfold vp_in; decide) dL_law_403 ?_
    refine my_bei (v := xs 1) rfl ?_
    have hPc := hP.sub (ws' := [(x, eO 9 [.ref (g 0), .ref (g 1), .ref (g 2), .ref (g 3), .ref (g 4), .ref (g 5), .ref (g 6)]), (g 1, eO 0 [.ref (g 101), .ref (g 103), .ref (g 105), .ref (g 107), .ref (g 109), .ref (g 111), .ref (g 174), .int 5, .int 20]), (g 174, eO 6 [.ref (g 175), .ref (g 176)]), (g 175, eA G 5 4 (aL [g 177, g 180, g 183, g 186])), (g 183, eO 7 [.ref (g 184), .ref (g 185), .int 0, .int 0]), (g 4, eO 4 [.ref (g 7), .int 0, .int 0, .int 0, .int 0])]) [0, 1, 2, 3, 4, 5] rfl
    have hDc := hD.sub (ws' := [(x, eO 9 [.ref (g 0), .ref (g 1), .ref (g 2), .ref (g 3), .ref (g 4), .ref (g 5), .ref (g 6)]), (g 1, eO 0 [.ref (g 101), .ref (g 103), .ref (g 105), .ref (g 107), .ref (g 109), .ref (g 111), .ref (g 174), .int 5, .int 20]), (g 174, eO 6 [.ref (g 175), .ref (g 176)]), (g 175, eA G 5 4 (aL [g 177, g 180, g 183, g 186])), (g 183, eO 7 [.ref (g 184), .ref (g 185), .int 0, .int 0]), (g 4, eO 4 [.ref (g 7), .int 0, .int 0, .int 0, .int 0])]) [0, 1, 2, 3, 4, 5] (by decide) rfl
    have hFc := va_free (wc := [(x, eO 9 [.ref (g 0), .ref (g 1), .ref (g 2), .ref (g 3), .ref (g 4), .ref (g 5), .ref (g 6)]), (g 1, eO 0 [.ref (g 101), .ref (g 103), .ref (g 105), .ref (g 107), .ref (g 109), .ref (g 111), .ref (g 174), .int 5, .int 20]), (g 174, eO 6 [.ref (g 175), .ref (g 176)]), (g 175, eA G 5 4 (aL [g 177, g 180, g 183, g 186])), (g 183, eO 7 [.ref (g 184), .ref (g 185), .int 0, .int 0]), (g 4, eO 4 [.ref (g 7), .int 0, .int 0, .int 0, .int 0])]) hD hS hA [0, 1, 2, 3, 4, 5] rfl
    refine va_calli (va_runV (As := [.int (xs 1)]) (rest := []) ⟨hx, hb, hml, hown, hts⟩ (p_fault l G H.size x (g 0) (g 1) (g 2) (g 3) (g 4) (g 5) (g 6) (g 101) (g 103) (g 105) (g 107) (g 109) (g 111) (g 174) (g 175) (g 176) (g 183) (g 184) (g 185) (g 7) (aL [g 177, g 180, g 183, g 186]) (xs 1) (fun _ => by rw [h4]; rfl)) (my_cwV hts ok_X10_fault w_274 rfl rfl ⟨Nat.le_of_ble_eq_true rfl, Nat.le_of_ble_eq_true rfl⟩) ⟨wP.blind, va_recv hG.1 hPc (ci := 9) (q0 := 0) rfl rfl, fun U hU hW => ⟨rfl, by rw [hU], by rw [hU]; exact hPc, kG.warm hW hG, hDc.weaken (fun _ _ _ _ => trivial)⟩⟩ rfl rfl hl.1 rfl (lv_room (Nat.le_of_ble_eq_true rfl)) dL_law_404 ⟨Nat.le_of_ble_eq_true rfl, Nat.le_of_ble_eq_true rfl⟩) hS (fun q _ h => hFc q h) hFc (fun r u t H1 locs ht hvm hw hB hz1 hk1 hS => ?_)
    obtain ⟨hP, hD⟩ := va_join (wr := [(mo, eO 10 [.ref (h 0), .ref (h 1), .ref (h 2), .long 0, .long 1, .int 0, .ref (h 3), .ref (h 4), .int 0, .ref (h 5), .ref (h 6), .int 0, .int 0, .int 0, .int 0, .ref (h 7), .ref (h 8), .ref (h 9), .ref (h 10), .ref (h 11), .ref (h 12), .ref (h 13), .ref (h 14), .ref (h 15), .ref (h 16)]), (h 0, eI G 2246 st0)]) (w1 := []) hP hD [0, 1, 2, 3, 4, 5] [6, 7] rfl rfl (by decide) (by decide) hk1 hFc my_P0 my_D0
    generalize H1 = H at hP hS ⊢
    have hP : va_P G.1 vwCl [(mo, eO 10 [.ref (h 0), .ref (h 1), .ref (h 2), .long 0, .long 1, .int 0, .ref (h 3), .ref (h 4), .int 0, .ref (h 5), .ref (h 6), .int 0, .int 0, .int 0, .int 0, .ref (h 7), .ref (h 8), .ref (h 9), .ref (h 10), .ref (h 11), .ref (h 12), .ref (h 13), .ref (h 14), .ref (h 15), .ref (h 16)]), (h 0, eI G 2246 st0)] H := hP
    have hD : va_D (fun q : Nat => s.heap.size ≤ q) [(mo, eO 10 [.ref (h 0), .ref (h 1), .ref (h 2), .long 0, .long 1, .int 0, .ref (h 3), .ref (h 4), .int 0, .ref (h 5), .ref (h 6), .int 0, .int 0, .int 0, .int 0, .ref (h 7), .ref (h 8), .ref (h 9), .ref (h 10), .ref (h 11), .ref (h 12), .ref (h 13), .ref (h 14), .ref (h 15), .ref (h 16)]), (h 0, eI G 2246 st0)] := hD
    subst hw
    refine lv_aload_n hx hb dL_law_407 rfl (lv_at hl 2 rfl) ?_
    refine lv_aload_n hx hb dL_law_408 rfl (lv_at hl 0 rfl) ?_
    refine lv_iload_n hx hb dL_law_409 rfl (lv_at hl 3 rfl) ?_
    refine lv_iconst (v := 1) hx hb dL_law_410 (by decide) ?_
    refine lv_iadd hx hb dL_law_411 ?_
    refine my_bei (v := 1) (by decide) ?_
    refine va_sld hx hb hX hbl hbA hS (by unfold vp_in; decide) dL_law_412 ?_
    refine my_bei (v := xs 1) rfl ?_
    have hPc := hP.sub (ws' := [(mo, eO 10 [.ref (h 0), .ref (h 1), .ref (h 2), .long 0, .long 1, .int 0, .ref (h 3), .ref (h 4), .int 0, .ref (h 5), .ref (h 6), .int 0, .int 0, .int 0, .int 0, .ref (h 7), .ref (h 8), .ref (h 9), .ref (h 10), .ref (h 11), .ref (h 12), .ref (h 13), .ref (h 14), .ref (h 15), .ref (h 16)]), (h 0, eI G 2246 st0)]) [0, 1] rfl
    have hDc := hD.sub (ws' := [(mo, eO 10 [.ref (h 0), .ref (h 1), .ref (h 2), .long 0, .long 1, .int 0, .ref (h 3), .ref (h 4), .int 0, .ref (h 5), .ref (h 6), .int 0, .int 0, .int 0, .int 0, .ref (h 7), .ref (h 8), .ref (h 9), .ref (h 10), .ref (h 11), .ref (h 12), .ref (h 13), .ref (h 14), .ref (h 15), .ref (h 16)]), (h 0, eI G 2246 st0)]) [0, 1] (by decide) rfl
    have hFc := va_free (wc := [(mo, eO 10 [.ref (h 0), .ref (h 1), .ref (h 2), .long 0, .long 1, .int 0, .ref (h 3), .ref (h 4), .int 0, .ref (h 5), .ref (h 6), .int 0, .int 0, .int 0, .int 0, .ref (h 7), .ref (h 8), .ref (h 9), .ref (h 10), .ref (h 11), .ref (h 12), .ref (h 13), .ref (h 14), .ref (h 15), .ref (h 16)]), (h 0, eI G 2246 st0)]) hD hS hA [0, 1] rfl
    refine va_calli (va_runV (As := [.int (xs 1)]) (rest := [.int (if inB 0 (xs 1) 3 = true then 1 else (-2))]) ⟨hx, hb, hml, hown, hts⟩ (m_fault l G H.size mo (h 0) (h 1) (h 2) (h 3) (h 4) (h 5) (h 6) (h 7) (h 8) (h 9) (h 10) (h 11) (h 12) (h 13) (h 14) (h 15) (h 16) (xs 1) ) (my_cwV hts ok_X11_fault w_341 rfl rfl ⟨Nat.le_of_ble_eq_true rfl, Nat.le_of_ble_eq_true rfl⟩) ⟨wP.blind, va_recv hG.1 hPc (ci := 10) (q0 := 0) rfl rfl, fun U hU hW => ⟨rfl, by rw [hU], by rw [hU]; exact hPc, kG.warm hW hG, hDc.weaken (fun _ _ _ _ => trivial)⟩⟩ rfl rfl hl.1 rfl (lv_room (Nat.le_of_ble_eq_true rfl)) dL_law_413 ⟨Nat.le_of_ble_eq_true rfl, Nat.le_of_ble_eq_true rfl⟩) hS (fun q _ h => hFc q h) hFc (fun r u t H1 locs ht hvm hw hB hz1 hk1 hS => ?_)
    obtain ⟨hP, hD⟩ := va_join (wr := []) (w1 := []) hP hD [0, 1] [] rfl rfl (by decide) (by decide) hk1 hFc my_P0 my_D0
    generalize H1 = H at hP hS ⊢
    have hP : va_P G.1 vwCl [] H := hP
    have hD : va_D (fun q : Nat => s.heap.size ≤ q) [] := hD
    subst hw
    refine lv_icmp_eq (tgt := 1376) hx hb dL_law_416 (by decide) (fun c_416 => ?_) (fun c_416 => absurd (rfl) c_416)
    exact law_end l C0 hS (lv_sub hl [0, 3] rfl)
  · have hD := hD.sub (ws' := [(x, eO 9 [.ref (g 0), .ref (g 1), .ref (g 2), .ref (g 3), .ref (g 4), .ref (g 5), .ref (g 6)]), (g 1, eO 0 [.ref (g 101), .ref (g 103), .ref (g 105), .ref (g 107), .ref (g 109), .ref (g 111), .ref (g 174), .int 5, .int 20]), (g 174, eO 6 [.ref (g 175), .ref (g 176)]), (g 175, eA G 5 4 (aL [g 177, g 180, g 183, g 186])), (g 186, eO 7 [.ref (g 187), .ref (g 188), .int 0, .int 0]), (g 4, eO 4 [.ref (g 7), .int 0, .int 0, .int 0, .int 0]), (mo, eO 10 [.ref (h 0), .ref (h 1), .ref (h 2), .long 0, .long 1, .int 0, .ref (h 3), .ref (h 4), .int 0, .ref (h 5), .ref (h 6), .int 0, .int 0, .int 0, .int 0, .ref (h 7), .ref (h 8), .ref (h 9), .ref (h 10), .ref (h 11), .ref (h 12), .ref (h 13), .ref (h 14), .ref (h 15), .ref (h 16)]), (h 0, eI G 2246 st0)]) [0, 2, 75, 76, 86, 91, 269, 270] (by decide) rfl
    have hP := hP.sub (ws' := [(x, eO 9 [.ref (g 0), .ref (g 1), .ref (g 2), .ref (g 3), .ref (g 4), .ref (g 5), .ref (g 6)]), (g 1, eO 0 [.ref (g 101), .ref (g 103), .ref (g 105), .ref (g 107), .ref (g 109), .ref (g 111), .ref (g 174), .int 5, .int 20]), (g 174, eO 6 [.ref (g 175), .ref (g 176)]), (g 175, eA G 5 4 (aL [g 177, g 180, g 183, g 186])), (g 186, eO 7 [.ref (g 187), .ref (g 188), .int 0, .int 0]), (g 4, eO 4 [.ref (g 7), .int 0, .int 0, .int 0, .int 0]), (mo, eO 10 [.ref (h 0), .ref (h 1), .ref (h 2), .long 0, .long 1, .int 0, .ref (h 3), .ref (h 4), .int 0, .ref (h 5), .ref (h 6), .int 0, .int 0, .int 0, .int 0, .ref (h 7), .ref (h 8), .ref (h 9), .ref (h 10), .ref (h 11), .ref (h 12), .ref (h 13), .ref (h 14), .ref (h 15), .ref (h 16)]), (h 0, eI G 2246 st0)]) [0, 2, 75, 76, 86, 91, 269, 270] rfl
    refine lv_aload_n hx hb dL_law_398 rfl (lv_at hl 1 rfl) ?_
    refine lv_aload_n hx hb dL_law_399 rfl (lv_at hl 0 rfl) ?_
    refine lv_iload_n hx hb dL_law_400 rfl (lv_at hl 3 rfl) ?_
    refine lv_iconst (v := 1) hx hb dL_law_401 (by decide) ?_
    refine lv_iadd hx hb dL_law_402 ?_
    refine my_bei (v := 1) (by decide) ?_
    refine va_sld hx hb hX hbl hbA hS (by unfold vp_in; decide) dL_law_403 ?_
    refine my_bei (v := xs 1) rfl ?_
    have hPc := hP.sub (ws' := [(x, eO 9 [.ref (g 0), .ref (g 1), .ref (g 2), .ref (g 3), .ref (g 4), .ref (g 5), .ref (g 6)]), (g 1, eO 0 [.ref (g 101), .ref (g 103), .ref (g 105), .ref (g 107), .ref (g 109), .ref (g 111), .ref (g 174), .int 5, .int 20]), (g 174, eO 6 [.ref (g 175), .ref (g 176)]), (g 175, eA G 5 4 (aL [g 177, g 180, g 183, g 186])), (g 186, eO 7 [.ref (g 187), .ref (g 188), .int 0, .int 0]), (g 4, eO 4 [.ref (g 7), .int 0, .int 0, .int 0, .int 0])]) [0, 1, 2, 3, 4, 5] rfl
    have hDc := hD.sub (ws' := [(x, eO 9 [.ref (g 0), .ref (g 1), .ref (g 2), .ref (g 3), .ref (g 4), .ref (g 5), .ref (g 6)]), (g 1, eO 0 [.ref (g 101), .ref (g 103), .ref (g 105), .ref (g 107), .ref (g 109), .ref (g 111), .ref (g 174), .int 5, .int 20]), (g 174, eO 6 [.ref (g 175), .ref (g 176)]), (g 175, eA G 5 4 (aL [g 177, g 180, g 183, g 186])), (g 186, eO 7 [.ref (g 187), .ref (g 188), .int 0, .int 0]), (g 4, eO 4 [.ref (g 7), .int 0, .int 0, .int 0, .int 0])]) [0, 1, 2, 3, 4, 5] (by decide) rfl
    have hFc := va_free (wc := [(x, eO 9 [.ref (g 0), .ref (g 1), .ref (g 2), .ref (g 3), .ref (g 4), .ref (g 5), .ref (g 6)]), (g 1, eO 0 [.ref (g 101), .ref (g 103), .ref (g 105), .ref (g 107), .ref (g 109), .ref (g 111), .ref (g 174), .int 5, .int 20]), (g 174, eO 6 [.ref (g 175), .ref (g 176)]), (g 175, eA G 5 4 (aL [g 177, g 180, g 183, g 186])), (g 186, eO 7 [.ref (g 187), .ref (g 188), .int 0, .int 0]), (g 4, eO 4 [.ref (g 7), .int 0, .int 0, .int 0, .int 0])]) hD hS hA [0, 1, 2, 3, 4, 5] rfl
    refine va_calli (va_runV (As := [.int (xs 1)]) (rest := []) ⟨hx, hb, hml, hown, hts⟩ (p_fault l G H.size x (g 0) (g 1) (g 2) (g 3) (g 4) (g 5) (g 6) (g 101) (g 103) (g 105) (g 107) (g 109) (g 111) (g 174) (g 175) (g 176) (g 186) (g 187) (g 188) (g 7) (aL [g 177, g 180, g 183, g 186]) (xs 1) (fun _ => by rw [h4]; rfl)) (my_cwV hts ok_X10_fault w_274 rfl rfl ⟨Nat.le_of_ble_eq_true rfl, Nat.le_of_ble_eq_true rfl⟩) ⟨wP.blind, va_recv hG.1 hPc (ci := 9) (q0 := 0) rfl rfl, fun U hU hW => ⟨rfl, by rw [hU], by rw [hU]; exact hPc, kG.warm hW hG, hDc.weaken (fun _ _ _ _ => trivial)⟩⟩ rfl rfl hl.1 rfl (lv_room (Nat.le_of_ble_eq_true rfl)) dL_law_404 ⟨Nat.le_of_ble_eq_true rfl, Nat.le_of_ble_eq_true rfl⟩) hS (fun q _ h => hFc q h) hFc (fun r u t H1 locs ht hvm hw hB hz1 hk1 hS => ?_)
    obtain ⟨hP, hD⟩ := va_join (wr := [(mo, eO 10 [.ref (h 0), .ref (h 1), .ref (h 2), .long 0, .long 1, .int 0, .ref (h 3), .ref (h 4), .int 0, .ref (h 5), .ref (h 6), .int 0, .int 0, .int 0, .int 0, .ref (h 7), .ref (h 8), .ref (h 9), .ref (h 10), .ref (h 11), .ref (h 12), .ref (h 13), .ref (h 14), .ref (h 15), .ref (h 16)]), (h 0, eI G 2246 st0)]) (w1 := []) hP hD [0, 1, 2, 3, 4, 5] [6, 7] rfl rfl (by decide) (by decide) hk1 hFc my_P0 my_D0
    generalize H1 = H at hP hS ⊢
    have hP : va_P G.1 vwCl [(mo, eO 10 [.ref (h 0), .ref (h 1), .ref (h 2), .long 0, .long 1, .int 0, .ref (h 3), .ref (h 4), .int 0, .ref (h 5), .ref (h 6), .int 0, .int 0, .int 0, .int 0, .ref (h 7), .ref (h 8), .ref (h 9), .ref (h 10), .ref (h 11), .ref (h 12), .ref (h 13), .ref (h 14), .ref (h 15), .ref (h 16)]), (h 0, eI G 2246 st0)] H := hP
    have hD : va_D (fun q : Nat => s.heap.size ≤ q) [(mo, eO 10 [.ref (h 0), .ref (h 1), .ref (h 2), .long 0, .long 1, .int 0, .ref (h 3), .ref (h 4), .int 0, .ref (h 5), .ref (h 6), .int 0, .int 0, .int 0, .int 0, .ref (h 7), .ref (h 8), .ref (h 9), .ref (h 10), .ref (h 11), .ref (h 12), .ref (h 13), .ref (h 14), .ref (h 15), .ref (h 16)]), (h 0, eI G 2246 st0)] := hD
    subst hw
    refine lv_aload_n hx hb dL_law_407 rfl (lv_at hl 2 rfl) ?_
    refine lv_aload_n hx hb dL_law_408 rfl (lv_at hl 0 rfl) ?_
    refine lv_iload_n hx hb dL_law_409 rfl (lv_at hl 3 rfl) ?_
    refine lv_iconst (v := 1) hx hb dL_law_410 (by decide) ?_
    refine lv_iadd hx hb dL_law_411 ?_
    refine my_bei (v := 1) (by decide) ?_
    refine va_sld hx hb hX hbl hbA hS (by unfold vp_in; decide) dL_law_412 ?_
    refine my_bei (v := xs 1) rfl ?_
    have hPc := hP.sub (ws' := [(mo, eO 10 [.ref (h 0), .ref (h 1), .ref (h 2), .long 0, .long 1, .int 0, .ref (h 3), .ref (h 4), .int 0, .ref (h 5), .ref (h 6), .int 0, .int 0, .int 0, .int 0, .ref (h 7), .ref (h 8), .ref (h 9), .ref (h 10), .ref (h 11), .ref (h 12), .ref (h 13), .ref (h 14), .ref (h 15), .ref (h 16)]), (h 0, eI G 2246 st0)]) [0, 1] rfl
    have hDc := hD.sub (ws' := [(mo, eO 10 [.ref (h 0), .ref (h 1), .ref (h 2), .long 0, .long 1, .int 0, .ref (h 3), .ref (h 4), .int 0, .ref (h 5), .ref (h 6), .int 0, .int 0, .int 0, .int 0, .ref (h 7), .ref (h 8), .ref (h 9), .ref (h 10), .ref (h 11), .ref (h 12), .ref (h 13), .ref (h 14), .ref (h 15), .ref (h 16)]), (h 0, eI G 2246 st0)]) [0, 1] (by decide) rfl
    have hFc := va_free (wc := [(mo, eO 10 [.ref (h 0), .ref (h 1), .ref (h 2), .long 0, .long 1, .int 0, .ref (h 3), .ref (h 4), .int 0, .ref (h 5), .ref (h 6), .int 0, .int 0, .int 0, .int 0, .ref (h 7), .ref (h 8), .ref (h 9), .ref (h 10), .ref (h 11), .ref (h 12), .ref (h 13), .ref (h 14), .ref (h 15), .ref (h 16)]), (h 0, eI G 2246 st0)]) hD hS hA [0, 1] rfl
    refine va_calli (va_runV (As := [.int (xs 1)]) (rest := [.int (if inB 0 (xs 1) 3 = true then 1 else (-2))]) ⟨hx, hb, hml, hown, hts⟩ (m_fault l G H.size mo (h 0) (h 1) (h 2) (h 3) (h 4) (h 5) (h 6) (h 7) (h 8) (h 9) (h 10) (h 11) (h 12) (h 13) (h 14) (h 15) (h 16) (xs 1) ) (my_cwV hts ok_X11_fault w_341 rfl rfl ⟨Nat.le_of_ble_eq_true rfl, Nat.le_of_ble_eq_true rfl⟩) ⟨wP.blind, va_recv hG.1 hPc (ci := 10) (q0 := 0) rfl rfl, fun U hU hW => ⟨rfl, by rw [hU], by rw [hU]; exact hPc, kG.warm hW hG, hDc.weaken (fun _ _ _ _ => trivial)⟩⟩ rfl rfl hl.1 rfl (lv_room (Nat.le_of_ble_eq_true rfl)) dL_law_413 ⟨Nat.le_of_ble_eq_true rfl, Nat.le_of_ble_eq_true rfl⟩) hS (fun q _ h => hFc q h) hFc (fun r u t H1 locs ht hvm hw hB hz1 hk1 hS => ?_)
    obtain ⟨hP, hD⟩ := va_join (wr := []) (w1 := []) hP hD [0, 1] [] rfl rfl (by decide) (by decide) hk1 hFc my_P0 my_D0
    generalize H1 = H at hP hS ⊢
    have hP : va_P G.1 vwCl [] H := hP
    have hD : va_D (fun q : Nat => s.heap.size ≤ q) [] := hD
    subst hw
    refine lv_icmp_eq (tgt := 1376) hx hb dL_law_416 (by decide) (fun c_416 => ?_) (fun c_416 => absurd (rfl) c_416)
    exact law_end l C0 hS (lv_sub hl [0, 3] rfl)
  · have hD := hD.sub (ws' := [(x, eO 9 [.ref (g 0), .ref (g 1), .ref (g 2), .ref (g 3), .ref (g 4), .ref (g 5), .ref (g 6)]), (g 1, eO 0 [.ref (g 101), .ref (g 103), .ref (g 105), .ref (g 107), .ref (g 109), .ref (g 111), .ref (g 174), .int 5, .int 20]), (g 174, eO 6 [.ref (g 175), .ref (g 176)]), (g 175, eA G 5 4 (aL [g 177, g 180, g 183, g 186])), (g 177, eO 7 [.ref (g 178), .ref (g 179), .int 0, .int 0]), (g 4, eO 4 [.ref (g 7), .int 0, .int 0, .int 0, .int 0]), (mo, eO 10 [.ref (h 0), .ref (h 1), .ref (h 2), .long 0, .long 1, .int 0, .ref (h 3), .ref (h 4), .int 0, .ref (h 5), .ref (h 6), .int 0, .int 0, .int 0, .int 0, .ref (h 7), .ref (h 8), .ref (h 9), .ref (h 10), .ref (h 11), .ref (h 12), .ref (h 13), .ref (h 14), .ref (h 15), .ref (h 16)]), (h 0, eI G 2246 st0)]) [0, 2, 75, 76, 77, 91, 269, 270] (by decide) rfl
    have hP := hP.sub (ws' := [(x, eO 9 [.ref (g 0), .ref (g 1), .ref (g 2), .ref (g 3), .ref (g 4), .ref (g 5), .ref (g 6)]), (g 1, eO 0 [.ref (g 101), .ref (g 103), .ref (g 105), .ref (g 107), .ref (g 109), .ref (g 111), .ref (g 174), .int 5, .int 20]), (g 174, eO 6 [.ref (g 175), .ref (g 176)]), (g 175, eA G 5 4 (aL [g 177, g 180, g 183, g 186])), (g 177, eO 7 [.ref (g 178), .ref (g 179), .int 0, .int 0]), (g 4, eO 4 [.ref (g 7), .int 0, .int 0, .int 0, .int 0]), (mo, eO 10 [.ref (h 0), .ref (h 1), .ref (h 2), .long 0, .long 1, .int 0, .ref (h 3), .ref (h 4), .int 0, .ref (h 5), .ref (h 6), .int 0, .int 0, .int 0, .int 0, .ref (h 7), .ref (h 8), .ref (h 9), .ref (h 10), .ref (h 11), .ref (h 12), .ref (h 13), .ref (h 14), .ref (h 15), .ref (h 16)]), (h 0, eI G 2246 st0)]) [0, 2, 75, 76, 77, 91, 269, 270] rfl
    refine lv_aload_n hx hb dL_law_398 rfl (lv_at hl 1 rfl) ?_
    refine lv_aload_n hx hb dL_law_399 rfl (lv_at hl 0 rfl) ?_
    refine lv_iload_n hx hb dL_law_400 rfl (lv_at hl 3 rfl) ?_
    refine lv_iconst (v := 1) hx hb dL_law_401 (by decide) ?_
    refine lv_iadd hx hb dL_law_402 ?_
    refine my_bei (v := 1) (by decide) ?_
    refine va_sld hx hb hX hbl hbA hS (by unfold vp_in; decide) dL_law_403 ?_
    refine my_bei (v := xs 1) rfl ?_
    have hPc := hP.sub (ws' := [(x, eO 9 [.ref (g 0), .ref (g 1), .ref (g 2), .ref (g 3), .ref (g 4), .ref (g 5), .ref (g 6)]), (g 1, eO 0 [.ref (g 101), .ref (g 103), .ref (g 105), .ref (g 107), .ref (g 109), .ref (g 111), .ref (g 174), .int 5, .int 20]), (g 174, eO 6 [.ref (g 175), .ref (g 176)]), (g 175, eA G 5 4 (aL [g 177, g 180, g 183, g 186])), (g 177, eO 7 [.ref (g 178), .ref (g 179), .int 0, .int 0]), (g 4, eO 4 [.ref (g 7), .int 0, .int 0, .int 0, .int 0])]) [0, 1, 2, 3, 4, 5] rfl
    have hDc := hD.sub (ws' := [(x, eO 9 [.ref (g 0), .ref (g 1), .ref (g 2), .ref (g 3), .ref (g 4), .ref (g 5), .ref (g 6)]), (g 1, eO 0 [.ref (g 101), .ref (g 103), .ref (g 105), .ref (g 107), .ref (g 109), .ref (g 111), .ref (g 174), .int 5, .int 20]), (g 174, eO 6 [.ref (g 175), .ref (g 176)]), (g 175, eA G 5 4 (aL [g 177, g 180, g 183, g 186])), (g 177, eO 7 [.ref (g 178), .ref (g 179), .int 0, .int 0]), (g 4, eO 4 [.ref (g 7), .int 0, .int 0, .int 0, .int 0])]) [0, 1, 2, 3, 4, 5] (by decide) rfl
    have hFc := va_free (wc := [(x, eO 9 [.ref (g 0), .ref (g 1), .ref (g 2), .ref (g 3), .ref (g 4), .ref (g 5), .ref (g 6)]), (g 1, eO 0 [.ref (g 101), .ref (g 103), .ref (g 105), .ref (g 107), .ref (g 109), .ref (g 111), .ref (g 174), .int 5, .int 20]), (g 174, eO 6 [.ref (g 175), .ref (g 176)]), (g 175, eA G 5 4 (aL [g 177, g 180, g 183, g 186])), (g 177, eO 7 [.ref (g 178), .ref (g 179), .int 0, .int 0]), (g 4, eO 4 [.ref (g 7), .int 0, .int 0, .int 0, .int 0])]) hD hS hA [0, 1, 2, 3, 4, 5] rfl
    refine va_calli (va_runV (As := [.int (xs 1)]) (rest := []) ⟨hx, hb, hml, hown, hts⟩ (p_fault l G H.size x (g 0) (g 1) (g 2) (g 3) (g 4) (g 5) (g 6) (g 101) (g 103) (g 105) (g 107) (g 109) (g 111) (g 174) (g 175) (g 176) (g 177) (g 178) (g 179) (g 7) (aL [g 177, g 180, g 183, g 186]) (xs 1) (fun z => absurd z h4)) (my_cwV hts ok_X10_fault w_274 rfl rfl ⟨Nat.le_of_ble_eq_true rfl, Nat.le_of_ble_eq_true rfl⟩) ⟨wP.blind, va_recv hG.1 hPc (ci := 9) (q0 := 0) rfl rfl, fun U hU hW => ⟨rfl, by rw [hU], by rw [hU]; exact hPc, kG.warm hW hG, hDc.weaken (fun _ _ _ _ => trivial)⟩⟩ rfl rfl hl.1 rfl (lv_room (Nat.le_of_ble_eq_true rfl)) dL_law_404 ⟨Nat.le_of_ble_eq_true rfl, Nat.le_of_ble_eq_true rfl⟩) hS (fun q _ h => hFc q h) hFc (fun r u t H1 locs ht hvm hw hB hz1 hk1 hS => ?_)
    obtain ⟨hP, hD⟩ := va_join (wr := [(mo, eO 10 [.ref (h 0), .ref (h 1), .ref (h 2), .long 0, .long 1, .int 0, .ref (h 3), .ref (h 4), .int 0, .ref (h 5), .ref (h 6), .int 0, .int 0, .int 0, .int 0, .ref (h 7), .ref (h 8), .ref (h 9), .ref (h 10), .ref (h 11), .ref (h 12), .ref (h 13), .ref (h 14), .ref (h 15), .ref (h 16)]), (h 0, eI G 2246 st0)]) (w1 := []) hP hD [0, 1, 2, 3, 4, 5] [6, 7] rfl rfl (by decide) (by decide) hk1 hFc my_P0 my_D0
    generalize H1 = H at hP hS ⊢
    have hP : va_P G.1 vwCl [(mo, eO 10 [.ref (h 0), .ref (h 1), .ref (h 2), .long 0, .long 1, .int 0, .ref (h 3), .ref (h 4), .int 0, .ref (h 5), .ref (h 6), .int 0, .int 0, .int 0, .int 0, .ref (h 7), .ref (h 8), .ref (h 9), .ref (h 10), .ref (h 11), .ref (h 12), .ref (h 13), .ref (h 14), .ref (h 15), .ref (h 16)]), (h 0, eI G 2246 st0)] H := hP
    have hD : va_D (fun q : Nat => s.heap.size ≤ q) [(mo, eO 10 [.ref (h 0), .ref (h 1), .ref (h 2), .long 0, .long 1, .int 0, .ref (h 3), .ref (h 4), .int 0, .ref (h 5), .ref (h 6), .int 0, .int 0, .int 0, .int 0, .ref (h 7), .ref (h 8), .ref (h 9), .ref (h 10), .ref (h 11), .ref (h 12), .ref (h 13), .ref (h 14), .ref (h 15), .ref (h 16)]), (h 0, eI G 2246 st0)] := hD
    subst hw
    refine lv_aload_n hx hb dL_law_407 rfl (lv_at hl 2 rfl) ?_
    refine lv_aload_n hx hb dL_law_408 rfl (lv_at hl 0 rfl) ?_
    refine lv_iload_n hx hb dL_law_409 rfl (lv_at hl 3 rfl) ?_
    refine lv_iconst (v := 1) hx hb dL_law_410 (by decide) ?_
    refine lv_iadd hx hb dL_law_411 ?_
    refine my_bei (v := 1) (by decide) ?_
    refine va_sld hx hb hX hbl hbA hS (by unfold vp_in; decide) dL_law_412 ?_
    refine my_bei (v := xs 1) rfl ?_
    have hPc := hP.sub (ws' := [(mo, eO 10 [.ref (h 0), .ref (h 1), .ref (h 2), .long 0, .long 1, .int 0, .ref (h 3), .ref (h 4), .int 0, .ref (h 5), .ref (h 6), .int 0, .int 0, .int 0, .int 0, .ref (h 7), .ref (h 8), .ref (h 9), .ref (h 10), .ref (h 11), .ref (h 12), .ref (h 13), .ref (h 14), .ref (h 15), .ref (h 16)]), (h 0, eI G 2246 st0)]) [0, 1] rfl
    have hDc := hD.sub (ws' := [(mo, eO 10 [.ref (h 0), .ref (h 1), .ref (h 2), .long 0, .long 1, .int 0, .ref (h 3), .ref (h 4), .int 0, .ref (h 5), .ref (h 6), .int 0, .int 0, .int 0, .int 0, .ref (h 7), .ref (h 8), .ref (h 9), .ref (h 10), .ref (h 11), .ref (h 12), .ref (h 13), .ref (h 14), .ref (h 15), .ref (h 16)]), (h 0, eI G 2246 st0)]) [0, 1] (by decide) rfl
    have hFc := va_free (wc := [(mo, eO 10 [.ref (h 0), .ref (h 1), .ref (h 2), .long 0, .long 1, .int 0, .ref (h 3), .ref (h 4), .int 0, .ref (h 5), .ref (h 6), .int 0, .int 0, .int 0, .int 0, .ref (h 7), .ref (h 8), .ref (h 9), .ref (h 10), .ref (h 11), .ref (h 12), .ref (h 13), .ref (h 14), .ref (h 15), .ref (h 16)]), (h 0, eI G 2246 st0)]) hD hS hA [0, 1] rfl
    refine va_calli (va_runV (As := [.int (xs 1)]) (rest := [.int (if inB 0 (xs 1) 3 = true then 1 else (-2))]) ⟨hx, hb, hml, hown, hts⟩ (m_fault l G H.size mo (h 0) (h 1) (h 2) (h 3) (h 4) (h 5) (h 6) (h 7) (h 8) (h 9) (h 10) (h 11) (h 12) (h 13) (h 14) (h 15) (h 16) (xs 1) ) (my_cwV hts ok_X11_fault w_341 rfl rfl ⟨Nat.le_of_ble_eq_true rfl, Nat.le_of_ble_eq_true rfl⟩) ⟨wP.blind, va_recv hG.1 hPc (ci := 10) (q0 := 0) rfl rfl, fun U hU hW => ⟨rfl, by rw [hU], by rw [hU]; exact hPc, kG.warm hW hG, hDc.weaken (fun _ _ _ _ => trivial)⟩⟩ rfl rfl hl.1 rfl (lv_room (Nat.le_of_ble_eq_true rfl)) dL_law_413 ⟨Nat.le_of_ble_eq_true rfl, Nat.le_of_ble_eq_true rfl⟩) hS (fun q _ h => hFc q h) hFc (fun r u t H1 locs ht hvm hw hB hz1 hk1 hS => ?_)
    obtain ⟨hP, hD⟩ := va_join (wr := []) (w1 := []) hP hD [0, 1] [] rfl rfl (by decide) (by decide) hk1 hFc my_P0 my_D0
    generalize H1 = H at hP hS ⊢
    have hP : va_P G.1 vwCl [] H := hP
    have hD : va_D (fun q : Nat => s.heap.size ≤ q) [] := hD
    subst hw
    refine lv_icmp_eq (tgt := 1376) hx hb dL_law_416 (by decide) (fun c_416 => ?_) (fun c_416 => absurd (rfl) c_416)
    exact law_end l C0 hS (lv_sub hl [0, 3] rfl)
set_option maxHeartbeats 4000000 in
set_option maxRecDepth 100000 in
theorem law_7 {p : Program} {e : Env} {s : State} {m : MethodId} {below : List Frame} {meth : Method} {c : Code} (l : Launch) {b : Nat} {xs : Nat → Int32} (G : gW) (C0 : lw_At p s m meth c b 10 xs) (hG : kG G s) {x mo : Nat} {g h : Nat → Nat} {H : Heap} {locs : List Loc} {ls : Array Slot} (hP : va_P G.1 vwCl (lwW G x g mo h) H) (hD : va_D (fun q : Nat => s.heap.size ≤ q) (lwW G x g mo h)) (hS : va_S (fun q : Nat => s.heap.size ≤ q) s.heap H locs) (hl : lv_has ls 4 [(0, .ref b), (1, .ref x), (2, .ref mo), (3, .int 0)]) : W p l e room_1 s m #[Value.ref b] below meth c H locs 333 19609 (lw_Z below #[Value.ref b] s) (F0 m 421 ls []) := by
  obtain ⟨hx, hb, hr, hml, hown, hts0, hX, hbl, hlocks, hgv⟩ := id C0
  have hts : ∀ w ∈ TT, w.before #[Value.ref b] s = true := fun w h => hts0 w (List.mem_filter.mp h).1
  have hA : ∀ q : Nat, s.heap.size ≤ q → (fun q : Nat => s.heap.size ≤ q) q := fun _ h => h
  have hbA : ¬ (fun q : Nat => s.heap.size ≤ q) b := Nat.not_le.mpr hbl
  have hD := hD.sub (ws' := [(x, eO 9 [.ref (g 0), .ref (g 1), .ref (g 2), .ref (g 3), .ref (g 4), .ref (g 5), .ref (g 6)]), (g 1, eO 0 [.ref (g 101), .ref (g 103), .ref (g 105), .ref (g 107), .ref (g 109), .ref (g 111), .ref (g 174), .int 5, .int 20]), (g 101, eO 5 [.int 30, .int 4, .ref (g 102), .int 0]), (mo, eO 10 [.ref (h 0), .ref (h 1), .ref (h 2), .long 0, .long 1, .int 0, .ref (h 3), .ref (h 4), .int 0, .ref (h 5), .ref (h 6), .int 0, .int 0, .int 0, .int 0, .ref (h 7), .ref (h 8), .ref (h 9), .ref (h 10), .ref (h 11), .ref (h 12), .ref (h 13), .ref (h 14), .ref (h 15), .ref (h 16)]), (h 0, eI G 2246 st0)]) [0, 2, 3, 269, 270] (by decide) rfl
  have hP := hP.sub (ws' := [(x, eO 9 [.ref (g 0), .ref (g 1), .ref (g 2), .ref (g 3), .ref (g 4), .ref (g 5), .ref (g 6)]), (g 1, eO 0 [.ref (g 101), .ref (g 103), .ref (g 105), .ref (g 107), .ref (g 109), .ref (g 111), .ref (g 174), .int 5, .int 20]), (g 101, eO 5 [.int 30, .int 4, .ref (g 102), .int 0]), (mo, eO 10 [.ref (h 0), .ref (h 1), .ref (h 2), .long 0, .long 1, .int 0, .ref (h 3), .ref (h 4), .int 0, .ref (h 5), .ref (h 6), .int 0, .int 0, .int 0, .int 0, .ref (h 7), .ref (h 8), .ref (h 9), .ref (h 10), .ref (h 11), .ref (h 12), .ref (h 13), .ref (h 14), .ref (h 15), .ref (h 16)]), (h 0, eI G 2246 st0)]) [0, 2, 3, 269, 270] rfl
  refine lv_aload_n hx hb dL_law_421 rfl (lv_at hl 1 rfl) ?_
  refine lv_aload_n hx hb dL_law_422 rfl (lv_at hl 0 rfl) ?_
  refine lv_iload_n hx hb dL_law_423 rfl (lv_at hl 3 rfl) ?_
  refine lv_iconst (v := 1) hx hb dL_law_424 (by decide) ?_
  refine lv_iadd hx hb dL_law_425 ?_
  refine my_bei (v := 1) (by decide) ?_
  refine va_sld hx hb hX hbl hbA hS (by unfold vp_in; decide) dL_law_426 ?_
  refine my_bei (v := xs 1) rfl ?_
  refine lv_aload_n hx hb dL_law_427 rfl (lv_at hl 0 rfl) ?_
  refine lv_iload_n hx hb dL_law_428 rfl (lv_at hl 3 rfl) ?_
  refine lv_iconst (v := 2) hx hb dL_law_429 (by decide) ?_
  refine lv_iadd hx hb dL_law_430 ?_
  refine my_bei (v := 2) (by decide) ?_
  refine va_sld hx hb hX hbl hbA hS (by unfold vp_in; decide) dL_law_431 ?_
  refine my_bei (v := xs 2) rfl ?_
  refine lv_aload_n hx hb dL_law_432 rfl (lv_at hl 0 rfl) ?_
  refine lv_iload_n hx hb dL_law_433 rfl (lv_at hl 3 rfl) ?_
  refine lv_iconst (v := 3) hx hb dL_law_434 (by decide) ?_
  refine lv_iadd hx hb dL_law_435 ?_
  refine my_bei (v := 3) (by decide) ?_
  refine va_sld hx hb hX hbl hbA hS (by unfold vp_in; decide) dL_law_436 ?_
  refine my_bei (v := xs 3) rfl ?_
  have hPc := hP.sub (ws' := [(x, eO 9 [.ref (g 0), .ref (g 1), .ref (g 2), .ref (g 3), .ref (g 4), .ref (g 5), .ref (g 6)]), (g 1, eO 0 [.ref (g 101), .ref (g 103), .ref (g 105), .ref (g 107), .ref (g 109), .ref (g 111), .ref (g 174), .int 5, .int 20]), (g 101, eO 5 [.int 30, .int 4, .ref (g 102), .int 0])]) [0, 1, 2] rfl
  refine rd_calll (va_runV (As := [.int (xs 1), .int (xs 2), .int (xs 3)]) (rest := []) ⟨hx, hb, hml, hown, hts⟩ (p_tells l G x (g 0) (g 1) (g 2) (g 3) (g 4) (g 5) (g 6) (g 101) (g 103) (g 105) (g 107) (g 109) (g 111) (g 174) (g 102) (xs 1) (xs 2) (xs 3) ) (my_cwV hts ok_X10_tells w_378 rfl rfl ⟨Nat.le_of_ble_eq_true rfl, Nat.le_of_ble_eq_true rfl⟩) ⟨rP.blind, va_recv hG.1 hPc (ci := 9) (q0 := 0) rfl rfl, fun U hU hW => ⟨rfl, by rw [hU]; exact hPc, kG.warm hW hG⟩⟩ rfl rfl hl.1 rfl (lv_room (Nat.le_of_ble_eq_true rfl)) dL_law_437 ⟨Nat.le_of_ble_eq_true rfl, Nat.le_of_ble_eq_true rfl⟩) (fun r hr9 => ?_)
  subst hr9
  refine lv_aload_n hx hb dL_law_440 rfl (lv_at hl 2 rfl) ?_
  refine lv_aload_n hx hb dL_law_441 rfl (lv_at hl 0 rfl) ?_
  refine lv_iload_n hx hb dL_law_442 rfl (lv_at hl 3 rfl) ?_
  refine lv_iconst (v := 1) hx hb dL_law_443 (by decide) ?_
  refine lv_iadd hx hb dL_law_444 ?_
  refine my_bei (v := 1) (by decide) ?_
  refine va_sld hx hb hX hbl hbA hS (by unfold vp_in; decide) dL_law_445 ?_
  refine my_bei (v := xs 1) rfl ?_
  refine lv_aload_n hx hb dL_law_446 rfl (lv_at hl 0 rfl) ?_
  refine lv_iload_n hx hb dL_law_447 rfl (lv_at hl 3 rfl) ?_
  refine lv_iconst (v := 2) hx hb dL_law_448 (by decide) ?_
  refine lv_iadd hx hb dL_law_449 ?_
  refine my_bei (v := 2) (by decide) ?_
  refine va_sld hx hb hX hbl hbA hS (by unfold vp_in; decide) dL_law_450 ?_
  refine my_bei (v := xs 2) rfl ?_
  refine lv_aload_n hx hb dL_law_451 rfl (lv_at hl 0 rfl) ?_
  refine lv_iload_n hx hb dL_law_452 rfl (lv_at hl 3 rfl) ?_
  refine lv_iconst (v := 3) hx hb dL_law_453 (by decide) ?_
  refine lv_iadd hx hb dL_law_454 ?_
  refine my_bei (v := 3) (by decide) ?_
  refine va_sld hx hb hX hbl hbA hS (by unfold vp_in; decide) dL_law_455 ?_
  refine my_bei (v := xs 3) rfl ?_
  have hPc := hP.sub (ws' := [(mo, eO 10 [.ref (h 0), .ref (h 1), .ref (h 2), .long 0, .long 1, .int 0, .ref (h 3), .ref (h 4), .int 0, .ref (h 5), .ref (h 6), .int 0, .int 0, .int 0, .int 0, .ref (h 7), .ref (h 8), .ref (h 9), .ref (h 10), .ref (h 11), .ref (h 12), .ref (h 13), .ref (h 14), .ref (h 15), .ref (h 16)]), (h 0, eI G 2246 st0)]) [3, 4] rfl
  refine rd_calll (va_runV (As := [.int (xs 1), .int (xs 2), .int (xs 3)]) (rest := [.long (-2000000000000000000)]) ⟨hx, hb, hml, hown, hts⟩ (m_tells l G mo (h 0) (h 1) (h 2) (h 3) (h 4) (h 5) (h 6) (h 7) (h 8) (h 9) (h 10) (h 11) (h 12) (h 13) (h 14) (h 15) (h 16) (xs 1) (xs 2) (xs 3) ) (my_cwV hts ok_X11_tells w_517 rfl rfl ⟨Nat.le_of_ble_eq_true rfl, Nat.le_of_ble_eq_true rfl⟩) ⟨rP.blind, va_recv hG.1 hPc (ci := 10) (q0 := 0) rfl rfl, fun U hU hW => ⟨rfl, by rw [hU]; exact hPc, kG.warm hW hG⟩⟩ rfl rfl hl.1 rfl (lv_room (Nat.le_of_ble_eq_true rfl)) dL_law_456 ⟨Nat.le_of_ble_eq_true rfl, Nat.le_of_ble_eq_true rfl⟩) (fun r hr9 => ?_)
  subst hr9
  refine W.lcmp hx hb dL_law_459 ?_
  refine my_bei (v := 0) (by decide) ?_
  refine lv_if_eq (tgt := 1376) hx hb dL_law_460 (by decide) (fun c_460 => ?_) (fun c_460 => absurd (by decide) c_460)
  exact law_end l C0 hS (lv_sub hl [0, 3] rfl)

set_option maxHeartbeats 4000000 in
set_option maxRecDepth 100000 in
theorem lawJ_25 {p : Program} {e : Env} {s : State} {m : MethodId} {below : List Frame} {meth : Method} {c : Code} (l : Launch) {b L : Nat} {xs : Nat → Int32} (G : gW) (hL : L ≤ 5120) (C0 : lw_At p s m meth c b L xs) (hG : kG G s) {g : Nat → Nat} (hg : gOK g) (hsub : ∀ q, gA g q → (fun q : Nat => s.heap.size ≤ q) q) {i : Nat} (hi : i + 10 ≤ L) {np : Nat} {dp : Nat → Int32} {nf : Nat} {df : Nat → Int32} {nr : Nat} {dr : Nat → Int32} {nt : Nat} {ct : Nat → Int32} {pay : Int32} {fine : Int32} {kf : Nat → Int32} {na : Nat} {da : Nat → Int32} {TL : Nat → Nat} {TG : Nat → Nat → Int32} {LL : Nat → Nat} {LG : Nat → Nat → Int32} {N1 : Nat → Nat} {E1 : Nat → Nat → Int32} {P1 : Nat → Int32} {L1 : Nat → Nat} {S1 : Nat → Nat → Int32} {W1 : Nat → Nat} {X1 : Nat → Nat → Int32} {N2 : Nat → Nat} {E2 : Nat → Nat → Int32} {P2 : Nat → Int32} {L2 : Nat → Nat} {S2 : Nat → Nat → Int32} {W2 : Nat → Nat} {X2 : Nat → Nat → Int32} {ss : Nat → Int32} {im : Nat → Int32} {kq : Nat → Int32} {f : Nat → va_E} {H : Heap} {locs : List Loc} {ls : Array Slot} (hcJ : cJ G g f np dp nf df nr dr nt ct pay fine kf na da TL TG LL LG N1 E1 P1 L1 S1 W1 X1 N2 E2 P2 L2 S2 W2 X2) (hmJ : mJ G g f ss im kq) (hrel : relF np dp nf df nr dr nt ct pay fine kf na da TL TG LL LG N1 E1 P1 L1 S1 W1 X1 N2 E2 P2 L2 S2 W2 X2 ss im kq) (hP : va_P G.1 vwCl (wl g f) H) (hS : va_S (fun q : Nat => s.heap.size ≤ q) s.heap H locs) (hl : lv_has ls 4 [(0, .ref b), (1, .ref (g 0)), (2, .ref (g 315)), (3, .int (nI i))]) (IH : ∀ (np : Nat) (dp : Nat → Int32) (nf : Nat) (df : Nat → Int32) (nr : Nat) (dr : Nat → Int32) (nt : Nat) (ct : Nat → Int32) (pay : Int32) (fine : Int32) (kf : Nat → Int32) (na : Nat) (da : Nat → Int32) (TL : Nat → Nat) (TG : Nat → Nat → Int32) (LL : Nat → Nat) (LG : Nat → Nat → Int32) (N1 : Nat → Nat) (E1 : Nat → Nat → Int32) (P1 : Nat → Int32) (L1 : Nat → Nat) (S1 : Nat → Nat → Int32) (W1 : Nat → Nat) (X1 : Nat → Nat → Int32) (N2 : Nat → Nat) (E2 : Nat → Nat → Int32) (P2 : Nat → Int32) (L2 : Nat → Nat) (S2 : Nat → Nat → Int32) (W2 : Nat → Nat) (X2 : Nat → Nat → Int32) (ss : Nat → Int32) (im : Nat → Int32) (kq : Nat → Int32) (f : Nat → va_E) (H : Heap) (locs : List Loc) (ls : Array Slot), cJ G g f np dp nf df nr dr nt ct pay fine kf na da TL TG LL LG N1 E1 P1 L1 S1 W1 X1 N2 E2 P2 L2 S2 W2 X2 → mJ G g f ss im kq → relF np dp nf df nr dr nt ct pay fine kf na da TL TG LL LG N1 E1 P1 L1 S1 W1 X1 N2 E2 P2 L2 S2 W2 X2 ss im kq → va_P G.1 vwCl (wl g f) H → va_S (fun q : Nat => s.heap.size ≤ q) s.heap H locs → lv_has ls 4 [(0, .ref b), (1, .ref (g 0)), (2, .ref (g 315)), (3, .int (nI i))] → W p l e room_1 s m #[Value.ref b] below meth c H locs 333 19609 (lw_Z below #[Value.ref b] s) (F0 m 1373 ls [])) : W p l e room_1 s m #[Value.ref b] below meth c H locs 333 19609 (lw_Z below #[Value.ref b] s) (F0 m 1159 ls []) := by
  obtain ⟨hx, hb, hr, hml, hown, hts0, hX, hbl, hlocks, hgv⟩ := id C0
  have hts : ∀ w ∈ TT, w.before #[Value.ref b] s = true := fun w h => hts0 w (List.mem_filter.mp h).1
  have hbA : ¬ (fun q : Nat => s.heap.size ≤ q) b := Nat.not_le.mpr hbl
  refine lv_aload_n hx hb dL_law_1159 rfl (lv_at hl 1 rfl) ?_
  refine lv_aload_n hx hb dL_law_1160 rfl (lv_at hl 0 rfl) ?_
  refine lv_iload_n hx hb dL_law_1161 rfl (lv_at hl 3 rfl) ?_
  refine lv_iconst (v := 1) hx hb dL_law_1162 (by decide) ?_
  refine lv_iadd hx hb dL_law_1163 ?_
  refine my_bei (v := nI (i + 1)) (nI_add i 1) ?_
  refine va_sld hx hb hX hbl hbA hS (vp_in_nI (by omega) (by omega)) dL_law_1164 ?_
  refine my_bei (v := xs (i + 1)) (congrArg xs (nI_clamp (n := i + 1) (by omega))) ?_
  have hTr := hrel.1.tc
  have hx0 := cJ_0 hcJ
  refine bL_calll hsub (va_runV (As := [.int (xs (i + 1))]) (rest := []) ⟨hx, hb, hml, hown, hts⟩ (j_part l G g hg f np dp nf df nr dr nt ct pay fine kf na da TL TG LL LG N1 E1 P1 L1 S1 W1 X1 N2 E2 P2 L2 S2 W2 X2 (xs (i + 1))  (by first | assumption | omega | decide) (by first | assumption | omega | decide)) (my_cwV hts ok_X10_part w_797 rfl rfl ⟨Nat.le_of_ble_eq_true rfl, Nat.le_of_ble_eq_true rfl⟩) ⟨bP.blind, va_recv hG.1 hP (ci := 9) (q0 := 0) rfl (wl_at (by decide) hx0), fun U hU hW => ⟨rfl, by rw [hU]; exact hP, kG.warm hW hG⟩⟩ rfl rfl hl.1 rfl (lv_room (Nat.le_of_ble_eq_true rfl)) dL_law_1165 ⟨Nat.le_of_ble_eq_true rfl, Nat.le_of_ble_eq_true rfl⟩) hS (fun v1 f_1 H locs hq9 hP hS => ?_)
  obtain ⟨hx_1_0, o_1⟩ := hq9
  have hcJ := hx_1_0
  have hmJ := mJ_fr hmJ o_1
  refine lv_pop2_2 hx hb dL_law_1168 rfl ?_
  refine lv_aload_n hx hb dL_law_1169 rfl (lv_at hl 2 rfl) ?_
  refine lv_aload_n hx hb dL_law_1170 rfl (lv_at hl 0 rfl) ?_
  refine lv_iload_n hx hb dL_law_1171 rfl (lv_at hl 3 rfl) ?_
  refine lv_iconst (v := 1) hx hb dL_law_1172 (by decide) ?_
  refine lv_iadd hx hb dL_law_1173 ?_
  refine my_bei (v := nI (i + 1)) (nI_add i 1) ?_
  refine va_sld hx hb hX hbl hbA hS (vp_in_nI (by omega) (by omega)) dL_law_1174 ?_
  refine my_bei (v := xs (i + 1)) (congrArg xs (nI_clamp (n := i + 1) (by omega))) ?_
  have htA := rcF_trOK hrel.1 hrel.1.tc
  obtain ⟨fs9, hmo⟩ := mJ_0 hmJ
  refine bL_calll hsub (va_runV (As := [.int (xs (i + 1))]) (rest := []) ⟨hx, hb, hml, hown, hts⟩ (j2_part l G g hg f_1 ss im kq (xs (i + 1))  (by first | assumption | omega | decide) (by first | assumption | omega | decide)) (my_cwV hts ok_X11_part w_802 rfl rfl ⟨Nat.le_of_ble_eq_true rfl, Nat.le_of_ble_eq_true rfl⟩) ⟨bP.blind, va_recv hG.1 hP (ci := 10) (q0 := 315) rfl (wl_at (by decide) hmo), fun U hU hW => ⟨rfl, by rw [hU]; exact hP, kG.warm hW hG⟩⟩ rfl rfl hl.1 rfl (lv_room (Nat.le_of_ble_eq_true rfl)) dL_law_1175 ⟨Nat.le_of_ble_eq_true rfl, Nat.le_of_ble_eq_true rfl⟩) hS (fun v2 f_2 H locs hq9 hP hS => ?_)
  obtain ⟨hx_2_0, o_2⟩ := hq9
  have hmJ := hx_2_0
  have hcJ := cJ_fr hcJ o_2
  refine lv_pop2_2 hx hb dL_law_1178 rfl ?_
  refine lv_goto (tgt := 1373) hx hb dL_law_1179 (by decide) ?_
  exact IH np dp nf df nr dr nt ct pay fine kf na da TL TG LL LG N1 E1 P1 L1 S1 W1 X1 N2 E2 P2 L2 S2 W2 X2 ss im kq _ _ _ _ hcJ hmJ hrel hP hS (lv_sub hl [0, 1, 2, 3] rfl)
set_option maxHeartbeats 4000000 in
set_option maxRecDepth 100000 in
theorem lawJ_26 {p : Program} {e : Env} {s : State} {m : MethodId} {below : List Frame} {meth : Method} {c : Code} (l : Launch) {b L : Nat} {xs : Nat → Int32} (G : gW) (hL : L ≤ 5120) (C0 : lw_At p s m meth c b L xs) (hG : kG G s) {g : Nat → Nat} (hg : gOK g) (hsub : ∀ q, gA g q → (fun q : Nat => s.heap.size ≤ q) q) {i : Nat} (hi : i + 10 ≤ L) {np : Nat} {dp : Nat → Int32} {nf : Nat} {df : Nat → Int32} {nr : Nat} {dr : Nat → Int32} {nt : Nat} {ct : Nat → Int32} {pay : Int32} {fine : Int32} {kf : Nat → Int32} {na : Nat} {da : Nat → Int32} {TL : Nat → Nat} {TG : Nat → Nat → Int32} {LL : Nat → Nat} {LG : Nat → Nat → Int32} {N1 : Nat → Nat} {E1 : Nat → Nat → Int32} {P1 : Nat → Int32} {L1 : Nat → Nat} {S1 : Nat → Nat → Int32} {W1 : Nat → Nat} {X1 : Nat → Nat → Int32} {N2 : Nat → Nat} {E2 : Nat → Nat → Int32} {P2 : Nat → Int32} {L2 : Nat → Nat} {S2 : Nat → Nat → Int32} {W2 : Nat → Nat} {X2 : Nat → Nat → Int32} {ss : Nat → Int32} {im : Nat → Int32} {kq : Nat → Int32} {f : Nat → va_E} {H : Heap} {locs : List Loc} {ls : Array Slot} (hcJ : cJ G g f np dp nf df nr dr nt ct pay fine kf na da TL TG LL LG N1 E1 P1 L1 S1 W1 X1 N2 E2 P2 L2 S2 W2 X2) (hmJ : mJ G g f ss im kq) (hrel : relF np dp nf df nr dr nt ct pay fine kf na da TL TG LL LG N1 E1 P1 L1 S1 W1 X1 N2 E2 P2 L2 S2 W2 X2 ss im kq) (hP : va_P G.1 vwCl (wl g f) H) (hS : va_S (fun q : Nat => s.heap.size ≤ q) s.heap H locs) (hl : lv_has ls 4 [(0, .ref b), (1, .ref (g 0)), (2, .ref (g 315)), (3, .int (nI i))]) (IH : ∀ (np : Nat) (dp : Nat → Int32) (nf : Nat) (df : Nat → Int32) (nr : Nat) (dr : Nat → Int32) (nt : Nat) (ct : Nat → Int32) (pay : Int32) (fine : Int32) (kf : Nat → Int32) (na : Nat) (da : Nat → Int32) (TL : Nat → Nat) (TG : Nat → Nat → Int32) (LL : Nat → Nat) (LG : Nat → Nat → Int32) (N1 : Nat → Nat) (E1 : Nat → Nat → Int32) (P1 : Nat → Int32) (L1 : Nat → Nat) (S1 : Nat → Nat → Int32) (W1 : Nat → Nat) (X1 : Nat → Nat → Int32) (N2 : Nat → Nat) (E2 : Nat → Nat → Int32) (P2 : Nat → Int32) (L2 : Nat → Nat) (S2 : Nat → Nat → Int32) (W2 : Nat → Nat) (X2 : Nat → Nat → Int32) (ss : Nat → Int32) (im : Nat → Int32) (kq : Nat → Int32) (f : Nat → va_E) (H : Heap) (locs : List Loc) (ls : Array Slot), cJ G g f np dp nf df nr dr nt ct pay fine kf na da TL TG LL LG N1 E1 P1 L1 S1 W1 X1 N2 E2 P2 L2 S2 W2 X2 → mJ G g f ss im kq → relF np dp nf df nr dr nt ct pay fine kf na da TL TG LL LG N1 E1 P1 L1 S1 W1 X1 N2 E2 P2 L2 S2 W2 X2 ss im kq → va_P G.1 vwCl (wl g f) H → va_S (fun q : Nat => s.heap.size ≤ q) s.heap H locs → lv_has ls 4 [(0, .ref b), (1, .ref (g 0)), (2, .ref (g 315)), (3, .int (nI i))] → W p l e room_1 s m #[Value.ref b] below meth c H locs 333 19609 (lw_Z below #[Value.ref b] s) (F0 m 1373 ls [])) : W p l e room_1 s m #[Value.ref b] below meth c H locs 333 19609 (lw_Z below #[Value.ref b] s) (F0 m 1182 ls []) := by
  obtain ⟨hx, hb, hr, hml, hown, hts0, hX, hbl, hlocks, hgv⟩ := id C0
  have hts : ∀ w ∈ TT, w.before #[Value.ref b] s = true := fun w h => hts0 w (List.mem_filter.mp h).1
  have hbA : ¬ (fun q : Nat => s.heap.size ≤ q) b := Nat.not_le.mpr hbl
  refine lv_aload_n hx hb dL_law_1182 rfl (lv_at hl 1 rfl) ?_
  refine lv_aload_n hx hb dL_law_1183 rfl (lv_at hl 0 rfl) ?_
  refine lv_iload_n hx hb dL_law_1184 rfl (lv_at hl 3 rfl) ?_
  refine lv_iconst (v := 1) hx hb dL_law_1185 (by decide) ?_
  refine lv_iadd hx hb dL_law_1186 ?_
  refine my_bei (v := nI (i + 1)) (nI_add i 1) ?_
  refine va_sld hx hb hX hbl hbA hS (vp_in_nI (by omega) (by omega)) dL_law_1187 ?_
  refine my_bei (v := xs (i + 1)) (congrArg xs (nI_clamp (n := i + 1) (by omega))) ?_
  refine lv_aload_n hx hb dL_law_1188 rfl (lv_at hl 0 rfl) ?_
  refine lv_iload_n hx hb dL_law_1189 rfl (lv_at hl 3 rfl) ?_
  refine lv_iconst (v := 2) hx hb dL_law_1190 (by decide) ?_
  refine lv_iadd hx hb dL_law_1191 ?_
  refine my_bei (v := nI (i + 2)) (nI_add i 2) ?_
  refine va_sld hx hb hX hbl hbA hS (vp_in_nI (by omega) (by omega)) dL_law_1192 ?_
  refine my_bei (v := xs (i + 2)) (congrArg xs (nI_clamp (n := i + 2) (by omega))) ?_
  refine lv_aload_n hx hb dL_law_1193 rfl (lv_at hl 0 rfl) ?_
  refine lv_iload_n hx hb dL_law_1194 rfl (lv_at hl 3 rfl) ?_
  refine lv_iconst (v := 3) hx hb dL_law_1195 (by decide) ?_
  refine lv_iadd hx hb dL_law_1196 ?_
  refine my_bei (v := nI (i + 3)) (nI_add i 3) ?_
  refine va_sld hx hb hX hbl hbA hS (vp_in_nI (by omega) (by omega)) dL_law_1197 ?_
  refine my_bei (v := xs (i + 3)) (congrArg xs (nI_clamp (n := i + 3) (by omega))) ?_
  have hTr := hrel.1.tc
  have hx0 := cJ_0 hcJ
  refine bL_calli hsub (va_runV (As := [.int (xs (i + 1)), .int (xs (i + 2)), .int (xs (i + 3))]) (rest := []) ⟨hx, hb, hml, hown, hts⟩ (j_beside l G g hg f np dp nf df nr dr nt ct pay fine kf na da TL TG LL LG N1 E1 P1 L1 S1 W1 X1 N2 E2 P2 L2 S2 W2 X2 (xs (i + 1)) (xs (i + 2)) (xs (i + 3))  (by first | assumption | omega | decide) (by first | assumption | omega | decide)) (my_cwV hts ok_X10_beside w_806 rfl rfl ⟨Nat.le_of_ble_eq_true rfl, Nat.le_of_ble_eq_true rfl⟩) ⟨bP.blind, va_recv hG.1 hP (ci := 9) (q0 := 0) rfl (wl_at (by decide) hx0), fun U hU hW => ⟨rfl, by rw [hU]; exact hP, kG.warm hW hG⟩⟩ rfl rfl hl.1 rfl (lv_room (Nat.le_of_ble_eq_true rfl)) dL_law_1198 ⟨Nat.le_of_ble_eq_true rfl, Nat.le_of_ble_eq_true rfl⟩) hS (fun v1 f_1 H locs hq9 hP hS => ?_)
  obtain ⟨hx_1_0, hx_1_1, o_1⟩ := hq9
  have hcJ := hx_1_0
  have hmJ := mJ_fr hmJ o_1
  refine lv_aload_n hx hb dL_law_1201 rfl (lv_at hl 2 rfl) ?_
  refine lv_aload_n hx hb dL_law_1202 rfl (lv_at hl 0 rfl) ?_
  refine lv_iload_n hx hb dL_law_1203 rfl (lv_at hl 3 rfl) ?_
  refine lv_iconst (v := 1) hx hb dL_law_1204 (by decide) ?_
  refine lv_iadd hx hb dL_law_1205 ?_
  refine my_bei (v := nI (i + 1)) (nI_add i 1) ?_
  refine va_sld hx hb hX hbl hbA hS (vp_in_nI (by omega) (by omega)) dL_law_1206 ?_
  refine my_bei (v := xs (i + 1)) (congrArg xs (nI_clamp (n := i + 1) (by omega))) ?_
  refine lv_aload_n hx hb dL_law_1207 rfl (lv_at hl 0 rfl) ?_
  refine lv_iload_n hx hb dL_law_1208 rfl (lv_at hl 3 rfl) ?_
  refine lv_iconst (v := 2) hx hb dL_law_1209 (by decide) ?_
  refine lv_iadd hx hb dL_law_1210 ?_
  refine my_bei (v := nI (i + 2)) (nI_add i 2) ?_
  refine va_sld hx hb hX hbl hbA hS (vp_in_nI (by omega) (by omega)) dL_law_1211 ?_
  refine my_bei (v := xs (i + 2)) (congrArg xs (nI_clamp (n := i + 2) (by omega))) ?_
  refine lv_aload_n hx hb dL_law_1212 rfl (lv_at hl 0 rfl) ?_
  refine lv_iload_n hx hb dL_law_1213 rfl (lv_at hl 3 rfl) ?_
  refine lv_iconst (v := 3) hx hb dL_law_1214 (by decide) ?_
  refine lv_iadd hx hb dL_law_1215 ?_
  refine my_bei (v := nI (i + 3)) (nI_add i 3) ?_
  refine va_sld hx hb hX hbl hbA hS (vp_in_nI (by omega) (by omega)) dL_law_1216 ?_
  refine my_bei (v := xs (i + 3)) (congrArg xs (nI_clamp (n := i + 3) (by omega))) ?_
  have htA := rcF_trOK hrel.1 hrel.1.tc
  obtain ⟨fs9, hmo⟩ := mJ_0 hmJ
  refine bL_calli hsub (va_runV (As := [.int (xs (i + 1)), .int (xs (i + 2)), .int (xs (i + 3))]) (rest := [.int v1]) ⟨hx, hb, hml, hown, hts⟩ (j2_beside l G g hg f_1 ss im kq (xs (i + 1)) (xs (i + 2)) (xs (i + 3))  (by first | assumption | omega | decide) (by first | assumption | omega | decide)) (my_cwV hts ok_X11_beside w_811 rfl rfl ⟨Nat.le_of_ble_eq_true rfl, Nat.le_of_ble_eq_true rfl⟩) ⟨bP.blind, va_recv hG.1 hP (ci := 10) (q0 := 315) rfl (wl_at (by decide) hmo), fun U hU hW => ⟨rfl, by rw [hU]; exact hP, kG.warm hW hG⟩⟩ rfl rfl hl.1 rfl (lv_room (Nat.le_of_ble_eq_true rfl)) dL_law_1217 ⟨Nat.le_of_ble_eq_true rfl, Nat.le_of_ble_eq_true rfl⟩) hS (fun v2 f_2 H locs hq9 hP hS => ?_)
  obtain ⟨hx_2_0, hx_2_1, o_2⟩ := hq9
  have hmJ := hx_2_0
  have hcJ := cJ_fr hcJ o_2
  obtain ⟨p9, f9, r9, u9, t9, hs9, hm9⟩ := hx_2_1
  have heq := rQ_beside hrel.1 hs9 hx_1_1 hm9
  refine lv_icmp_eq (tgt := 1373) hx hb dL_law_1220 (by decide) (fun c_1220 => ?_) (fun c_1220 => absurd (heq) c_1220)
  exact IH np dp nf df nr dr nt ct pay fine kf na da TL TG LL LG N1 E1 P1 L1 S1 W1 X1 N2 E2 P2 L2 S2 W2 X2 ss im kq _ _ _ _ hcJ hmJ hrel hP hS (lv_sub hl [0, 1, 2, 3] rfl)
set_option maxHeartbeats 4000000 in
set_option maxRecDepth 100000 in
theorem lawJ_27 {p : Program} {e : Env} {s : State} {m : MethodId} {below : List Frame} {meth : Method} {c : Code} (l : Launch) {b L : Nat} {xs : Nat → Int32} (G : gW) (hL : L ≤ 5120) (C0 : lw_At p s m meth c b L xs) (hG : kG G s) {g : Nat → Nat} (hg : gOK g) (hsub : ∀ q, gA g q → (fun q : Nat => s.heap.size ≤ q) q) {i : Nat} (hi : i + 10 ≤ L) {np : Nat} {dp : Nat → Int32} {nf : Nat} {df : Nat → Int32} {nr : Nat} {dr : Nat → Int32} {nt : Nat} {ct : Nat → Int32} {pay : Int32} {fine : Int32} {kf : Nat → Int32} {na : Nat} {da : Nat → Int32} {TL : Nat → Nat} {TG : Nat → Nat → Int32} {LL : Nat → Nat} {LG : Nat → Nat → Int32} {N1 : Nat → Nat} {E1 : Nat → Nat → Int32} {P1 : Nat → Int32} {L1 : Nat → Nat} {S1 : Nat → Nat → Int32} {W1 : Nat → Nat} {X1 : Nat → Nat → Int32} {N2 : Nat → Nat} {E2 : Nat → Nat → Int32} {P2 : Nat → Int32} {L2 : Nat → Nat} {S2 : Nat → Nat → Int32} {W2 : Nat → Nat} {X2 : Nat → Nat → Int32} {ss : Nat → Int32} {im : Nat → Int32} {kq : Nat → Int32} {f : Nat → va_E} {H : Heap} {locs : List Loc} {ls : Array Slot} (hcJ : cJ G g f np dp nf df nr dr nt ct pay fine kf na da TL TG LL LG N1 E1 P1 L1 S1 W1 X1 N2 E2 P2 L2 S2 W2 X2) (hmJ : mJ G g f ss im kq) (hrel : relF np dp nf df nr dr nt ct pay fine kf na da TL TG LL LG N1 E1 P1 L1 S1 W1 X1 N2 E2 P2 L2 S2 W2 X2 ss im kq) (hP : va_P G.1 vwCl (wl g f) H) (hS : va_S (fun q : Nat => s.heap.size ≤ q) s.heap H locs) (hl : lv_has ls 4 [(0, .ref b), (1, .ref (g 0)), (2, .ref (g 315)), (3, .int (nI i))]) (IH : ∀ (np : Nat) (dp : Nat → Int32) (nf : Nat) (df : Nat → Int32) (nr : Nat) (dr : Nat → Int32) (nt : Nat) (ct : Nat → Int32) (pay : Int32) (fine : Int32) (kf : Nat → Int32) (na : Nat) (da : Nat → Int32) (TL : Nat → Nat) (TG : Nat → Nat → Int32) (LL : Nat → Nat) (LG : Nat → Nat → Int32) (N1 : Nat → Nat) (E1 : Nat → Nat → Int32) (P1 : Nat → Int32) (L1 : Nat → Nat) (S1 : Nat → Nat → Int32) (W1 : Nat → Nat) (X1 : Nat → Nat → Int32) (N2 : Nat → Nat) (E2 : Nat → Nat → Int32) (P2 : Nat → Int32) (L2 : Nat → Nat) (S2 : Nat → Nat → Int32) (W2 : Nat → Nat) (X2 : Nat → Nat → Int32) (ss : Nat → Int32) (im : Nat → Int32) (kq : Nat → Int32) (f : Nat → va_E) (H : Heap) (locs : List Loc) (ls : Array Slot), cJ G g f np dp nf df nr dr nt ct pay fine kf na da TL TG LL LG N1 E1 P1 L1 S1 W1 X1 N2 E2 P2 L2 S2 W2 X2 → mJ G g f ss im kq → relF np dp nf df nr dr nt ct pay fine kf na da TL TG LL LG N1 E1 P1 L1 S1 W1 X1 N2 E2 P2 L2 S2 W2 X2 ss im kq → va_P G.1 vwCl (wl g f) H → va_S (fun q : Nat => s.heap.size ≤ q) s.heap H locs → lv_has ls 4 [(0, .ref b), (1, .ref (g 0)), (2, .ref (g 315)), (3, .int (nI i))] → W p l e room_1 s m #[Value.ref b] below meth c H locs 333 19609 (lw_Z below #[Value.ref b] s) (F0 m 1373 ls [])) : W p l e room_1 s m #[Value.ref b] below meth c H locs 333 19609 (lw_Z below #[Value.ref b] s) (F0 m 1225 ls []) := by
  obtain ⟨hx, hb, hr, hml, hown, hts0, hX, hbl, hlocks, hgv⟩ := id C0
  have hts : ∀ w ∈ TT, w.before #[Value.ref b] s = true := fun w h => hts0 w (List.mem_filter.mp h).1
  have hbA : ¬ (fun q : Nat => s.heap.size ≤ q) b := Nat.not_le.mpr hbl
  refine lv_aload_n hx hb dL_law_1225 rfl (lv_at hl 1 rfl) ?_
  refine lv_aload_n hx hb dL_law_1226 rfl (lv_at hl 0 rfl) ?_
  refine lv_iload_n hx hb dL_law_1227 rfl (lv_at hl 3 rfl) ?_
  refine lv_iconst (v := 1) hx hb dL_law_1228 (by decide) ?_
  refine lv_iadd hx hb dL_law_1229 ?_
  refine my_bei (v := nI (i + 1)) (nI_add i 1) ?_
  refine va_sld hx hb hX hbl hbA hS (vp_in_nI (by omega) (by omega)) dL_law_1230 ?_
  refine my_bei (v := xs (i + 1)) (congrArg xs (nI_clamp (n := i + 1) (by omega))) ?_
  refine lv_aload_n hx hb dL_law_1231 rfl (lv_at hl 0 rfl) ?_
  refine lv_iload_n hx hb dL_law_1232 rfl (lv_at hl 3 rfl) ?_
  refine lv_iconst (v := 2) hx hb dL_law_1233 (by decide) ?_
  refine lv_iadd hx hb dL_law_1234 ?_
  refine my_bei (v := nI (i + 2)) (nI_add i 2) ?_
  refine va_sld hx hb hX hbl hbA hS (vp_in_nI (by omega) (by omega)) dL_law_1235 ?_
  refine my_bei (v := xs (i + 2)) (congrArg xs (nI_clamp (n := i + 2) (by omega))) ?_
  have hTr := hrel.1.tc
  have hx0 := cJ_0 hcJ
  refine bL_calli hsub (va_runV (As := [.int (xs (i + 1)), .int (xs (i + 2))]) (rest := []) ⟨hx, hb, hml, hown, hts⟩ (j_clash l G g hg f np dp nf df nr dr nt ct pay fine kf na da TL TG LL LG N1 E1 P1 L1 S1 W1 X1 N2 E2 P2 L2 S2 W2 X2 (xs (i + 1)) (xs (i + 2))  (by first | assumption | omega | decide) (by first | assumption | omega | decide)) (my_cwV hts ok_X10_clash w_815 rfl rfl ⟨Nat.le_of_ble_eq_true rfl, Nat.le_of_ble_eq_true rfl⟩) ⟨bP.blind, va_recv hG.1 hP (ci := 9) (q0 := 0) rfl (wl_at (by decide) hx0), fun U hU hW => ⟨rfl, by rw [hU]; exact hP, kG.warm hW hG⟩⟩ rfl rfl hl.1 rfl (lv_room (Nat.le_of_ble_eq_true rfl)) dL_law_1236 ⟨Nat.le_of_ble_eq_true rfl, Nat.le_of_ble_eq_true rfl⟩) hS (fun v1 f_1 H locs hq9 hP hS => ?_)
  obtain ⟨hx_1_0, o_1⟩ := hq9
  have hcJ := hx_1_0
  have hmJ := mJ_fr hmJ o_1
  refine lv_pop hx hb dL_law_1239 rfl ?_
  refine lv_aload_n hx hb dL_law_1240 rfl (lv_at hl 2 rfl) ?_
  refine lv_aload_n hx hb dL_law_1241 rfl (lv_at hl 0 rfl) ?_
  refine lv_iload_n hx hb dL_law_1242 rfl (lv_at hl 3 rfl) ?_
  refine lv_iconst (v := 1) hx hb dL_law_1243 (by decide) ?_
  refine lv_iadd hx hb dL_law_1244 ?_
  refine my_bei (v := nI (i + 1)) (nI_add i 1) ?_
  refine va_sld hx hb hX hbl hbA hS (vp_in_nI (by omega) (by omega)) dL_law_1245 ?_
  refine my_bei (v := xs (i + 1)) (congrArg xs (nI_clamp (n := i + 1) (by omega))) ?_
  refine lv_aload_n hx hb dL_law_1246 rfl (lv_at hl 0 rfl) ?_
  refine lv_iload_n hx hb dL_law_1247 rfl (lv_at hl 3 rfl) ?_
  refine lv_iconst (v := 2) hx hb dL_law_1248 (by decide) ?_
  refine lv_iadd hx hb dL_law_1249 ?_
  refine my_bei (v := nI (i + 2)) (nI_add i 2) ?_
  refine va_sld hx hb hX hbl hbA hS (vp_in_nI (by omega) (by omega)) dL_law_1250 ?_
  refine my_bei (v := xs (i + 2)) (congrArg xs (nI_clamp (n := i + 2) (by omega))) ?_
  have htA := rcF_trOK hrel.1 hrel.1.tc
  obtain ⟨fs9, hmo⟩ := mJ_0 hmJ
  refine bL_calli hsub (va_runV (As := [.int (xs (i + 1)), .int (xs (i + 2))]) (rest := []) ⟨hx, hb, hml, hown, hts⟩ (j2_clash l G g hg f_1 ss im kq (xs (i + 1)) (xs (i + 2))  (by first | assumption | omega | decide) (by first | assumption | omega | decide)) (my_cwV hts ok_X11_clash w_859 rfl rfl ⟨Nat.le_of_ble_eq_true rfl, Nat.le_of_ble_eq_true rfl⟩) ⟨bP.blind, va_recv hG.1 hP (ci := 10) (q0 := 315) rfl (wl_at (by decide) hmo), fun U hU hW => ⟨rfl, by rw [hU]; exact hP, kG.warm hW hG⟩⟩ rfl rfl hl.1 rfl (lv_room (Nat.le_of_ble_eq_true rfl)) dL_law_1251 ⟨Nat.le_of_ble_eq_true rfl, Nat.le_of_ble_eq_true rfl⟩) hS (fun v2 f_2 H locs hq9 hP hS => ?_)
  obtain ⟨hx_2_0, o_2⟩ := hq9
  have hmJ := hx_2_0
  have hcJ := cJ_fr hcJ o_2
  refine lv_pop hx hb dL_law_1254 rfl ?_
  refine lv_goto (tgt := 1373) hx hb dL_law_1255 (by decide) ?_
  exact IH np dp nf df nr dr nt ct pay fine kf na da TL TG LL LG N1 E1 P1 L1 S1 W1 X1 N2 E2 P2 L2 S2 W2 X2 ss im kq _ _ _ _ hcJ hmJ hrel hP hS (lv_sub hl [0, 1, 2, 3] rfl)
set_option maxHeartbeats 4000000 in
set_option maxRecDepth 100000 in
theorem lawJ_28 {p : Program} {e : Env} {s : State} {m : MethodId} {below : List Frame} {meth : Method} {c : Code} (l : Launch) {b L : Nat} {xs : Nat → Int32} (G : gW) (hL : L ≤ 5120) (C0 : lw_At p s m meth c b L xs) (hG : kG G s) {g : Nat → Nat} (hg : gOK g) (hsub : ∀ q, gA g q → (fun q : Nat => s.heap.size ≤ q) q) {i : Nat} (hi : i + 10 ≤ L) {np : Nat} {dp : Nat → Int32} {nf : Nat} {df : Nat → Int32} {nr : Nat} {dr : Nat → Int32} {nt : Nat} {ct : Nat → Int32} {pay : Int32} {fine : Int32} {kf : Nat → Int32} {na : Nat} {da : Nat → Int32} {TL : Nat → Nat} {TG : Nat → Nat → Int32} {LL : Nat → Nat} {LG : Nat → Nat → Int32} {N1 : Nat → Nat} {E1 : Nat → Nat → Int32} {P1 : Nat → Int32} {L1 : Nat → Nat} {S1 : Nat → Nat → Int32} {W1 : Nat → Nat} {X1 : Nat → Nat → Int32} {N2 : Nat → Nat} {E2 : Nat → Nat → Int32} {P2 : Nat → Int32} {L2 : Nat → Nat} {S2 : Nat → Nat → Int32} {W2 : Nat → Nat} {X2 : Nat → Nat → Int32} {ss : Nat → Int32} {im : Nat → Int32} {kq : Nat → Int32} {f : Nat → va_E} {H : Heap} {locs : List Loc} {ls : Array Slot} (hcJ : cJ G g f np dp nf df nr dr nt ct pay fine kf na da TL TG LL LG N1 E1 P1 L1 S1 W1 X1 N2 E2 P2 L2 S2 W2 X2) (hmJ : mJ G g f ss im kq) (hrel : relF np dp nf df nr dr nt ct pay fine kf na da TL TG LL LG N1 E1 P1 L1 S1 W1 X1 N2 E2 P2 L2 S2 W2 X2 ss im kq) (hP : va_P G.1 vwCl (wl g f) H) (hS : va_S (fun q : Nat => s.heap.size ≤ q) s.heap H locs) (hl : lv_has ls 4 [(0, .ref b), (1, .ref (g 0)), (2, .ref (g 315)), (3, .int (nI i))]) (IH : ∀ (np : Nat) (dp : Nat → Int32) (nf : Nat) (df : Nat → Int32) (nr : Nat) (dr : Nat → Int32) (nt : Nat) (ct : Nat → Int32) (pay : Int32) (fine : Int32) (kf : Nat → Int32) (na : Nat) (da : Nat → Int32) (TL : Nat → Nat) (TG : Nat → Nat → Int32) (LL : Nat → Nat) (LG : Nat → Nat → Int32) (N1 : Nat → Nat) (E1 : Nat → Nat → Int32) (P1 : Nat → Int32) (L1 : Nat → Nat) (S1 : Nat → Nat → Int32) (W1 : Nat → Nat) (X1 : Nat → Nat → Int32) (N2 : Nat → Nat) (E2 : Nat → Nat → Int32) (P2 : Nat → Int32) (L2 : Nat → Nat) (S2 : Nat → Nat → Int32) (W2 : Nat → Nat) (X2 : Nat → Nat → Int32) (ss : Nat → Int32) (im : Nat → Int32) (kq : Nat → Int32) (f : Nat → va_E) (H : Heap) (locs : List Loc) (ls : Array Slot), cJ G g f np dp nf df nr dr nt ct pay fine kf na da TL TG LL LG N1 E1 P1 L1 S1 W1 X1 N2 E2 P2 L2 S2 W2 X2 → mJ G g f ss im kq → relF np dp nf df nr dr nt ct pay fine kf na da TL TG LL LG N1 E1 P1 L1 S1 W1 X1 N2 E2 P2 L2 S2 W2 X2 ss im kq → va_P G.1 vwCl (wl g f) H → va_S (fun q : Nat => s.heap.size ≤ q) s.heap H locs → lv_has ls 4 [(0, .ref b), (1, .ref (g 0)), (2, .ref (g 315)), (3, .int (nI i))] → W p l e room_1 s m #[Value.ref b] below meth c H locs 333 19609 (lw_Z below #[Value.ref b] s) (F0 m 1373 ls [])) : W p l e room_1 s m #[Value.ref b] below meth c H locs 333 19609 (lw_Z below #[Value.ref b] s) (F0 m 1258 ls []) := by
  obtain ⟨hx, hb, hr, hml, hown, hts0, hX, hbl, hlocks, hgv⟩ := id C0
  have hts : ∀ w ∈ TT, w.before #[Value.ref b] s = true := fun w h => hts0 w (List.mem_filter.mp h).1
  have hbA : ¬ (fun q : Nat => s.heap.size ≤ q) b := Nat.not_le.mpr hbl
  refine lv_aload_n hx hb dL_law_1258 rfl (lv_at hl 1 rfl) ?_
  refine lv_aload_n hx hb dL_law_1259 rfl (lv_at hl 0 rfl) ?_
  refine lv_iload_n hx hb dL_law_1260 rfl (lv_at hl 3 rfl) ?_
  refine lv_iconst (v := 1) hx hb dL_law_1261 (by decide) ?_
  refine lv_iadd hx hb dL_law_1262 ?_
  refine my_bei (v := nI (i + 1)) (nI_add i 1) ?_
  refine va_sld hx hb hX hbl hbA hS (vp_in_nI (by omega) (by omega)) dL_law_1263 ?_
  refine my_bei (v := xs (i + 1)) (congrArg xs (nI_clamp (n := i + 1) (by omega))) ?_
  refine lv_aload_n hx hb dL_law_1264 rfl (lv_at hl 0 rfl) ?_
  refine lv_iload_n hx hb dL_law_1265 rfl (lv_at hl 3 rfl) ?_
  refine lv_iconst (v := 2) hx hb dL_law_1266 (by decide) ?_
  refine lv_iadd hx hb dL_law_1267 ?_
  refine my_bei (v := nI (i + 2)) (nI_add i 2) ?_
  refine va_sld hx hb hX hbl hbA hS (vp_in_nI (by omega) (by omega)) dL_law_1268 ?_
  refine my_bei (v := xs (i + 2)) (congrArg xs (nI_clamp (n := i + 2) (by omega))) ?_
  have hTr := hrel.1.tc
  have hx0 := cJ_0 hcJ
  refine bL_calli hsub (va_runV (As := [.int (xs (i + 1)), .int (xs (i + 2))]) (rest := []) ⟨hx, hb, hml, hown, hts⟩ (j_turn l G g hg f np dp nf df nr dr nt ct pay fine kf na da TL TG LL LG N1 E1 P1 L1 S1 W1 X1 N2 E2 P2 L2 S2 W2 X2 (xs (i + 1)) (xs (i + 2))  (by first | assumption | omega | decide) (by first | assumption | omega | decide)) (my_cwV hts ok_X10_turn w_871 rfl rfl ⟨Nat.le_of_ble_eq_true rfl, Nat.le_of_ble_eq_true rfl⟩) ⟨bP.blind, va_recv hG.1 hP (ci := 9) (q0 := 0) rfl (wl_at (by decide) hx0), fun U hU hW => ⟨rfl, by rw [hU]; exact hP, kG.warm hW hG⟩⟩ rfl rfl hl.1 rfl (lv_room (Nat.le_of_ble_eq_true rfl)) dL_law_1269 ⟨Nat.le_of_ble_eq_true rfl, Nat.le_of_ble_eq_true rfl⟩) hS (fun v1 f_1 H locs hq9 hP hS => ?_)
  obtain ⟨hx_1_0, hx_1_1, o_1⟩ := hq9
  have hcJ := hx_1_0
  have hmJ := mJ_fr hmJ o_1
  refine lv_pop hx hb dL_law_1272 rfl ?_
  refine lv_aload_n hx hb dL_law_1273 rfl (lv_at hl 2 rfl) ?_
  refine lv_aload_n hx hb dL_law_1274 rfl (lv_at hl 0 rfl) ?_
  refine lv_iload_n hx hb dL_law_1275 rfl (lv_at hl 3 rfl) ?_
  refine lv_iconst (v := 1) hx hb dL_law_1276 (by decide) ?_
  refine lv_iadd hx hb dL_law_1277 ?_
  refine my_bei (v := nI (i + 1)) (nI_add i 1) ?_
  refine va_sld hx hb hX hbl hbA hS (vp_in_nI (by omega) (by omega)) dL_law_1278 ?_
  refine my_bei (v := xs (i + 1)) (congrArg xs (nI_clamp (n := i + 1) (by omega))) ?_
  refine lv_aload_n hx hb dL_law_1279 rfl (lv_at hl 0 rfl) ?_
  refine lv_iload_n hx hb dL_law_1280 rfl (lv_at hl 3 rfl) ?_
  refine lv_iconst (v := 2) hx hb dL_law_1281 (by decide) ?_
  refine lv_iadd hx hb dL_law_1282 ?_
  refine my_bei (v := nI (i + 2)) (nI_add i 2) ?_
  refine va_sld hx hb hX hbl hbA hS (vp_in_nI (by omega) (by omega)) dL_law_1283 ?_
  refine my_bei (v := xs (i + 2)) (congrArg xs (nI_clamp (n := i + 2) (by omega))) ?_
  have htA := rcF_trOK hrel.1 hrel.1.tc
  obtain ⟨fs9, hmo⟩ := mJ_0 hmJ
  refine bL_calli hsub (va_runV (As := [.int (xs (i + 1)), .int (xs (i + 2))]) (rest := []) ⟨hx, hb, hml, hown, hts⟩ (j2_turn l G g hg f_1 ss im kq (xs (i + 1)) (xs (i + 2))  (by first | assumption | omega | decide) (by first | assumption | omega | decide)) (my_cwV hts ok_X11_turn w_886 rfl rfl ⟨Nat.le_of_ble_eq_true rfl, Nat.le_of_ble_eq_true rfl⟩) ⟨bP.blind, va_recv hG.1 hP (ci := 10) (q0 := 315) rfl (wl_at (by decide) hmo), fun U hU hW => ⟨rfl, by rw [hU]; exact hP, kG.warm hW hG⟩⟩ rfl rfl hl.1 rfl (lv_room (Nat.le_of_ble_eq_true rfl)) dL_law_1284 ⟨Nat.le_of_ble_eq_true rfl, Nat.le_of_ble_eq_true rfl⟩) hS (fun v2 f_2 H locs hq9 hP hS => ?_)
  obtain ⟨hx_2_0, hx_2_1, o_2⟩ := hq9
  have hmJ := hx_2_0
  have hcJ := cJ_fr hcJ o_2
  obtain ⟨p9, f9, r9, u9, t9, hs9, hm9⟩ := hx_2_1
  have heq := rQ_turn hrel.1 hs9 hx_1_1 hm9
  refine lv_pop hx hb dL_law_1287 rfl ?_
  refine lv_goto (tgt := 1373) hx hb dL_law_1288 (by decide) ?_
  exact IH np dp nf df nr dr nt ct pay fine kf na da TL TG LL LG N1 E1 P1 L1 S1 W1 X1 N2 E2 P2 L2 S2 W2 X2 ss im kq _ _ _ _ hcJ hmJ hrel hP hS (lv_sub hl [0, 1, 2, 3] rfl)
set_option maxHeartbeats 4000000 in
set_option maxRecDepth 100000 in
theorem lawJ_29 {p : Program} {e : Env} {s : State} {m : MethodId} {below : List Frame} {meth : Method} {c : Code} (l : Launch) {b L : Nat} {xs : Nat → Int32} (G : gW) (hL : L ≤ 5120) (C0 : lw_At p s m meth c b L xs) (hG : kG G s) {g : Nat → Nat} (hg : gOK g) (hsub : ∀ q, gA g q → (fun q : Nat => s.heap.size ≤ q) q) {i : Nat} (hi : i + 10 ≤ L) {np : Nat} {dp : Nat → Int32} {nf : Nat} {df : Nat → Int32} {nr : Nat} {dr : Nat → Int32} {nt : Nat} {ct : Nat → Int32} {pay : Int32} {fine : Int32} {kf : Nat → Int32} {na : Nat} {da : Nat → Int32} {TL : Nat → Nat} {TG : Nat → Nat → Int32} {LL : Nat → Nat} {LG : Nat → Nat → Int32} {N1 : Nat → Nat} {E1 : Nat → Nat → Int32} {P1 : Nat → Int32} {L1 : Nat → Nat} {S1 : Nat → Nat → Int32} {W1 : Nat → Nat} {X1 : Nat → Nat → Int32} {N2 : Nat → Nat} {E2 : Nat → Nat → Int32} {P2 : Nat → Int32} {L2 : Nat → Nat} {S2 : Nat → Nat → Int32} {W2 : Nat → Nat} {X2 : Nat → Nat → Int32} {ss : Nat → Int32} {im : Nat → Int32} {kq : Nat → Int32} {f : Nat → va_E} {H : Heap} {locs : List Loc} {ls : Array Slot} (hcJ : cJ G g f np dp nf df nr dr nt ct pay fine kf na da TL TG LL LG N1 E1 P1 L1 S1 W1 X1 N2 E2 P2 L2 S2 W2 X2) (hmJ : mJ G g f ss im kq) (hrel : relF np dp nf df nr dr nt ct pay fine kf na da TL TG LL LG N1 E1 P1 L1 S1 W1 X1 N2 E2 P2 L2 S2 W2 X2 ss im kq) (hP : va_P G.1 vwCl (wl g f) H) (hS : va_S (fun q : Nat => s.heap.size ≤ q) s.heap H locs) (hl : lv_has ls 4 [(0, .ref b), (1, .ref (g 0)), (2, .ref (g 315)), (3, .int (nI i))]) (IH : ∀ (np : Nat) (dp : Nat → Int32) (nf : Nat) (df : Nat → Int32) (nr : Nat) (dr : Nat → Int32) (nt : Nat) (ct : Nat → Int32) (pay : Int32) (fine : Int32) (kf : Nat → Int32) (na : Nat) (da : Nat → Int32) (TL : Nat → Nat) (TG : Nat → Nat → Int32) (LL : Nat → Nat) (LG : Nat → Nat → Int32) (N1 : Nat → Nat) (E1 : Nat → Nat → Int32) (P1 : Nat → Int32) (L1 : Nat → Nat) (S1 : Nat → Nat → Int32) (W1 : Nat → Nat) (X1 : Nat → Nat → Int32) (N2 : Nat → Nat) (E2 : Nat → Nat → Int32) (P2 : Nat → Int32) (L2 : Nat → Nat) (S2 : Nat → Nat → Int32) (W2 : Nat → Nat) (X2 : Nat → Nat → Int32) (ss : Nat → Int32) (im : Nat → Int32) (kq : Nat → Int32) (f : Nat → va_E) (H : Heap) (locs : List Loc) (ls : Array Slot), cJ G g f np dp nf df nr dr nt ct pay fine kf na da TL TG LL LG N1 E1 P1 L1 S1 W1 X1 N2 E2 P2 L2 S2 W2 X2 → mJ G g f ss im kq → relF np dp nf df nr dr nt ct pay fine kf na da TL TG LL LG N1 E1 P1 L1 S1 W1 X1 N2 E2 P2 L2 S2 W2 X2 ss im kq → va_P G.1 vwCl (wl g f) H → va_S (fun q : Nat => s.heap.size ≤ q) s.heap H locs → lv_has ls 4 [(0, .ref b), (1, .ref (g 0)), (2, .ref (g 315)), (3, .int (nI i))] → W p l e room_1 s m #[Value.ref b] below meth c H locs 333 19609 (lw_Z below #[Value.ref b] s) (F0 m 1373 ls [])) : W p l e room_1 s m #[Value.ref b] below meth c H locs 333 19609 (lw_Z below #[Value.ref b] s) (F0 m 1291 ls []) := by
  obtain ⟨hx, hb, hr, hml, hown, hts0, hX, hbl, hlocks, hgv⟩ := id C0
  have hts : ∀ w ∈ TT, w.before #[Value.ref b] s = true := fun w h => hts0 w (List.mem_filter.mp h).1
  have hbA : ¬ (fun q : Nat => s.heap.size ≤ q) b := Nat.not_le.mpr hbl
  refine lv_aload_n hx hb dL_law_1291 rfl (lv_at hl 1 rfl) ?_
  refine lv_aload_n hx hb dL_law_1292 rfl (lv_at hl 0 rfl) ?_
  refine lv_iload_n hx hb dL_law_1293 rfl (lv_at hl 3 rfl) ?_
  refine lv_iconst (v := 1) hx hb dL_law_1294 (by decide) ?_
  refine lv_iadd hx hb dL_law_1295 ?_
  refine my_bei (v := nI (i + 1)) (nI_add i 1) ?_
  refine va_sld hx hb hX hbl hbA hS (vp_in_nI (by omega) (by omega)) dL_law_1296 ?_
  refine my_bei (v := xs (i + 1)) (congrArg xs (nI_clamp (n := i + 1) (by omega))) ?_
  have hTr := hrel.1.tc
  have hx0 := cJ_0 hcJ
  refine bL_calli hsub (va_runV (As := [.int (xs (i + 1))]) (rest := []) ⟨hx, hb, hml, hown, hts⟩ (j_image l G g hg f np dp nf df nr dr nt ct pay fine kf na da TL TG LL LG N1 E1 P1 L1 S1 W1 X1 N2 E2 P2 L2 S2 W2 X2 (xs (i + 1))  (by first | assumption | omega | decide) (by first | assumption | omega | decide)) (my_cwV hts ok_X10_image w_890 rfl rfl ⟨Nat.le_of_ble_eq_true rfl, Nat.le_of_ble_eq_true rfl⟩) ⟨bP.blind, va_recv hG.1 hP (ci := 9) (q0 := 0) rfl (wl_at (by decide) hx0), fun U hU hW => ⟨rfl, by rw [hU]; exact hP, kG.warm hW hG⟩⟩ rfl rfl hl.1 rfl (lv_room (Nat.le_of_ble_eq_true rfl)) dL_law_1297 ⟨Nat.le_of_ble_eq_true rfl, Nat.le_of_ble_eq_true rfl⟩) hS (fun v1 f_1 H locs hq9 hP hS => ?_)
  obtain ⟨kf92, N193, E194, P195, L196, S197, W198, X199, N2910, E2911, P2912, L2913, S2914, W2915, X2916, hx_1_0, hx_1_1, o_1⟩ := hq9
  have hcJ := hx_1_0
  have hmJ := mJ_fr hmJ o_1
  refine lv_pop hx hb dL_law_1300 rfl ?_
  refine lv_aload_n hx hb dL_law_1301 rfl (lv_at hl 2 rfl) ?_
  refine lv_aload_n hx hb dL_law_1302 rfl (lv_at hl 0 rfl) ?_
  refine lv_iload_n hx hb dL_law_1303 rfl (lv_at hl 3 rfl) ?_
  refine lv_iconst (v := 1) hx hb dL_law_1304 (by decide) ?_
  refine lv_iadd hx hb dL_law_1305 ?_
  refine my_bei (v := nI (i + 1)) (nI_add i 1) ?_
  refine va_sld hx hb hX hbl hbA hS (vp_in_nI (by omega) (by omega)) dL_law_1306 ?_
  refine my_bei (v := xs (i + 1)) (congrArg xs (nI_clamp (n := i + 1) (by omega))) ?_
  have htA := rcF_trOK hrel.1 hrel.1.tc
  obtain ⟨fs9, hmo⟩ := mJ_0 hmJ
  refine bL_calli hsub (va_runV (As := [.int (xs (i + 1))]) (rest := []) ⟨hx, hb, hml, hown, hts⟩ (j2_image l G g hg f_1 ss im kq (xs (i + 1))  (by first | assumption | omega | decide) (by first | assumption | omega | decide)) (my_cwV hts ok_X11_image w_910 rfl rfl ⟨Nat.le_of_ble_eq_true rfl, Nat.le_of_ble_eq_true rfl⟩) ⟨bP.blind, va_recv hG.1 hP (ci := 10) (q0 := 315) rfl (wl_at (by decide) hmo), fun U hU hW => ⟨rfl, by rw [hU]; exact hP, kG.warm hW hG⟩⟩ rfl rfl hl.1 rfl (lv_room (Nat.le_of_ble_eq_true rfl)) dL_law_1307 ⟨Nat.le_of_ble_eq_true rfl, Nat.le_of_ble_eq_true rfl⟩) hS (fun v17 f_2 H locs hq9 hP hS => ?_)
  obtain ⟨im918, kq919, hx_2_0, hx_2_1, o_2⟩ := hq9
  have hmJ := hx_2_0
  have hcJ := cJ_fr hcJ o_2
  obtain ⟨p9, f9, r9, u9, t9, hs9, hm9⟩ := hx_2_1
  obtain ⟨heq, hrel⟩ := rF_image (fun x e hx => by rw [e]; exact inB_01.mpr hx) hrel hx_1_1 hm9
  refine lv_pop hx hb dL_law_1310 rfl ?_
  refine lv_goto (tgt := 1373) hx hb dL_law_1311 (by decide) ?_
  exact IH np dp nf df nr dr nt ct pay fine kf92 na da TL TG LL LG N193 E194 P195 L196 S197 W198 X199 N2910 E2911 P2912 L2913 S2914 W2915 X2916 ss im918 kq919 _ _ _ _ hcJ hmJ hrel hP hS (lv_sub hl [0, 1, 2, 3] rfl)
set_option maxHeartbeats 4000000 in
set_option maxRecDepth 100000 in
theorem lawJ_30 {p : Program} {e : Env} {s : State} {m : MethodId} {below : List Frame} {meth : Method} {c : Code} (l : Launch) {b L : Nat} {xs : Nat → Int32} (G : gW) (hL : L ≤ 5120) (C0 : lw_At p s m meth c b L xs) (hG : kG G s) {g : Nat → Nat} (hg : gOK g) (hsub : ∀ q, gA g q → (fun q : Nat => s.heap.size ≤ q) q) {i : Nat} (hi : i + 10 ≤ L) {np : Nat} {dp : Nat → Int32} {nf : Nat} {df : Nat → Int32} {nr : Nat} {dr : Nat → Int32} {nt : Nat} {ct : Nat → Int32} {pay : Int32} {fine : Int32} {kf : Nat → Int32} {na : Nat} {da : Nat → Int32} {TL : Nat → Nat} {TG : Nat → Nat → Int32} {LL : Nat → Nat} {LG : Nat → Nat → Int32} {N1 : Nat → Nat} {E1 : Nat → Nat → Int32} {P1 : Nat → Int32} {L1 : Nat → Nat} {S1 : Nat → Nat → Int32} {W1 : Nat → Nat} {X1 : Nat → Nat → Int32} {N2 : Nat → Nat} {E2 : Nat → Nat → Int32} {P2 : Nat → Int32} {L2 : Nat → Nat} {S2 : Nat → Nat → Int32} {W2 : Nat → Nat} {X2 : Nat → Nat → Int32} {ss : Nat → Int32} {im : Nat → Int32} {kq : Nat → Int32} {f : Nat → va_E} {H : Heap} {locs : List Loc} {ls : Array Slot} (hcJ : cJ G g f np dp nf df nr dr nt ct pay fine kf na da TL TG LL LG N1 E1 P1 L1 S1 W1 X1 N2 E2 P2 L2 S2 W2 X2) (hmJ : mJ G g f ss im kq) (hrel : relF np dp nf df nr dr nt ct pay fine kf na da TL TG LL LG N1 E1 P1 L1 S1 W1 X1 N2 E2 P2 L2 S2 W2 X2 ss im kq) (hP : va_P G.1 vwCl (wl g f) H) (hS : va_S (fun q : Nat => s.heap.size ≤ q) s.heap H locs) (hl : lv_has ls 4 [(0, .ref b), (1, .ref (g 0)), (2, .ref (g 315)), (3, .int (nI i))]) (IH : ∀ (np : Nat) (dp : Nat → Int32) (nf : Nat) (df : Nat → Int32) (nr : Nat) (dr : Nat → Int32) (nt : Nat) (ct : Nat → Int32) (pay : Int32) (fine : Int32) (kf : Nat → Int32) (na : Nat) (da : Nat → Int32) (TL : Nat → Nat) (TG : Nat → Nat → Int32) (LL : Nat → Nat) (LG : Nat → Nat → Int32) (N1 : Nat → Nat) (E1 : Nat → Nat → Int32) (P1 : Nat → Int32) (L1 : Nat → Nat) (S1 : Nat → Nat → Int32) (W1 : Nat → Nat) (X1 : Nat → Nat → Int32) (N2 : Nat → Nat) (E2 : Nat → Nat → Int32) (P2 : Nat → Int32) (L2 : Nat → Nat) (S2 : Nat → Nat → Int32) (W2 : Nat → Nat) (X2 : Nat → Nat → Int32) (ss : Nat → Int32) (im : Nat → Int32) (kq : Nat → Int32) (f : Nat → va_E) (H : Heap) (locs : List Loc) (ls : Array Slot), cJ G g f np dp nf df nr dr nt ct pay fine kf na da TL TG LL LG N1 E1 P1 L1 S1 W1 X1 N2 E2 P2 L2 S2 W2 X2 → mJ G g f ss im kq → relF np dp nf df nr dr nt ct pay fine kf na da TL TG LL LG N1 E1 P1 L1 S1 W1 X1 N2 E2 P2 L2 S2 W2 X2 ss im kq → va_P G.1 vwCl (wl g f) H → va_S (fun q : Nat => s.heap.size ≤ q) s.heap H locs → lv_has ls 4 [(0, .ref b), (1, .ref (g 0)), (2, .ref (g 315)), (3, .int (nI i))] → W p l e room_1 s m #[Value.ref b] below meth c H locs 333 19609 (lw_Z below #[Value.ref b] s) (F0 m 1373 ls [])) : W p l e room_1 s m #[Value.ref b] below meth c H locs 333 19609 (lw_Z below #[Value.ref b] s) (F0 m 1314 ls []) := by
  obtain ⟨hx, hb, hr, hml, hown, hts0, hX, hbl, hlocks, hgv⟩ := id C0
  have hts : ∀ w ∈ TT, w.before #[Value.ref b] s = true := fun w h => hts0 w (List.mem_filter.mp h).1
  have hbA : ¬ (fun q : Nat => s.heap.size ≤ q) b := Nat.not_le.mpr hbl
  refine lv_aload_n hx hb dL_law_1314 rfl (lv_at hl 1 rfl) ?_
  refine lv_aload_n hx hb dL_law_1315 rfl (lv_at hl 0 rfl) ?_
  refine lv_iload_n hx hb dL_law_1316 rfl (lv_at hl 3 rfl) ?_
  refine lv_iconst (v := 1) hx hb dL_law_1317 (by decide) ?_
  refine lv_iadd hx hb dL_law_1318 ?_
  refine my_bei (v := nI (i + 1)) (nI_add i 1) ?_
  refine va_sld hx hb hX hbl hbA hS (vp_in_nI (by omega) (by omega)) dL_law_1319 ?_
  refine my_bei (v := xs (i + 1)) (congrArg xs (nI_clamp (n := i + 1) (by omega))) ?_
  have hTr := hrel.1.tc
  have hx0 := cJ_0 hcJ
  refine bL_calli hsub (va_runV (As := [.int (xs (i + 1))]) (rest := []) ⟨hx, hb, hml, hown, hts⟩ (j_from l G g hg f np dp nf df nr dr nt ct pay fine kf na da TL TG LL LG N1 E1 P1 L1 S1 W1 X1 N2 E2 P2 L2 S2 W2 X2 (xs (i + 1))  (by first | assumption | omega | decide) (by first | assumption | omega | decide)) (my_cwV hts ok_X10_from w_914 rfl rfl ⟨Nat.le_of_ble_eq_true rfl, Nat.le_of_ble_eq_true rfl⟩) ⟨bP.blind, va_recv hG.1 hP (ci := 9) (q0 := 0) rfl (wl_at (by decide) hx0), fun U hU hW => ⟨rfl, by rw [hU]; exact hP, kG.warm hW hG⟩⟩ rfl rfl hl.1 rfl (lv_room (Nat.le_of_ble_eq_true rfl)) dL_law_1320 ⟨Nat.le_of_ble_eq_true rfl, Nat.le_of_ble_eq_true rfl⟩) hS (fun v1 f_1 H locs hq9 hP hS => ?_)
  obtain ⟨np92, dp93, nf94, df95, nr96, dr97, nt98, ct99, pay910, fine911, TL912, TG913, na914, da915, LL916, LG917, hx_1_0, hx_1_1, o_1⟩ := hq9
  have hcJ := hx_1_0
  have hmJ := mJ_fr hmJ o_1
  refine lv_pop hx hb dL_law_1323 rfl ?_
  refine lv_aload_n hx hb dL_law_1324 rfl (lv_at hl 2 rfl) ?_
  refine lv_aload_n hx hb dL_law_1325 rfl (lv_at hl 0 rfl) ?_
  refine lv_iload_n hx hb dL_law_1326 rfl (lv_at hl 3 rfl) ?_
  refine lv_iconst (v := 1) hx hb dL_law_1327 (by decide) ?_
  refine lv_iadd hx hb dL_law_1328 ?_
  refine my_bei (v := nI (i + 1)) (nI_add i 1) ?_
  refine va_sld hx hb hX hbl hbA hS (vp_in_nI (by omega) (by omega)) dL_law_1329 ?_
  refine my_bei (v := xs (i + 1)) (congrArg xs (nI_clamp (n := i + 1) (by omega))) ?_
  have htA := rcF_trOK hrel.1 hrel.1.tc
  obtain ⟨fs9, hmo⟩ := mJ_0 hmJ
  refine bL_calli hsub (va_runV (As := [.int (xs (i + 1))]) (rest := []) ⟨hx, hb, hml, hown, hts⟩ (j2_from l G g hg f_1 ss im kq (xs (i + 1))  (by first | assumption | omega | decide) (by first | assumption | omega | decide)) (my_cwV hts ok_X11_from w_918 rfl rfl ⟨Nat.le_of_ble_eq_true rfl, Nat.le_of_ble_eq_true rfl⟩) ⟨bP.blind, va_recv hG.1 hP (ci := 10) (q0 := 315) rfl (wl_at (by decide) hmo), fun U hU hW => ⟨rfl, by rw [hU]; exact hP, kG.warm hW hG⟩⟩ rfl rfl hl.1 rfl (lv_room (Nat.le_of_ble_eq_true rfl)) dL_law_1330 ⟨Nat.le_of_ble_eq_true rfl, Nat.le_of_ble_eq_true rfl⟩) hS (fun v18 f_2 H locs hq9 hP hS => ?_)
  obtain ⟨ss919, hx_2_0, hx_2_1, o_2⟩ := hq9
  have hmJ := hx_2_0
  have hcJ := cJ_fr hcJ o_2
  obtain ⟨p9, f9, r9, u9, t9, hs9, hm9⟩ := hx_2_1
  obtain ⟨heq, hrel⟩ := rF_from (fun x e hx => by rw [e]; exact inB_01.mpr hx) hrel hx_1_1 hm9
  refine lv_pop hx hb dL_law_1333 rfl ?_
  refine lv_goto (tgt := 1373) hx hb dL_law_1334 (by decide) ?_
  exact IH np92 dp93 nf94 df95 nr96 dr97 nt98 ct99 pay910 fine911 kf na914 da915 TL912 TG913 LL916 LG917 N1 E1 P1 L1 S1 W1 X1 N2 E2 P2 L2 S2 W2 X2 ss919 im kq _ _ _ _ hcJ hmJ hrel hP hS (lv_sub hl [0, 1, 2, 3] rfl)
set_option maxHeartbeats 4000000 in
set_option maxRecDepth 100000 in
theorem lawJ_31 {p : Program} {e : Env} {s : State} {m : MethodId} {below : List Frame} {meth : Method} {c : Code} (l : Launch) {b L : Nat} {xs : Nat → Int32} (G : gW) (hL : L ≤ 5120) (C0 : lw_At p s m meth c b L xs) (hG : kG G s) {g : Nat → Nat} (hg : gOK g) (hsub : ∀ q, gA g q → (fun q : Nat => s.heap.size ≤ q) q) {i : Nat} (hi : i + 10 ≤ L) {np : Nat} {dp : Nat → Int32} {nf : Nat} {df : Nat → Int32} {nr : Nat} {dr : Nat → Int32} {nt : Nat} {ct : Nat → Int32} {pay : Int32} {fine : Int32} {kf : Nat → Int32} {na : Nat} {da : Nat → Int32} {TL : Nat → Nat} {TG : Nat → Nat → Int32} {LL : Nat → Nat} {LG : Nat → Nat → Int32} {N1 : Nat → Nat} {E1 : Nat → Nat → Int32} {P1 : Nat → Int32} {L1 : Nat → Nat} {S1 : Nat → Nat → Int32} {W1 : Nat → Nat} {X1 : Nat → Nat → Int32} {N2 : Nat → Nat} {E2 : Nat → Nat → Int32} {P2 : Nat → Int32} {L2 : Nat → Nat} {S2 : Nat → Nat → Int32} {W2 : Nat → Nat} {X2 : Nat → Nat → Int32} {ss : Nat → Int32} {im : Nat → Int32} {kq : Nat → Int32} {f : Nat → va_E} {H : Heap} {locs : List Loc} {ls : Array Slot} (hcJ : cJ G g f np dp nf df nr dr nt ct pay fine kf na da TL TG LL LG N1 E1 P1 L1 S1 W1 X1 N2 E2 P2 L2 S2 W2 X2) (hmJ : mJ G g f ss im kq) (hrel : relF np dp nf df nr dr nt ct pay fine kf na da TL TG LL LG N1 E1 P1 L1 S1 W1 X1 N2 E2 P2 L2 S2 W2 X2 ss im kq) (hP : va_P G.1 vwCl (wl g f) H) (hS : va_S (fun q : Nat => s.heap.size ≤ q) s.heap H locs) (hl : lv_has ls 4 [(0, .ref b), (1, .ref (g 0)), (2, .ref (g 315)), (3, .int (nI i))]) (IH : ∀ (np : Nat) (dp : Nat → Int32) (nf : Nat) (df : Nat → Int32) (nr : Nat) (dr : Nat → Int32) (nt : Nat) (ct : Nat → Int32) (pay : Int32) (fine : Int32) (kf : Nat → Int32) (na : Nat) (da : Nat → Int32) (TL : Nat → Nat) (TG : Nat → Nat → Int32) (LL : Nat → Nat) (LG : Nat → Nat → Int32) (N1 : Nat → Nat) (E1 : Nat → Nat → Int32) (P1 : Nat → Int32) (L1 : Nat → Nat) (S1 : Nat → Nat → Int32) (W1 : Nat → Nat) (X1 : Nat → Nat → Int32) (N2 : Nat → Nat) (E2 : Nat → Nat → Int32) (P2 : Nat → Int32) (L2 : Nat → Nat) (S2 : Nat → Nat → Int32) (W2 : Nat → Nat) (X2 : Nat → Nat → Int32) (ss : Nat → Int32) (im : Nat → Int32) (kq : Nat → Int32) (f : Nat → va_E) (H : Heap) (locs : List Loc) (ls : Array Slot), cJ G g f np dp nf df nr dr nt ct pay fine kf na da TL TG LL LG N1 E1 P1 L1 S1 W1 X1 N2 E2 P2 L2 S2 W2 X2 → mJ G g f ss im kq → relF np dp nf df nr dr nt ct pay fine kf na da TL TG LL LG N1 E1 P1 L1 S1 W1 X1 N2 E2 P2 L2 S2 W2 X2 ss im kq → va_P G.1 vwCl (wl g f) H → va_S (fun q : Nat => s.heap.size ≤ q) s.heap H locs → lv_has ls 4 [(0, .ref b), (1, .ref (g 0)), (2, .ref (g 315)), (3, .int (nI i))] → W p l e room_1 s m #[Value.ref b] below meth c H locs 333 19609 (lw_Z below #[Value.ref b] s) (F0 m 1373 ls [])) : W p l e room_1 s m #[Value.ref b] below meth c H locs 333 19609 (lw_Z below #[Value.ref b] s) (F0 m 1337 ls []) := by
  obtain ⟨hx, hb, hr, hml, hown, hts0, hX, hbl, hlocks, hgv⟩ := id C0
  have hts : ∀ w ∈ TT, w.before #[Value.ref b] s = true := fun w h => hts0 w (List.mem_filter.mp h).1
  have hbA : ¬ (fun q : Nat => s.heap.size ≤ q) b := Nat.not_le.mpr hbl
  refine lv_aload_n hx hb dL_law_1337 rfl (lv_at hl 1 rfl) ?_
  refine lv_aload_n hx hb dL_law_1338 rfl (lv_at hl 0 rfl) ?_
  refine lv_iload_n hx hb dL_law_1339 rfl (lv_at hl 3 rfl) ?_
  refine lv_iconst (v := 1) hx hb dL_law_1340 (by decide) ?_
  refine lv_iadd hx hb dL_law_1341 ?_
  refine my_bei (v := nI (i + 1)) (nI_add i 1) ?_
  refine va_sld hx hb hX hbl hbA hS (vp_in_nI (by omega) (by omega)) dL_law_1342 ?_
  refine my_bei (v := xs (i + 1)) (congrArg xs (nI_clamp (n := i + 1) (by omega))) ?_
  have hTr := hrel.1.tc
  have hx0 := cJ_0 hcJ
  refine bL_calli hsub (va_runV (As := [.int (xs (i + 1))]) (rest := []) ⟨hx, hb, hml, hown, hts⟩ (j_count l G g hg f np dp nf df nr dr nt ct pay fine kf na da TL TG LL LG N1 E1 P1 L1 S1 W1 X1 N2 E2 P2 L2 S2 W2 X2 (xs (i + 1))  (by first | assumption | omega | decide) (by first | assumption | omega | decide)) (my_cwV hts ok_X10_count w_922 rfl rfl ⟨Nat.le_of_ble_eq_true rfl, Nat.le_of_ble_eq_true rfl⟩) ⟨bP.blind, va_recv hG.1 hP (ci := 9) (q0 := 0) rfl (wl_at (by decide) hx0), fun U hU hW => ⟨rfl, by rw [hU]; exact hP, kG.warm hW hG⟩⟩ rfl rfl hl.1 rfl (lv_room (Nat.le_of_ble_eq_true rfl)) dL_law_1343 ⟨Nat.le_of_ble_eq_true rfl, Nat.le_of_ble_eq_true rfl⟩) hS (fun v1 f_1 H locs hq9 hP hS => ?_)
  obtain ⟨hx_1_0, hx_1_1, o_1⟩ := hq9
  have hcJ := hx_1_0
  have hmJ := mJ_fr hmJ o_1
  refine lv_pop hx hb dL_law_1346 rfl ?_
  refine lv_aload_n hx hb dL_law_1347 rfl (lv_at hl 2 rfl) ?_
  refine lv_aload_n hx hb dL_law_1348 rfl (lv_at hl 0 rfl) ?_
  refine lv_iload_n hx hb dL_law_1349 rfl (lv_at hl 3 rfl) ?_
  refine lv_iconst (v := 1) hx hb dL_law_1350 (by decide) ?_
  refine lv_iadd hx hb dL_law_1351 ?_
  refine my_bei (v := nI (i + 1)) (nI_add i 1) ?_
  refine va_sld hx hb hX hbl hbA hS (vp_in_nI (by omega) (by omega)) dL_law_1352 ?_
  refine my_bei (v := xs (i + 1)) (congrArg xs (nI_clamp (n := i + 1) (by omega))) ?_
  have htA := rcF_trOK hrel.1 hrel.1.tc
  obtain ⟨fs9, hmo⟩ := mJ_0 hmJ
  refine bL_calli hsub (va_runV (As := [.int (xs (i + 1))]) (rest := []) ⟨hx, hb, hml, hown, hts⟩ (j2_count l G g hg f_1 ss im kq (xs (i + 1))  (by first | assumption | omega | decide) (by first | assumption | omega | decide)) (my_cwV hts ok_X11_count w_934 rfl rfl ⟨Nat.le_of_ble_eq_true rfl, Nat.le_of_ble_eq_true rfl⟩) ⟨bP.blind, va_recv hG.1 hP (ci := 10) (q0 := 315) rfl (wl_at (by decide) hmo), fun U hU hW => ⟨rfl, by rw [hU]; exact hP, kG.warm hW hG⟩⟩ rfl rfl hl.1 rfl (lv_room (Nat.le_of_ble_eq_true rfl)) dL_law_1353 ⟨Nat.le_of_ble_eq_true rfl, Nat.le_of_ble_eq_true rfl⟩) hS (fun v2 f_2 H locs hq9 hP hS => ?_)
  obtain ⟨hx_2_0, hx_2_1, o_2⟩ := hq9
  have hmJ := hx_2_0
  have hcJ := cJ_fr hcJ o_2
  obtain ⟨p9, f9, r9, u9, t9, hs9, hm9⟩ := hx_2_1
  have heq := rQ_count hrel.1 hs9 hx_1_1 hm9
  refine lv_pop hx hb dL_law_1356 rfl ?_
  refine lv_goto (tgt := 1373) hx hb dL_law_1357 (by decide) ?_
  exact IH np dp nf df nr dr nt ct pay fine kf na da TL TG LL LG N1 E1 P1 L1 S1 W1 X1 N2 E2 P2 L2 S2 W2 X2 ss im kq _ _ _ _ hcJ hmJ hrel hP hS (lv_sub hl [0, 1, 2, 3] rfl)
set_option maxHeartbeats 4000000 in
set_option maxRecDepth 100000 in
theorem lawJ_32 {p : Program} {e : Env} {s : State} {m : MethodId} {below : List Frame} {meth : Method} {c : Code} (l : Launch) {b L : Nat} {xs : Nat → Int32} (G : gW) (hL : L ≤ 5120) (C0 : lw_At p s m meth c b L xs) (hG : kG G s) {g : Nat → Nat} (hg : gOK g) (hsub : ∀ q, gA g q → (fun q : Nat => s.heap.size ≤ q) q) {i : Nat} (hi : i + 10 ≤ L) {np : Nat} {dp : Nat → Int32} {nf : Nat} {df : Nat → Int32} {nr : Nat} {dr : Nat → Int32} {nt : Nat} {ct : Nat → Int32} {pay : Int32} {fine : Int32} {kf : Nat → Int32} {na : Nat} {da : Nat → Int32} {TL : Nat → Nat} {TG : Nat → Nat → Int32} {LL : Nat → Nat} {LG : Nat → Nat → Int32} {N1 : Nat → Nat} {E1 : Nat → Nat → Int32} {P1 : Nat → Int32} {L1 : Nat → Nat} {S1 : Nat → Nat → Int32} {W1 : Nat → Nat} {X1 : Nat → Nat → Int32} {N2 : Nat → Nat} {E2 : Nat → Nat → Int32} {P2 : Nat → Int32} {L2 : Nat → Nat} {S2 : Nat → Nat → Int32} {W2 : Nat → Nat} {X2 : Nat → Nat → Int32} {ss : Nat → Int32} {im : Nat → Int32} {kq : Nat → Int32} {f : Nat → va_E} {H : Heap} {locs : List Loc} {ls : Array Slot} (hcJ : cJ G g f np dp nf df nr dr nt ct pay fine kf na da TL TG LL LG N1 E1 P1 L1 S1 W1 X1 N2 E2 P2 L2 S2 W2 X2) (hmJ : mJ G g f ss im kq) (hrel : relF np dp nf df nr dr nt ct pay fine kf na da TL TG LL LG N1 E1 P1 L1 S1 W1 X1 N2 E2 P2 L2 S2 W2 X2 ss im kq) (hP : va_P G.1 vwCl (wl g f) H) (hS : va_S (fun q : Nat => s.heap.size ≤ q) s.heap H locs) (hl : lv_has ls 4 [(0, .ref b), (1, .ref (g 0)), (2, .ref (g 315)), (3, .int (nI i))]) (IH : ∀ (np : Nat) (dp : Nat → Int32) (nf : Nat) (df : Nat → Int32) (nr : Nat) (dr : Nat → Int32) (nt : Nat) (ct : Nat → Int32) (pay : Int32) (fine : Int32) (kf : Nat → Int32) (na : Nat) (da : Nat → Int32) (TL : Nat → Nat) (TG : Nat → Nat → Int32) (LL : Nat → Nat) (LG : Nat → Nat → Int32) (N1 : Nat → Nat) (E1 : Nat → Nat → Int32) (P1 : Nat → Int32) (L1 : Nat → Nat) (S1 : Nat → Nat → Int32) (W1 : Nat → Nat) (X1 : Nat → Nat → Int32) (N2 : Nat → Nat) (E2 : Nat → Nat → Int32) (P2 : Nat → Int32) (L2 : Nat → Nat) (S2 : Nat → Nat → Int32) (W2 : Nat → Nat) (X2 : Nat → Nat → Int32) (ss : Nat → Int32) (im : Nat → Int32) (kq : Nat → Int32) (f : Nat → va_E) (H : Heap) (locs : List Loc) (ls : Array Slot), cJ G g f np dp nf df nr dr nt ct pay fine kf na da TL TG LL LG N1 E1 P1 L1 S1 W1 X1 N2 E2 P2 L2 S2 W2 X2 → mJ G g f ss im kq → relF np dp nf df nr dr nt ct pay fine kf na da TL TG LL LG N1 E1 P1 L1 S1 W1 X1 N2 E2 P2 L2 S2 W2 X2 ss im kq → va_P G.1 vwCl (wl g f) H → va_S (fun q : Nat => s.heap.size ≤ q) s.heap H locs → lv_has ls 4 [(0, .ref b), (1, .ref (g 0)), (2, .ref (g 315)), (3, .int (nI i))] → W p l e room_1 s m #[Value.ref b] below meth c H locs 333 19609 (lw_Z below #[Value.ref b] s) (F0 m 1373 ls [])) : W p l e room_1 s m #[Value.ref b] below meth c H locs 333 19609 (lw_Z below #[Value.ref b] s) (F0 m 1360 ls []) := by
  obtain ⟨hx, hb, hr, hml, hown, hts0, hX, hbl, hlocks, hgv⟩ := id C0
  have hts : ∀ w ∈ TT, w.before #[Value.ref b] s = true := fun w h => hts0 w (List.mem_filter.mp h).1
  have hbA : ¬ (fun q : Nat => s.heap.size ≤ q) b := Nat.not_le.mpr hbl
  refine lv_aload_n hx hb dL_law_1360 rfl (lv_at hl 1 rfl) ?_
  have hTr := hrel.1.tc
  have hx0 := cJ_0 hcJ
  refine bL_calll hsub (va_runV (As := []) (rest := []) ⟨hx, hb, hml, hown, hts⟩ (j_digest l G g hg f np dp nf df nr dr nt ct pay fine kf na da TL TG LL LG N1 E1 P1 L1 S1 W1 X1 N2 E2 P2 L2 S2 W2 X2  (by first | assumption | omega | decide) (by first | assumption | omega | decide)) (my_cwV hts ok_X10_digest w_943 rfl rfl ⟨Nat.le_of_ble_eq_true rfl, Nat.le_of_ble_eq_true rfl⟩) ⟨bP.blind, va_recv hG.1 hP (ci := 9) (q0 := 0) rfl (wl_at (by decide) hx0), fun U hU hW => ⟨rfl, by rw [hU]; exact hP, kG.warm hW hG⟩⟩ rfl rfl hl.1 rfl (lv_room (Nat.le_of_ble_eq_true rfl)) dL_law_1361 ⟨Nat.le_of_ble_eq_true rfl, Nat.le_of_ble_eq_true rfl⟩) hS (fun v1 f_1 H locs hq9 hP hS => ?_)
  obtain ⟨hx_1_0, o_1⟩ := hq9
  have hcJ := hx_1_0
  have hmJ := mJ_fr hmJ o_1
  refine lv_pop2_2 hx hb dL_law_1364 rfl ?_
  refine lv_aload_n hx hb dL_law_1365 rfl (lv_at hl 2 rfl) ?_
  have htA := rcF_trOK hrel.1 hrel.1.tc
  obtain ⟨fs9, hmo⟩ := mJ_0 hmJ
  refine bL_calll hsub (va_runV (As := []) (rest := []) ⟨hx, hb, hml, hown, hts⟩ (j2_digest l G g hg f_1 ss im kq  (by first | assumption | omega | decide) (by first | assumption | omega | decide)) (my_cwV hts ok_X11_digest w_971 rfl rfl ⟨Nat.le_of_ble_eq_true rfl, Nat.le_of_ble_eq_true rfl⟩) ⟨bP.blind, va_recv hG.1 hP (ci := 10) (q0 := 315) rfl (wl_at (by decide) hmo), fun U hU hW => ⟨rfl, by rw [hU]; exact hP, kG.warm hW hG⟩⟩ rfl rfl hl.1 rfl (lv_room (Nat.le_of_ble_eq_true rfl)) dL_law_1366 ⟨Nat.le_of_ble_eq_true rfl, Nat.le_of_ble_eq_true rfl⟩) hS (fun v2 f_2 H locs hq9 hP hS => ?_)
  obtain ⟨hx_2_0, o_2⟩ := hq9
  have hmJ := hx_2_0
  have hcJ := cJ_fr hcJ o_2
  refine lv_pop2_2 hx hb dL_law_1369 rfl ?_
  refine lv_goto (tgt := 1373) hx hb dL_law_1370 (by decide) ?_
  exact IH np dp nf df nr dr nt ct pay fine kf na da TL TG LL LG N1 E1 P1 L1 S1 W1 X1 N2 E2 P2 L2 S2 W2 X2 ss im kq _ _ _ _ hcJ hmJ hrel hP hS (lv_sub hl [0, 1, 2, 3] rfl)


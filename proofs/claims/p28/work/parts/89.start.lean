set_option maxHeartbeats 4000000 in
set_option maxRecDepth 100000 in
theorem law_loopJ {p : Program} {e : Env} {s : State} {m : MethodId} {below : List Frame} {meth : Method} {c : Code} (l : Launch) {b L : Nat} {xs : Nat → Int32} (G : gW) (hL : L ≤ 5120) (C0 : lw_At p s m meth c b L xs) (hG : kG G s) {g : Nat → Nat} (hg : gOK g) (hsub : ∀ q, gA g q → (fun q : Nat => s.heap.size ≤ q) q) : ∀ (n i : Nat) (np : Nat) (dp : Nat → Int32) (nf : Nat) (df : Nat → Int32) (nr : Nat) (dr : Nat → Int32) (nt : Nat) (ct : Nat → Int32) (pay : Int32) (fine : Int32) (kf : Nat → Int32) (na : Nat) (da : Nat → Int32) (TL : Nat → Nat) (TG : Nat → Nat → Int32) (LL : Nat → Nat) (LG : Nat → Nat → Int32) (N1 : Nat → Nat) (E1 : Nat → Nat → Int32) (P1 : Nat → Int32) (L1 : Nat → Nat) (S1 : Nat → Nat → Int32) (W1 : Nat → Nat) (X1 : Nat → Nat → Int32) (N2 : Nat → Nat) (E2 : Nat → Nat → Int32) (P2 : Nat → Int32) (L2 : Nat → Nat) (S2 : Nat → Nat → Int32) (W2 : Nat → Nat) (X2 : Nat → Nat → Int32) (ss : Nat → Int32) (im : Nat → Int32) (kq : Nat → Int32) (f : Nat → va_E) (H : Heap) (locs : List Loc) (ls : Array Slot), i ≤ L → L - i < n → cJ G g f np dp nf df nr dr nt ct pay fine kf na da TL TG LL LG N1 E1 P1 L1 S1 W1 X1 N2 E2 P2 L2 S2 W2 X2 → mJ G g f ss im kq → relF np dp nf df nr dr nt ct pay fine kf na da TL TG LL LG N1 E1 P1 L1 S1 W1 X1 N2 E2 P2 L2 S2 W2 X2 ss im kq → va_P G.1 vwCl (wl g f) H → va_S (fun q : Nat => s.heap.size ≤ q) s.heap H locs → lv_has ls 4 [(0, .ref b), (1, .ref (g 0)), (2, .ref (g 315)), (3, .int (nI i))] → W p l e room_1 s m #[Value.ref b] below meth c H locs 333 19609 (lw_Z below #[Value.ref b] s) (F0 m 18 ls []) := by
  obtain ⟨hx, hb, hr, hml, hown, hts0, hX, hbl, hlocks, hgv⟩ := id C0
  have hts : ∀ w ∈ TT, w.before #[Value.ref b] s = true := fun w h => hts0 w (List.mem_filter.mp h).1
  have hbA : ¬ (fun q : Nat => s.heap.size ≤ q) b := Nat.not_le.mpr hbl
  intro n
  induction n with
  | zero => intro i np dp nf df nr dr nt ct pay fine kf na da TL TG LL LG N1 E1 P1 L1 S1 W1 X1 N2 E2 P2 L2 S2 W2 X2 ss im kq f H locs ls _ hn; exact absurd hn (Nat.not_lt_zero _)
  | succ n ih =>
    intro i np dp nf df nr dr nt ct pay fine kf na da TL TG LL LG N1 E1 P1 L1 S1 W1 X1 N2 E2 P2 L2 S2 W2 X2 ss im kq f H locs ls hiL hn hcI hmI hrel hP hS hl
    refine lv_iload_n hx hb dL_law_18 rfl (lv_at hl 3 rfl) ?_
    refine lv_aload_n hx hb dL_law_19 rfl (lv_at hl 0 rfl) ?_
    refine va_slen hx hb hX hbl hbA hS dL_law_20 ?_
    refine lv_bipush (v := 10) hx hb dL_law_21 (by decide) ?_
    refine lv_isub hx hb dL_law_23 ?_
    refine lv_icmp_gt (tgt := 1379) hx hb dL_law_24 (by decide) (fun c_24 => ?_) (fun c_24 => ?_)
    · refine lv_iconst (v := 1) hx hb dL_law_1379 (by decide) ?_
      refine W.widen (k := 600000) (n := 7302249) (Nat.le_of_ble_eq_true rfl) (Nat.le_of_ble_eq_true rfl) ?_
      refine va_forget hS.2.2 ?_
      exact lw_ret hx hb hr hlocks dL_law_1380
    · have hi10 : i + 10 ≤ L := by
        have h1 := Int32.le_iff_toInt_le.mp (Int32.not_lt.mp c_24)
        have h2 : (nI L - nI 10).toInt = (L : Int) - (10 : Nat) := pk_sub_toInt (by omega) (by decide)
        have h3 : (nI i).toInt = i := nI_toInt (by omega)
        have h4 : (nI i).toInt ≤ (nI L - nI 10).toInt := h1
        omega
      have IH : ∀ (np : Nat) (dp : Nat → Int32) (nf : Nat) (df : Nat → Int32) (nr : Nat) (dr : Nat → Int32) (nt : Nat) (ct : Nat → Int32) (pay : Int32) (fine : Int32) (kf : Nat → Int32) (na : Nat) (da : Nat → Int32) (TL : Nat → Nat) (TG : Nat → Nat → Int32) (LL : Nat → Nat) (LG : Nat → Nat → Int32) (N1 : Nat → Nat) (E1 : Nat → Nat → Int32) (P1 : Nat → Int32) (L1 : Nat → Nat) (S1 : Nat → Nat → Int32) (W1 : Nat → Nat) (X1 : Nat → Nat → Int32) (N2 : Nat → Nat) (E2 : Nat → Nat → Int32) (P2 : Nat → Int32) (L2 : Nat → Nat) (S2 : Nat → Nat → Int32) (W2 : Nat → Nat) (X2 : Nat → Nat → Int32) (ss : Nat → Int32) (im : Nat → Int32) (kq : Nat → Int32) (f : Nat → va_E) (H : Heap) (locs : List Loc) (ls : Array Slot), cJ G g f np dp nf df nr dr nt ct pay fine kf na da TL TG LL LG N1 E1 P1 L1 S1 W1 X1 N2 E2 P2 L2 S2 W2 X2 → mJ G g f ss im kq → relF np dp nf df nr dr nt ct pay fine kf na da TL TG LL LG N1 E1 P1 L1 S1 W1 X1 N2 E2 P2 L2 S2 W2 X2 ss im kq → va_P G.1 vwCl (wl g f) H → va_S (fun q : Nat => s.heap.size ≤ q) s.heap H locs → lv_has ls 4 [(0, .ref b), (1, .ref (g 0)), (2, .ref (g 315)), (3, .int (nI i))] → W p l e room_1 s m #[Value.ref b] below meth c H locs 333 19609 (lw_Z below #[Value.ref b] s) (F0 m 1373 ls []) := by
        intro np dp nf df nr dr nt ct pay fine kf na da TL TG LL LG N1 E1 P1 L1 S1 W1 X1 N2 E2 P2 L2 S2 W2 X2 ss im kq f H locs ls hcI hmI hrel hP hS hl
        refine lv_iinc (v := nI (i + 10)) (lv' := [(3, .int (nI (i + 10))), (0, .ref b), (1, .ref (g 0)), (2, .ref (g 315))]) hx hb dL_law_1373 hl (k := 3) rfl (nI_add i 10) (by decide) rfl (fun ls hl => ?_)
        refine lv_goto (tgt := 18) hx hb dL_law_1376 (by decide) ?_
        exact ih (i + 10) np dp nf df nr dr nt ct pay fine kf na da TL TG LL LG N1 E1 P1 L1 S1 W1 X1 N2 E2 P2 L2 S2 W2 X2 ss im kq f H locs ls (by omega) (by omega) hcI hmI hrel hP hS (lv_sub hl [1, 2, 3, 0] rfl)
      refine lv_aload_n hx hb dL_law_27 rfl (lv_at hl 0 rfl) ?_
      refine lv_iload_n hx hb dL_law_28 rfl (lv_at hl 3 rfl) ?_
      refine va_sld hx hb hX hbl hbA hS (vp_in_nI (by omega) (by omega)) dL_law_29 ?_
      refine lv_bipush (v := 63) hx hb dL_law_30 (by decide) ?_
      refine lv_iand hx hb dL_law_32 ?_
      obtain ⟨j, hj, ej⟩ := pk_andE (xs (Int32.toNatClampNeg (nI i))) (m := 63) 6 (by decide)
      refine my_bei ej ?_
      clear ej
      rcases Nat.lt_or_ge j 33 with h33 | h33
      · rcases (show j = 0 ∨ j = 1 ∨ j = 2 ∨ j = 3 ∨ j = 4 ∨ j = 5 ∨ j = 6 ∨ j = 7 ∨ j = 8 ∨ j = 9 ∨ j = 10 ∨ j = 11 ∨ j = 12 ∨ j = 13 ∨ j = 14 ∨ j = 15 ∨ j = 16 ∨ j = 17 ∨ j = 18 ∨ j = 19 ∨ j = 20 ∨ j = 21 ∨ j = 22 ∨ j = 23 ∨ j = 24 ∨ j = 25 ∨ j = 26 ∨ j = 27 ∨ j = 28 ∨ j = 29 ∨ j = 30 ∨ j = 31 ∨ j = 32 by omega) with h9 | h9 | h9 | h9 | h9 | h9 | h9 | h9 | h9 | h9 | h9 | h9 | h9 | h9 | h9 | h9 | h9 | h9 | h9 | h9 | h9 | h9 | h9 | h9 | h9 | h9 | h9 | h9 | h9 | h9 | h9 | h9 | h9
        · subst h9
          refine lv_tableIn (off := 147) (tgt := 180) hx hb dL_law_33 (by decide) (by decide) (by decide) (by decide) ?_
          exact lawJ_0 l G hL C0 hG hg hsub hi10 hcI hmI hrel hP hS hl IH
        · subst h9
          refine lv_tableIn (off := 200) (tgt := 233) hx hb dL_law_33 (by decide) (by decide) (by decide) (by decide) ?_
          exact lawJ_1 l G hL C0 hG hg hsub hi10 hcI hmI hrel hP hS hl IH
        · subst h9
          refine lv_tableIn (off := 243) (tgt := 276) hx hb dL_law_33 (by decide) (by decide) (by decide) (by decide) ?_
          exact lawJ_2 l G hL C0 hG hg hsub hi10 hcI hmI hrel hP hS hl IH
        · subst h9
          refine lv_tableIn (off := 286) (tgt := 319) hx hb dL_law_33 (by decide) (by decide) (by decide) (by decide) ?_
          exact lawJ_3 l G hL C0 hG hg hsub hi10 hcI hmI hrel hP hS hl IH
        · subst h9
          refine lv_tableIn (off := 309) (tgt := 342) hx hb dL_law_33 (by decide) (by decide) (by decide) (by decide) ?_
          exact lawJ_4 l G hL C0 hG hg hsub hi10 hcI hmI hrel hP hS hl IH
        · subst h9
          refine lv_tableIn (off := 342) (tgt := 375) hx hb dL_law_33 (by decide) (by decide) (by decide) (by decide) ?_
          exact lawJ_5 l G hL C0 hG hg hsub hi10 hcI hmI hrel hP hS hl IH
        · subst h9
          refine lv_tableIn (off := 365) (tgt := 398) hx hb dL_law_33 (by decide) (by decide) (by decide) (by decide) ?_
          exact lawJ_6 l G hL C0 hG hg hsub hi10 hcI hmI hrel hP hS hl IH
        · subst h9
          refine lv_tableIn (off := 388) (tgt := 421) hx hb dL_law_33 (by decide) (by decide) (by decide) (by decide) ?_
          exact lawJ_7 l G hL C0 hG hg hsub hi10 hcI hmI hrel hP hS hl IH
        · subst h9
          refine lv_tableIn (off := 431) (tgt := 464) hx hb dL_law_33 (by decide) (by decide) (by decide) (by decide) ?_
          exact lawJ_8 l G hL C0 hG hg hsub hi10 hcI hmI hrel hP hS hl IH
        · subst h9
          refine lv_tableIn (off := 474) (tgt := 507) hx hb dL_law_33 (by decide) (by decide) (by decide) (by decide) ?_
          exact lawJ_9 l G hL C0 hG hg hsub hi10 hcI hmI hrel hP hS hl IH
        · subst h9
          refine lv_tableIn (off := 507) (tgt := 540) hx hb dL_law_33 (by decide) (by decide) (by decide) (by decide) ?_
          exact lawJ_10 l G hL C0 hG hg hsub hi10 hcI hmI hrel hP hS hl IH
        · subst h9
          refine lv_tableIn (off := 540) (tgt := 573) hx hb dL_law_33 (by decide) (by decide) (by decide) (by decide) ?_
          exact lawJ_11 l G hL C0 hG hg hsub hi10 hcI hmI hrel hP hS hl IH
        · subst h9
          refine lv_tableIn (off := 583) (tgt := 616) hx hb dL_law_33 (by decide) (by decide) (by decide) (by decide) ?_
          exact lawJ_12 l G hL C0 hG hg hsub hi10 hcI hmI hrel hP hS hl IH
        · subst h9
          refine lv_tableIn (off := 694) (tgt := 727) hx hb dL_law_33 (by decide) (by decide) (by decide) (by decide) ?_
          exact lawJ_13 l G hL C0 hG hg hsub hi10 hcI hmI hrel hP hS hl IH
        · subst h9
          refine lv_tableIn (off := 753) (tgt := 786) hx hb dL_law_33 (by decide) (by decide) (by decide) (by decide) ?_
          exact lawJ_14 l G hL C0 hG hg hsub hi10 hcI hmI hrel hP hS hl IH
        · subst h9
          refine lv_tableIn (off := 806) (tgt := 839) hx hb dL_law_33 (by decide) (by decide) (by decide) (by decide) ?_
          exact lawJ_15 l G hL C0 hG hg hsub hi10 hcI hmI hrel hP hS hl IH
        · subst h9
          refine lv_tableIn (off := 829) (tgt := 862) hx hb dL_law_33 (by decide) (by decide) (by decide) (by decide) ?_
          exact lawJ_16 l G hL C0 hG hg hsub hi10 hcI hmI hrel hP hS hl IH
        · subst h9
          refine lv_tableIn (off := 862) (tgt := 895) hx hb dL_law_33 (by decide) (by decide) (by decide) (by decide) ?_
          exact lawJ_17 l G hL C0 hG hg hsub hi10 hcI hmI hrel hP hS hl IH
        · subst h9
          refine lv_tableIn (off := 895) (tgt := 928) hx hb dL_law_33 (by decide) (by decide) (by decide) (by decide) ?_
          exact lawJ_18 l G hL C0 hG hg hsub hi10 hcI hmI hrel hP hS hl IH
        · subst h9
          refine lv_tableIn (off := 918) (tgt := 951) hx hb dL_law_33 (by decide) (by decide) (by decide) (by decide) ?_
          exact lawJ_19 l G hL C0 hG hg hsub hi10 hcI hmI hrel hP hS hl IH
        · subst h9
          refine lv_tableIn (off := 951) (tgt := 984) hx hb dL_law_33 (by decide) (by decide) (by decide) (by decide) ?_
          exact lawJ_20 l G hL C0 hG hg hsub hi10 hcI hmI hrel hP hS hl IH
        · subst h9
          refine lv_tableIn (off := 974) (tgt := 1007) hx hb dL_law_33 (by decide) (by decide) (by decide) (by decide) ?_
          exact lawJ_21 l G hL C0 hG hg hsub hi10 hcI hmI hrel hP hS hl IH
        · subst h9
          refine lv_tableIn (off := 1007) (tgt := 1040) hx hb dL_law_33 (by decide) (by decide) (by decide) (by decide) ?_
          exact lawJ_22 l G hL C0 hG hg hsub hi10 hcI hmI hrel hP hS hl IH
        · subst h9
          refine lv_tableIn (off := 1040) (tgt := 1073) hx hb dL_law_33 (by decide) (by decide) (by decide) (by decide) ?_
          exact lawJ_23 l G hL C0 hG hg hsub hi10 hcI hmI hrel hP hS hl IH
        · subst h9
          refine lv_tableIn (off := 1093) (tgt := 1126) hx hb dL_law_33 (by decide) (by decide) (by decide) (by decide) ?_
          exact lawJ_24 l G hL C0 hG hg hsub hi10 hcI hmI hrel hP hS hl IH
        · subst h9
          refine lv_tableIn (off := 1126) (tgt := 1159) hx hb dL_law_33 (by decide) (by decide) (by decide) (by decide) ?_
          exact lawJ_25 l G hL C0 hG hg hsub hi10 hcI hmI hrel hP hS hl IH
        · subst h9
          refine lv_tableIn (off := 1149) (tgt := 1182) hx hb dL_law_33 (by decide) (by decide) (by decide) (by decide) ?_
          exact lawJ_26 l G hL C0 hG hg hsub hi10 hcI hmI hrel hP hS hl IH
        · subst h9
          refine lv_tableIn (off := 1192) (tgt := 1225) hx hb dL_law_33 (by decide) (by decide) (by decide) (by decide) ?_
          exact lawJ_27 l G hL C0 hG hg hsub hi10 hcI hmI hrel hP hS hl IH
        · subst h9
          refine lv_tableIn (off := 1225) (tgt := 1258) hx hb dL_law_33 (by decide) (by decide) (by decide) (by decide) ?_
          exact lawJ_28 l G hL C0 hG hg hsub hi10 hcI hmI hrel hP hS hl IH
        · subst h9
          refine lv_tableIn (off := 1258) (tgt := 1291) hx hb dL_law_33 (by decide) (by decide) (by decide) (by decide) ?_
          exact lawJ_29 l G hL C0 hG hg hsub hi10 hcI hmI hrel hP hS hl IH
        · subst h9
          refine lv_tableIn (off := 1281) (tgt := 1314) hx hb dL_law_33 (by decide) (by decide) (by decide) (by decide) ?_
          exact lawJ_30 l G hL C0 hG hg hsub hi10 hcI hmI hrel hP hS hl IH
        · subst h9
          refine lv_tableIn (off := 1304) (tgt := 1337) hx hb dL_law_33 (by decide) (by decide) (by decide) (by decide) ?_
          exact lawJ_31 l G hL C0 hG hg hsub hi10 hcI hmI hrel hP hS hl IH
        · subst h9
          refine lv_tableIn (off := 1327) (tgt := 1360) hx hb dL_law_33 (by decide) (by decide) (by decide) (by decide) ?_
          exact lawJ_32 l G hL C0 hG hg hsub hi10 hcI hmI hrel hP hS hl IH
      · refine lv_tableOut (tgt := 1373) hx hb dL_law_33 (Or.inr (by rw [nI_toInt (by omega)]; omega)) (by decide) ?_
        exact IH np dp nf df nr dr nt ct pay fine kf na da TL TG LL LG N1 E1 P1 L1 S1 W1 X1 N2 E2 P2 L2 S2 W2 X2 ss im kq _ _ _ _ hcI hmI hrel hP hS hl
set_option maxHeartbeats 4000000 in
set_option maxRecDepth 100000 in
theorem whole_start {p : Program} {e : Env} {s : State} {m : MethodId} {below : List Frame} {meth : Method} {c : Code} (l : Launch) {b L : Nat} {xs : Nat → Int32} (hL : L ≤ 5120) (C0 : lw_At p s m meth c b L xs) : W p l e room_1 s m #[Value.ref b] below meth c s.heap [] 0 0 (lw_Z below #[Value.ref b] s) (entryFrame m ([Value.ref b] : List Value).toArray 4) := by
  obtain ⟨hx, hb, hr, hml, hown, hts0, hX, hbl, hlocks, hgv⟩ := id C0
  have hts : ∀ w ∈ TT, w.before #[Value.ref b] s = true := fun w h => hts0 w (List.mem_filter.mp h).1
  obtain ⟨G, hG⟩ := kG_start hts0
  generalize hAe : (fun q : Nat => s.heap.size ≤ q) = A
  have hA : ∀ q : Nat, s.heap.size ≤ q → A q := fun q h => by rw [← hAe]; exact h
  have hS : va_S A s.heap s.heap [] := va_S.rf
  obtain ⟨k, hk0⟩ : ∃ k : Nat, k = 0 := ⟨0, rfl⟩
  obtain ⟨g, f, hP, hD⟩ : ∃ (g : Nat → Nat) (f : Nat → va_E), va_P G.1 vwCl (wn k g f) s.heap ∧ va_D A (wn k g f) := by
    rw [hk0]
    exact ⟨fun _ => 0, fun _ => eI G 0 (fun _ => 0), my_P0, my_D0⟩
  have hl := lv_entry ([.ref b]) (n := 4) (Nat.le_of_ble_eq_true rfl)
  rw [lg_entry_eq]
  generalize (lg_sl ([.ref b]) ++ List.replicate (4 - (lg_sl ([.ref b])).length) Slot.unset).toArray = ls at hl ⊢
  have hl : lv_has ls 4 [(0, .ref b)] := hl
  refine va_new (ci := 9) (fs := [.null, .null, .null, .null, .null, .null, .null]) (C := RX10) (T := TX10) (N := 7) hx hb hts inlX10 tyX10 tyX10_ok hown (hts (.classLink RL 7 RX10) w_0) (hts (.instantiable RX10 7) w_1) (hts (.initialized RX10) w_2) hG.1 hP hD hS hA rfl (fun j hj => by rcases (show j = 0 ∨ j = 1 ∨ j = 2 ∨ j = 3 ∨ j = 4 ∨ j = 5 ∨ j = 6 by omega) with rfl | rfl | rfl | rfl | rfl | rfl | rfl <;> rfl) (Nat.le_of_ble_eq_true rfl) (Nat.le_of_ble_eq_true rfl) dL_law_0 (fun q1 H hP hD hS => ?_)
  obtain ⟨g_1, f_1, hP, hD, hg_1, hf_1, og_1, of_1⟩ := n_ext hP hD
  have hf_1 : f_1 k = eO 9 [.null, .null, .null, .null, .null, .null, .null] := hf_1
  have hg_1 : gq (g_1 k) q1 := hg_1
  have hP : va_P G.1 vwCl (wn (k + 1) g_1 f_1) H := hP
  have hD : va_D A (wn (k + 1) g_1 f_1) := hD
  refine W.widen (k := 1) (n := 7) (by omega) (by omega) ?_
  refine lv_dup hx hb dL_law_3 rfl ?_
  refine n_call (va_runI (As := []) (rest := [.ref q1]) ⟨hx, hb, hml, hown, hts⟩ (i_sworn l G g_1 f_1 H.size k q1 hg_1 hf_1) (my_cwI hts ok_X10_init w_6 rfl rfl rfl ⟨Nat.le_of_ble_eq_true rfl, Nat.le_of_ble_eq_true rfl⟩) ⟨nP.blind, fun U hU hW => ⟨rfl, by rw [hU], by rw [hU]; exact hP, kG.warm hW hG, hD.weaken (fun _ _ _ _ => trivial)⟩⟩ rfl rfl hl.1 rfl (lv_room (Nat.le_of_ble_eq_true rfl)) dL_law_4 ⟨Nat.le_of_ble_eq_true rfl, Nat.le_of_ble_eq_true rfl⟩) hD hS hA (fun g_2 f_2 H locs og_2 hq9 hP hD hS => ?_)
  obtain ⟨hx_2_0, of_2⟩ := hq9
  have pk_2_0 : nX G g_2 f_2 k := hx_2_0
  have hP : va_P G.1 vwCl (wn (k + 315) g_2 f_2) H := hP
  have hD : va_D A (wn (k + 315) g_2 f_2) := hD
  refine W.widen (k := 315) (n := 11845) (by omega) (by omega) ?_
  refine lv_astore_n (lv' := [(1, .ref q1), (0, .ref b)]) hx hb dL_law_7 rfl hl (by decide) rfl (fun ls hl => ?_)
  refine va_new (ci := 10) (fs := [.null, .null, .null, .long 0, .long 0, .int 0, .null, .null, .int 0, .null, .null, .int 0, .int 0, .int 0, .int 0, .null, .null, .null, .null, .null, .null, .null, .null, .null, .null]) (C := RX11) (T := TX11) (N := 25) hx hb hts inlX11 tyX11 tyX11_ok hown (hts (.classLink RL 10 RX11) w_3) (hts (.instantiable RX11 25) w_4) (hts (.initialized RX11) w_5) hG.1 hP hD hS hA rfl (fun j hj => by rcases (show j = 0 ∨ j = 1 ∨ j = 2 ∨ j = 3 ∨ j = 4 ∨ j = 5 ∨ j = 6 ∨ j = 7 ∨ j = 8 ∨ j = 9 ∨ j = 10 ∨ j = 11 ∨ j = 12 ∨ j = 13 ∨ j = 14 ∨ j = 15 ∨ j = 16 ∨ j = 17 ∨ j = 18 ∨ j = 19 ∨ j = 20 ∨ j = 21 ∨ j = 22 ∨ j = 23 ∨ j = 24 by omega) with rfl | rfl | rfl | rfl | rfl | rfl | rfl | rfl | rfl | rfl | rfl | rfl | rfl | rfl | rfl | rfl | rfl | rfl | rfl | rfl | rfl | rfl | rfl | rfl | rfl <;> rfl) (Nat.le_of_ble_eq_true rfl) (Nat.le_of_ble_eq_true rfl) dL_law_8 (fun q2 H hP hD hS => ?_)
  obtain ⟨g_3, f_3, hP, hD, hg_3, hf_3, og_3, of_3⟩ := n_ext hP hD
  have hf_3 : f_3 (k + 315) = eO 10 [.null, .null, .null, .long 0, .long 0, .int 0, .null, .null, .int 0, .null, .null, .int 0, .int 0, .int 0, .int 0, .null, .null, .null, .null, .null, .null, .null, .null, .null, .null] := hf_3
  have hg_3 : gq (g_3 (k + 315)) q2 := hg_3
  have hP : va_P G.1 vwCl (wn (k + 316) g_3 f_3) H := hP
  have hD : va_D A (wn (k + 316) g_3 f_3) := hD
  refine W.widen (k := 316) (n := 11870) (by omega) (by omega) ?_
  refine lv_dup hx hb dL_law_11 rfl ?_
  refine n_call (va_runI (As := []) (rest := [.ref q2]) ⟨hx, hb, hml, hown, hts⟩ (i_model l G g_3 f_3 H.size (k + 315) q2 hg_3 hf_3) (my_cwI hts ok_X11_init w_108 rfl rfl rfl ⟨Nat.le_of_ble_eq_true rfl, Nat.le_of_ble_eq_true rfl⟩) ⟨nP.blind, fun U hU hW => ⟨rfl, by rw [hU], by rw [hU]; exact hP, kG.warm hW hG, hD.weaken (fun _ _ _ _ => trivial)⟩⟩ rfl rfl hl.1 rfl (lv_room (Nat.le_of_ble_eq_true rfl)) dL_law_12 ⟨Nat.le_of_ble_eq_true rfl, Nat.le_of_ble_eq_true rfl⟩) hD hS hA (fun g_4 f_4 H locs og_4 hq9 hP hD hS => ?_)
  obtain ⟨hq_4_0, hq_4_1, hq_4_2, hq_4_3, hq_4_4, hq_4_5, hq_4_6, hq_4_7, hq_4_8, hq_4_9, hq_4_10, hq_4_11, hq_4_12, hq_4_13, hq_4_14, hq_4_15, hq_4_16, hq_4_17, of_4⟩ := hq9
  have hfq_4_0 : f_4 (k + 315) = eO 10 [.ref (g_4 (k + 316)), .ref (g_4 (k + 317)), .ref (g_4 (k + 318)), .long 0, .long 1, .int 0, .ref (g_4 (k + 319)), .ref (g_4 (k + 320)), .int 0, .ref (g_4 (k + 321)), .ref (g_4 (k + 322)), .int 0, .int 0, .int 0, .int 0, .ref (g_4 (k + 323)), .ref (g_4 (k + 324)), .ref (g_4 (k + 325)), .ref (g_4 (k + 326)), .ref (g_4 (k + 327)), .ref (g_4 (k + 328)), .ref (g_4 (k + 329)), .ref (g_4 (k + 330)), .ref (g_4 (k + 331)), .ref (g_4 (k + 332))] := hq_4_0
  have hgq_4_1 : gq (g_4 (k + 316)) (g_4 (k + 316)) := rfl
  have hfq_4_1 : f_4 (k + 316) = eI G 2246 (upd (upd (fun _ => 0) (Int32.toNatClampNeg 5) 5) (Int32.toNatClampNeg 6) 20) := hq_4_1
  have hgq_4_2 : gq (g_4 (k + 317)) (g_4 (k + 317)) := rfl
  have hfq_4_2 : f_4 (k + 317) = eI G 4492 (fun _ => 0) := hq_4_2
  have hgq_4_3 : gq (g_4 (k + 318)) (g_4 (k + 318)) := rfl
  have hfq_4_3 : f_4 (k + 318) = eZ G 2 (fun _ => 0) := hq_4_3
  have hgq_4_4 : gq (g_4 (k + 319)) (g_4 (k + 319)) := rfl
  have hfq_4_4 : f_4 (k + 319) = eI G 70 (fun _ => 0) := hq_4_4
  have hgq_4_5 : gq (g_4 (k + 320)) (g_4 (k + 320)) := rfl
  have hfq_4_5 : f_4 (k + 320) = eI G 70 (fun _ => 0) := hq_4_5
  have hgq_4_6 : gq (g_4 (k + 321)) (g_4 (k + 321)) := rfl
  have hfq_4_6 : f_4 (k + 321) = eI G 70 (fun _ => 0) := hq_4_6
  have hgq_4_7 : gq (g_4 (k + 322)) (g_4 (k + 322)) := rfl
  have hfq_4_7 : f_4 (k + 322) = eJ G 70 (fun _ => 0) := hq_4_7
  have hgq_4_8 : gq (g_4 (k + 323)) (g_4 (k + 323)) := rfl
  have hfq_4_8 : f_4 (k + 323) = eI G 11 (fun _ => 0) := hq_4_8
  have hgq_4_9 : gq (g_4 (k + 324)) (g_4 (k + 324)) := rfl
  have hfq_4_9 : f_4 (k + 324) = eI G 11 (fun _ => 0) := hq_4_9
  have hgq_4_10 : gq (g_4 (k + 325)) (g_4 (k + 325)) := rfl
  have hfq_4_10 : f_4 (k + 325) = eI G 264 (fun _ => 0) := hq_4_10
  have hgq_4_11 : gq (g_4 (k + 326)) (g_4 (k + 326)) := rfl
  have hfq_4_11 : f_4 (k + 326) = eI G 11 (fun _ => 0) := hq_4_11
  have hgq_4_12 : gq (g_4 (k + 327)) (g_4 (k + 327)) := rfl
  have hfq_4_12 : f_4 (k + 327) = eI G 330 (fun _ => 0) := hq_4_12
  have hgq_4_13 : gq (g_4 (k + 328)) (g_4 (k + 328)) := rfl
  have hfq_4_13 : f_4 (k + 328) = eI G 44 (fun _ => 0) := hq_4_13
  have hgq_4_14 : gq (g_4 (k + 329)) (g_4 (k + 329)) := rfl
  have hfq_4_14 : f_4 (k + 329) = eI G 30 (fun _ => 0) := hq_4_14
  have hgq_4_15 : gq (g_4 (k + 330)) (g_4 (k + 330)) := rfl
  have hfq_4_15 : f_4 (k + 330) = eI G 6 (fun _ => 0) := hq_4_15
  have hgq_4_16 : gq (g_4 (k + 331)) (g_4 (k + 331)) := rfl
  have hfq_4_16 : f_4 (k + 331) = eI G 6 (fun _ => 0) := hq_4_16
  have hgq_4_17 : gq (g_4 (k + 332)) (g_4 (k + 332)) := rfl
  have hfq_4_17 : f_4 (k + 332) = eI G 6 (fun _ => 0) := hq_4_17
  have hP : va_P G.1 vwCl (wn (k + 333) g_4 f_4) H := hP
  have hD : va_D A (wn (k + 333) g_4 f_4) := hD
  refine W.widen (k := 333) (n := 19609) (by omega) (by omega) ?_
  refine lv_astore_n (lv' := [(2, .ref q2), (1, .ref q1), (0, .ref b)]) hx hb dL_law_15 rfl hl (by decide) rfl (fun ls hl => ?_)
  refine lv_iconst (v := 0) hx hb dL_law_16 (by decide) ?_
  refine lv_istore_n (lv' := [(3, .int 0), (2, .ref q2), (1, .ref q1), (0, .ref b)]) hx hb dL_law_17 rfl hl (by decide) rfl (fun ls hl => ?_)
  have pk_2_0 : nX G g_3 f_3 k := nX_gf pk_2_0 (fun j hj => og_3 j (by omega)) (fun j h1 h2 => of_3 j (by omega))
  have pk_2_0 : nX G g_4 f_4 k := nX_gf pk_2_0 (fun j hj => og_4 j (by omega)) (fun j h1 h2 => of_4 j (by omega))
  have om_0 : f_4 (k + 315) = eO 10 [.ref (g_4 (k + 316)), .ref (g_4 (k + 317)), .ref (g_4 (k + 318)), .long 0, .long 1, .int 0, .ref (g_4 (k + 319)), .ref (g_4 (k + 320)), .int 0, .ref (g_4 (k + 321)), .ref (g_4 (k + 322)), .int 0, .int 0, .int 0, .int 0, .ref (g_4 (k + 323)), .ref (g_4 (k + 324)), .ref (g_4 (k + 325)), .ref (g_4 (k + 326)), .ref (g_4 (k + 327)), .ref (g_4 (k + 328)), .ref (g_4 (k + 329)), .ref (g_4 (k + 330)), .ref (g_4 (k + 331)), .ref (g_4 (k + 332))] := (by rw [show g_4 (k + 316) = g_4 (k + 316) from hgq_4_1, show g_4 (k + 317) = g_4 (k + 317) from hgq_4_2, show g_4 (k + 318) = g_4 (k + 318) from hgq_4_3, show g_4 (k + 319) = g_4 (k + 319) from hgq_4_4, show g_4 (k + 320) = g_4 (k + 320) from hgq_4_5, show g_4 (k + 321) = g_4 (k + 321) from hgq_4_6, show g_4 (k + 322) = g_4 (k + 322) from hgq_4_7, show g_4 (k + 323) = g_4 (k + 323) from hgq_4_8, show g_4 (k + 324) = g_4 (k + 324) from hgq_4_9, show g_4 (k + 325) = g_4 (k + 325) from hgq_4_10, show g_4 (k + 326) = g_4 (k + 326) from hgq_4_11, show g_4 (k + 327) = g_4 (k + 327) from hgq_4_12, show g_4 (k + 328) = g_4 (k + 328) from hgq_4_13, show g_4 (k + 329) = g_4 (k + 329) from hgq_4_14, show g_4 (k + 330) = g_4 (k + 330) from hgq_4_15, show g_4 (k + 331) = g_4 (k + 331) from hgq_4_16, show g_4 (k + 332) = g_4 (k + 332) from hgq_4_17]; exact hfq_4_0)
  have om_1 : f_4 (k + 316) = eI G 2246 (upd (upd (fun _ => 0) (Int32.toNatClampNeg 5) 5) (Int32.toNatClampNeg 6) 20) := hfq_4_1
  have om_2 : f_4 (k + 317) = eI G 4492 (fun _ => 0) := hfq_4_2
  have om_3 : f_4 (k + 318) = eZ G 2 (fun _ => 0) := hfq_4_3
  have om_4 : f_4 (k + 319) = eI G 70 (fun _ => 0) := hfq_4_4
  have om_5 : f_4 (k + 320) = eI G 70 (fun _ => 0) := hfq_4_5
  have om_6 : f_4 (k + 321) = eI G 70 (fun _ => 0) := hfq_4_6
  have om_7 : f_4 (k + 322) = eJ G 70 (fun _ => 0) := hfq_4_7
  have om_8 : f_4 (k + 323) = eI G 11 (fun _ => 0) := hfq_4_8
  have om_9 : f_4 (k + 324) = eI G 11 (fun _ => 0) := hfq_4_9
  have om_10 : f_4 (k + 325) = eI G 264 (fun _ => 0) := hfq_4_10
  have om_11 : f_4 (k + 326) = eI G 11 (fun _ => 0) := hfq_4_11
  have om_12 : f_4 (k + 327) = eI G 330 (fun _ => 0) := hfq_4_12
  have om_13 : f_4 (k + 328) = eI G 44 (fun _ => 0) := hfq_4_13
  have om_14 : f_4 (k + 329) = eI G 30 (fun _ => 0) := hfq_4_14
  have om_15 : f_4 (k + 330) = eI G 6 (fun _ => 0) := hfq_4_15
  have om_16 : f_4 (k + 331) = eI G 6 (fun _ => 0) := hfq_4_16
  have om_17 : f_4 (k + 332) = eI G 6 (fun _ => 0) := hfq_4_17
  have hg_1 : gq (g_4 k) q1 := gq.tr ((og_4 k (by omega)).trans ((og_3 k (by omega)).trans ((og_2 k (by omega))))) hg_1
  have hg_3 : gq (g_4 (k + 315)) q2 := gq.tr ((og_4 (k + 315) (by omega))) hg_3
  have hl := lv_sub hl [3, 2, 1, 0] rfl
  have hl : lv_has ls 4 [(0, .ref b), (1, .ref q1), (2, .ref q2), (3, .int 0)] := hl
  rw [← (show g_4 k = q1 from hg_1), ← (show g_4 (k + 315) = q2 from hg_3)] at hl
  subst hk0
  have hcI := cJ_start pk_2_0
  have hmI := mJ_start (g := g_4) (f := f_4) om_0 om_1 om_2 om_3 om_4 om_5 om_6 om_7 om_8 om_9 om_10 om_11 om_12 om_13 om_14 om_15 om_16 om_17
  have hP9 := wl_pi (g := g_4) (f := f_4) hP
  have hg9 := gOK_pi (g := g_4) (f := f_4) hD
  have hs9 := gA_pi (g := g_4) (f := f_4) hD
  subst hAe
  exact law_loopJ l G hL C0 hG hg9 hs9 (L + 1) 0 0 (fun _ => 0) 0 (fun _ => 0) 0 (fun _ => 0) 0 (fun _ => 0) 5 20 (fun _ => 0) 0 (fun _ => 0) (fun _ => 0) (fun _ _ => 0) (fun _ => 0) (fun _ _ => 0) (fun _ => 0) (fun _ _ => 0) (mkP 5 20) (fun _ => 0) (fun _ _ => 0) (fun _ => 0) (fun _ _ => 0) (fun _ => 0) (fun _ _ => 0) (mkP 5 20) (fun _ => 0) (fun _ _ => 0) (fun _ => 0) (fun _ _ => 0) (upd (upd (fun _ => 0) (Int32.toNatClampNeg 5) 5) (Int32.toNatClampNeg 6) 20) (fun _ => 0) (fun _ => 0) _ _ _ _ (Nat.zero_le _) (by omega) hcI hmI rel_start hP9 hS hl


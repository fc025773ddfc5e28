set_option maxHeartbeats 4000000 in
set_option maxRecDepth 100000 in
theorem p_digest (l : Launch) (G : gW) (sz : Nat) (x : Nat) (ct : Nat) (bk : Nat) (im : Nat) (kp : Nat) (rd : Nat) (fr : Nat) (wt : Nat) (pe : Nat) (fa : Nat) (ro : Nat) (ac : Nat) (tr : Nat) (la : Nat) (tx : Nat) (hs : Nat) (sp : Nat) (vl : Nat) (pea : Nat) (faa : Nat) (roa : Nat) (aca : Nat) (tra : Nat) (txa : Nat) (txb : Nat) (t0 : Nat) (s0 : Nat) (p0 : Nat) (t1 : Nat) (s1 : Nat) (p1 : Nat) (t2 : Nat) (s2 : Nat) (p2 : Nat) (t3 : Nat) (s3 : Nat) (p3 : Nat) (tf : Nat → Option Nat) (htf0 : tf 0 = some t0) (htf1 : tf 1 = some t1) (htf2 : tf 2 = some t2) (htf3 : tf 3 = some t3) : Met l yX10_digest (wsT yX10_digest cX10_digest 4 (some .long)) ({ frames := 3, cells := 0, slots := 0, locals := 63 }) (wP G [.ref x] sz [(x, eO 9 [.ref ct, .ref bk, .ref im, .ref kp, .ref rd, .ref fr, .ref wt]), (bk, eO 0 [.ref pe, .ref fa, .ref ro, .ref ac, .ref tr, .ref la, .ref tx, .int 5, .int 20]), (ct, eO 1 [.ref bk, .ref hs, .ref sp, .ref vl, .int 0]), (pe, eO 5 [.int 30, .int 4, .ref pea, .int 0]), (fa, eO 5 [.int 40, .int 3, .ref faa, .int 0]), (ro, eO 5 [.int 4, .int 3, .ref roa, .int 0]), (ac, eO 5 [.int 20, .int 3, .ref aca, .int 0]), (tr, eO 5 [.int 10, .int 70, .ref tra, .int 0]), (tx, eO 6 [.ref txa, .ref txb]), (txa, eA G 5 4 tf), (t0, eO 7 [.ref s0, .ref p0, .int 0, .int 0]), (t1, eO 7 [.ref s1, .ref p1, .int 0, .int 0]), (t2, eO 7 [.ref s2, .ref p2, .int 0, .int 0]), (t3, eO 7 [.ref s3, .ref p3, .int 0, .int 0]), (fr, eO 2 [.long 0, .long 1])]) (va_Ql (fun (r : Int64) (_ : Unit) => r = 8905220040111940639) (fun _ _ => True) (va_A [(x, eO 9 [.ref ct, .ref bk, .ref im, .ref kp, .ref rd, .ref fr, .ref wt]), (bk, eO 0 [.ref pe, .ref fa, .ref ro, .ref ac, .ref tr, .ref la, .ref tx, .int 5, .int 20]), (ct, eO 1 [.ref bk, .ref hs, .ref sp, .ref vl, .int 0]), (pe, eO 5 [.int 30, .int 4, .ref pea, .int 0]), (fa, eO 5 [.int 40, .int 3, .ref faa, .int 0]), (ro, eO 5 [.int 4, .int 3, .ref roa, .int 0]), (ac, eO 5 [.int 20, .int 3, .ref aca, .int 0]), (tr, eO 5 [.int 10, .int 70, .ref tra, .int 0]), (tx, eO 6 [.ref txa, .ref txb]), (txa, eA G 5 4 tf), (t0, eO 7 [.ref s0, .ref p0, .int 0, .int 0]), (t1, eO 7 [.ref s1, .ref p1, .int 0, .int 0]), (t2, eO 7 [.ref s2, .ref p2, .int 0, .int 0]), (t3, eO 7 [.ref s3, .ref p3, .int 0, .int 0]), (fr, eO 2 [.long 0, .long 1])] sz)) 0 0 (va_A [(x, eO 9 [.ref ct, .ref bk, .ref im, .ref kp, .ref rd, .ref fr, .ref wt]), (bk, eO 0 [.ref pe, .ref fa, .ref ro, .ref ac, .ref tr, .ref la, .ref tx, .int 5, .int 20]), (ct, eO 1 [.ref bk, .ref hs, .ref sp, .ref vl, .int 0]), (pe, eO 5 [.int 30, .int 4, .ref pea, .int 0]), (fa, eO 5 [.int 40, .int 3, .ref faa, .int 0]), (ro, eO 5 [.int 4, .int 3, .ref roa, .int 0]), (ac, eO 5 [.int 20, .int 3, .ref aca, .int 0]), (tr, eO 5 [.int 10, .int 70, .ref tra, .int 0]), (tx, eO 6 [.ref txa, .ref txb]), (txa, eA G 5 4 tf), (t0, eO 7 [.ref s0, .ref p0, .int 0, .int 0]), (t1, eO 7 [.ref s1, .ref p1, .int 0, .int 0]), (t2, eO 7 [.ref s2, .ref p2, .int 0, .int 0]), (t3, eO 7 [.ref s3, .ref p3, .int 0, .int 0]), (fr, eO 2 [.long 0, .long 1])] sz) := by
  refine Met.ofW (cc := cX10_digest) (maxL := 4) (ret := (some .long)) (by decide) rfl ?_
  intro p e s m args below meth c s₁ B hml hv
  obtain ⟨rfl, hsz, hP, hG, hD0⟩ := hv
  have hx := B.exec
  have hb := B.bytes
  have hr := B.returns
  have hts := my_hts (atoms_spec (ws := wsT yX10_digest cX10_digest 4 (some .long)) B.pre)
  have hown : s.vm.findClass RX10 = some m.cls := findClass_of_methodNamed B.named
  have hlocks := B.notSynchronized
  subst hsz
  have hD := hD0.self (sz := s.heap.size)
  generalize hAe : va_A [(x, eO 9 [.ref ct, .ref bk, .ref im, .ref kp, .ref rd, .ref fr, .ref wt]), (bk, eO 0 [.ref pe, .ref fa, .ref ro, .ref ac, .ref tr, .ref la, .ref tx, .int 5, .int 20]), (ct, eO 1 [.ref bk, .ref hs, .ref sp, .ref vl, .int 0]), (pe, eO 5 [.int 30, .int 4, .ref pea, .int 0]), (fa, eO 5 [.int 40, .int 3, .ref faa, .int 0]), (ro, eO 5 [.int 4, .int 3, .ref roa, .int 0]), (ac, eO 5 [.int 20, .int 3, .ref aca, .int 0]), (tr, eO 5 [.int 10, .int 70, .ref tra, .int 0]), (tx, eO 6 [.ref txa, .ref txb]), (txa, eA G 5 4 tf), (t0, eO 7 [.ref s0, .ref p0, .int 0, .int 0]), (t1, eO 7 [.ref s1, .ref p1, .int 0, .int 0]), (t2, eO 7 [.ref s2, .ref p2, .int 0, .int 0]), (t3, eO 7 [.ref s3, .ref p3, .int 0, .int 0]), (fr, eO 2 [.long 0, .long 1])] s.heap.size = A at hD ⊢
  have hA : ∀ q : Nat, s.heap.size ≤ q → A q := fun q h => by rw [← hAe]; exact Or.inr h
  have hS : va_S A s.heap s.heap [] := va_S.rf
  have hP : va_P G.1 vwCl [(x, eO 9 [.ref ct, .ref bk, .ref im, .ref kp, .ref rd, .ref fr, .ref wt]), (bk, eO 0 [.ref pe, .ref fa, .ref ro, .ref ac, .ref tr, .ref la, .ref tx, .int 5, .int 20]), (ct, eO 1 [.ref bk, .ref hs, .ref sp, .ref vl, .int 0]), (pe, eO 5 [.int 30, .int 4, .ref pea, .int 0]), (fa, eO 5 [.int 40, .int 3, .ref faa, .int 0]), (ro, eO 5 [.int 4, .int 3, .ref roa, .int 0]), (ac, eO 5 [.int 20, .int 3, .ref aca, .int 0]), (tr, eO 5 [.int 10, .int 70, .ref tra, .int 0]), (tx, eO 6 [.ref txa, .ref txb]), (txa, eA G 5 4 tf), (t0, eO 7 [.ref s0, .ref p0, .int 0, .int 0]), (t1, eO 7 [.ref s1, .ref p1, .int 0, .int 0]), (t2, eO 7 [.ref s2, .ref p2, .int 0, .int 0]), (t3, eO 7 [.ref s3, .ref p3, .int 0, .int 0]), (fr, eO 2 [.long 0, .long 1])] s.heap := hP
  have hl := lv_entry ([.ref x]) (n := 4) (Nat.le_of_ble_eq_true rfl)
  rw [lg_entry_eq]
  generalize (lg_sl ([.ref x]) ++ List.replicate (4 - (lg_sl ([.ref x])).length) Slot.unset).toArray = ls at hl ⊢
  have hl : lv_has ls 4 [(0, .ref x)] := hl
  refine lv_aload_n hx hb dX10_digest_0 rfl (lv_at hl 0 rfl) ?_
  refine va_get (D := G.1) (ci := 9) (v := .ref ct) (C := RX10) (T := TX10) (N := 7) hx hb hts inlX10 hown hG.1 hP 0 rfl rfl 0 (by decide) (hts (.fieldLink RX10 12 "SwornLists" "court" "LSwornLists$Court;") w_15) (fun _ h9 => h9) rfl dX10_digest_1 ?_
  have hPc := hP.sub (ws' := [(ct, eO 1 [.ref bk, .ref hs, .ref sp, .ref vl, .int 0]), (bk, eO 0 [.ref pe, .ref fa, .ref ro, .ref ac, .ref tr, .ref la, .ref tx, .int 5, .int 20]), (tr, eO 5 [.int 10, .int 70, .ref tra, .int 0])]) [2, 1, 7] rfl
  have hDc := hD.sub (ws' := [(ct, eO 1 [.ref bk, .ref hs, .ref sp, .ref vl, .int 0]), (bk, eO 0 [.ref pe, .ref fa, .ref ro, .ref ac, .ref tr, .ref la, .ref tx, .int 5, .int 20]), (tr, eO 5 [.int 10, .int 70, .ref tra, .int 0])]) [2, 1, 7] (by decide) rfl
  have hFc := va_free (wc := [(ct, eO 1 [.ref bk, .ref hs, .ref sp, .ref vl, .int 0]), (bk, eO 0 [.ref pe, .ref fa, .ref ro, .ref ac, .ref tr, .ref la, .ref tx, .int 5, .int 20]), (tr, eO 5 [.int 10, .int 70, .ref tra, .int 0])]) hD hS hA [2, 1, 7] rfl
  refine va_callv (va_runV (As := []) (rest := []) ⟨hx, hb, hml, hown, hts⟩ (c_settle0 l G s.heap.size ct bk hs sp vl pe fa ro ac tr la tx tra ) (my_cwV hts ok_X1_settle w_384 rfl rfl ⟨Nat.le_of_ble_eq_true rfl, Nat.le_of_ble_eq_true rfl⟩) ⟨wP.blind, va_recv hG.1 hPc (ci := 1) (q0 := 0) rfl rfl, fun U hU hW => ⟨rfl, by rw [hU], by rw [hU]; exact hPc, kG.warm hW hG, hDc.weaken (fun _ _ _ _ => trivial)⟩⟩ rfl rfl hl.1 rfl (lv_room (Nat.le_of_ble_eq_true rfl)) dX10_digest_4 ⟨Nat.le_of_ble_eq_true rfl, Nat.le_of_ble_eq_true rfl⟩) hS (fun q _ h => hFc q h) hFc (fun u t H1 locs ht hvm hw hB hz1 hk1 hS => ?_)
  obtain ⟨hP1, hD1⟩ := hB
  rw [ht] at hP1
  try dsimp only at hw
  obtain ⟨hP, hD⟩ := va_join (wr := [(x, eO 9 [.ref ct, .ref bk, .ref im, .ref kp, .ref rd, .ref fr, .ref wt]), (pe, eO 5 [.int 30, .int 4, .ref pea, .int 0]), (fa, eO 5 [.int 40, .int 3, .ref faa, .int 0]), (ro, eO 5 [.int 4, .int 3, .ref roa, .int 0]), (ac, eO 5 [.int 20, .int 3, .ref aca, .int 0]), (tx, eO 6 [.ref txa, .ref txb]), (txa, eA G 5 4 tf), (t0, eO 7 [.ref s0, .ref p0, .int 0, .int 0]), (t1, eO 7 [.ref s1, .ref p1, .int 0, .int 0]), (t2, eO 7 [.ref s2, .ref p2, .int 0, .int 0]), (t3, eO 7 [.ref s3, .ref p3, .int 0, .int 0]), (fr, eO 2 [.long 0, .long 1])]) (w1 := [(ct, eO 1 [.ref bk, .ref hs, .ref sp, .ref vl, .int 0]), (bk, eO 0 [.ref pe, .ref fa, .ref ro, .ref ac, .ref tr, .ref la, .ref tx, .int 5, .int 20]), (tr, eO 5 [.int 10, .int 70, .ref tra, .int 0])]) hP hD [2, 1, 7] [0, 3, 4, 5, 6, 8, 9, 10, 11, 12, 13, 14] rfl rfl (by decide) (by decide) hk1 hFc hP1 hD1
  generalize H1 = H at hP hS ⊢
  have hP : va_P G.1 vwCl [(x, eO 9 [.ref ct, .ref bk, .ref im, .ref kp, .ref rd, .ref fr, .ref wt]), (pe, eO 5 [.int 30, .int 4, .ref pea, .int 0]), (fa, eO 5 [.int 40, .int 3, .ref faa, .int 0]), (ro, eO 5 [.int 4, .int 3, .ref roa, .int 0]), (ac, eO 5 [.int 20, .int 3, .ref aca, .int 0]), (tx, eO 6 [.ref txa, .ref txb]), (txa, eA G 5 4 tf), (t0, eO 7 [.ref s0, .ref p0, .int 0, .int 0]), (t1, eO 7 [.ref s1, .ref p1, .int 0, .int 0]), (t2, eO 7 [.ref s2, .ref p2, .int 0, .int 0]), (t3, eO 7 [.ref s3, .ref p3, .int 0, .int 0]), (fr, eO 2 [.long 0, .long 1]), (ct, eO 1 [.ref bk, .ref hs, .ref sp, .ref vl, .int 0]), (bk, eO 0 [.ref pe, .ref fa, .ref ro, .ref ac, .ref tr, .ref la, .ref tx, .int 5, .int 20]), (tr, eO 5 [.int 10, .int 70, .ref tra, .int 0])] H := hP
  have hD : va_D A [(x, eO 9 [.ref ct, .ref bk, .ref im, .ref kp, .ref rd, .ref fr, .ref wt]), (pe, eO 5 [.int 30, .int 4, .ref pea, .int 0]), (fa, eO 5 [.int 40, .int 3, .ref faa, .int 0]), (ro, eO 5 [.int 4, .int 3, .ref roa, .int 0]), (ac, eO 5 [.int 20, .int 3, .ref aca, .int 0]), (tx, eO 6 [.ref txa, .ref txb]), (txa, eA G 5 4 tf), (t0, eO 7 [.ref s0, .ref p0, .int 0, .int 0]), (t1, eO 7 [.ref s1, .ref p1, .int 0, .int 0]), (t2, eO 7 [.ref s2, .ref p2, .int 0, .int 0]), (t3, eO 7 [.ref s3, .ref p3, .int 0, .int 0]), (fr, eO 2 [.long 0, .long 1]), (ct, eO 1 [.ref bk, .ref hs, .ref sp, .ref vl, .int 0]), (bk, eO 0 [.ref pe, .ref fa, .ref ro, .ref ac, .ref tr, .ref la, .ref tx, .int 5, .int 20]), (tr, eO 5 [.int 10, .int 70, .ref tra, .int 0])] := hD
  refine lv_ldc2 (v := 367) hx hb hown (hts (.constantLong RX10 266 (367)) w_947) dX10_digest_7 ?_
  refine lv_lstore_n (lv' := [(1, .long 367), (0, .ref x)]) hx hb dX10_digest_10 rfl hl (by decide) rfl (fun ls hl => ?_)
  refine lv_iconst (v := 0) hx hb dX10_digest_11 (by decide) ?_
  refine lv_istore_n (lv' := [(3, .int 0), (1, .long 367), (0, .ref x)]) hx hb dX10_digest_12 rfl hl (by decide) rfl (fun ls hl => ?_)
  refine lv_iload_n hx hb dX10_digest_13 rfl (lv_at hl 0 rfl) ?_
  refine lv_iconst (v := 5) hx hb dX10_digest_14 (by decide) ?_
  refine lv_icmp_gt (tgt := 37) hx hb dX10_digest_15 (by decide) (fun c_15 => absurd c_15 (by decide)) (fun c_15 => ?_)
  refine lv_ldc2 (v := 31) hx hb hown (hts (.constantLong RX10 268 (31)) w_948) dX10_digest_18 ?_
  refine lv_lload_n hx hb dX10_digest_21 rfl (lv_at hl 1 rfl) ?_
  refine lv_lmul hx hb dX10_digest_22 ?_
  refine my_bel (v := 11377) (by decide +kernel) ?_
  refine lv_aload_n hx hb dX10_digest_23 rfl (lv_at hl 2 rfl) ?_
  refine lv_iload_n hx hb dX10_digest_24 rfl (lv_at hl 0 rfl) ?_
  have hPc := hP.sub (ws' := [(x, eO 9 [.ref ct, .ref bk, .ref im, .ref kp, .ref rd, .ref fr, .ref wt]), (bk, eO 0 [.ref pe, .ref fa, .ref ro, .ref ac, .ref tr, .ref la, .ref tx, .int 5, .int 20]), (pe, eO 5 [.int 30, .int 4, .ref pea, .int 0]), (fa, eO 5 [.int 40, .int 3, .ref faa, .int 0]), (ro, eO 5 [.int 4, .int 3, .ref roa, .int 0]), (ac, eO 5 [.int 20, .int 3, .ref aca, .int 0]), (tr, eO 5 [.int 10, .int 70, .ref tra, .int 0]), (ct, eO 1 [.ref bk, .ref hs, .ref sp, .ref vl, .int 0])]) [0, 13, 1, 2, 3, 4, 14, 12] rfl
  refine rd_calli (va_runV (As := [.int 0]) (rest := [.long 11377]) ⟨hx, hb, hml, hown, hts⟩ (c_howMany0 l G x ct bk im kp rd fr wt pe fa ro ac tr la tx pea faa roa aca tra hs sp vl 0 ) (my_cwV hts ok_X10_howMany w_926 rfl rfl ⟨Nat.le_of_ble_eq_true rfl, Nat.le_of_ble_eq_true rfl⟩) ⟨rP.blind, va_recv hG.1 hPc (ci := 9) (q0 := 0) rfl rfl, fun U hU hW => ⟨rfl, by rw [hU]; exact hPc, kG.warm hW hG⟩⟩ rfl rfl hl.1 rfl (lv_room (Nat.le_of_ble_eq_true rfl)) dX10_digest_25 ⟨Nat.le_of_ble_eq_true rfl, Nat.le_of_ble_eq_true rfl⟩) (fun r hr9 => ?_)
  subst hr9
  refine lv_i2l (v := 0) hx hb dX10_digest_28 (by decide) ?_
  refine lv_ladd hx hb dX10_digest_29 ?_
  refine my_bel (v := 11377) (by decide +kernel) ?_
  refine lv_lstore_n (lv' := [(1, .long 11377), (3, .int 0), (0, .ref x)]) hx hb dX10_digest_30 rfl hl (by decide) rfl (fun ls hl => ?_)
  refine lv_iinc (v := 1) (lv' := [(3, .int 1), (1, .long 11377), (0, .ref x)]) hx hb dX10_digest_31 hl (k := 1) rfl (by decide) (by decide) rfl (fun ls hl => ?_)
  refine lv_goto (tgt := 13) hx hb dX10_digest_34 (by decide) ?_
  refine lv_iload_n hx hb dX10_digest_13 rfl (lv_at hl 0 rfl) ?_
  refine lv_iconst (v := 5) hx hb dX10_digest_14 (by decide) ?_
  refine lv_icmp_gt (tgt := 37) hx hb dX10_digest_15 (by decide) (fun c_15 => absurd c_15 (by decide)) (fun c_15 => ?_)
  refine lv_ldc2 (v := 31) hx hb hown (hts (.constantLong RX10 268 (31)) w_948) dX10_digest_18 ?_
  refine lv_lload_n hx hb dX10_digest_21 rfl (lv_at hl 1 rfl) ?_
  refine lv_lmul hx hb dX10_digest_22 ?_
  refine my_bel (v := 352687) (by decide +kernel) ?_
  refine lv_aload_n hx hb dX10_digest_23 rfl (lv_at hl 2 rfl) ?_
  refine lv_iload_n hx hb dX10_digest_24 rfl (lv_at hl 0 rfl) ?_
  have hPc := hP.sub (ws' := [(x, eO 9 [.ref ct, .ref bk, .ref im, .ref kp, .ref rd, .ref fr, .ref wt]), (bk, eO 0 [.ref pe, .ref fa, .ref ro, .ref ac, .ref tr, .ref la, .ref tx, .int 5, .int 20]), (pe, eO 5 [.int 30, .int 4, .ref pea, .int 0]), (fa, eO 5 [.int 40, .int 3, .ref faa, .int 0]), (ro, eO 5 [.int 4, .int 3, .ref roa, .int 0]), (ac, eO 5 [.int 20, .int 3, .ref aca, .int 0]), (tr, eO 5 [.int 10, .int 70, .ref tra, .int 0]), (ct, eO 1 [.ref bk, .ref hs, .ref sp, .ref vl, .int 0])]) [0, 13, 1, 2, 3, 4, 14, 12] rfl
  refine rd_calli (va_runV (As := [.int 1]) (rest := [.long 352687]) ⟨hx, hb, hml, hown, hts⟩ (c_howMany0 l G x ct bk im kp rd fr wt pe fa ro ac tr la tx pea faa roa aca tra hs sp vl 1 ) (my_cwV hts ok_X10_howMany w_926 rfl rfl ⟨Nat.le_of_ble_eq_true rfl, Nat.le_of_ble_eq_true rfl⟩) ⟨rP.blind, va_recv hG.1 hPc (ci := 9) (q0 := 0) rfl rfl, fun U hU hW => ⟨rfl, by rw [hU]; exact hPc, kG.warm hW hG⟩⟩ rfl rfl hl.1 rfl (lv_room (Nat.le_of_ble_eq_true rfl)) dX10_digest_25 ⟨Nat.le_of_ble_eq_true rfl, Nat.le_of_ble_eq_true rfl⟩) (fun r hr9 => ?_)
  subst hr9
  refine lv_i2l (v := 0) hx hb dX10_digest_28 (by decide) ?_
  refine lv_ladd hx hb dX10_digest_29 ?_
  refine my_bel (v := 352687) (by decide +kernel) ?_
  refine lv_lstore_n (lv' := [(1, .long 352687), (3, .int 1), (0, .ref x)]) hx hb dX10_digest_30 rfl hl (by decide) rfl (fun ls hl => ?_)
  refine lv_iinc (v := 2) (lv' := [(3, .int 2), (1, .long 352687), (0, .ref x)]) hx hb dX10_digest_31 hl (k := 1) rfl (by decide) (by decide) rfl (fun ls hl => ?_)
  refine lv_goto (tgt := 13) hx hb dX10_digest_34 (by decide) ?_
  refine lv_iload_n hx hb dX10_digest_13 rfl (lv_at hl 0 rfl) ?_
  refine lv_iconst (v := 5) hx hb dX10_digest_14 (by decide) ?_
  refine lv_icmp_gt (tgt := 37) hx hb dX10_digest_15 (by decide) (fun c_15 => absurd c_15 (by decide)) (fun c_15 => ?_)
  refine lv_ldc2 (v := 31) hx hb hown (hts (.constantLong RX10 268 (31)) w_948) dX10_digest_18 ?_
  refine lv_lload_n hx hb dX10_digest_21 rfl (lv_at hl 1 rfl) ?_
  refine lv_lmul hx hb dX10_digest_22 ?_
  refine my_bel (v := 10933297) (by decide +kernel) ?_
  refine lv_aload_n hx hb dX10_digest_23 rfl (lv_at hl 2 rfl) ?_
  refine lv_iload_n hx hb dX10_digest_24 rfl (lv_at hl 0 rfl) ?_
  have hPc := hP.sub (ws' := [(x, eO 9 [.ref ct, .ref bk, .ref im, .ref kp, .ref rd, .ref fr, .ref wt]), (bk, eO 0 [.ref pe, .ref fa, .ref ro, .ref ac, .ref tr, .ref la, .ref tx, .int 5, .int 20]), (pe, eO 5 [.int 30, .int 4, .ref pea, .int 0]), (fa, eO 5 [.int 40, .int 3, .ref faa, .int 0]), (ro, eO 5 [.int 4, .int 3, .ref roa, .int 0]), (ac, eO 5 [.int 20, .int 3, .ref aca, .int 0]), (tr, eO 5 [.int 10, .int 70, .ref tra, .int 0]), (ct, eO 1 [.ref bk, .ref hs, .ref sp, .ref vl, .int 0])]) [0, 13, 1, 2, 3, 4, 14, 12] rfl
  refine rd_calli (va_runV (As := [.int 2]) (rest := [.long 10933297]) ⟨hx, hb, hml, hown, hts⟩ (c_howMany0 l G x ct bk im kp rd fr wt pe fa ro ac tr la tx pea faa roa aca tra hs sp vl 2 ) (my_cwV hts ok_X10_howMany w_926 rfl rfl ⟨Nat.le_of_ble_eq_true rfl, Nat.le_of_ble_eq_true rfl⟩) ⟨rP.blind, va_recv hG.1 hPc (ci := 9) (q0 := 0) rfl rfl, fun U hU hW => ⟨rfl, by rw [hU]; exact hPc, kG.warm hW hG⟩⟩ rfl rfl hl.1 rfl (lv_room (Nat.le_of_ble_eq_true rfl)) dX10_digest_25 ⟨Nat.le_of_ble_eq_true rfl, Nat.le_of_ble_eq_true rfl⟩) (fun r hr9 => ?_)
  subst hr9
  refine lv_i2l (v := 0) hx hb dX10_digest_28 (by decide) ?_
  refine lv_ladd hx hb dX10_digest_29 ?_
  refine my_bel (v := 10933297) (by decide +kernel) ?_
  refine lv_lstore_n (lv' := [(1, .long 10933297), (3, .int 2), (0, .ref x)]) hx hb dX10_digest_30 rfl hl (by decide) rfl (fun ls hl => ?_)
  refine lv_iinc (v := 3) (lv' := [(3, .int 3), (1, .long 10933297), (0, .ref x)]) hx hb dX10_digest_31 hl (k := 1) rfl (by decide) (by decide) rfl (fun ls hl => ?_)
  refine lv_goto (tgt := 13) hx hb dX10_digest_34 (by decide) ?_
  refine lv_iload_n hx hb dX10_digest_13 rfl (lv_at hl 0 rfl) ?_
  refine lv_iconst (v := 5) hx hb dX10_digest_14 (by decide) ?_
  refine lv_icmp_gt (tgt := 37) hx hb dX10_digest_15 (by decide) (fun c_15 => absurd c_15 (by decide)) (fun c_15 => ?_)
  refine lv_ldc2 (v := 31) hx hb hown (hts (.constantLong RX10 268 (31)) w_948) dX10_digest_18 ?_
  refine lv_lload_n hx hb dX10_digest_21 rfl (lv_at hl 1 rfl) ?_
  refine lv_lmul hx hb dX10_digest_22 ?_
  refine my_bel (v := 338932207) (by decide +kernel) ?_
  refine lv_aload_n hx hb dX10_digest_23 rfl (lv_at hl 2 rfl) ?_
  refine lv_iload_n hx hb dX10_digest_24 rfl (lv_at hl 0 rfl) ?_
  have hPc := hP.sub (ws' := [(x, eO 9 [.ref ct, .ref bk, .ref im, .ref kp, .ref rd, .ref fr, .ref wt]), (bk, eO 0 [.ref pe, .ref fa, .ref ro, .ref ac, .ref tr, .ref la, .ref tx, .int 5, .int 20]), (pe, eO 5 [.int 30, .int 4, .ref pea, .int 0]), (fa, eO 5 [.int 40, .int 3, .ref faa, .int 0]), (ro, eO 5 [.int 4, .int 3, .ref roa, .int 0]), (ac, eO 5 [.int 20, .int 3, .ref aca, .int 0]), (tr, eO 5 [.int 10, .int 70, .ref tra, .int 0]), (ct, eO 1 [.ref bk, .ref hs, .ref sp, .ref vl, .int 0])]) [0, 13, 1, 2, 3, 4, 14, 12] rfl
  refine rd_calli (va_runV (As := [.int 3]) (rest := [.long 338932207]) ⟨hx, hb, hml, hown, hts⟩ (c_howMany0 l G x ct bk im kp rd fr wt pe fa ro ac tr la tx pea faa roa aca tra hs sp vl 3 ) (my_cwV hts ok_X10_howMany w_926 rfl rfl ⟨Nat.le_of_ble_eq_true rfl, Nat.le_of_ble_eq_true rfl⟩) ⟨rP.blind, va_recv hG.1 hPc (ci := 9) (q0 := 0) rfl rfl, fun U hU hW => ⟨rfl, by rw [hU]; exact hPc, kG.warm hW hG⟩⟩ rfl rfl hl.1 rfl (lv_room (Nat.le_of_ble_eq_true rfl)) dX10_digest_25 ⟨Nat.le_of_ble_eq_true rfl, Nat.le_of_ble_eq_true rfl⟩) (fun r hr9 => ?_)
  subst hr9
  refine lv_i2l (v := 0) hx hb dX10_digest_28 (by decide) ?_
  refine lv_ladd hx hb dX10_digest_29 ?_
  refine my_bel (v := 338932207) (by decide +kernel) ?_
  refine lv_lstore_n (lv' := [(1, .long 338932207), (3, .int 3), (0, .ref x)]) hx hb dX10_digest_30 rfl hl (by decide) rfl (fun ls hl => ?_)
  refine lv_iinc (v := 4) (lv' := [(3, .int 4), (1, .long 338932207), (0, .ref x)]) hx hb dX10_digest_31 hl (k := 1) rfl (by decide) (by decide) rfl (fun ls hl => ?_)
  refine lv_goto (tgt := 13) hx hb dX10_digest_34 (by decide) ?_
  refine lv_iload_n hx hb dX10_digest_13 rfl (lv_at hl 0 rfl) ?_
  refine lv_iconst (v := 5) hx hb dX10_digest_14 (by decide) ?_
  refine lv_icmp_gt (tgt := 37) hx hb dX10_digest_15 (by decide) (fun c_15 => absurd c_15 (by decide)) (fun c_15 => ?_)
  refine lv_ldc2 (v := 31) hx hb hown (hts (.constantLong RX10 268 (31)) w_948) dX10_digest_18 ?_
  refine lv_lload_n hx hb dX10_digest_21 rfl (lv_at hl 1 rfl) ?_
  refine lv_lmul hx hb dX10_digest_22 ?_
  refine my_bel (v := 10506898417) (by decide +kernel) ?_
  refine lv_aload_n hx hb dX10_digest_23 rfl (lv_at hl 2 rfl) ?_
  refine lv_iload_n hx hb dX10_digest_24 rfl (lv_at hl 0 rfl) ?_
  have hPc := hP.sub (ws' := [(x, eO 9 [.ref ct, .ref bk, .ref im, .ref kp, .ref rd, .ref fr, .ref wt]), (bk, eO 0 [.ref pe, .ref fa, .ref ro, .ref ac, .ref tr, .ref la, .ref tx, .int 5, .int 20]), (pe, eO 5 [.int 30, .int 4, .ref pea, .int 0]), (fa, eO 5 [.int 40, .int 3, .ref faa, .int 0]), (ro, eO 5 [.int 4, .int 3, .ref roa, .int 0]), (ac, eO 5 [.int 20, .int 3, .ref aca, .int 0]), (tr, eO 5 [.int 10, .int 70, .ref tra, .int 0]), (ct, eO 1 [.ref bk, .ref hs, .ref sp, .ref vl, .int 0])]) [0, 13, 1, 2, 3, 4, 14, 12] rfl
  refine rd_calli (va_runV (As := [.int 4]) (rest := [.long 10506898417]) ⟨hx, hb, hml, hown, hts⟩ (c_howMany0 l G x ct bk im kp rd fr wt pe fa ro ac tr la tx pea faa roa aca tra hs sp vl 4 ) (my_cwV hts ok_X10_howMany w_926 rfl rfl ⟨Nat.le_of_ble_eq_true rfl, Nat.le_of_ble_eq_true rfl⟩) ⟨rP.blind, va_recv hG.1 hPc (ci := 9) (q0 := 0) rfl rfl, fun U hU hW => ⟨rfl, by rw [hU]; exact hPc, kG.warm hW hG⟩⟩ rfl rfl hl.1 rfl (lv_room (Nat.le_of_ble_eq_true rfl)) dX10_digest_25 ⟨Nat.le_of_ble_eq_true rfl, Nat.le_of_ble_eq_true rfl⟩) (fun r hr9 => ?_)
  subst hr9
  refine lv_i2l (v := 0) hx hb dX10_digest_28 (by decide) ?_
  refine lv_ladd hx hb dX10_digest_29 ?_
  refine my_bel (v := 10506898417) (by decide +kernel) ?_
  refine lv_lstore_n (lv' := [(1, .long 10506898417), (3, .int 4), (0, .ref x)]) hx hb dX10_digest_30 rfl hl (by decide) rfl (fun ls hl => ?_)
  refine lv_iinc (v := 5) (lv' := [(3, .int 5), (1, .long 10506898417), (0, .ref x)]) hx hb dX10_digest_31 hl (k := 1) rfl (by decide) (by decide) rfl (fun ls hl => ?_)
  refine lv_goto (tgt := 13) hx hb dX10_digest_34 (by decide) ?_
  refine lv_iload_n hx hb dX10_digest_13 rfl (lv_at hl 0 rfl) ?_
  refine lv_iconst (v := 5) hx hb dX10_digest_14 (by decide) ?_
  refine lv_icmp_gt (tgt := 37) hx hb dX10_digest_15 (by decide) (fun c_15 => absurd c_15 (by decide)) (fun c_15 => ?_)
  refine lv_ldc2 (v := 31) hx hb hown (hts (.constantLong RX10 268 (31)) w_948) dX10_digest_18 ?_
  refine lv_lload_n hx hb dX10_digest_21 rfl (lv_at hl 1 rfl) ?_
  refine lv_lmul hx hb dX10_digest_22 ?_
  refine my_bel (v := 325713850927) (by decide +kernel) ?_
  refine lv_aload_n hx hb dX10_digest_23 rfl (lv_at hl 2 rfl) ?_
  refine lv_iload_n hx hb dX10_digest_24 rfl (lv_at hl 0 rfl) ?_
  have hPc := hP.sub (ws' := [(x, eO 9 [.ref ct, .ref bk, .ref im, .ref kp, .ref rd, .ref fr, .ref wt]), (bk, eO 0 [.ref pe, .ref fa, .ref ro, .ref ac, .ref tr, .ref la, .ref tx, .int 5, .int 20]), (pe, eO 5 [.int 30, .int 4, .ref pea, .int 0]), (fa, eO 5 [.int 40, .int 3, .ref faa, .int 0]), (ro, eO 5 [.int 4, .int 3, .ref roa, .int 0]), (ac, eO 5 [.int 20, .int 3, .ref aca, .int 0]), (tr, eO 5 [.int 10, .int 70, .ref tra, .int 0]), (ct, eO 1 [.ref bk, .ref hs, .ref sp, .ref vl, .int 0])]) [0, 13, 1, 2, 3, 4, 14, 12] rfl
  refine rd_calli (va_runV (As := [.int 5]) (rest := [.long 325713850927]) ⟨hx, hb, hml, hown, hts⟩ (c_howMany0 l G x ct bk im kp rd fr wt pe fa ro ac tr la tx pea faa roa aca tra hs sp vl 5 ) (my_cwV hts ok_X10_howMany w_926 rfl rfl ⟨Nat.le_of_ble_eq_true rfl, Nat.le_of_ble_eq_true rfl⟩) ⟨rP.blind, va_recv hG.1 hPc (ci := 9) (q0 := 0) rfl rfl, fun U hU hW => ⟨rfl, by rw [hU]; exact hPc, kG.warm hW hG⟩⟩ rfl rfl hl.1 rfl (lv_room (Nat.le_of_ble_eq_true rfl)) dX10_digest_25 ⟨Nat.le_of_ble_eq_true rfl, Nat.le_of_ble_eq_true rfl⟩) (fun r hr9 => ?_)
  subst hr9
  refine lv_i2l (v := 0) hx hb dX10_digest_28 (by decide) ?_
  refine lv_ladd hx hb dX10_digest_29 ?_
  refine my_bel (v := 325713850927) (by decide +kernel) ?_
  refine lv_lstore_n (lv' := [(1, .long 325713850927), (3, .int 5), (0, .ref x)]) hx hb dX10_digest_30 rfl hl (by decide) rfl (fun ls hl => ?_)
  refine lv_iinc (v := 6) (lv' := [(3, .int 6), (1, .long 325713850927), (0, .ref x)]) hx hb dX10_digest_31 hl (k := 1) rfl (by decide) (by decide) rfl (fun ls hl => ?_)
  refine lv_goto (tgt := 13) hx hb dX10_digest_34 (by decide) ?_
  refine lv_iload_n hx hb dX10_digest_13 rfl (lv_at hl 0 rfl) ?_
  refine lv_iconst (v := 5) hx hb dX10_digest_14 (by decide) ?_
  refine lv_icmp_gt (tgt := 37) hx hb dX10_digest_15 (by decide) (fun c_15 => ?_) (fun c_15 => absurd (by decide) c_15)
  refine lv_aload_n hx hb dX10_digest_37 rfl (lv_at hl 2 rfl) ?_
  refine va_get (D := G.1) (ci := 9) (v := .ref bk) (C := RX10) (T := TX10) (N := 7) hx hb hts inlX10 hown hG.1 hP 0 rfl rfl 1 (by decide) (hts (.fieldLink RX10 20 "SwornLists" "book" "LSwornLists$Book;") w_16) (fun _ h9 => h9) rfl dX10_digest_38 ?_
  refine va_getN (D := G.1) (ci := 0) (v := .ref pe) (C := RX0) (T := TX0) (N := 9) (host := RX10) hx hb hts inlX0 hown hG.1 hP 13 rfl rfl 0 (by decide) (va_Nw.use rfl (hG.2.1 (.fieldLinkNest RX10 57 RX0 "people" "LSwornLists$Rows;" RX10) (List.mem_of_getElem? (i := 0) rfl))) (fun _ h9 => h9) rfl dX10_digest_41 ?_
  refine lv_lload_n hx hb dX10_digest_44 rfl (lv_at hl 1 rfl) ?_
  have hPc := hP.sub (ws' := [(pe, eO 5 [.int 30, .int 4, .ref pea, .int 0])]) [1] rfl
  refine rd_calll (va_runV (As := [.long 325713850927]) (rest := []) ⟨hx, hb, hml, hown, hts⟩ (c_foldAll0 l G pe 30 4 pea 325713850927 ) (my_cwV hts ok_X5_foldAll w_949 rfl rfl ⟨Nat.le_of_ble_eq_true rfl, Nat.le_of_ble_eq_true rfl⟩) ⟨rP.blind, va_recv hG.1 hPc (ci := 5) (q0 := 0) rfl rfl, fun U hU hW => ⟨rfl, by rw [hU]; exact hPc, kG.warm hW hG⟩⟩ rfl rfl hl.1 rfl (lv_room (Nat.le_of_ble_eq_true rfl)) dX10_digest_45 ⟨Nat.le_of_ble_eq_true rfl, Nat.le_of_ble_eq_true rfl⟩) (fun r hr9 => ?_)
  subst hr9
  refine lv_lstore_n (lv' := [(1, .long 325713850927), (3, .int 6), (0, .ref x)]) hx hb dX10_digest_48 rfl hl (by decide) rfl (fun ls hl => ?_)
  refine lv_aload_n hx hb dX10_digest_49 rfl (lv_at hl 2 rfl) ?_
  refine va_get (D := G.1) (ci := 9) (v := .ref bk) (C := RX10) (T := TX10) (N := 7) hx hb hts inlX10 hown hG.1 hP 0 rfl rfl 1 (by decide) (hts (.fieldLink RX10 20 "SwornLists" "book" "LSwornLists$Book;") w_16) (fun _ h9 => h9) rfl dX10_digest_50 ?_
  refine va_getN (D := G.1) (ci := 0) (v := .ref fa) (C := RX0) (T := TX0) (N := 9) (host := RX10) hx hb hts inlX0 hown hG.1 hP 13 rfl rfl 1 (by decide) (va_Nw.use rfl (hG.2.1 (.fieldLinkNest RX10 82 RX0 "facts" "LSwornLists$Rows;" RX10) (List.mem_of_getElem? (i := 2) rfl))) (fun _ h9 => h9) rfl dX10_digest_53 ?_
  refine lv_lload_n hx hb dX10_digest_56 rfl (lv_at hl 0 rfl) ?_
  have hPc := hP.sub (ws' := [(fa, eO 5 [.int 40, .int 3, .ref faa, .int 0])]) [2] rfl
  refine rd_calll (va_runV (As := [.long 325713850927]) (rest := []) ⟨hx, hb, hml, hown, hts⟩ (c_foldAll0 l G fa 40 3 faa 325713850927 ) (my_cwV hts ok_X5_foldAll w_949 rfl rfl ⟨Nat.le_of_ble_eq_true rfl, Nat.le_of_ble_eq_true rfl⟩) ⟨rP.blind, va_recv hG.1 hPc (ci := 5) (q0 := 0) rfl rfl, fun U hU hW => ⟨rfl, by rw [hU]; exact hPc, kG.warm hW hG⟩⟩ rfl rfl hl.1 rfl (lv_room (Nat.le_of_ble_eq_true rfl)) dX10_digest_57 ⟨Nat.le_of_ble_eq_true rfl, Nat.le_of_ble_eq_true rfl⟩) (fun r hr9 => ?_)
  subst hr9
  refine lv_lstore_n (lv' := [(1, .long 325713850927), (3, .int 6), (0, .ref x)]) hx hb dX10_digest_60 rfl hl (by decide) rfl (fun ls hl => ?_)
  refine lv_aload_n hx hb dX10_digest_61 rfl (lv_at hl 2 rfl) ?_
  refine va_get (D := G.1) (ci := 9) (v := .ref bk) (C := RX10) (T := TX10) (N := 7) hx hb hts inlX10 hown hG.1 hP 0 rfl rfl 1 (by decide) (hts (.fieldLink RX10 20 "SwornLists" "book" "LSwornLists$Book;") w_16) (fun _ h9 => h9) rfl dX10_digest_62 ?_
  refine va_getN (D := G.1) (ci := 0) (v := .ref ro) (C := RX0) (T := TX0) (N := 9) (host := RX10) hx hb hts inlX0 hown hG.1 hP 13 rfl rfl 2 (by decide) (va_Nw.use rfl (hG.2.1 (.fieldLinkNest RX10 88 RX0 "rolls" "LSwornLists$Rows;" RX10) (List.mem_of_getElem? (i := 3) rfl))) (fun _ h9 => h9) rfl dX10_digest_65 ?_
  refine lv_lload_n hx hb dX10_digest_68 rfl (lv_at hl 0 rfl) ?_
  have hPc := hP.sub (ws' := [(ro, eO 5 [.int 4, .int 3, .ref roa, .int 0])]) [3] rfl
  refine rd_calll (va_runV (As := [.long 325713850927]) (rest := []) ⟨hx, hb, hml, hown, hts⟩ (c_foldAll0 l G ro 4 3 roa 325713850927 ) (my_cwV hts ok_X5_foldAll w_949 rfl rfl ⟨Nat.le_of_ble_eq_true rfl, Nat.le_of_ble_eq_true rfl⟩) ⟨rP.blind, va_recv hG.1 hPc (ci := 5) (q0 := 0) rfl rfl, fun U hU hW => ⟨rfl, by rw [hU]; exact hPc, kG.warm hW hG⟩⟩ rfl rfl hl.1 rfl (lv_room (Nat.le_of_ble_eq_true rfl)) dX10_digest_69 ⟨Nat.le_of_ble_eq_true rfl, Nat.le_of_ble_eq_true rfl⟩) (fun r hr9 => ?_)
  subst hr9
  refine lv_lstore_n (lv' := [(1, .long 325713850927), (3, .int 6), (0, .ref x)]) hx hb dX10_digest_72 rfl hl (by decide) rfl (fun ls hl => ?_)
  refine lv_iconst (v := 0) hx hb dX10_digest_73 (by decide) ?_
  refine lv_istore_n (lv' := [(3, .int 0), (1, .long 325713850927), (0, .ref x)]) hx hb dX10_digest_74 rfl hl (by decide) rfl (fun ls hl => ?_)
  refine lv_iload_n hx hb dX10_digest_75 rfl (lv_at hl 0 rfl) ?_
  refine lv_aload_n hx hb dX10_digest_76 rfl (lv_at hl 2 rfl) ?_
  refine va_get (D := G.1) (ci := 9) (v := .ref bk) (C := RX10) (T := TX10) (N := 7) hx hb hts inlX10 hown hG.1 hP 0 rfl rfl 1 (by decide) (hts (.fieldLink RX10 20 "SwornLists" "book" "LSwornLists$Book;") w_16) (fun _ h9 => h9) rfl dX10_digest_77 ?_
  refine va_getN (D := G.1) (ci := 0) (v := .ref ac) (C := RX0) (T := TX0) (N := 9) (host := RX10) hx hb hts inlX0 hown hG.1 hP 13 rfl rfl 3 (by decide) (va_Nw.use rfl (hG.2.1 (.fieldLinkNest RX10 134 RX0 "acts" "LSwornLists$Rows;" RX10) (List.mem_of_getElem? (i := 4) rfl))) (fun _ h9 => h9) rfl dX10_digest_80 ?_
  have hPc := hP.sub (ws' := [(ac, eO 5 [.int 20, .int 3, .ref aca, .int 0])]) [4] rfl
  refine rd_calli (va_runV (As := []) (rest := [.int 0]) ⟨hx, hb, hml, hown, hts⟩ (c_size0 l G ac 20 3 aca ) (my_cwV hts ok_X5_size w_642 rfl rfl ⟨Nat.le_of_ble_eq_true rfl, Nat.le_of_ble_eq_true rfl⟩) ⟨rP.blind, va_recv hG.1 hPc (ci := 5) (q0 := 0) rfl rfl, fun U hU hW => ⟨rfl, by rw [hU]; exact hPc, kG.warm hW hG⟩⟩ rfl rfl hl.1 rfl (lv_room (Nat.le_of_ble_eq_true rfl)) dX10_digest_83 ⟨Nat.le_of_ble_eq_true rfl, Nat.le_of_ble_eq_true rfl⟩) (fun r hr9 => ?_)
  subst hr9
  refine lv_icmp_ge (tgt := 122) hx hb dX10_digest_86 (by decide) (fun c_86 => ?_) (fun c_86 => absurd (by decide) c_86)
  refine lv_iconst (v := 0) hx hb dX10_digest_122 (by decide) ?_
  refine lv_istore_n (lv' := [(3, .int 0), (1, .long 325713850927), (0, .ref x)]) hx hb dX10_digest_123 rfl hl (by decide) rfl (fun ls hl => ?_)
  refine lv_iload_n hx hb dX10_digest_124 rfl (lv_at hl 0 rfl) ?_
  refine lv_aload_n hx hb dX10_digest_125 rfl (lv_at hl 2 rfl) ?_
  refine va_get (D := G.1) (ci := 9) (v := .ref bk) (C := RX10) (T := TX10) (N := 7) hx hb hts inlX10 hown hG.1 hP 0 rfl rfl 1 (by decide) (hts (.fieldLink RX10 20 "SwornLists" "book" "LSwornLists$Book;") w_16) (fun _ h9 => h9) rfl dX10_digest_126 ?_
  refine va_getN (D := G.1) (ci := 0) (v := .ref tr) (C := RX0) (T := TX0) (N := 9) (host := RX10) hx hb hts inlX0 hown hG.1 hP 13 rfl rfl 4 (by decide) (va_Nw.use rfl (hG.2.1 (.fieldLinkNest RX10 162 RX0 "trials" "LSwornLists$Rows;" RX10) (List.mem_of_getElem? (i := 7) rfl))) (fun _ h9 => h9) rfl dX10_digest_129 ?_
  have hPc := hP.sub (ws' := [(tr, eO 5 [.int 10, .int 70, .ref tra, .int 0])]) [14] rfl
  refine rd_calli (va_runV (As := []) (rest := [.int 0]) ⟨hx, hb, hml, hown, hts⟩ (c_size0 l G tr 10 70 tra ) (my_cwV hts ok_X5_size w_642 rfl rfl ⟨Nat.le_of_ble_eq_true rfl, Nat.le_of_ble_eq_true rfl⟩) ⟨rP.blind, va_recv hG.1 hPc (ci := 5) (q0 := 0) rfl rfl, fun U hU hW => ⟨rfl, by rw [hU]; exact hPc, kG.warm hW hG⟩⟩ rfl rfl hl.1 rfl (lv_room (Nat.le_of_ble_eq_true rfl)) dX10_digest_132 ⟨Nat.le_of_ble_eq_true rfl, Nat.le_of_ble_eq_true rfl⟩) (fun r hr9 => ?_)
  subst hr9
  refine lv_icmp_ge (tgt := 157) hx hb dX10_digest_135 (by decide) (fun c_135 => ?_) (fun c_135 => absurd (by decide) c_135)
  refine lv_iconst (v := 0) hx hb dX10_digest_157 (by decide) ?_
  refine lv_istore_n (lv' := [(3, .int 0), (1, .long 325713850927), (0, .ref x)]) hx hb dX10_digest_158 rfl hl (by decide) rfl (fun ls hl => ?_)
  refine lv_iload_n hx hb dX10_digest_159 rfl (lv_at hl 0 rfl) ?_
  refine lv_iconst (v := 4) hx hb dX10_digest_160 (by decide) ?_
  refine lv_icmp_ge (tgt := 186) hx hb dX10_digest_161 (by decide) (fun c_161 => absurd c_161 (by decide)) (fun c_161 => ?_)
  refine lv_aload_n hx hb dX10_digest_164 rfl (lv_at hl 2 rfl) ?_
  refine va_get (D := G.1) (ci := 9) (v := .ref bk) (C := RX10) (T := TX10) (N := 7) hx hb hts inlX10 hown hG.1 hP 0 rfl rfl 1 (by decide) (hts (.fieldLink RX10 20 "SwornLists" "book" "LSwornLists$Book;") w_16) (fun _ h9 => h9) rfl dX10_digest_165 ?_
  refine va_getN (D := G.1) (ci := 0) (v := .ref tx) (C := RX0) (T := TX0) (N := 9) (host := RX10) hx hb hts inlX0 hown hG.1 hP 13 rfl rfl 6 (by decide) (va_Nw.use rfl (hG.2.1 (.fieldLinkNest RX10 98 RX0 "texts" "LSwornLists$Shelf;" RX10) (List.mem_of_getElem? (i := 9) rfl))) (fun _ h9 => h9) rfl dX10_digest_168 ?_
  refine lv_iload_n hx hb dX10_digest_171 rfl (lv_at hl 0 rfl) ?_
  have hPc := hP.sub (ws' := [(tx, eO 6 [.ref txa, .ref txb]), (txa, eA G 5 4 tf)]) [5, 6] rfl
  refine rd_calla (va_runV (As := [.int 0]) (rest := []) ⟨hx, hb, hml, hown, hts⟩ (c_get l G tx txa txb tf 0 t0 (by decide) (fun _ => htf0)) (my_cwV hts ok_X6_get w_245 rfl rfl ⟨Nat.le_of_ble_eq_true rfl, Nat.le_of_ble_eq_true rfl⟩) ⟨rP.blind, va_recv hG.1 hPc (ci := 6) (q0 := 0) rfl rfl, fun U hU hW => ⟨rfl, by rw [hU]; exact hPc, kG.warm hW hG⟩⟩ rfl rfl hl.1 rfl (lv_room (Nat.le_of_ble_eq_true rfl)) dX10_digest_172 ⟨Nat.le_of_ble_eq_true rfl, Nat.le_of_ble_eq_true rfl⟩) (fun r hr9 => ?_)
  subst hr9
  refine lv_lload_n hx hb dX10_digest_175 rfl (lv_at hl 1 rfl) ?_
  have hPc := hP.sub (ws' := [(t0, eO 7 [.ref s0, .ref p0, .int 0, .int 0])]) [7] rfl
  refine rd_calll (va_runV (As := [.long 325713850927]) (rest := []) ⟨hx, hb, hml, hown, hts⟩ (c_tfold0 l G t0 s0 p0 325713850927 ) (my_cwV hts ok_X8_fold w_960 rfl rfl ⟨Nat.le_of_ble_eq_true rfl, Nat.le_of_ble_eq_true rfl⟩) ⟨rP.blind, va_recv hG.1 hPc (ci := 7) (q0 := 0) rfl rfl, fun U hU hW => ⟨rfl, by rw [hU]; exact hPc, kG.warm hW hG⟩⟩ rfl rfl hl.1 rfl (lv_room (Nat.le_of_ble_eq_true rfl)) dX10_digest_176 ⟨Nat.le_of_ble_eq_true rfl, Nat.le_of_ble_eq_true rfl⟩) (fun r hr9 => ?_)
  subst hr9
  refine my_bel (v := 10097129378737) (by decide +kernel) ?_
  refine lv_lstore_n (lv' := [(1, .long 10097129378737), (3, .int 0), (0, .ref x)]) hx hb dX10_digest_179 rfl hl (by decide) rfl (fun ls hl => ?_)
  refine lv_iinc (v := 1) (lv' := [(3, .int 1), (1, .long 10097129378737), (0, .ref x)]) hx hb dX10_digest_180 hl (k := 1) rfl (by decide) (by decide) rfl (fun ls hl => ?_)
  refine lv_goto (tgt := 159) hx hb dX10_digest_183 (by decide) ?_
  refine lv_iload_n hx hb dX10_digest_159 rfl (lv_at hl 0 rfl) ?_
  refine lv_iconst (v := 4) hx hb dX10_digest_160 (by decide) ?_
  refine lv_icmp_ge (tgt := 186) hx hb dX10_digest_161 (by decide) (fun c_161 => absurd c_161 (by decide)) (fun c_161 => ?_)
  refine lv_aload_n hx hb dX10_digest_164 rfl (lv_at hl 2 rfl) ?_
  refine va_get (D := G.1) (ci := 9) (v := .ref bk) (C := RX10) (T := TX10) (N := 7) hx hb hts inlX10 hown hG.1 hP 0 rfl rfl 1 (by decide) (hts (.fieldLink RX10 20 "SwornLists" "book" "LSwornLists$Book;") w_16) (fun _ h9 => h9) rfl dX10_digest_165 ?_
  refine va_getN (D := G.1) (ci := 0) (v := .ref tx) (C := RX0) (T := TX0) (N := 9) (host := RX10) hx hb hts inlX0 hown hG.1 hP 13 rfl rfl 6 (by decide) (va_Nw.use rfl (hG.2.1 (.fieldLinkNest RX10 98 RX0 "texts" "LSwornLists$Shelf;" RX10) (List.mem_of_getElem? (i := 9) rfl))) (fun _ h9 => h9) rfl dX10_digest_168 ?_
  refine lv_iload_n hx hb dX10_digest_171 rfl (lv_at hl 0 rfl) ?_
  have hPc := hP.sub (ws' := [(tx, eO 6 [.ref txa, .ref txb]), (txa, eA G 5 4 tf)]) [5, 6] rfl
  refine rd_calla (va_runV (As := [.int 1]) (rest := []) ⟨hx, hb, hml, hown, hts⟩ (c_get l G tx txa txb tf 1 t1 (by decide) (fun _ => htf1)) (my_cwV hts ok_X6_get w_245 rfl rfl ⟨Nat.le_of_ble_eq_true rfl, Nat.le_of_ble_eq_true rfl⟩) ⟨rP.blind, va_recv hG.1 hPc (ci := 6) (q0 := 0) rfl rfl, fun U hU hW => ⟨rfl, by rw [hU]; exact hPc, kG.warm hW hG⟩⟩ rfl rfl hl.1 rfl (lv_room (Nat.le_of_ble_eq_true rfl)) dX10_digest_172 ⟨Nat.le_of_ble_eq_true rfl, Nat.le_of_ble_eq_true rfl⟩) (fun r hr9 => ?_)
  subst hr9
  refine lv_lload_n hx hb dX10_digest_175 rfl (lv_at hl 1 rfl) ?_
  have hPc := hP.sub (ws' := [(t1, eO 7 [.ref s1, .ref p1, .int 0, .int 0])]) [8] rfl
  refine rd_calll (va_runV (As := [.long 10097129378737]) (rest := []) ⟨hx, hb, hml, hown, hts⟩ (c_tfold0 l G t1 s1 p1 10097129378737 ) (my_cwV hts ok_X8_fold w_960 rfl rfl ⟨Nat.le_of_ble_eq_true rfl, Nat.le_of_ble_eq_true rfl⟩) ⟨rP.blind, va_recv hG.1 hPc (ci := 7) (q0 := 0) rfl rfl, fun U hU hW => ⟨rfl, by rw [hU]; exact hPc, kG.warm hW hG⟩⟩ rfl rfl hl.1 rfl (lv_room (Nat.le_of_ble_eq_true rfl)) dX10_digest_176 ⟨Nat.le_of_ble_eq_true rfl, Nat.le_of_ble_eq_true rfl⟩) (fun r hr9 => ?_)
  subst hr9
  refine my_bel (v := 313011010740847) (by decide +kernel) ?_
  refine lv_lstore_n (lv' := [(1, .long 313011010740847), (3, .int 1), (0, .ref x)]) hx hb dX10_digest_179 rfl hl (by decide) rfl (fun ls hl => ?_)
  refine lv_iinc (v := 2) (lv' := [(3, .int 2), (1, .long 313011010740847), (0, .ref x)]) hx hb dX10_digest_180 hl (k := 1) rfl (by decide) (by decide) rfl (fun ls hl => ?_)
  refine lv_goto (tgt := 159) hx hb dX10_digest_183 (by decide) ?_
  refine lv_iload_n hx hb dX10_digest_159 rfl (lv_at hl 0 rfl) ?_
  refine lv_iconst (v := 4) hx hb dX10_digest_160 (by decide) ?_
  refine lv_icmp_ge (tgt := 186) hx hb dX10_digest_161 (by decide) (fun c_161 => absurd c_161 (by decide)) (fun c_161 => ?_)
  refine lv_aload_n hx hb dX10_digest_164 rfl (lv_at hl 2 rfl) ?_
  refine va_get (D := G.1) (ci := 9) (v := .ref bk) (C := RX10) (T := TX10) (N := 7) hx hb hts inlX10 hown hG.1 hP 0 rfl rfl 1 (by decide) (hts (.fieldLink RX10 20 "SwornLists" "book" "LSwornLists$Book;") w_16) (fun _ h9 => h9) rfl dX10_digest_165 ?_
  refine va_getN (D := G.1) (ci := 0) (v := .ref tx) (C := RX0) (T := TX0) (N := 9) (host := RX10) hx hb hts inlX0 hown hG.1 hP 13 rfl rfl 6 (by decide) (va_Nw.use rfl (hG.2.1 (.fieldLinkNest RX10 98 RX0 "texts" "LSwornLists$Shelf;" RX10) (List.mem_of_getElem? (i := 9) rfl))) (fun _ h9 => h9) rfl dX10_digest_168 ?_
  refine lv_iload_n hx hb dX10_digest_171 rfl (lv_at hl 0 rfl) ?_
  have hPc := hP.sub (ws' := [(tx, eO 6 [.ref txa, .ref txb]), (txa, eA G 5 4 tf)]) [5, 6] rfl
  refine rd_calla (va_runV (As := [.int 2]) (rest := []) ⟨hx, hb, hml, hown, hts⟩ (c_get l G tx txa txb tf 2 t2 (by decide) (fun _ => htf2)) (my_cwV hts ok_X6_get w_245 rfl rfl ⟨Nat.le_of_ble_eq_true rfl, Nat.le_of_ble_eq_true rfl⟩) ⟨rP.blind, va_recv hG.1 hPc (ci := 6) (q0 := 0) rfl rfl, fun U hU hW => ⟨rfl, by rw [hU]; exact hPc, kG.warm hW hG⟩⟩ rfl rfl hl.1 rfl (lv_room (Nat.le_of_ble_eq_true rfl)) dX10_digest_172 ⟨Nat.le_of_ble_eq_true rfl, Nat.le_of_ble_eq_true rfl⟩) (fun r hr9 => ?_)
  subst hr9
  refine lv_lload_n hx hb dX10_digest_175 rfl (lv_at hl 1 rfl) ?_
  have hPc := hP.sub (ws' := [(t2, eO 7 [.ref s2, .ref p2, .int 0, .int 0])]) [9] rfl
  refine rd_calll (va_runV (As := [.long 313011010740847]) (rest := []) ⟨hx, hb, hml, hown, hts⟩ (c_tfold0 l G t2 s2 p2 313011010740847 ) (my_cwV hts ok_X8_fold w_960 rfl rfl ⟨Nat.le_of_ble_eq_true rfl, Nat.le_of_ble_eq_true rfl⟩) ⟨rP.blind, va_recv hG.1 hPc (ci := 7) (q0 := 0) rfl rfl, fun U hU hW => ⟨rfl, by rw [hU]; exact hPc, kG.warm hW hG⟩⟩ rfl rfl hl.1 rfl (lv_room (Nat.le_of_ble_eq_true rfl)) dX10_digest_176 ⟨Nat.le_of_ble_eq_true rfl, Nat.le_of_ble_eq_true rfl⟩) (fun r hr9 => ?_)
  subst hr9
  refine my_bel (v := 9703341332966257) (by decide +kernel) ?_
  refine lv_lstore_n (lv' := [(1, .long 9703341332966257), (3, .int 2), (0, .ref x)]) hx hb dX10_digest_179 rfl hl (by decide) rfl (fun ls hl => ?_)
  refine lv_iinc (v := 3) (lv' := [(3, .int 3), (1, .long 9703341332966257), (0, .ref x)]) hx hb dX10_digest_180 hl (k := 1) rfl (by decide) (by decide) rfl (fun ls hl => ?_)
  refine lv_goto (tgt := 159) hx hb dX10_digest_183 (by decide) ?_
  refine lv_iload_n hx hb dX10_digest_159 rfl (lv_at hl 0 rfl) ?_
  refine lv_iconst (v := 4) hx hb dX10_digest_160 (by decide) ?_
  refine lv_icmp_ge (tgt := 186) hx hb dX10_digest_161 (by decide) (fun c_161 => absurd c_161 (by decide)) (fun c_161 => ?_)
  refine lv_aload_n hx hb dX10_digest_164 rfl (lv_at hl 2 rfl) ?_
  refine va_get (D := G.1) (ci := 9) (v := .ref bk) (C := RX10) (T := TX10) (N := 7) hx hb hts inlX10 hown hG.1 hP 0 rfl rfl 1 (by decide) (hts (.fieldLink RX10 20 "SwornLists" "book" "LSwornLists$Book;") w_16) (fun _ h9 => h9) rfl dX10_digest_165 ?_
  refine va_getN (D := G.1) (ci := 0) (v := .ref tx) (C := RX0) (T := TX0) (N := 9) (host := RX10) hx hb hts inlX0 hown hG.1 hP 13 rfl rfl 6 (by decide) (va_Nw.use rfl (hG.2.1 (.fieldLinkNest RX10 98 RX0 "texts" "LSwornLists$Shelf;" RX10) (List.mem_of_getElem? (i := 9) rfl))) (fun _ h9 => h9) rfl dX10_digest_168 ?_
  refine lv_iload_n hx hb dX10_digest_171 rfl (lv_at hl 0 rfl) ?_
  have hPc := hP.sub (ws' := [(tx, eO 6 [.ref txa, .ref txb]), (txa, eA G 5 4 tf)]) [5, 6] rfl
  refine rd_calla (va_runV (As := [.int 3]) (rest := []) ⟨hx, hb, hml, hown, hts⟩ (c_get l G tx txa txb tf 3 t3 (by decide) (fun _ => htf3)) (my_cwV hts ok_X6_get w_245 rfl rfl ⟨Nat.le_of_ble_eq_true rfl, Nat.le_of_ble_eq_true rfl⟩) ⟨rP.blind, va_recv hG.1 hPc (ci := 6) (q0 := 0) rfl rfl, fun U hU hW => ⟨rfl, by rw [hU]; exact hPc, kG.warm hW hG⟩⟩ rfl rfl hl.1 rfl (lv_room (Nat.le_of_ble_eq_true rfl)) dX10_digest_172 ⟨Nat.le_of_ble_eq_true rfl, Nat.le_of_ble_eq_true rfl⟩) (fun r hr9 => ?_)
  subst hr9
  refine lv_lload_n hx hb dX10_digest_175 rfl (lv_at hl 1 rfl) ?_
  have hPc := hP.sub (ws' := [(t3, eO 7 [.ref s3, .ref p3, .int 0, .int 0])]) [10] rfl
  refine rd_calll (va_runV (As := [.long 9703341332966257]) (rest := []) ⟨hx, hb, hml, hown, hts⟩ (c_tfold0 l G t3 s3 p3 9703341332966257 ) (my_cwV hts ok_X8_fold w_960 rfl rfl ⟨Nat.le_of_ble_eq_true rfl, Nat.le_of_ble_eq_true rfl⟩) ⟨rP.blind, va_recv hG.1 hPc (ci := 7) (q0 := 0) rfl rfl, fun U hU hW => ⟨rfl, by rw [hU]; exact hPc, kG.warm hW hG⟩⟩ rfl rfl hl.1 rfl (lv_room (Nat.le_of_ble_eq_true rfl)) dX10_digest_176 ⟨Nat.le_of_ble_eq_true rfl, Nat.le_of_ble_eq_true rfl⟩) (fun r hr9 => ?_)
  subst hr9
  refine my_bel (v := 300803581321953967) (by decide +kernel) ?_
  refine lv_lstore_n (lv' := [(1, .long 300803581321953967), (3, .int 3), (0, .ref x)]) hx hb dX10_digest_179 rfl hl (by decide) rfl (fun ls hl => ?_)
  refine lv_iinc (v := 4) (lv' := [(3, .int 4), (1, .long 300803581321953967), (0, .ref x)]) hx hb dX10_digest_180 hl (k := 1) rfl (by decide) (by decide) rfl (fun ls hl => ?_)
  refine lv_goto (tgt := 159) hx hb dX10_digest_183 (by decide) ?_
  refine lv_iload_n hx hb dX10_digest_159 rfl (lv_at hl 0 rfl) ?_
  refine lv_iconst (v := 4) hx hb dX10_digest_160 (by decide) ?_
  refine lv_icmp_ge (tgt := 186) hx hb dX10_digest_161 (by decide) (fun c_161 => ?_) (fun c_161 => absurd (by decide) c_161)
  refine lv_ldc2 (v := 31) hx hb hown (hts (.constantLong RX10 268 (31)) w_948) dX10_digest_186 ?_
  refine lv_lload_n hx hb dX10_digest_189 rfl (lv_at hl 1 rfl) ?_
  refine lv_lmul hx hb dX10_digest_190 ?_
  refine my_bel (v := (-9121833052728978639)) (by decide +kernel) ?_
  refine lv_aload_n hx hb dX10_digest_191 rfl (lv_at hl 2 rfl) ?_
  refine va_get (D := G.1) (ci := 9) (v := .ref bk) (C := RX10) (T := TX10) (N := 7) hx hb hts inlX10 hown hG.1 hP 0 rfl rfl 1 (by decide) (hts (.fieldLink RX10 20 "SwornLists" "book" "LSwornLists$Book;") w_16) (fun _ h9 => h9) rfl dX10_digest_192 ?_
  refine va_getN (D := G.1) (ci := 0) (v := .int 5) (C := RX0) (T := TX0) (N := 9) (host := RX10) hx hb hts inlX0 hown hG.1 hP 13 rfl rfl 7 (by decide) (va_Nw.use rfl (hG.2.1 (.fieldLinkNest RX10 201 RX0 "pay" "I" RX10) (List.mem_of_getElem? (i := 10) rfl))) (fun _ h9 => h9) rfl dX10_digest_195 ?_
  refine lv_i2l (v := 5) hx hb dX10_digest_198 (by decide) ?_
  refine lv_ladd hx hb dX10_digest_199 ?_
  refine my_bel (v := (-9121833052728978634)) (by decide +kernel) ?_
  refine lv_lstore_n (lv' := [(1, .long (-9121833052728978634)), (3, .int 4), (0, .ref x)]) hx hb dX10_digest_200 rfl hl (by decide) rfl (fun ls hl => ?_)
  refine lv_ldc2 (v := 31) hx hb hown (hts (.constantLong RX10 268 (31)) w_948) dX10_digest_201 ?_
  refine lv_lload_n hx hb dX10_digest_204 rfl (lv_at hl 0 rfl) ?_
  refine lv_lmul hx hb dX10_digest_205 ?_
  refine my_bel (v := (-6075663528955063414)) (by decide +kernel) ?_
  refine lv_aload_n hx hb dX10_digest_206 rfl (lv_at hl 2 rfl) ?_
  refine va_get (D := G.1) (ci := 9) (v := .ref bk) (C := RX10) (T := TX10) (N := 7) hx hb hts inlX10 hown hG.1 hP 0 rfl rfl 1 (by decide) (hts (.fieldLink RX10 20 "SwornLists" "book" "LSwornLists$Book;") w_16) (fun _ h9 => h9) rfl dX10_digest_207 ?_
  refine va_getN (D := G.1) (ci := 0) (v := .int 20) (C := RX0) (T := TX0) (N := 9) (host := RX10) hx hb hts inlX0 hown hG.1 hP 13 rfl rfl 8 (by decide) (va_Nw.use rfl (hG.2.1 (.fieldLinkNest RX10 204 RX0 "fine" "I" RX10) (List.mem_of_getElem? (i := 11) rfl))) (fun _ h9 => h9) rfl dX10_digest_210 ?_
  refine lv_i2l (v := 20) hx hb dX10_digest_213 (by decide) ?_
  refine lv_ladd hx hb dX10_digest_214 ?_
  refine my_bel (v := (-6075663528955063394)) (by decide +kernel) ?_
  refine lv_lstore_n (lv' := [(1, .long (-6075663528955063394)), (3, .int 4), (0, .ref x)]) hx hb dX10_digest_215 rfl hl (by decide) rfl (fun ls hl => ?_)
  refine lv_ldc2 (v := 31) hx hb hown (hts (.constantLong RX10 268 (31)) w_948) dX10_digest_216 ?_
  refine lv_lload_n hx hb dX10_digest_219 rfl (lv_at hl 0 rfl) ?_
  refine lv_lmul hx hb dX10_digest_220 ?_
  refine my_bel (v := (-3878128660511449054)) (by decide +kernel) ?_
  refine lv_aload_n hx hb dX10_digest_221 rfl (lv_at hl 2 rfl) ?_
  refine va_get (D := G.1) (ci := 9) (v := .ref fr) (C := RX10) (T := TX10) (N := 7) hx hb hts inlX10 hown hG.1 hP 0 rfl rfl 5 (by decide) (hts (.fieldLink RX10 41 "SwornLists" "fraction" "LSwornLists$Fraction;") w_28) (fun _ h9 => h9) rfl dX10_digest_222 ?_
  refine va_getN (D := G.1) (ci := 2) (v := .long 0) (C := RX2) (T := TX2) (N := 2) (host := RX10) hx hb hts inlX2 hown hG.1 hP 11 rfl rfl 0 (by decide) (va_Nw.use rfl (hG.2.1 (.fieldLinkNest RX10 227 RX2 "above" "J" RX10) (List.mem_of_getElem? (i := 19) rfl))) (fun _ h9 => h9) rfl dX10_digest_225 ?_
  refine lv_ladd hx hb dX10_digest_228 ?_
  refine my_bel (v := (-3878128660511449054)) (by decide +kernel) ?_
  refine lv_lstore_n (lv' := [(1, .long (-3878128660511449054)), (3, .int 4), (0, .ref x)]) hx hb dX10_digest_229 rfl hl (by decide) rfl (fun ls hl => ?_)
  refine lv_ldc2 (v := 31) hx hb hown (hts (.constantLong RX10 268 (31)) w_948) dX10_digest_230 ?_
  refine lv_lload_n hx hb dX10_digest_233 rfl (lv_at hl 0 rfl) ?_
  refine lv_lmul hx hb dX10_digest_234 ?_
  refine my_bel (v := 8905220040111940638) (by decide +kernel) ?_
  refine lv_aload_n hx hb dX10_digest_235 rfl (lv_at hl 2 rfl) ?_
  refine va_get (D := G.1) (ci := 9) (v := .ref fr) (C := RX10) (T := TX10) (N := 7) hx hb hts inlX10 hown hG.1 hP 0 rfl rfl 5 (by decide) (hts (.fieldLink RX10 41 "SwornLists" "fraction" "LSwornLists$Fraction;") w_28) (fun _ h9 => h9) rfl dX10_digest_236 ?_
  refine va_getN (D := G.1) (ci := 2) (v := .long 1) (C := RX2) (T := TX2) (N := 2) (host := RX10) hx hb hts inlX2 hown hG.1 hP 11 rfl rfl 1 (by decide) (va_Nw.use rfl (hG.2.1 (.fieldLinkNest RX10 231 RX2 "below" "J" RX10) (List.mem_of_getElem? (i := 20) rfl))) (fun _ h9 => h9) rfl dX10_digest_239 ?_
  refine lv_ladd hx hb dX10_digest_242 ?_
  refine my_bel (v := 8905220040111940639) (by decide +kernel) ?_
  exact W.lret (v := 8905220040111940639) hx hb hr (fun t ht hW => ⟨⟨_, (), rfl, (rfl), trivial⟩, hS.F ht⟩) hS.2.2 dX10_digest_243

theorem pp_0 : pi0 0 = 0 := by decide
theorem pp_1 : pi0 1 = 1 := by decide
theorem pp_2 : pi0 2 = 119 := by decide
theorem pp_3 : pi0 3 = 120 := by decide
theorem pp_4 : pi0 4 = 121 := by decide
theorem pp_5 : pi0 5 = 122 := by decide
theorem pp_6 : pi0 6 = 123 := by decide
theorem pp_7 : pi0 7 = 124 := by decide
theorem pp_8 : pi0 8 = 125 := by decide
theorem pp_9 : pi0 9 = 126 := by decide
theorem pp_10 : pi0 10 = 127 := by decide
theorem pp_11 : pi0 11 = 128 := by decide
theorem pp_12 : pi0 12 = 95 := by decide
theorem pp_13 : pi0 13 = 96 := by decide
theorem pp_14 : pi0 14 = 97 := by decide
theorem pp_15 : pi0 15 = 98 := by decide
theorem pp_36 : pi0 36 = 2 := by decide
theorem pp_129 : pi0 129 = 129 := by decide
theorem pp_222 : pi0 222 = 222 := by decide
theorem pp_315 : pi0 315 = 315 := by decide
theorem pp_316 : pi0 316 = 316 := by decide
theorem pp_317 : pi0 317 = 317 := by decide
theorem pp_318 : pi0 318 = 318 := by decide
theorem pp_319 : pi0 319 = 319 := by decide
theorem pp_320 : pi0 320 = 320 := by decide
theorem pp_321 : pi0 321 = 321 := by decide
theorem pp_322 : pi0 322 = 322 := by decide
theorem pp_323 : pi0 323 = 323 := by decide
theorem pp_324 : pi0 324 = 324 := by decide
theorem pp_325 : pi0 325 = 325 := by decide
theorem pp_326 : pi0 326 = 326 := by decide
theorem pp_327 : pi0 327 = 327 := by decide
theorem pp_328 : pi0 328 = 328 := by decide
theorem pp_329 : pi0 329 = 329 := by decide
theorem pp_330 : pi0 330 = 330 := by decide
theorem pp_331 : pi0 331 = 331 := by decide
theorem pp_332 : pi0 332 = 332 := by decide
theorem cI_start {G : gW} {g : Nat → Nat} {f : Nat → va_E} (h : nX G g f 0) : cI G (fun k => g (pi0 k)) (fun k => f (pi0 k)) := by
  obtain ⟨h0, ⟨c0, cb, ⟨hf, c2, c3⟩, c4, c5, c6⟩, ⟨t, i1, i2⟩, k1, r1, r2, f1, w0, w1, w2, w3, w4, bb⟩ := h
  have B0 := okB_of (b := 36) (b0 := 2) (π := pi0) cb (fun j hj => pi_b0 hj)
  have B1 := okB_of (b := 129) (b0 := 129) (π := pi0) (bb 0 (by decide)) (fun j hj => pi_b1 hj)
  have B2 := okB_of (b := 222) (b0 := 222) (π := pi0) (bb 1 (by decide)) (fun j hj => pi_b2 hj)
  obtain ⟨pay, fine, np, dp, nf, df, nr, dr, na, da, nt, dt, lf, tf, hbk, hpr, hpd, hfr, hfd, hrr, hrd, har, had, htr, htd, hsl, hal, hsw, haw, hnp, hnf, hnr, hna, hnt, hlf, htf, hKl, hKw⟩ := B0
  exact ⟨0, hf, t, fun _ => 0, 0, 0, 0, 0, fun _ => 0, 0, 1, 0, 0, fun _ => 0, fun _ => 0, fun _ => 0, fun _ => 0, fun _ => 0, pay, fine, np, dp, nf, df, nr, dr, na, da, nt, dt, lf, tf, (by show f (pi0 0) = eO 9 [.ref (g (pi0 1)), .ref (g (pi0 36)), .ref (g (pi0 2)), .ref (g (pi0 3)), .ref (g (pi0 4)), .ref (g (pi0 6)), .ref (g (pi0 7))]; rw [pp_0, pp_1, pp_36, pp_2, pp_3, pp_4, pp_6, pp_7]; exact h0), (by show f (pi0 1) = eO 1 [.ref (g (pi0 36)), .ref (g (pi0 12)), .ref (g (pi0 13)), .ref (g (pi0 15)), .int (nI 0)]; rw [pp_1, pp_36, pp_12, pp_13, pp_15]; exact c0), (by show f (pi0 12) = _; rw [pp_12]; exact c2), (by show f (pi0 2) = _; rw [pp_2]; exact i1), (by show f (pi0 3) = _; rw [pp_3]; exact k1), (by show f (pi0 4) = eO 4 [.ref (g (pi0 5)), .int (nI 0), .int 0, .int 0, .int 0]; rw [pp_4, pp_5]; exact r1), (by show f (pi0 5) = _; rw [pp_5]; exact r2), (by show f (pi0 6) = eO 2 [.long 0, .long 1]; rw [pp_6]; exact f1), (by show f (pi0 7) = eO 8 [.ref (g (pi0 8)), .ref (g (pi0 9)), .ref (g (pi0 10)), .ref (g (pi0 11)), .int (nI 0), .int 0]; rw [pp_7, pp_8, pp_9, pp_10, pp_11]; exact w0), (by show f (pi0 8) = _; rw [pp_8]; exact w1), (by show f (pi0 9) = _; rw [pp_9]; exact w2), (by show f (pi0 10) = _; rw [pp_10]; exact w3), (by show f (pi0 11) = _; rw [pp_11]; exact w4), (by show f (pi0 15) = _; rw [pp_15]; exact c5), hbk, hpr, hpd, hfr, hfd, hrr, hrd, har, had, htr, htd, hsl, hal, hsw, haw, by omega, (fun i hi => by show hf i = some (g (pi0 (2 * i + 16))); rw [c3 i hi, pi_h (by omega) (by omega), show 2 * i + 16 + 83 = 0 + 1 + 2 * i + 98 by omega]), (by show t 0 = some (g (pi0 129)); rw [pp_129]; exact i2 0 (by decide)), (by show t 1 = some (g (pi0 222)); rw [pp_222]; exact i2 1 (by decide)), by omega, by omega, by omega, by omega, by omega, by omega, by omega, hlf, htf, (fun i hi => okH_pi (c6 i hi) (by rw [pi_h (by omega) (by omega)]; omega) (by rw [pi_h (by omega) (by omega)]; omega)), (okH_pi c4 pp_13 pp_14), (fun i hi => hKl i hi), (fun i hi => hKw i hi), B1, B2⟩
theorem st0_ok : stOK (upd (upd (fun _ => 0) (Int32.toNatClampNeg 5) 5) (Int32.toNatClampNeg 6) 20) 0 0 0 0 0 :=
  stOK.of rfl rfl rfl rfl rfl (by omega) (by omega) (by omega) (by omega) (by omega) (fun t ht => ⟨0, by omega, by show upd (upd (fun _ => 0) 5 5) 6 20 (51 * t + 262) = nI 0; rw [pk_un (by omega), pk_un (by omega)]; rfl⟩) (fun a ha => absurd ha (Nat.not_lt_zero _)) (fun a ha => absurd ha (Nat.not_lt_zero _))
theorem stI_0 (o : Nat) : stI (fun _ => 0) o :=
  ⟨0, 0, 0, 0, 0, stOK.of rfl rfl rfl rfl rfl (by omega) (by omega) (by omega) (by omega) (by omega) (fun t ht => ⟨0, by omega, rfl⟩) (fun a ha => absurd ha (Nat.not_lt_zero _)) (fun a ha => absurd ha (Nat.not_lt_zero _))⟩
theorem mI_start {G : gW} {g : Nat → Nat} {f : Nat → va_E} (o0 : f 315 = eO 10 [.ref (g 316), .ref (g 317), .ref (g 318), .long 0, .long 1, .int 0, .ref (g 319), .ref (g 320), .int 0, .ref (g 321), .ref (g 322), .int 0, .int 0, .int 0, .int 0, .ref (g 323), .ref (g 324), .ref (g 325), .ref (g 326), .ref (g 327), .ref (g 328), .ref (g 329), .ref (g 330), .ref (g 331), .ref (g 332)]) (o1 : f 316 = eI G 2246 (upd (upd (fun _ => 0) (Int32.toNatClampNeg 5) 5) (Int32.toNatClampNeg 6) 20)) (o2 : f 317 = eI G 4492 (fun _ => 0)) (o3 : f 318 = eZ G 2 (fun _ => 0)) (o4 : f 319 = eI G 70 (fun _ => 0)) (o5 : f 320 = eI G 70 (fun _ => 0)) (o6 : f 321 = eI G 70 (fun _ => 0)) (o7 : f 322 = eJ G 70 (fun _ => 0)) (o8 : f 323 = eI G 11 (fun _ => 0)) (o9 : f 324 = eI G 11 (fun _ => 0)) (o10 : f 325 = eI G 264 (fun _ => 0)) (o11 : f 326 = eI G 11 (fun _ => 0)) (o12 : f 327 = eI G 330 (fun _ => 0)) (o13 : f 328 = eI G 44 (fun _ => 0)) (o14 : f 329 = eI G 30 (fun _ => 0)) (o15 : f 330 = eI G 6 (fun _ => 0)) (o16 : f 331 = eI G 6 (fun _ => 0)) (o17 : f 332 = eI G 6 (fun _ => 0)) : mI G (fun k => g (pi0 k)) (fun k => f (pi0 k)) := 
  ⟨0, 1, 0, 0, 0, 0, 0, 0, upd (upd (fun _ => 0) (Int32.toNatClampNeg 5) 5) (Int32.toNatClampNeg 6) 20, 0, 0, 0, 0, 0, fun _ => 0, fun _ => 0, fun _ => 0, fun _ => 0, fun _ => 0, fun _ => 0, fun _ => 0, fun _ => 0, fun _ => 0, fun _ => 0, fun _ => 0, fun _ => 0, fun _ => 0, fun _ => 0, fun _ => 0, fun _ => 0, (by show f (pi0 315) = eO 10 [.ref (g (pi0 316)), .ref (g (pi0 317)), .ref (g (pi0 318)), .long 0, .long 1, .int 0, .ref (g (pi0 319)), .ref (g (pi0 320)), .int 0, .ref (g (pi0 321)), .ref (g (pi0 322)), .int 0, .int 0, .int 0, .int (nI 0), .ref (g (pi0 323)), .ref (g (pi0 324)), .ref (g (pi0 325)), .ref (g (pi0 326)), .ref (g (pi0 327)), .ref (g (pi0 328)), .ref (g (pi0 329)), .ref (g (pi0 330)), .ref (g (pi0 331)), .ref (g (pi0 332))]; rw [pp_315, pp_316, pp_317, pp_318, pp_319, pp_320, pp_321, pp_322, pp_323, pp_324, pp_325, pp_326, pp_327, pp_328, pp_329, pp_330, pp_331, pp_332]; exact o0), (by show f (pi0 316) = _; rw [pp_316]; exact o1), (by show f (pi0 317) = _; rw [pp_317]; exact o2), (by show f (pi0 318) = _; rw [pp_318]; exact o3), (by show f (pi0 319) = _; rw [pp_319]; exact o4), (by show f (pi0 320) = _; rw [pp_320]; exact o5), (by show f (pi0 321) = _; rw [pp_321]; exact o6), (by show f (pi0 322) = _; rw [pp_322]; exact o7), (by show f (pi0 323) = _; rw [pp_323]; exact o8), (by show f (pi0 324) = _; rw [pp_324]; exact o9), (by show f (pi0 325) = _; rw [pp_325]; exact o10), (by show f (pi0 326) = _; rw [pp_326]; exact o11), (by show f (pi0 327) = _; rw [pp_327]; exact o12), (by show f (pi0 328) = _; rw [pp_328]; exact o13), (by show f (pi0 329) = _; rw [pp_329]; exact o14), (by show f (pi0 330) = _; rw [pp_330]; exact o15), (by show f (pi0 331) = _; rw [pp_331]; exact o16), (by show f (pi0 332) = _; rw [pp_332]; exact o17), st0_ok, by omega, fun k _ => ⟨0, by omega, rfl⟩, stI_0 0, stI_0 2246⟩
theorem wl_pi {G : gW} {g : Nat → Nat} {f : Nat → va_E} {H : Heap} (h : va_P G.1 vwCl (wn 333 g f) H) : va_P G.1 vwCl (wl (fun k => g (pi0 k)) (fun k => f (pi0 k))) H := by
  refine h.by pi0 (fun k q hk => ?_)
  have hl := wl_none hk
  rw [wl_get hl] at hk
  cases hk
  exact wn_get (pi_ok k hl).1
theorem gOK_pi {g : Nat → Nat} {f : Nat → va_E} {A : Nat → Prop} (h : va_D A (wn 333 g f)) : gOK (fun k => g (pi0 k)) := by
  intro i j hi hj e
  have h1 := h.1 (pi0 i) (pi0 j) _ _ (wn_get (pi_ok i hi).1) (wn_get (pi_ok j hj).1) e
  have h2 := congrArg pi1 h1
  rw [(pi_ok i hi).2, (pi_ok j hj).2] at h2
  exact h2
theorem gA_pi {g : Nat → Nat} {f : Nat → va_E} {A : Nat → Prop} (h : va_D A (wn 333 g f)) : ∀ q, gA (fun k => g (pi0 k)) q → A q := by
  intro q hq
  obtain ⟨k, hk, rfl⟩ := hq
  exact h.2 _ _ (wn_get (pi_ok k hk).1)

theorem bkD_of {G : gW} {g : Nat → Nat} {f : Nat → va_E} {π : Nat → Nat} {b b0 : Nat} (h : nB G g f b0) (e : ∀ j, j < 93 → π (b + j) = b0 + sg j) : bkD G (fun k => g (π k)) (fun k => f (π k)) b (fun _ => 0) (fun _ _ => 0) (mkP 5 20) (fun _ => 0) (fun _ _ => 0) (fun _ => 0) (fun _ _ => 0) := by
  obtain ⟨h0, r1, d1, r3, d3, r5, d5, r7, d7, r9, d9, ⟨l0, ⟨lf, l1, l2⟩, l3⟩, ⟨t0, ⟨tf, t1, t2⟩, t3⟩⟩ := h
  have eb : π b = b0 := e 0 (by decide)
  have et : ∀ z, z < 20 → ∀ c, c < 3 → π (3 * z + (b + 11) + 5 + c) = b0 + 11 + 3 * z + 5 + c := fun z hz c hc => by
    rw [show 3 * z + (b + 11) + 5 + c = b + (3 * z + 16 + c) by omega, e _ (by omega), sg_t (by omega) (by omega)]; omega
  have ew : ∀ z, z < 4 → ∀ c, c < 3 → π (3 * z + (b + 76) + 5 + c) = b0 + 76 + 3 * z + 5 + c := fun z hz c hc => by
    rw [show 3 * z + (b + 76) + 5 + c = b + (3 * z + 81 + c) by omega, e _ (by omega), sg_t (by omega) (by omega)]; omega
  refine ⟨lf, tf, ?_, ?_, ?_, ?_, ?_, ?_, ?_, ?_, ?_, ?_, ?_, ?_, ?_, ?_, ?_, Nat.zero_le _, Nat.zero_le _, Nat.zero_le _, Nat.zero_le _, Nat.zero_le _, ?_, ?_, fun z hz => ⟨_, _, isT_pi (l3 z hz) (et z hz 0 (by decide)) (et z hz 1 (by decide)) (et z hz 2 (by decide)), fun q => absurd q (Nat.not_lt_zero _)⟩, fun z hz => ⟨_, _, isT_pi (t3 z hz) (ew z hz 0 (by decide)) (ew z hz 1 (by decide)) (ew z hz 2 (by decide))⟩⟩
  · show f (π b) = eO 0 [.ref (g (π (b + 1))), .ref (g (π (b + 3))), .ref (g (π (b + 5))), .ref (g (π (b + 7))), .ref (g (π (b + 9))), .ref (g (π (b + 11))), .ref (g (π (b + 76))), .int 5, .int 20]
    rw [eb, e 1 (by decide), e 3 (by decide), e 5 (by decide), e 7 (by decide), e 9 (by decide), e 11 (by decide), e 76 (by decide)]; exact h0
  · show f (π (b + 1)) = eO 5 [.int (nI 30), .int (nI 4), .ref (g (π (b + 2))), .int (nI 0)]
    rw [e 1 (by decide), e 2 (by decide)]; exact r1
  · show f (π (b + 2)) = _
    rw [e 2 (by decide)]; exact d1
  · show f (π (b + 3)) = eO 5 [.int (nI 40), .int (nI 3), .ref (g (π (b + 4))), .int (nI 0)]
    rw [e 3 (by decide), e 4 (by decide)]; exact r3
  · show f (π (b + 4)) = _
    rw [e 4 (by decide)]; exact d3
  · show f (π (b + 5)) = eO 5 [.int (nI 4), .int (nI 3), .ref (g (π (b + 6))), .int (nI 0)]
    rw [e 5 (by decide), e 6 (by decide)]; exact r5
  · show f (π (b + 6)) = _
    rw [e 6 (by decide)]; exact d5
  · show f (π (b + 7)) = eO 5 [.int (nI 20), .int (nI 3), .ref (g (π (b + 8))), .int (nI 0)]
    rw [e 7 (by decide), e 8 (by decide)]; exact r7
  · show f (π (b + 8)) = _
    rw [e 8 (by decide)]; exact d7
  · show f (π (b + 9)) = eO 5 [.int (nI 10), .int (nI 70), .ref (g (π (b + 10))), .int (nI 0)]
    rw [e 9 (by decide), e 10 (by decide)]; exact r9
  · show f (π (b + 10)) = _
    rw [e 10 (by decide)]; exact d9
  · show f (π (b + 11)) = eO 6 [.ref (g (π (b + 12))), .ref (g (π (b + 13)))]
    rw [e 11 (by decide), e 12 (by decide), e 13 (by decide)]; exact l0
  · show f (π (b + 12)) = _
    rw [e 12 (by decide)]; exact l1
  · show f (π (b + 76)) = eO 6 [.ref (g (π (b + 77))), .ref (g (π (b + 78)))]
    rw [e 76 (by decide), e 77 (by decide), e 78 (by decide)]; exact t0
  · show f (π (b + 77)) = _
    rw [e 77 (by decide)]; exact t1
  · intro z hz
    show lf z = some (g (π (b + 11 + 3 * z + 5)))
    rw [l2 z hz, show b + 11 + 3 * z + 5 = 3 * z + (b + 11) + 5 + 0 by omega, et z hz 0 (by decide)]
  · intro z hz
    show tf z = some (g (π (b + 76 + 3 * z + 5)))
    rw [t2 z hz, show b + 76 + 3 * z + 5 = 3 * z + (b + 76) + 5 + 0 by omega, ew z hz 0 (by decide)]
theorem cJ_start {G : gW} {g : Nat → Nat} {f : Nat → va_E} (h : nX G g f 0) : cJ G (fun k => g (pi0 k)) (fun k => f (pi0 k)) 0 (fun _ => 0) 0 (fun _ => 0) 0 (fun _ => 0) 0 (fun _ => 0) 5 20 (fun _ => 0) 0 (fun _ => 0) (fun _ => 0) (fun _ _ => 0) (fun _ => 0) (fun _ _ => 0) (fun _ => 0) (fun _ _ => 0) (mkP 5 20) (fun _ => 0) (fun _ _ => 0) (fun _ => 0) (fun _ _ => 0) (fun _ => 0) (fun _ _ => 0) (mkP 5 20) (fun _ => 0) (fun _ _ => 0) (fun _ => 0) (fun _ _ => 0) := by
  obtain ⟨h0, ⟨c0, cb, ⟨hf, c2, c3⟩, c4, c5, c6⟩, ⟨t, i1, i2⟩, k1, r1, r2, f1, w0, w1, w2, w3, w4, bb⟩ := h
  have B0 := bkD_of (b := 36) (b0 := 2) (π := pi0) cb (fun j hj => pi_b0 hj)
  have B1 := bkD_of (b := 129) (b0 := 129) (π := pi0) (bb 0 (by decide)) (fun j hj => pi_b1 hj)
  have B2 := bkD_of (b := 222) (b0 := 222) (π := pi0) (bb 1 (by decide)) (fun j hj => pi_b2 hj)
  obtain ⟨lf, tf, hbk, hpr, hpd, hfr, hfd, hrr, hrd, har, had, htr, htd, hsl, hal, hsw, haw, hnp, hnf, hnr, hna, hnt, hlf, htf, hKl, hKw⟩ := B0
  exact ⟨0, hf, t, 0, 0, 0, 0, fun _ => 0, 0, 1, 0, 0, fun _ => 0, fun _ => 0, fun _ => 0, fun _ => 0, fun _ => 0, lf, tf, (by show f (pi0 0) = eO 9 [.ref (g (pi0 1)), .ref (g (pi0 36)), .ref (g (pi0 2)), .ref (g (pi0 3)), .ref (g (pi0 4)), .ref (g (pi0 6)), .ref (g (pi0 7))]; rw [pp_0, pp_1, pp_36, pp_2, pp_3, pp_4, pp_6, pp_7]; exact h0), (by show f (pi0 1) = eO 1 [.ref (g (pi0 36)), .ref (g (pi0 12)), .ref (g (pi0 13)), .ref (g (pi0 15)), .int (nI 0)]; rw [pp_1, pp_36, pp_12, pp_13, pp_15]; exact c0), (by show f (pi0 12) = _; rw [pp_12]; exact c2), (by show f (pi0 2) = _; rw [pp_2]; exact i1), (by show f (pi0 3) = _; rw [pp_3]; exact k1), (by show f (pi0 4) = eO 4 [.ref (g (pi0 5)), .int (nI 0), .int 0, .int 0, .int 0]; rw [pp_4, pp_5]; exact r1), (by show f (pi0 5) = _; rw [pp_5]; exact r2), (by show f (pi0 6) = eO 2 [.long 0, .long 1]; rw [pp_6]; exact f1), (by show f (pi0 7) = eO 8 [.ref (g (pi0 8)), .ref (g (pi0 9)), .ref (g (pi0 10)), .ref (g (pi0 11)), .int (nI 0), .int 0]; rw [pp_7, pp_8, pp_9, pp_10, pp_11]; exact w0), (by show f (pi0 8) = _; rw [pp_8]; exact w1), (by show f (pi0 9) = _; rw [pp_9]; exact w2), (by show f (pi0 10) = _; rw [pp_10]; exact w3), (by show f (pi0 11) = _; rw [pp_11]; exact w4), (by show f (pi0 15) = _; rw [pp_15]; exact c5), hbk, hpr, hpd, hfr, hfd, hrr, hrd, har, had, htr, htd, hsl, hal, hsw, haw, by omega, (fun i hi => by show hf i = some (g (pi0 (2 * i + 16))); rw [c3 i hi, pi_h (by omega) (by omega), show 2 * i + 16 + 83 = 0 + 1 + 2 * i + 98 by omega]), (by show t 0 = some (g (pi0 129)); rw [pp_129]; exact i2 0 (by decide)), (by show t 1 = some (g (pi0 222)); rw [pp_222]; exact i2 1 (by decide)), by omega, by omega, by omega, by omega, by omega, by omega, by omega, hlf, htf, by omega, (fun i hi => okH_pi (c6 i hi) (by rw [pi_h (by omega) (by omega)]; omega) (by rw [pi_h (by omega) (by omega)]; omega)), (okH_pi c4 pp_13 pp_14), (fun i hi => hKl i hi), (fun i hi => hKw i hi), B1, B2, fun z hz => absurd hz (Nat.not_lt_zero _)⟩
theorem mJ_start {G : gW} {g : Nat → Nat} {f : Nat → va_E} (o0 : f 315 = eO 10 [.ref (g 316), .ref (g 317), .ref (g 318), .long 0, .long 1, .int 0, .ref (g 319), .ref (g 320), .int 0, .ref (g 321), .ref (g 322), .int 0, .int 0, .int 0, .int 0, .ref (g 323), .ref (g 324), .ref (g 325), .ref (g 326), .ref (g 327), .ref (g 328), .ref (g 329), .ref (g 330), .ref (g 331), .ref (g 332)]) (o1 : f 316 = eI G 2246 (upd (upd (fun _ => 0) (Int32.toNatClampNeg 5) 5) (Int32.toNatClampNeg 6) 20)) (o2 : f 317 = eI G 4492 (fun _ => 0)) (o3 : f 318 = eZ G 2 (fun _ => 0)) (o4 : f 319 = eI G 70 (fun _ => 0)) (o5 : f 320 = eI G 70 (fun _ => 0)) (o6 : f 321 = eI G 70 (fun _ => 0)) (o7 : f 322 = eJ G 70 (fun _ => 0)) (o8 : f 323 = eI G 11 (fun _ => 0)) (o9 : f 324 = eI G 11 (fun _ => 0)) (o10 : f 325 = eI G 264 (fun _ => 0)) (o11 : f 326 = eI G 11 (fun _ => 0)) (o12 : f 327 = eI G 330 (fun _ => 0)) (o13 : f 328 = eI G 44 (fun _ => 0)) (o14 : f 329 = eI G 30 (fun _ => 0)) (o15 : f 330 = eI G 6 (fun _ => 0)) (o16 : f 331 = eI G 6 (fun _ => 0)) (o17 : f 332 = eI G 6 (fun _ => 0)) : mJ G (fun k => g (pi0 k)) (fun k => f (pi0 k)) (upd (upd (fun _ => 0) (Int32.toNatClampNeg 5) 5) (Int32.toNatClampNeg 6) 20) (fun _ => 0) (fun _ => 0) := 
  ⟨0, 1, 0, 0, 0, 0, 0, 0, 0, 0, 0, 0, 0, fun _ => 0, fun _ => 0, fun _ => 0, fun _ => 0, fun _ => 0, fun _ => 0, fun _ => 0, fun _ => 0, fun _ => 0, fun _ => 0, fun _ => 0, fun _ => 0, fun _ => 0, fun _ => 0, (by show f (pi0 315) = eO 10 [.ref (g (pi0 316)), .ref (g (pi0 317)), .ref (g (pi0 318)), .long 0, .long 1, .int 0, .ref (g (pi0 319)), .ref (g (pi0 320)), .int 0, .ref (g (pi0 321)), .ref (g (pi0 322)), .int 0, .int 0, .int 0, .int (nI 0), .ref (g (pi0 323)), .ref (g (pi0 324)), .ref (g (pi0 325)), .ref (g (pi0 326)), .ref (g (pi0 327)), .ref (g (pi0 328)), .ref (g (pi0 329)), .ref (g (pi0 330)), .ref (g (pi0 331)), .ref (g (pi0 332))]; rw [pp_315, pp_316, pp_317, pp_318, pp_319, pp_320, pp_321, pp_322, pp_323, pp_324, pp_325, pp_326, pp_327, pp_328, pp_329, pp_330, pp_331, pp_332]; exact o0), (by show f (pi0 316) = _; rw [pp_316]; exact o1), (by show f (pi0 317) = _; rw [pp_317]; exact o2), (by show f (pi0 318) = _; rw [pp_318]; exact o3), (by show f (pi0 319) = _; rw [pp_319]; exact o4), (by show f (pi0 320) = _; rw [pp_320]; exact o5), (by show f (pi0 321) = _; rw [pp_321]; exact o6), (by show f (pi0 322) = _; rw [pp_322]; exact o7), (by show f (pi0 323) = _; rw [pp_323]; exact o8), (by show f (pi0 324) = _; rw [pp_324]; exact o9), (by show f (pi0 325) = _; rw [pp_325]; exact o10), (by show f (pi0 326) = _; rw [pp_326]; exact o11), (by show f (pi0 327) = _; rw [pp_327]; exact o12), (by show f (pi0 328) = _; rw [pp_328]; exact o13), (by show f (pi0 329) = _; rw [pp_329]; exact o14), (by show f (pi0 330) = _; rw [pp_330]; exact o15), (by show f (pi0 331) = _; rw [pp_331]; exact o16), (by show f (pi0 332) = _; rw [pp_332]; exact o17), st0_ok, by omega, fun k _ => ⟨0, by omega, rfl⟩, stI_0 0, stI_0 2246, fun z => absurd rfl z⟩
theorem rel_start : relF 0 (fun _ => 0) 0 (fun _ => 0) 0 (fun _ => 0) 0 (fun _ => 0) 5 20 (fun _ => 0) 0 (fun _ => 0) (fun _ => 0) (fun _ _ => 0) (fun _ => 0) (fun _ _ => 0) (fun _ => 0) (fun _ _ => 0) (mkP 5 20) (fun _ => 0) (fun _ _ => 0) (fun _ => 0) (fun _ _ => 0) (fun _ => 0) (fun _ _ => 0) (mkP 5 20) (fun _ => 0) (fun _ _ => 0) (fun _ => 0) (fun _ _ => 0) (upd (upd (fun _ => 0) (Int32.toNatClampNeg 5) 5) (Int32.toNatClampNeg 6) 20) (fun _ => 0) (fun _ => 0) := ⟨rcF_start, fun h => absurd rfl h, fun h => absurd rfl h, rfl, rfl⟩


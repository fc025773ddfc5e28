def stI (im : Nat → Int32) (o : Nat) : Prop := ∃ np nf nr na nt, stOK (fun k => im (k + o)) np nf nr na nt
theorem stOK.keep {s s' : Nat → Int32} {np nf nr na nt : Nat} (h : stOK s np nf nr na nt) (e0 : ∀ k, k < 5 → s' k = s k) (e1 : ∀ t, t < 4 → s' (51 * t + 262) = s (51 * t + 262)) (e2 : ∀ a j, a < na → j ≤ 50 → s' (54 * a + 469 + j) = s (54 * a + 469 + j)) (e3 : ∀ t, t < nt → s' (10 * t + 1552) = s (10 * t + 1552) ∧ s' (10 * t + 1554) = s (10 * t + 1554)) : stOK s' np nf nr na nt :=
  stOK.of
    (h0 := (e0 0 (by decide)).trans h.h0)
    (h1 := (e0 1 (by decide)).trans h.h1)
    (h2 := (e0 2 (by decide)).trans h.h2)
    (h3 := (e0 3 (by decide)).trans h.h3)
    (h4 := (e0 4 (by decide)).trans h.h4)
    (c0 := h.c0)
    (c1 := h.c1)
    (c2 := h.c2)
    (c3 := h.c3)
    (c4 := h.c4)
    (tx := fun t ht => by
      obtain ⟨l, a, b⟩ := h.tx t ht
      exact ⟨l, a, (e1 t ht).trans b⟩)
    (ac := fun a ha => by
      obtain ⟨l, hl, b, d⟩ := h.ac a ha
      refine ⟨l, hl, (e2 a 0 ha (by omega)).trans b, ?_⟩
      rw [← d]
      refine rdA_congr (fun k hk => ?_)
      have := e2 a (k + 1) ha (by omega)
      rw [show 54 * a + 469 + k + 1 = 54 * a + 469 + (k + 1) by omega]
      exact this)
    (tr := fun t ht => by
      obtain ⟨⟨q, hq, x⟩, r, hr, y⟩ := h.tr t ht
      exact ⟨⟨q, hq, (e3 t ht).1.trans x⟩, r, hr, (e3 t ht).2.trans y⟩)
theorem stOK.upd1 {s : Nat → Int32} {np nf nr na nt K : Nat} {v : Int32} (h : stOK s np nf nr na nt) (h0 : 5 ≤ K) (h1 : ∀ t, t < 4 → 51 * t + 262 ≠ K) (h2 : ∀ a j, a < na → j ≤ 50 → 54 * a + 469 + j ≠ K) (h3 : ∀ t, t < nt → 10 * t + 1552 ≠ K ∧ 10 * t + 1554 ≠ K) : stOK (upd s K v) np nf nr na nt :=
  h.keep (fun k hk => pk_un (by omega)) (fun t ht => pk_un (h1 t ht)) (fun a j ha hj => pk_un (h2 a j ha hj)) (fun t ht => ⟨pk_un (h3 t ht).1, pk_un (h3 t ht).2⟩)
theorem stOK.np1 {s : Nat → Int32} {np nf nr na nt : Nat} (h : stOK s np nf nr na nt) (hn : np < 30) : stOK (upd s 0 (nI (np + 1))) (np + 1) nf nr na nt :=
  stOK.of
    (h0 := pk_us)
    (h1 := (pk_un (by decide)).trans h.h1)
    (h2 := (pk_un (by decide)).trans h.h2)
    (h3 := (pk_un (by decide)).trans h.h3)
    (h4 := (pk_un (by decide)).trans h.h4)
    (c0 := hn)
    (c1 := h.c1)
    (c2 := h.c2)
    (c3 := h.c3)
    (c4 := h.c4)
    (tx := fun t ht => by
      obtain ⟨l, a, b⟩ := h.tx t ht
      exact ⟨l, a, (pk_un (by omega)).trans b⟩)
    (ac := fun a ha => by
      obtain ⟨l, hl, b, d⟩ := h.ac a ha
      exact ⟨l, hl, (pk_un (by omega)).trans b, (rdA_congr (fun k _ => pk_un (by omega))).trans d⟩)
    (tr := fun t ht => by
      obtain ⟨⟨q, hq, x⟩, r, hr, y⟩ := h.tr t ht
      exact ⟨⟨q, hq, (pk_un (by omega)).trans x⟩, r, hr, (pk_un (by omega)).trans y⟩)
theorem stOK.nf1 {s : Nat → Int32} {np nf nr na nt : Nat} (h : stOK s np nf nr na nt) (hn : nf < 40) : stOK (upd s 1 (nI (nf + 1))) np (nf + 1) nr na nt :=
  stOK.of
    (h0 := (pk_un (by decide)).trans h.h0)
    (h1 := pk_us)
    (h2 := (pk_un (by decide)).trans h.h2)
    (h3 := (pk_un (by decide)).trans h.h3)
    (h4 := (pk_un (by decide)).trans h.h4)
    (c0 := h.c0)
    (c1 := hn)
    (c2 := h.c2)
    (c3 := h.c3)
    (c4 := h.c4)
    (tx := fun t ht => by
      obtain ⟨l, a, b⟩ := h.tx t ht
      exact ⟨l, a, (pk_un (by omega)).trans b⟩)
    (ac := fun a ha => by
      obtain ⟨l, hl, b, d⟩ := h.ac a ha
      exact ⟨l, hl, (pk_un (by omega)).trans b, (rdA_congr (fun k _ => pk_un (by omega))).trans d⟩)
    (tr := fun t ht => by
      obtain ⟨⟨q, hq, x⟩, r, hr, y⟩ := h.tr t ht
      exact ⟨⟨q, hq, (pk_un (by omega)).trans x⟩, r, hr, (pk_un (by omega)).trans y⟩)
theorem stOK.nr1 {s : Nat → Int32} {np nf nr na nt : Nat} (h : stOK s np nf nr na nt) (hn : nr < 4) : stOK (upd s 2 (nI (nr + 1))) np nf (nr + 1) na nt :=
  stOK.of
    (h0 := (pk_un (by decide)).trans h.h0)
    (h1 := (pk_un (by decide)).trans h.h1)
    (h2 := pk_us)
    (h3 := (pk_un (by decide)).trans h.h3)
    (h4 := (pk_un (by decide)).trans h.h4)
    (c0 := h.c0)
    (c1 := h.c1)
    (c2 := hn)
    (c3 := h.c3)
    (c4 := h.c4)
    (tx := fun t ht => by
      obtain ⟨l, a, b⟩ := h.tx t ht
      exact ⟨l, a, (pk_un (by omega)).trans b⟩)
    (ac := fun a ha => by
      obtain ⟨l, hl, b, d⟩ := h.ac a ha
      exact ⟨l, hl, (pk_un (by omega)).trans b, (rdA_congr (fun k _ => pk_un (by omega))).trans d⟩)
    (tr := fun t ht => by
      obtain ⟨⟨q, hq, x⟩, r, hr, y⟩ := h.tr t ht
      exact ⟨⟨q, hq, (pk_un (by omega)).trans x⟩, r, hr, (pk_un (by omega)).trans y⟩)
theorem stOK.ac1 {s s' : Nat → Int32} {np nf nr na nt l : Nat} (h : stOK s np nf nr na nt) (hn : na < 20) (e : ∀ k, (k < 54 * na + 466 ∨ 54 * na + 520 ≤ k) → s' k = s k) (hl : l ≤ 50) (g1 : s' (54 * na + 469) = nI l) (g2 : rdA l (fun k => s' (54 * na + 469 + k + 1)) = -1) : stOK (upd s' 3 (nI (na + 1))) np nf nr (na + 1) nt :=
  stOK.of
    (h0 := (pk_un (by decide)).trans ((e 0 (by omega)).trans h.h0))
    (h1 := (pk_un (by decide)).trans ((e 1 (by omega)).trans h.h1))
    (h2 := (pk_un (by decide)).trans ((e 2 (by omega)).trans h.h2))
    (h3 := pk_us)
    (h4 := (pk_un (by decide)).trans ((e 4 (by omega)).trans h.h4))
    (c0 := h.c0)
    (c1 := h.c1)
    (c2 := h.c2)
    (c3 := hn)
    (c4 := h.c4)
    (tx := fun t ht => by
      obtain ⟨l, a, b⟩ := h.tx t ht
      exact ⟨l, a, (pk_un (by omega)).trans ((e _ (by omega)).trans b)⟩)
    (ac := fun a ha => by
      by_cases ea : a = na
      · rw [ea]
        exact ⟨l, hl, (pk_un (by omega)).trans g1, (rdA_congr (fun k _ => pk_un (by omega))).trans g2⟩
      · obtain ⟨l, hl, b, d⟩ := h.ac a (by omega)
        exact ⟨l, hl, (pk_un (by omega)).trans ((e _ (by omega)).trans b), (rdA_congr (fun k hk => (pk_un (by omega)).trans (e _ (by omega)))).trans d⟩)
    (tr := fun t ht => by
      obtain ⟨⟨q, hq, x⟩, r, hr, y⟩ := h.tr t ht
      exact ⟨⟨q, hq, (pk_un (by omega)).trans ((e _ (by omega)).trans x)⟩, r, hr, (pk_un (by omega)).trans ((e _ (by omega)).trans y)⟩)
theorem stOK.tr1 {s s' : Nat → Int32} {np nf nr na nt q r : Nat} (h : stOK s np nf nr na nt) (hn : nt < 10) (e : ∀ k, k < 10 * nt + 1546 → s' k = s k) (hq : q ≤ 4) (g1 : s' (10 * nt + 1552) = nI q) (hr : r ≤ 24) (g2 : s' (10 * nt + 1554) = nI r) : stOK (upd s' 4 (nI (nt + 1))) np nf nr na (nt + 1) :=
  stOK.of
    (h0 := (pk_un (by decide)).trans ((e 0 (by omega)).trans h.h0))
    (h1 := (pk_un (by decide)).trans ((e 1 (by omega)).trans h.h1))
    (h2 := (pk_un (by decide)).trans ((e 2 (by omega)).trans h.h2))
    (h3 := (pk_un (by decide)).trans ((e 3 (by omega)).trans h.h3))
    (h4 := pk_us)
    (c0 := h.c0)
    (c1 := h.c1)
    (c2 := h.c2)
    (c3 := h.c3)
    (c4 := hn)
    (tx := fun t ht => by
      obtain ⟨l, a, b⟩ := h.tx t ht
      exact ⟨l, a, (pk_un (by omega)).trans ((e _ (by omega)).trans b)⟩)
    (ac := fun a ha => by
      have hc3 := h.c3
      obtain ⟨l, hl, b, d⟩ := h.ac a ha
      exact ⟨l, hl, (pk_un (by omega)).trans ((e _ (by omega)).trans b), (rdA_congr (fun k hk => (pk_un (by omega)).trans (e _ (by omega)))).trans d⟩)
    (tr := fun t ht => by
      by_cases et : t = nt
      · rw [et]
        exact ⟨⟨q, hq, (pk_un (by omega)).trans g1⟩, r, hr, (pk_un (by omega)).trans g2⟩
      · obtain ⟨⟨q, hq, x⟩, r, hr, y⟩ := h.tr t (by omega)
        exact ⟨⟨q, hq, (pk_un (by omega)).trans ((e _ (by omega)).trans x)⟩, r, hr, (pk_un (by omega)).trans ((e _ (by omega)).trans y)⟩)
theorem stOK.txu {s : Nat → Int32} {np nf nr na nt x l : Nat} (h : stOK s np nf nr na nt) (hx : x < 4) (hl : l ≤ 50) : stOK (upd s (51 * x + 262) (nI l)) np nf nr na nt :=
  stOK.of
    (h0 := (pk_un (by omega)).trans h.h0)
    (h1 := (pk_un (by omega)).trans h.h1)
    (h2 := (pk_un (by omega)).trans h.h2)
    (h3 := (pk_un (by omega)).trans h.h3)
    (h4 := (pk_un (by omega)).trans h.h4)
    (c0 := h.c0)
    (c1 := h.c1)
    (c2 := h.c2)
    (c3 := h.c3)
    (c4 := h.c4)
    (tx := fun t ht => by
      by_cases e : t = x
      · rw [e]; exact ⟨l, hl, pk_us⟩
      · obtain ⟨l, a, b⟩ := h.tx t ht
        exact ⟨l, a, (pk_un (by omega)).trans b⟩)
    (ac := fun a ha => by
      obtain ⟨l, hl, b, d⟩ := h.ac a ha
      exact ⟨l, hl, (pk_un (by omega)).trans b, (rdA_congr (fun k _ => pk_un (by omega))).trans d⟩)
    (tr := fun t ht => by
      obtain ⟨⟨q, hq, x⟩, r, hr, y⟩ := h.tr t ht
      exact ⟨⟨q, hq, (pk_un (by omega)).trans x⟩, r, hr, (pk_un (by omega)).trans y⟩)
theorem fill_a {P : Nat → Nat} {s s4 : Nat → Int32} {k : Nat} {x : Int32} (ha : ∀ j, (∀ q, q < k → j ≠ P q) → s4 j = s j) : ∀ j, (∀ q, q < k + 1 → j ≠ P q) → upd s4 (P k) x j = s j :=
  fun j hj => (pk_un (hj k (by omega))).trans (ha j (fun q hq => hj q (by omega)))
theorem fill_b {P : Nat → Nat} {s4 v : Nat → Int32} {k : Nat} {x : Int32} (inj : ∀ i j, P i = P j → i = j) (hb : ∀ q, q < k → s4 (P q) = v q) (hx : x = v k) : ∀ q, q < k + 1 → upd s4 (P k) x (P q) = v q := by
  intro q hq
  by_cases e : q = k
  · rw [e, pk_us]; exact hx
  · rw [pk_un (fun z => e (inj _ _ z))]; exact hb q (by omega)
theorem inB_1n {n : Int32} {b : Nat} (hb : b < 2 ^ 31) (h : inB 1 n (nI b) = true) : ∃ i, i ≤ b ∧ n = nI i := by
  obtain ⟨h1, h2⟩ := of_decide_eq_true h
  exact inB_n hb (decide_eq_true ⟨Int32.le_trans (by decide) h1, h2⟩)
/-- the reference's object and all it holds -/
def mI (G : gW) (g : Nat → Nat) (f : Nat → va_E) : Prop := ∃ ab2 : Int64, ∃ be2 : Int64, ∃ sn : Int32, ∃ wn : Int32, ∃ sa : Int32, ∃ ly : Int32, ∃ rdy : Int32, ∃ fd : Nat, ∃ ss : Nat → Int32, ∃ np : Nat, ∃ nf : Nat, ∃ nr : Nat, ∃ na : Nat, ∃ nt : Nat, ∃ im : Nat → Int32, ∃ kq : Nat → Int32, ∃ sp : Nat → Int32, ∃ wi : Nat → Int32, ∃ wa : Nat → Int32, ∃ va : Nat → Int64, ∃ bo : Nat → Int32, ∃ ju : Nat → Int32, ∃ dr : Nat → Int32, ∃ dn : Nat → Int32, ∃ sl : Nat → Int32, ∃ ax : Nat → Int32, ∃ lf : Nat → Int32, ∃ wh : Nat → Int32, ∃ w6 : Nat → Int32, ∃ b6 : Nat → Int32, f 315 = eO 10 [.ref (g 316), .ref (g 317), .ref (g 318), .long ab2, .long be2, .int sn, .ref (g 319), .ref (g 320), .int wn, .ref (g 321), .ref (g 322), .int sa, .int ly, .int rdy, .int (nI fd), .ref (g 323), .ref (g 324), .ref (g 325), .ref (g 326), .ref (g 327), .ref (g 328), .ref (g 329), .ref (g 330), .ref (g 331), .ref (g 332)] ∧ f 316 = eI G 2246 ss ∧ f 317 = eI G 4492 im ∧ f 318 = eZ G 2 kq ∧ f 319 = eI G 70 sp ∧ f 320 = eI G 70 wi ∧ f 321 = eI G 70 wa ∧ f 322 = eJ G 70 va ∧ f 323 = eI G 11 bo ∧ f 324 = eI G 11 ju ∧ f 325 = eI G 264 dr ∧ f 326 = eI G 11 dn ∧ f 327 = eI G 330 sl ∧ f 328 = eI G 44 ax ∧ f 329 = eI G 30 lf ∧ f 330 = eI G 6 wh ∧ f 331 = eI G 6 w6 ∧ f 332 = eI G 6 b6 ∧ (stOK ss np nf nr na nt) ∧ (fd ≤ 10) ∧ (∀ k, k < 11 → ∃ d, d ≤ 24 ∧ dn k = nI d) ∧ (stI im 0) ∧ (stI im 2246)
theorem ok_X11_person : okV yX11_person cX11_person 6 (some .int) 4 := ⟨⟨w_158, w_5, ⟨by decide +kernel, by decide +kernel, by decide +kernel⟩⟩, trivial, w_156, w_157⟩
theorem ok_X11_kin : okV yX11_kin cX11_kin 5 (some .int) 3 := ⟨⟨w_184, w_5, ⟨by decide +kernel, by decide +kernel, by decide +kernel⟩⟩, trivial, w_182, w_183⟩
theorem ok_X11_roll : okV yX11_roll cX11_roll 5 (some .int) 3 := ⟨⟨w_211, w_5, ⟨by decide +kernel, by decide +kernel, by decide +kernel⟩⟩, trivial, w_209, w_210⟩
theorem ok_X11_rollOf : okV yX11_rollOf cX11_rollOf 2 (some .int) 1 := ⟨⟨w_233, w_5, ⟨by decide +kernel, by decide +kernel, by decide +kernel⟩⟩, trivial, w_231, w_232⟩
theorem ok_X11_write : okV yX11_write cX11_write 4 (some .int) 2 := ⟨⟨w_257, w_5, ⟨by decide +kernel, by decide +kernel, by decide +kernel⟩⟩, trivial, w_255, w_256⟩
theorem ok_X11_erase : okV yX11_erase cX11_erase 3 (some .int) 1 := ⟨⟨w_273, w_5, ⟨by decide +kernel, by decide +kernel, by decide +kernel⟩⟩, trivial, w_271, w_272⟩
theorem ok_X11_fault : okV yX11_fault cX11_fault 2 (some .int) 1 := ⟨⟨w_344, w_5, ⟨by decide +kernel, by decide +kernel, by decide +kernel⟩⟩, trivial, w_342, w_343⟩
theorem ok_X11_tells : okV yX11_tells cX11_tells 4 (some .long) 3 := ⟨⟨w_520, w_5, ⟨by decide +kernel, by decide +kernel, by decide +kernel⟩⟩, trivial, w_518, w_519⟩
theorem ok_X11_act : okV yX11_act cX11_act 6 (some .int) 3 := ⟨⟨w_605, w_5, ⟨by decide +kernel, by decide +kernel, by decide +kernel⟩⟩, trivial, w_603, w_604⟩
theorem ok_X11_strikeOut : okV yX11_strikeOut cX11_strikeOut 4 (some .int) 2 := ⟨⟨w_614, w_5, ⟨by decide +kernel, by decide +kernel, by decide +kernel⟩⟩, trivial, w_612, w_613⟩
theorem ok_X11_force : okV yX11_force cX11_force 3 (some .int) 2 := ⟨⟨w_623, w_5, ⟨by decide +kernel, by decide +kernel, by decide +kernel⟩⟩, trivial, w_621, w_622⟩
theorem ok_X11_may : okV yX11_may cX11_may 4 (some .int) 3 := ⟨⟨w_633, w_5, ⟨by decide +kernel, by decide +kernel, by decide +kernel⟩⟩, trivial, w_631, w_632⟩
theorem ok_X11_trial : okV yX11_trial cX11_trial 13 (some .int) 9 := ⟨⟨w_646, w_5, ⟨by decide +kernel, by decide +kernel, by decide +kernel⟩⟩, trivial, w_644, w_645⟩
theorem ok_X11_away : okV yX11_away cX11_away 5 (some .int) 3 := ⟨⟨w_659, w_5, ⟨by decide +kernel, by decide +kernel, by decide +kernel⟩⟩, trivial, w_657, w_658⟩
theorem ok_X11_like : okV yX11_like cX11_like 7 (some .int) 4 := ⟨⟨w_668, w_5, ⟨by decide +kernel, by decide +kernel, by decide +kernel⟩⟩, trivial, w_666, w_667⟩
theorem ok_X11_box : okV yX11_box cX11_box 2 (some .int) 1 := ⟨⟨w_679, w_5, ⟨by decide +kernel, by decide +kernel, by decide +kernel⟩⟩, trivial, w_677, w_678⟩
theorem ok_X11_drawn : okV yX11_drawn cX11_drawn 3 (some .int) 2 := ⟨⟨w_695, w_5, ⟨by decide +kernel, by decide +kernel, by decide +kernel⟩⟩, trivial, w_693, w_694⟩
theorem ok_X11_slip : okV yX11_slip cX11_slip 3 (some .int) 2 := ⟨⟨w_707, w_5, ⟨by decide +kernel, by decide +kernel, by decide +kernel⟩⟩, trivial, w_705, w_706⟩
theorem ok_X11_jury : okV yX11_jury cX11_jury 2 (some .int) 1 := ⟨⟨w_715, w_5, ⟨by decide +kernel, by decide +kernel, by decide +kernel⟩⟩, trivial, w_713, w_714⟩
theorem ok_X11_about : okV yX11_about cX11_about 3 (some .int) 2 := ⟨⟨w_728, w_5, ⟨by decide +kernel, by decide +kernel, by decide +kernel⟩⟩, trivial, w_726, w_727⟩
theorem ok_X11_bad : okV yX11_bad cX11_bad 4 (some .int) 1 := ⟨⟨w_738, w_5, ⟨by decide +kernel, by decide +kernel, by decide +kernel⟩⟩, trivial, w_736, w_737⟩
theorem ok_X11_sums : okV yX11_sums cX11_sums 3 (some .int) 2 := ⟨⟨w_746, w_5, ⟨by decide +kernel, by decide +kernel, by decide +kernel⟩⟩, trivial, w_744, w_745⟩
theorem ok_X11_owed : okV yX11_owed cX11_owed 5 (some .int) 2 := ⟨⟨w_755, w_5, ⟨by decide +kernel, by decide +kernel, by decide +kernel⟩⟩, trivial, w_753, w_754⟩
theorem ok_X11_divisor : okS yX11_divisor cX11_divisor 10 (some .long) 2 := ⟨⟨w_786, w_5, ⟨by decide +kernel, by decide +kernel, by decide +kernel⟩⟩, trivial, w_785, trivial⟩
theorem ok_X11_told : okV yX11_told cX11_told 7 (some .int) 2 := ⟨⟨w_782, w_5, ⟨by decide +kernel, by decide +kernel, by decide +kernel⟩⟩, trivial, w_780, w_781⟩
theorem ok_X11_ways : okS yX11_ways cX11_ways 5 (some .long) 2 := ⟨⟨w_778, w_5, ⟨by decide +kernel, by decide +kernel, by decide +kernel⟩⟩, trivial, w_777, trivial⟩
theorem ok_X11_chance : okV yX11_chance cX11_chance 8 (some .int) 4 := ⟨⟨w_774, w_5, ⟨by decide +kernel, by decide +kernel, by decide +kernel⟩⟩, trivial, w_772, w_773⟩
theorem ok_X11_twelve : okV yX11_twelve cX11_twelve 9 (some .int) 2 := ⟨⟨w_796, w_5, ⟨by decide +kernel, by decide +kernel, by decide +kernel⟩⟩, trivial, w_794, w_795⟩
theorem ok_X11_part : okV yX11_part cX11_part 2 (some .long) 1 := ⟨⟨w_805, w_5, ⟨by decide +kernel, by decide +kernel, by decide +kernel⟩⟩, trivial, w_803, w_804⟩
theorem ok_X11_beside : okV yX11_beside cX11_beside 5 (some .int) 3 := ⟨⟨w_814, w_5, ⟨by decide +kernel, by decide +kernel, by decide +kernel⟩⟩, trivial, w_812, w_813⟩
theorem ok_X11_meets : okV yX11_meets cX11_meets 6 (some .boolean) 2 := ⟨⟨w_870, w_5, ⟨by decide +kernel, by decide +kernel, by decide +kernel⟩⟩, trivial, w_868, w_869⟩
theorem ok_X11_areApart : okV yX11_areApart cX11_areApart 7 (some .boolean) 1 := ⟨⟨w_866, w_5, ⟨by decide +kernel, by decide +kernel, by decide +kernel⟩⟩, trivial, w_864, w_865⟩
theorem ok_X11_clash : okV yX11_clash cX11_clash 10 (some .int) 2 := ⟨⟨w_862, w_5, ⟨by decide +kernel, by decide +kernel, by decide +kernel⟩⟩, trivial, w_860, w_861⟩
theorem ok_X11_turn : okV yX11_turn cX11_turn 9 (some .int) 2 := ⟨⟨w_889, w_5, ⟨by decide +kernel, by decide +kernel, by decide +kernel⟩⟩, trivial, w_887, w_888⟩
theorem ok_X11_image : okV yX11_image cX11_image 3 (some .int) 1 := ⟨⟨w_913, w_5, ⟨by decide +kernel, by decide +kernel, by decide +kernel⟩⟩, trivial, w_911, w_912⟩
theorem ok_X11_from : okV yX11_from cX11_from 3 (some .int) 1 := ⟨⟨w_921, w_5, ⟨by decide +kernel, by decide +kernel, by decide +kernel⟩⟩, trivial, w_919, w_920⟩
theorem ok_X11_countOf : okV yX11_countOf cX11_countOf 4 (some .int) 1 := ⟨⟨w_942, w_5, ⟨by decide +kernel, by decide +kernel, by decide +kernel⟩⟩, trivial, w_940, w_941⟩
theorem ok_X11_count : okV yX11_count cX11_count 2 (some .int) 1 := ⟨⟨w_937, w_5, ⟨by decide +kernel, by decide +kernel, by decide +kernel⟩⟩, trivial, w_935, w_936⟩
theorem ok_X11_mixed : okV yX11_mixed cX11_mixed 8 (some .long) 3 := ⟨⟨w_980, w_5, ⟨by decide +kernel, by decide +kernel, by decide +kernel⟩⟩, trivial, w_978, w_979⟩
theorem ok_X11_digest : okV yX11_digest cX11_digest 5 (some .long) 0 := ⟨⟨w_974, w_5, ⟨by decide +kernel, by decide +kernel, by decide +kernel⟩⟩, trivial, w_972, w_973⟩


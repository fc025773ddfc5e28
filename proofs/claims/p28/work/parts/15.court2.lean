theorem okH_fr {G : gW} {g : Nat → Nat} {f f' : Nat → va_E} {k : Nat} (h : okH G g f k) (e1 : f' k = f k) (e2 : f' (k + 1) = f (k + 1)) : okH G g f' k := by
  obtain ⟨sl, lo, ib, ca, mi, s0, s1, sw, od, h1, h2, h3⟩ := h
  exact ⟨sl, lo, ib, ca, mi, s0, s1, sw, od, e1.trans h1, e2.trans h2, h3⟩
theorem okT_fr {G : gW} {g : Nat → Nat} {f f' : Nat → va_E} {k : Nat} (h : okT G g f k) (e1 : f' k = f k) (e2 : f' (k + 1) = f (k + 1)) (e3 : f' (k + 2) = f (k + 2)) : okT G g f' k := by
  obtain ⟨ln, sc, sg, sp, h1, h2, h3, h4, h5⟩ := h
  exact ⟨ln, sc, sg, sp, e1.trans h1, e2.trans h2, e3.trans h3, h4, h5⟩
theorem ok_X1_letter : okV yX1_letter cX1_letter 4 (some .long) 3 := ⟨⟨w_444, w_14, ⟨by decide +kernel, by decide +kernel, by decide +kernel⟩⟩, trivial, w_442, w_443⟩
theorem ok_X1_isAhead : okV yX1_isAhead cX1_isAhead 5 (some .boolean) 3 := ⟨⟨w_882, w_14, ⟨by decide +kernel, by decide +kernel, by decide +kernel⟩⟩, trivial, w_880, w_881⟩
theorem ok_X1_nextInTurn : okV yX1_nextInTurn cX1_nextInTurn 5 (some .int) 2 := ⟨⟨w_878, w_14, ⟨by decide +kernel, by decide +kernel, by decide +kernel⟩⟩, trivial, w_876, w_877⟩
theorem ok_X1_busy : okV yX1_busy cX1_busy 4 (some .int) 1 := ⟨⟨w_415, w_14, ⟨by decide +kernel, by decide +kernel, by decide +kernel⟩⟩, trivial, w_413, w_414⟩

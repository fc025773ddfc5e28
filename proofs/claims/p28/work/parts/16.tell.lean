theorem ok_X1_tell : okV yX1_tell cX1_tell 8 (some .long) 3 := ⟨⟨w_431, w_14, ⟨by decide +kernel, by decide +kernel, by decide +kernel⟩⟩, trivial, w_429, w_430⟩

theorem ok_X1_truths : okV yX1_truths cX1_truths 7 (some .int) 4 := ⟨⟨w_427, w_14, ⟨by decide +kernel, by decide +kernel, by decide +kernel⟩⟩, trivial, w_425, w_426⟩
theorem ok_X1_hear : okV yX1_hear cX1_hear 11 none 4 := ⟨⟨w_406, w_14, ⟨by decide +kernel, by decide +kernel, by decide +kernel⟩⟩, trivial, w_404, w_405⟩
theorem ok_X1_settle : okV yX1_settle cX1_settle 3 none 0 := ⟨⟨w_387, w_14, ⟨by decide +kernel, by decide +kernel, by decide +kernel⟩⟩, trivial, w_385, w_386⟩

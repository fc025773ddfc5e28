theorem inN_n {i n : Nat} (h : i < n) (hn : n < 2 ^ 31) : inN (nI i) n = true := decide_eq_true (by rw [nI_toInt (by omega)]; omega)
theorem inB_n {n : Int32} {b : Nat} (hb : b < 2 ^ 31) (h : inB 0 n (nI b) = true) : ∃ i, i ≤ b ∧ n = nI i := by
  obtain ⟨h1, h2⟩ := of_decide_eq_true h
  have h1 : (0 : Int) ≤ n.toInt := Int32.le_iff_toInt_le.mp h1
  have h2 := Int32.le_iff_toInt_le.mp h2
  rw [nI_toInt hb] at h2
  refine ⟨n.toInt.toNat, by omega, Int32.toInt_inj.mp ?_⟩
  rw [nI_toInt (by omega)]
  omega
theorem nI_m4 {n : Nat} (h : n < 2 ^ 31) : ¬ nI n = -4 := fun z => by
  have h1 := congrArg Int32.toInt z
  rw [nI_toInt h] at h1
  have h2 : (-4 : Int32).toInt = -4 := by decide
  omega
theorem col_in {a q : Int32} {n : Nat} (h1 : inB 0 a 1 = true) (h2 : inN q n = true) (hn : n ≤ 30) : inN (10 + a * 30 + q) 70 = true := by
  obtain ⟨i, hi, rfl⟩ := inN_nat (by omega) h2
  rcases inB_01.mp h1 with h | h
  · subst h
    rw [show (10 : Int32) + 0 * 30 = nI 10 by decide, nI_add]
    exact inN_n (by omega) (by omega)
  · subst h
    rw [show (10 : Int32) + 1 * 30 = nI 40 by decide, nI_add]
    exact inN_n (by omega) (by omega)
theorem ok_X10_person : okV yX10_person cX10_person 6 (some .int) 4 := ⟨⟨w_133, w_2, ⟨by decide +kernel, by decide +kernel, by decide +kernel⟩⟩, trivial, w_131, w_132⟩
theorem ok_X10_kin : okV yX10_kin cX10_kin 5 (some .int) 3 := ⟨⟨w_173, w_2, ⟨by decide +kernel, by decide +kernel, by decide +kernel⟩⟩, trivial, w_171, w_172⟩
theorem ok_X10_roll : okV yX10_roll cX10_roll 5 (some .int) 3 := ⟨⟨w_197, w_2, ⟨by decide +kernel, by decide +kernel, by decide +kernel⟩⟩, trivial, w_195, w_196⟩
theorem ok_X10_rollOf : okV yX10_rollOf cX10_rollOf 2 (some .int) 1 := ⟨⟨w_220, w_2, ⟨by decide +kernel, by decide +kernel, by decide +kernel⟩⟩, trivial, w_218, w_219⟩
theorem ok_X10_write : okV yX10_write cX10_write 3 (some .int) 2 := ⟨⟨w_241, w_2, ⟨by decide +kernel, by decide +kernel, by decide +kernel⟩⟩, trivial, w_239, w_240⟩
theorem ok_X10_erase : okV yX10_erase cX10_erase 2 (some .int) 1 := ⟨⟨w_265, w_2, ⟨by decide +kernel, by decide +kernel, by decide +kernel⟩⟩, trivial, w_263, w_264⟩
theorem ok_X10_fault : okV yX10_fault cX10_fault 2 (some .int) 1 := ⟨⟨w_277, w_2, ⟨by decide +kernel, by decide +kernel, by decide +kernel⟩⟩, trivial, w_275, w_276⟩
theorem ok_X10_tells : okV yX10_tells cX10_tells 5 (some .long) 3 := ⟨⟨w_381, w_2, ⟨by decide +kernel, by decide +kernel, by decide +kernel⟩⟩, trivial, w_379, w_380⟩
theorem ok_X10_act : okV yX10_act cX10_act 6 (some .int) 3 := ⟨⟨w_590, w_2, ⟨by decide +kernel, by decide +kernel, by decide +kernel⟩⟩, trivial, w_588, w_589⟩
theorem ok_X10_strikeOut : okV yX10_strikeOut cX10_strikeOut 3 (some .int) 2 := ⟨⟨w_609, w_2, ⟨by decide +kernel, by decide +kernel, by decide +kernel⟩⟩, trivial, w_607, w_608⟩
theorem ok_X10_force : okV yX10_force cX10_force 3 (some .int) 2 := ⟨⟨w_618, w_2, ⟨by decide +kernel, by decide +kernel, by decide +kernel⟩⟩, trivial, w_616, w_617⟩
theorem ok_X10_may : okV yX10_may cX10_may 4 (some .int) 3 := ⟨⟨w_627, w_2, ⟨by decide +kernel, by decide +kernel, by decide +kernel⟩⟩, trivial, w_625, w_626⟩
theorem ok_X10_trial : okV yX10_trial cX10_trial 12 (some .int) 9 := ⟨⟨w_637, w_2, ⟨by decide +kernel, by decide +kernel, by decide +kernel⟩⟩, trivial, w_635, w_636⟩
theorem ok_X10_away : okV yX10_away cX10_away 5 (some .int) 3 := ⟨⟨w_654, w_2, ⟨by decide +kernel, by decide +kernel, by decide +kernel⟩⟩, trivial, w_652, w_653⟩
theorem ok_X10_like : okV yX10_like cX10_like 7 (some .int) 4 := ⟨⟨w_663, w_2, ⟨by decide +kernel, by decide +kernel, by decide +kernel⟩⟩, trivial, w_661, w_662⟩
theorem ok_X10_box : okV yX10_box cX10_box 2 (some .int) 1 := ⟨⟨w_674, w_2, ⟨by decide +kernel, by decide +kernel, by decide +kernel⟩⟩, trivial, w_672, w_673⟩
theorem ok_X10_drawn : okV yX10_drawn cX10_drawn 3 (some .int) 2 := ⟨⟨w_687, w_2, ⟨by decide +kernel, by decide +kernel, by decide +kernel⟩⟩, trivial, w_685, w_686⟩
theorem ok_X10_slip : okV yX10_slip cX10_slip 3 (some .int) 2 := ⟨⟨w_699, w_2, ⟨by decide +kernel, by decide +kernel, by decide +kernel⟩⟩, trivial, w_697, w_698⟩
theorem ok_X10_jury : okV yX10_jury cX10_jury 2 (some .int) 1 := ⟨⟨w_711, w_2, ⟨by decide +kernel, by decide +kernel, by decide +kernel⟩⟩, trivial, w_709, w_710⟩
theorem ok_X10_about : okV yX10_about cX10_about 3 (some .int) 2 := ⟨⟨w_719, w_2, ⟨by decide +kernel, by decide +kernel, by decide +kernel⟩⟩, trivial, w_717, w_718⟩
theorem ok_X10_bad : okV yX10_bad cX10_bad 4 (some .int) 1 := ⟨⟨w_733, w_2, ⟨by decide +kernel, by decide +kernel, by decide +kernel⟩⟩, trivial, w_731, w_732⟩
theorem ok_X10_sums : okV yX10_sums cX10_sums 3 (some .int) 2 := ⟨⟨w_742, w_2, ⟨by decide +kernel, by decide +kernel, by decide +kernel⟩⟩, trivial, w_740, w_741⟩
theorem ok_X10_owed : okV yX10_owed cX10_owed 6 (some .int) 2 := ⟨⟨w_750, w_2, ⟨by decide +kernel, by decide +kernel, by decide +kernel⟩⟩, trivial, w_748, w_749⟩
theorem ok_X10_chance : okV yX10_chance cX10_chance 8 (some .int) 4 := ⟨⟨w_760, w_2, ⟨by decide +kernel, by decide +kernel, by decide +kernel⟩⟩, trivial, w_758, w_759⟩
theorem ok_X10_twelve : okV yX10_twelve cX10_twelve 9 (some .int) 2 := ⟨⟨w_790, w_2, ⟨by decide +kernel, by decide +kernel, by decide +kernel⟩⟩, trivial, w_788, w_789⟩
theorem ok_X10_part : okV yX10_part cX10_part 2 (some .long) 1 := ⟨⟨w_800, w_2, ⟨by decide +kernel, by decide +kernel, by decide +kernel⟩⟩, trivial, w_798, w_799⟩
theorem ok_X10_beside : okV yX10_beside cX10_beside 6 (some .int) 3 := ⟨⟨w_809, w_2, ⟨by decide +kernel, by decide +kernel, by decide +kernel⟩⟩, trivial, w_807, w_808⟩
theorem ok_X10_clash : okV yX10_clash cX10_clash 5 (some .int) 2 := ⟨⟨w_818, w_2, ⟨by decide +kernel, by decide +kernel, by decide +kernel⟩⟩, trivial, w_816, w_817⟩
theorem ok_X10_turn : okV yX10_turn cX10_turn 4 (some .int) 2 := ⟨⟨w_874, w_2, ⟨by decide +kernel, by decide +kernel, by decide +kernel⟩⟩, trivial, w_872, w_873⟩
theorem ok_X10_image : okV yX10_image cX10_image 2 (some .int) 1 := ⟨⟨w_893, w_2, ⟨by decide +kernel, by decide +kernel, by decide +kernel⟩⟩, trivial, w_891, w_892⟩
theorem ok_X10_from : okV yX10_from cX10_from 2 (some .int) 1 := ⟨⟨w_917, w_2, ⟨by decide +kernel, by decide +kernel, by decide +kernel⟩⟩, trivial, w_915, w_916⟩
theorem ok_X10_count : okV yX10_count cX10_count 2 (some .int) 1 := ⟨⟨w_925, w_2, ⟨by decide +kernel, by decide +kernel, by decide +kernel⟩⟩, trivial, w_923, w_924⟩
theorem ok_X10_digest : okV yX10_digest cX10_digest 4 (some .long) 0 := ⟨⟨w_946, w_2, ⟨by decide +kernel, by decide +kernel, by decide +kernel⟩⟩, trivial, w_944, w_945⟩
theorem ok_X10_howMany : okV yX10_howMany cX10_howMany 2 (some .int) 1 := ⟨⟨w_929, w_2, ⟨by decide +kernel, by decide +kernel, by decide +kernel⟩⟩, trivial, w_927, w_928⟩
theorem ok_X10_isNextDay : okV yX10_isNextDay cX10_isNextDay 3 (some .boolean) 1 := ⟨⟨w_641, w_2, ⟨by decide +kernel, by decide +kernel, by decide +kernel⟩⟩, trivial, w_639, w_640⟩

theorem inN_n {i n : Nat} (h : i < n) (hn : n < 2 ^ 31) : inN (nI i) n = true := decide_eq_true (by rw [nI_toInt (by omega)]; omega)
theorem inB_n {n : Int32} {b : Nat} (hb : b < 2 ^ 31) (h : inB 0 n (nI b) = true) : ∃ i, i ≤ b ∧ n = nI i := by
  obtain ⟨h1, h2⟩ := of_decide_eq_true h
  have h1 : (0 : Int) ≤ n.toInt := Int32.le_iff_toInt_le.mp h1
  have h2 := Int32.le_iff_toInt_le.mp h2
  rw [nI_toInt hb] at h2
  refine ⟨n.toInt.toNat, by omega, Int32.toInt_inj.mp ?_⟩
  rw [nI_toInt (by omega)]
  omega
theorem nI_m4 {n : Nat} (h : n < 2 ^ 31) : ¬ nI n = -4 := fun z => by
  have h1 := congrArg Int32.toInt z
  rw [nI_toInt h] at h1
  have h2 : (-4 : Int32).toInt = -4 := by decide
  omega
theorem col_in {a q : Int32} {n : Nat} (h1 : inB 0 a 1 = true) (h2 : inN q n = true) (hn : n ≤ 30) : inN (10 + a * 30 + q) 70 = true := by
  obtain ⟨i, hi, rfl⟩ := inN_nat (by omega) h2
  rcases inB_01.mp h1 with h | h
  · subst h
    rw [show (10 : Int32) + 0 * 30 = nI 10 by decide, nI_add]
    exact inN_n (by omega) (by omega)
  · subst h
    rw [show (10 : Int32) + 1 * 30 = nI 40 by decide, nI_add]
    exact inN_n (by omega) (by omega)
theorem and63 (x : Int32) : (x &&& 63).toInt ≤ 63 := by
  have h : (x &&& 63).toBitVec.toNat ≤ 63 := by
    rw [Int32.toBitVec_and, BitVec.toNat_and]
    exact Nat.and_le_right
  rw [← Int32.toInt_toBitVec, BitVec.toInt_eq_toNat_of_lt (by omega)]
  omega
theorem ok_X10_person : okV yX10_person cX10_person 6 (some .int) 4 := ⟨⟨w_133, w_2, ⟨by decide +kernel, by decide +kernel, by decide +kernel⟩⟩, trivial, w_131, w_132⟩
theorem ok_X10_kin : okV yX10_kin cX10_kin 5 (some .int) 3 := ⟨⟨w_173, w_2, ⟨by decide +kernel, by decide +kernel, by decide +kernel⟩⟩, trivial, w_171, w_172⟩
theorem ok_X10_roll : okV yX10_roll cX10_roll 5 (some .int) 3 := ⟨⟨w_197, w_2, ⟨by decide +kernel, by decide +kernel, by decide +kernel⟩⟩, trivial, w_195, w_196⟩
theorem ok_X10_rollOf : okV yX10_rollOf cX10_rollOf 2 (some .int) 1 := ⟨⟨w_220, w_2, ⟨by decide +kernel, by decide +kernel, by decide +kernel⟩⟩, trivial, w_218, w_219⟩
theorem ok_X10_write : okV yX10_write cX10_write 3 (some .int) 2 := ⟨⟨w_241, w_2, ⟨by decide +kernel, by decide +kernel, by decide +kernel⟩⟩, trivial, w_239, w_240⟩
theorem ok_X10_erase : okV yX10_erase cX10_erase 2 (some .int) 1 := ⟨⟨w_265, w_2, ⟨by decide +kernel, by decide +kernel, by decide +kernel⟩⟩, trivial, w_263, w_264⟩
theorem ok_X10_fault : okV yX10_fault cX10_fault 2 (some .int) 1 := ⟨⟨w_277, w_2, ⟨by decide +kernel, by decide +kernel, by decide +kernel⟩⟩, trivial, w_275, w_276⟩
theorem ok_X10_tells : okV yX10_tells cX10_tells 5 (some .long) 3 := ⟨⟨w_381, w_2, ⟨by decide +kernel, by decide +kernel, by decide +kernel⟩⟩, trivial, w_379, w_380⟩
theorem ok_X10_act : okV yX10_act cX10_act 6 (some .int) 3 := ⟨⟨w_590, w_2, ⟨by decide +kernel, by decide +kernel, by decide +kernel⟩⟩, trivial, w_588, w_589⟩
theorem ok_X10_strikeOut : okV yX10_strikeOut cX10_strikeOut 3 (some .int) 2 := ⟨⟨w_609, w_2, ⟨by decide +kernel, by decide +kernel, by decide +kernel⟩⟩, trivial, w_607, w_608⟩
theorem ok_X10_force : okV yX10_force cX10_force 3 (some .int) 2 := ⟨⟨w_618, w_2, ⟨by decide +kernel, by decide +kernel, by decide +kernel⟩⟩, trivial, w_616, w_617⟩
theorem ok_X10_may : okV yX10_may cX10_may 4 (some .int) 3 := ⟨⟨w_627, w_2, ⟨by decide +kernel, by decide +kernel, by decide +kernel⟩⟩, trivial, w_625, w_626⟩
theorem ok_X10_trial : okV yX10_trial cX10_trial 12 (some .int) 9 := ⟨⟨w_637, w_2, ⟨by decide +kernel, by decide +kernel, by decide +kernel⟩⟩, trivial, w_635, w_636⟩
theorem ok_X10_away : okV yX10_away cX10_away 5 (some .int) 3 := ⟨⟨w_654, w_2, ⟨by decide +kernel, by decide +kernel, by decide +kernel⟩⟩, trivial, w_652, w_653⟩
theorem ok_X10_like : okV yX10_like cX10_like 7 (some .int) 4 := ⟨⟨w_663, w_2, ⟨by decide +kernel, by decide +kernel, by decide +kernel⟩⟩, trivial, w_661, w_662⟩
theorem ok_X10_box : okV yX10_box cX10_box 2 (some .int) 1 := ⟨⟨w_674, w_2, ⟨by decide +kernel, by decide +kernel, by decide +kernel⟩⟩, trivial, w_672, w_673⟩
theorem ok_X10_drawn : okV yX10_drawn cX10_drawn 3 (some .int) 2 := ⟨⟨w_687, w_2, ⟨by decide +kernel, by decide +kernel, by decide +kernel⟩⟩, trivial, w_685, w_686⟩
theorem ok_X10_slip : okV yX10_slip cX10_slip 3 (some .int) 2 := ⟨⟨w_699, w_2, ⟨by decide +kernel, by decide +kernel, by decide +kernel⟩⟩, trivial, w_697, w_698⟩
theorem ok_X10_jury : okV yX10_jury cX10_jury 2 (some .int) 1 := ⟨⟨w_711, w_2, ⟨by decide +kernel, by decide +kernel, by decide +kernel⟩⟩, trivial, w_709, w_710⟩
theorem ok_X10_about : okV yX10_about cX10_about 3 (some .int) 2 := ⟨⟨w_719, w_2, ⟨by decide +kernel, by decide +kernel, by decide +kernel⟩⟩, trivial, w_717, w_718⟩
theorem ok_X10_bad : okV yX10_bad cX10_bad 4 (some .int) 1 := ⟨⟨w_733, w_2, ⟨by decide +kernel, by decide +kernel, by decide +kernel⟩⟩, trivial, w_731, w_732⟩
theorem ok_X10_sums : okV yX10_sums cX10_sums 3 (some .int) 2 := ⟨⟨w_742, w_2, ⟨by decide +kernel, by decide +kernel, by decide +kernel⟩⟩, trivial, w_740, w_741⟩
theorem ok_X10_owed : okV yX10_owed cX10_owed 6 (some .int) 2 := ⟨⟨w_750, w_2, ⟨by decide +kernel, by decide +kernel, by decide +kernel⟩⟩, trivial, w_748, w_749⟩
theorem ok_X10_chance : okV yX10_chance cX10_chance 8 (some .int) 4 := ⟨⟨w_760, w_2, ⟨by decide +kernel, by decide +kernel, by decide +kernel⟩⟩, trivial, w_758, w_759⟩
theorem ok_X10_twelve : okV yX10_twelve cX10_twelve 9 (some .int) 2 := ⟨⟨w_790, w_2, ⟨by decide +kernel, by decide +kernel, by decide +kernel⟩⟩, trivial, w_788, w_789⟩
theorem ok_X10_part : okV yX10_part cX10_part 2 (some .long) 1 := ⟨⟨w_800, w_2, ⟨by decide +kernel, by decide +kernel, by decide +kernel⟩⟩, trivial, w_798, w_799⟩
theorem ok_X10_beside : okV yX10_beside cX10_beside 6 (some .int) 3 := ⟨⟨w_809, w_2, ⟨by decide +kernel, by decide +kernel, by decide +kernel⟩⟩, trivial, w_807, w_808⟩
theorem ok_X10_clash : okV yX10_clash cX10_clash 5 (some .int) 2 := ⟨⟨w_818, w_2, ⟨by decide +kernel, by decide +kernel, by decide +kernel⟩⟩, trivial, w_816, w_817⟩
theorem ok_X10_turn : okV yX10_turn cX10_turn 4 (some .int) 2 := ⟨⟨w_874, w_2, ⟨by decide +kernel, by decide +kernel, by decide +kernel⟩⟩, trivial, w_872, w_873⟩
theorem ok_X10_image : okV yX10_image cX10_image 2 (some .int) 1 := ⟨⟨w_893, w_2, ⟨by decide +kernel, by decide +kernel, by decide +kernel⟩⟩, trivial, w_891, w_892⟩
theorem ok_X10_from : okV yX10_from cX10_from 2 (some .int) 1 := ⟨⟨w_917, w_2, ⟨by decide +kernel, by decide +kernel, by decide +kernel⟩⟩, trivial, w_915, w_916⟩
theorem ok_X10_count : okV yX10_count cX10_count 2 (some .int) 1 := ⟨⟨w_925, w_2, ⟨by decide +kernel, by decide +kernel, by decide +kernel⟩⟩, trivial, w_923, w_924⟩
theorem ok_X10_digest : okV yX10_digest cX10_digest 4 (some .long) 0 := ⟨⟨w_946, w_2, ⟨by decide +kernel, by decide +kernel, by decide +kernel⟩⟩, trivial, w_944, w_945⟩
theorem ok_X10_howMany : okV yX10_howMany cX10_howMany 2 (some .int) 1 := ⟨⟨w_929, w_2, ⟨by decide +kernel, by decide +kernel, by decide +kernel⟩⟩, trivial, w_927, w_928⟩
theorem ok_X10_isNextDay : okV yX10_isNextDay cX10_isNextDay 3 (some .boolean) 1 := ⟨⟨w_641, w_2, ⟨by decide +kernel, by decide +kernel, by decide +kernel⟩⟩, trivial, w_639, w_640⟩
set_option maxHeartbeats 4000000 in
set_option maxRecDepth 100000 in
theorem s_bitCount63 (l : Launch) (G : gW) (g : Nat → Nat) (hg : gOK g) (f : Nat → va_E) (n : Int32)   : Met l yJ6_bitCount_0f7a4 (wsT yJ6_bitCount_0f7a4 cJ6_bitCount_0f7a4 1 (some .int)) ({ frames := 0, cells := 0, slots := 0, locals := 0 }) (bP G g f [.int n]) (rQi (fun z9 => ∃ z8 : Int32, z9 = z8 &&& 63)) 0 0 fr0 := by
  refine Met.ofW (cc := cJ6_bitCount_0f7a4) (maxL := 1) (ret := (some .int)) (by decide) rfl ?_
  intro p e s m args below meth c s₁ B hml hv
  obtain ⟨rfl, hP, hG⟩ := hv
  have hx := B.exec
  have hb := B.bytes
  have hr := B.returns
  have hts := my_hts (atoms_spec (ws := wsT yJ6_bitCount_0f7a4 cJ6_bitCount_0f7a4 1 (some .int)) B.pre)
  have hown : s.vm.findClass RJ6 = some m.cls := findClass_of_methodNamed B.named
  have hlocks := B.notSynchronized
  have hl := lv_entry ([.int n]) (n := 1) (Nat.le_of_ble_eq_true rfl)
  rw [lg_entry_eq]
  generalize (lg_sl ([.int n]) ++ List.replicate (1 - (lg_sl ([.int n])).length) Slot.unset).toArray = ls at hl ⊢
  have hl : lv_has ls 1 [(0, .int n)] := hl
  refine lv_iload_n hx hb dJ6_bitCount_0f7a4_0 rfl (lv_at hl 0 rfl) ?_
  refine lv_iload_n hx hb dJ6_bitCount_0f7a4_1 rfl (lv_at hl 0 rfl) ?_
  refine lv_iconst (v := 1) hx hb dJ6_bitCount_0f7a4_2 (by decide) ?_
  refine lv_iushr hx hb dJ6_bitCount_0f7a4_3 rfl ?_
  refine lv_ldcw (v := 1431655765) hx hb hown (hts (.constant RJ6 265 (1431655765)) w_487) dJ6_bitCount_0f7a4_4 ?_
  refine lv_iand hx hb dJ6_bitCount_0f7a4_7 ?_
  refine lv_isub hx hb dJ6_bitCount_0f7a4_8 ?_
  refine lv_istore_n (lv' := [(0, .int (n - (((Int32.toUInt32 n >>> (Int32.toUInt32 1 &&& Int32.toUInt32 31)).toInt32) &&& 1431655765)))]) hx hb dJ6_bitCount_0f7a4_9 rfl hl (by decide) rfl (fun ls hl => ?_)
  refine lv_iload_n hx hb dJ6_bitCount_0f7a4_10 rfl (lv_at hl 0 rfl) ?_
  refine lv_ldcw (v := 858993459) hx hb hown (hts (.constant RJ6 266 (858993459)) w_488) dJ6_bitCount_0f7a4_11 ?_
  refine lv_iand hx hb dJ6_bitCount_0f7a4_14 ?_
  refine lv_iload_n hx hb dJ6_bitCount_0f7a4_15 rfl (lv_at hl 0 rfl) ?_
  refine lv_iconst (v := 2) hx hb dJ6_bitCount_0f7a4_16 (by decide) ?_
  refine lv_iushr hx hb dJ6_bitCount_0f7a4_17 rfl ?_
  refine lv_ldcw (v := 858993459) hx hb hown (hts (.constant RJ6 266 (858993459)) w_488) dJ6_bitCount_0f7a4_18 ?_
  refine lv_iand hx hb dJ6_bitCount_0f7a4_21 ?_
  refine lv_iadd hx hb dJ6_bitCount_0f7a4_22 ?_
  refine lv_istore_n (lv' := [(0, .int (((n - (((Int32.toUInt32 n >>> (Int32.toUInt32 1 &&& Int32.toUInt32 31)).toInt32) &&& 1431655765)) &&& 858993459) + (((Int32.toUInt32 (n - (((Int32.toUInt32 n >>> (Int32.toUInt32 1 &&& Int32.toUInt32 31)).toInt32) &&& 1431655765)) >>> (Int32.toUInt32 2 &&& Int32.toUInt32 31)).toInt32) &&& 858993459)))]) hx hb dJ6_bitCount_0f7a4_23 rfl hl (by decide) rfl (fun ls hl => ?_)
  refine lv_iload_n hx hb dJ6_bitCount_0f7a4_24 rfl (lv_at hl 0 rfl) ?_
  refine lv_iload_n hx hb dJ6_bitCount_0f7a4_25 rfl (lv_at hl 0 rfl) ?_
  refine lv_iconst (v := 4) hx hb dJ6_bitCount_0f7a4_26 (by decide) ?_
  refine lv_iushr hx hb dJ6_bitCount_0f7a4_27 rfl ?_
  refine lv_iadd hx hb dJ6_bitCount_0f7a4_28 ?_
  refine lv_ldcw (v := 252645135) hx hb hown (hts (.constant RJ6 267 (252645135)) w_489) dJ6_bitCount_0f7a4_29 ?_
  refine lv_iand hx hb dJ6_bitCount_0f7a4_32 ?_
  refine lv_istore_n (lv' := [(0, .int (((((n - (((Int32.toUInt32 n >>> (Int32.toUInt32 1 &&& Int32.toUInt32 31)).toInt32) &&& 1431655765)) &&& 858993459) + (((Int32.toUInt32 (n - (((Int32.toUInt32 n >>> (Int32.toUInt32 1 &&& Int32.toUInt32 31)).toInt32) &&& 1431655765)) >>> (Int32.toUInt32 2 &&& Int32.toUInt32 31)).toInt32) &&& 858993459)) + ((Int32.toUInt32 (((n - (((Int32.toUInt32 n >>> (Int32.toUInt32 1 &&& Int32.toUInt32 31)).toInt32) &&& 1431655765)) &&& 858993459) + (((Int32.toUInt32 (n - (((Int32.toUInt32 n >>> (Int32.toUInt32 1 &&& Int32.toUInt32 31)).toInt32) &&& 1431655765)) >>> (Int32.toUInt32 2 &&& Int32.toUInt32 31)).toInt32) &&& 858993459)) >>> (Int32.toUInt32 4 &&& Int32.toUInt32 31)).toInt32)) &&& 252645135))]) hx hb dJ6_bitCount_0f7a4_33 rfl hl (by decide) rfl (fun ls hl => ?_)
  refine lv_iload_n hx hb dJ6_bitCount_0f7a4_34 rfl (lv_at hl 0 rfl) ?_
  refine lv_iload_n hx hb dJ6_bitCount_0f7a4_35 rfl (lv_at hl 0 rfl) ?_
  refine lv_bipush (v := 8) hx hb dJ6_bitCount_0f7a4_36 (by decide) ?_
  refine lv_iushr hx hb dJ6_bitCount_0f7a4_38 rfl ?_
  refine lv_iadd hx hb dJ6_bitCount_0f7a4_39 ?_
  refine lv_istore_n (lv' := [(0, .int ((((((n - (((Int32.toUInt32 n >>> (Int32.toUInt32 1 &&& Int32.toUInt32 31)).toInt32) &&& 1431655765)) &&& 858993459) + (((Int32.toUInt32 (n - (((Int32.toUInt32 n >>> (Int32.toUInt32 1 &&& Int32.toUInt32 31)).toInt32) &&& 1431655765)) >>> (Int32.toUInt32 2 &&& Int32.toUInt32 31)).toInt32) &&& 858993459)) + ((Int32.toUInt32 (((n - (((Int32.toUInt32 n >>> (Int32.toUInt32 1 &&& Int32.toUInt32 31)).toInt32) &&& 1431655765)) &&& 858993459) + (((Int32.toUInt32 (n - (((Int32.toUInt32 n >>> (Int32.toUInt32 1 &&& Int32.toUInt32 31)).toInt32) &&& 1431655765)) >>> (Int32.toUInt32 2 &&& Int32.toUInt32 31)).toInt32) &&& 858993459)) >>> (Int32.toUInt32 4 &&& Int32.toUInt32 31)).toInt32)) &&& 252645135) + ((Int32.toUInt32 (((((n - (((Int32.toUInt32 n >>> (Int32.toUInt32 1 &&& Int32.toUInt32 31)).toInt32) &&& 1431655765)) &&& 858993459) + (((Int32.toUInt32 (n - (((Int32.toUInt32 n >>> (Int32.toUInt32 1 &&& Int32.toUInt32 31)).toInt32) &&& 1431655765)) >>> (Int32.toUInt32 2 &&& Int32.toUInt32 31)).toInt32) &&& 858993459)) + ((Int32.toUInt32 (((n - (((Int32.toUInt32 n >>> (Int32.toUInt32 1 &&& Int32.toUInt32 31)).toInt32) &&& 1431655765)) &&& 858993459) + (((Int32.toUInt32 (n - (((Int32.toUInt32 n >>> (Int32.toUInt32 1 &&& Int32.toUInt32 31)).toInt32) &&& 1431655765)) >>> (Int32.toUInt32 2 &&& Int32.toUInt32 31)).toInt32) &&& 858993459)) >>> (Int32.toUInt32 4 &&& Int32.toUInt32 31)).toInt32)) &&& 252645135) >>> (Int32.toUInt32 8 &&& Int32.toUInt32 31)).toInt32)))]) hx hb dJ6_bitCount_0f7a4_40 rfl hl (by decide) rfl (fun ls hl => ?_)
  refine lv_iload_n hx hb dJ6_bitCount_0f7a4_41 rfl (lv_at hl 0 rfl) ?_
  refine lv_iload_n hx hb dJ6_bitCount_0f7a4_42 rfl (lv_at hl 0 rfl) ?_
  refine lv_bipush (v := 16) hx hb dJ6_bitCount_0f7a4_43 (by decide) ?_
  refine lv_iushr hx hb dJ6_bitCount_0f7a4_45 rfl ?_
  refine lv_iadd hx hb dJ6_bitCount_0f7a4_46 ?_
  refine lv_istore_n (lv' := [(0, .int (((((((n - (((Int32.toUInt32 n >>> (Int32.toUInt32 1 &&& Int32.toUInt32 31)).toInt32) &&& 1431655765)) &&& 858993459) + (((Int32.toUInt32 (n - (((Int32.toUInt32 n >>> (Int32.toUInt32 1 &&& Int32.toUInt32 31)).toInt32) &&& 1431655765)) >>> (Int32.toUInt32 2 &&& Int32.toUInt32 31)).toInt32) &&& 858993459)) + ((Int32.toUInt32 (((n - (((Int32.toUInt32 n >>> (Int32.toUInt32 1 &&& Int32.toUInt32 31)).toInt32) &&& 1431655765)) &&& 858993459) + (((Int32.toUInt32 (n - (((Int32.toUInt32 n >>> (Int32.toUInt32 1 &&& Int32.toUInt32 31)).toInt32) &&& 1431655765)) >>> (Int32.toUInt32 2 &&& Int32.toUInt32 31)).toInt32) &&& 858993459)) >>> (Int32.toUInt32 4 &&& Int32.toUInt32 31)).toInt32)) &&& 252645135) + ((Int32.toUInt32 (((((n - (((Int32.toUInt32 n >>> (Int32.toUInt32 1 &&& Int32.toUInt32 31)).toInt32) &&& 1431655765)) &&& 858993459) + (((Int32.toUInt32 (n - (((Int32.toUInt32 n >>> (Int32.toUInt32 1 &&& Int32.toUInt32 31)).toInt32) &&& 1431655765)) >>> (Int32.toUInt32 2 &&& Int32.toUInt32 31)).toInt32) &&& 858993459)) + ((Int32.toUInt32 (((n - (((Int32.toUInt32 n >>> (Int32.toUInt32 1 &&& Int32.toUInt32 31)).toInt32) &&& 1431655765)) &&& 858993459) + (((Int32.toUInt32 (n - (((Int32.toUInt32 n >>> (Int32.toUInt32 1 &&& Int32.toUInt32 31)).toInt32) &&& 1431655765)) >>> (Int32.toUInt32 2 &&& Int32.toUInt32 31)).toInt32) &&& 858993459)) >>> (Int32.toUInt32 4 &&& Int32.toUInt32 31)).toInt32)) &&& 252645135) >>> (Int32.toUInt32 8 &&& Int32.toUInt32 31)).toInt32)) + ((Int32.toUInt32 ((((((n - (((Int32.toUInt32 n >>> (Int32.toUInt32 1 &&& Int32.toUInt32 31)).toInt32) &&& 1431655765)) &&& 858993459) + (((Int32.toUInt32 (n - (((Int32.toUInt32 n >>> (Int32.toUInt32 1 &&& Int32.toUInt32 31)).toInt32) &&& 1431655765)) >>> (Int32.toUInt32 2 &&& Int32.toUInt32 31)).toInt32) &&& 858993459)) + ((Int32.toUInt32 (((n - (((Int32.toUInt32 n >>> (Int32.toUInt32 1 &&& Int32.toUInt32 31)).toInt32) &&& 1431655765)) &&& 858993459) + (((Int32.toUInt32 (n - (((Int32.toUInt32 n >>> (Int32.toUInt32 1 &&& Int32.toUInt32 31)).toInt32) &&& 1431655765)) >>> (Int32.toUInt32 2 &&& Int32.toUInt32 31)).toInt32) &&& 858993459)) >>> (Int32.toUInt32 4 &&& Int32.toUInt32 31)).toInt32)) &&& 252645135) + ((Int32.toUInt32 (((((n - (((Int32.toUInt32 n >>> (Int32.toUInt32 1 &&& Int32.toUInt32 31)).toInt32) &&& 1431655765)) &&& 858993459) + (((Int32.toUInt32 (n - (((Int32.toUInt32 n >>> (Int32.toUInt32 1 &&& Int32.toUInt32 31)).toInt32) &&& 1431655765)) >>> (Int32.toUInt32 2 &&& Int32.toUInt32 31)).toInt32) &&& 858993459)) + ((Int32.toUInt32 (((n - (((Int32.toUInt32 n >>> (Int32.toUInt32 1 &&& Int32.toUInt32 31)).toInt32) &&& 1431655765)) &&& 858993459) + (((Int32.toUInt32 (n - (((Int32.toUInt32 n >>> (Int32.toUInt32 1 &&& Int32.toUInt32 31)).toInt32) &&& 1431655765)) >>> (Int32.toUInt32 2 &&& Int32.toUInt32 31)).toInt32) &&& 858993459)) >>> (Int32.toUInt32 4 &&& Int32.toUInt32 31)).toInt32)) &&& 252645135) >>> (Int32.toUInt32 8 &&& Int32.toUInt32 31)).toInt32)) >>> (Int32.toUInt32 16 &&& Int32.toUInt32 31)).toInt32)))]) hx hb dJ6_bitCount_0f7a4_47 rfl hl (by decide) rfl (fun ls hl => ?_)
  refine lv_iload_n hx hb dJ6_bitCount_0f7a4_48 rfl (lv_at hl 0 rfl) ?_
  refine lv_bipush (v := 63) hx hb dJ6_bitCount_0f7a4_49 (by decide) ?_
  refine lv_iand hx hb dJ6_bitCount_0f7a4_51 ?_
  exact W.iret (v := (((((((n - (((Int32.toUInt32 n >>> (Int32.toUInt32 1 &&& Int32.toUInt32 31)).toInt32) &&& 1431655765)) &&& 858993459) + (((Int32.toUInt32 (n - (((Int32.toUInt32 n >>> (Int32.toUInt32 1 &&& Int32.toUInt32 31)).toInt32) &&& 1431655765)) >>> (Int32.toUInt32 2 &&& Int32.toUInt32 31)).toInt32) &&& 858993459)) + ((Int32.toUInt32 (((n - (((Int32.toUInt32 n >>> (Int32.toUInt32 1 &&& Int32.toUInt32 31)).toInt32) &&& 1431655765)) &&& 858993459) + (((Int32.toUInt32 (n - (((Int32.toUInt32 n >>> (Int32.toUInt32 1 &&& Int32.toUInt32 31)).toInt32) &&& 1431655765)) >>> (Int32.toUInt32 2 &&& Int32.toUInt32 31)).toInt32) &&& 858993459)) >>> (Int32.toUInt32 4 &&& Int32.toUInt32 31)).toInt32)) &&& 252645135) + ((Int32.toUInt32 (((((n - (((Int32.toUInt32 n >>> (Int32.toUInt32 1 &&& Int32.toUInt32 31)).toInt32) &&& 1431655765)) &&& 858993459) + (((Int32.toUInt32 (n - (((Int32.toUInt32 n >>> (Int32.toUInt32 1 &&& Int32.toUInt32 31)).toInt32) &&& 1431655765)) >>> (Int32.toUInt32 2 &&& Int32.toUInt32 31)).toInt32) &&& 858993459)) + ((Int32.toUInt32 (((n - (((Int32.toUInt32 n >>> (Int32.toUInt32 1 &&& Int32.toUInt32 31)).toInt32) &&& 1431655765)) &&& 858993459) + (((Int32.toUInt32 (n - (((Int32.toUInt32 n >>> (Int32.toUInt32 1 &&& Int32.toUInt32 31)).toInt32) &&& 1431655765)) >>> (Int32.toUInt32 2 &&& Int32.toUInt32 31)).toInt32) &&& 858993459)) >>> (Int32.toUInt32 4 &&& Int32.toUInt32 31)).toInt32)) &&& 252645135) >>> (Int32.toUInt32 8 &&& Int32.toUInt32 31)).toInt32)) + ((Int32.toUInt32 ((((((n - (((Int32.toUInt32 n >>> (Int32.toUInt32 1 &&& Int32.toUInt32 31)).toInt32) &&& 1431655765)) &&& 858993459) + (((Int32.toUInt32 (n - (((Int32.toUInt32 n >>> (Int32.toUInt32 1 &&& Int32.toUInt32 31)).toInt32) &&& 1431655765)) >>> (Int32.toUInt32 2 &&& Int32.toUInt32 31)).toInt32) &&& 858993459)) + ((Int32.toUInt32 (((n - (((Int32.toUInt32 n >>> (Int32.toUInt32 1 &&& Int32.toUInt32 31)).toInt32) &&& 1431655765)) &&& 858993459) + (((Int32.toUInt32 (n - (((Int32.toUInt32 n >>> (Int32.toUInt32 1 &&& Int32.toUInt32 31)).toInt32) &&& 1431655765)) >>> (Int32.toUInt32 2 &&& Int32.toUInt32 31)).toInt32) &&& 858993459)) >>> (Int32.toUInt32 4 &&& Int32.toUInt32 31)).toInt32)) &&& 252645135) + ((Int32.toUInt32 (((((n - (((Int32.toUInt32 n >>> (Int32.toUInt32 1 &&& Int32.toUInt32 31)).toInt32) &&& 1431655765)) &&& 858993459) + (((Int32.toUInt32 (n - (((Int32.toUInt32 n >>> (Int32.toUInt32 1 &&& Int32.toUInt32 31)).toInt32) &&& 1431655765)) >>> (Int32.toUInt32 2 &&& Int32.toUInt32 31)).toInt32) &&& 858993459)) + ((Int32.toUInt32 (((n - (((Int32.toUInt32 n >>> (Int32.toUInt32 1 &&& Int32.toUInt32 31)).toInt32) &&& 1431655765)) &&& 858993459) + (((Int32.toUInt32 (n - (((Int32.toUInt32 n >>> (Int32.toUInt32 1 &&& Int32.toUInt32 31)).toInt32) &&& 1431655765)) >>> (Int32.toUInt32 2 &&& Int32.toUInt32 31)).toInt32) &&& 858993459)) >>> (Int32.toUInt32 4 &&& Int32.toUInt32 31)).toInt32)) &&& 252645135) >>> (Int32.toUInt32 8 &&& Int32.toUInt32 31)).toInt32)) >>> (Int32.toUInt32 16 &&& Int32.toUInt32 31)).toInt32)) &&& 63) hx hb hr (fun t ht hW => ⟨_, rfl, (⟨_, rfl⟩), ht⟩) (fun _ h => absurd h List.not_mem_nil) dJ6_bitCount_0f7a4_52


theorem inN_n {i n : Nat} (h : i < n) (hn : n < 2 ^ 31) : inN (nI i) n = true := decide_eq_true (by rw [nI_toInt (by omega)]; omega)
theorem inB_n {n : Int32} {b : Nat} (hb : b < 2 ^ 31) (h : inB 0 n (nI b) = true) : ∃ i, i ≤ b ∧ n = nI i := by
  obtain ⟨h1, h2⟩ := of_decide_eq_true h
  have h1 : (0 : Int) ≤ n.toInt := Int32.le_iff_toInt_le.mp h1
  have h2 := Int32.le_iff_toInt_le.mp h2
  rw [nI_toInt hb] at h2
  refine ⟨n.toInt.toNat, by omega, Int32.toInt_inj.mp ?_⟩
  rw [nI_toInt (by omega)]
  omega
theorem nI_m4 {n : Nat} (h : n < 2 ^ 31) : ¬ nI n = -4 := fun z => by
  have h1 := congrArg Int32.toInt z
  rw [nI_toInt h] at h1
  have h2 : (-4 : Int32).toInt = -4 := by decide
  omega
theorem col_in {a q : Int32} {n : Nat} (h1 : inB 0 a 1 = true) (h2 : inN q n = true) (hn : n ≤ 30) : inN (10 + a * 30 + q) 70 = true := by
  obtain ⟨i, hi, rfl⟩ := inN_nat (by omega) h2
  rcases inB_01.mp h1 with h | h
  · subst h
    rw [show (10 : Int32) + 0 * 30 = nI 10 by decide, nI_add]
    exact inN_n (by omega) (by omega)
  · subst h
    rw [show (10 : Int32) + 1 * 30 = nI 40 by decide, nI_add]
    exact inN_n (by omega) (by omega)
theorem and63 (x : Int32) : (x &&& 63).toInt ≤ 63 := by
  have h : (x &&& 63).toBitVec.toNat ≤ 63 := by
    rw [Int32.toBitVec_and, BitVec.toNat_and]
    exact Nat.and_le_right
  rw [← Int32.toInt_toBitVec, BitVec.toInt_eq_toNat_of_lt (by omega)]
  omega
/-- a book at place b, as its rows and texts are held -/
def okB (G : gW) (g : Nat → Nat) (f : Nat → va_E) (b : Nat) : Prop := ∃ pay : Int32, ∃ fine : Int32, ∃ np : Nat, ∃ dp : Nat → Int32, ∃ nf : Nat, ∃ df : Nat → Int32, ∃ nr : Nat, ∃ dr : Nat → Int32, ∃ na : Nat, ∃ da : Nat → Int32, ∃ nt : Nat, ∃ dt : Nat → Int32, ∃ lf : Nat → Option Nat, ∃ tf : Nat → Option Nat, f b = eO 0 [.ref (g (b + 1)), .ref (g (b + 3)), .ref (g (b + 5)), .ref (g (b + 7)), .ref (g (b + 9)), .ref (g (b + 11)), .ref (g (b + 76)), .int pay, .int fine] ∧ f (b + 1) = eO 5 [.int (nI 30), .int (nI 4), .ref (g (b + 2)), .int (nI np)] ∧ f (b + 2) = eI G (30 * 4) dp ∧ f (b + 3) = eO 5 [.int (nI 40), .int (nI 3), .ref (g (b + 4)), .int (nI nf)] ∧ f (b + 4) = eI G (40 * 3) df ∧ f (b + 5) = eO 5 [.int (nI 4), .int (nI 3), .ref (g (b + 6)), .int (nI nr)] ∧ f (b + 6) = eI G (4 * 3) dr ∧ f (b + 7) = eO 5 [.int (nI 20), .int (nI 3), .ref (g (b + 8)), .int (nI na)] ∧ f (b + 8) = eI G (20 * 3) da ∧ f (b + 9) = eO 5 [.int (nI 10), .int (nI 70), .ref (g (b + 10)), .int (nI nt)] ∧ f (b + 10) = eI G (10 * 70) dt ∧ f (b + 11) = eO 6 [.ref (g (b + 12)), .ref (g (b + 13))] ∧ f (b + 12) = eA G 5 20 lf ∧ f (b + 76) = eO 6 [.ref (g (b + 77)), .ref (g (b + 78))] ∧ f (b + 77) = eA G 5 4 tf ∧ (np ≤ 30) ∧ (nf ≤ 40) ∧ (nr ≤ 4) ∧ (na ≤ 20) ∧ (nt ≤ 10) ∧ (∀ z, z < 20 → lf z = some (g (b + 11 + 3 * z + 5))) ∧ (∀ z, z < 4 → tf z = some (g (b + 76 + 3 * z + 5))) ∧ (∀ z, z < 20 → okT G g f (3 * z + (b + 11) + 5)) ∧ (∀ z, z < 4 → okT G g f (3 * z + (b + 76) + 5))
theorem okB_fr {G : gW} {g : Nat → Nat} {f f' : Nat → va_E} {b : Nat} (h : okB G g f b) (fr : ∀ j, b ≤ j → j < b + 93 → f' j = f j) : okB G g f' b := by
  obtain ⟨pay, fine, np, dp, nf, df, nr, dr, na, da, nt, dt, lf, tf, hbk, hpr, hpd, hfr, hfd, hrr, hrd, har, had, htr, htd, hsl, hal, hsw, haw, hnp, hnf, hnr, hna, hnt, hlf, htf, hKl, hKw⟩ := h
  exact ⟨pay, fine, np, dp, nf, df, nr, dr, na, da, nt, dt, lf, tf, (fr _ (by omega) (by omega)).trans hbk, (fr _ (by omega) (by omega)).trans hpr, (fr _ (by omega) (by omega)).trans hpd, (fr _ (by omega) (by omega)).trans hfr, (fr _ (by omega) (by omega)).trans hfd, (fr _ (by omega) (by omega)).trans hrr, (fr _ (by omega) (by omega)).trans hrd, (fr _ (by omega) (by omega)).trans har, (fr _ (by omega) (by omega)).trans had, (fr _ (by omega) (by omega)).trans htr, (fr _ (by omega) (by omega)).trans htd, (fr _ (by omega) (by omega)).trans hsl, (fr _ (by omega) (by omega)).trans hal, (fr _ (by omega) (by omega)).trans hsw, (fr _ (by omega) (by omega)).trans haw, hnp, hnf, hnr, hna, hnt, hlf, htf, fun z hz => okT_fr (hKl z hz) (fr _ (by omega) (by omega)) (fr _ (by omega) (by omega)) (fr _ (by omega) (by omega)), fun z hz => okT_fr (hKw z hz) (fr _ (by omega) (by omega)) (fr _ (by omega) (by omega)) (fr _ (by omega) (by omega))⟩
/-- the class's object and all it holds -/
def cI (G : gW) (g : Nat → Nat) (f : Nat → va_E) : Prop := ∃ se : Nat, ∃ hf : Nat → Option Nat, ∃ imf : Nat → Option Nat, ∃ kf : Nat → Int32, ∃ mc : Nat, ∃ op : Int32, ∃ cm : Int32, ∃ wu : Int32, ∃ mk : Nat → Int32, ∃ ab : Int64, ∃ be : Int64, ∃ mn : Nat, ∃ le : Int32, ∃ wt : Nat → Int32, ∃ ww : Nat → Int32, ∃ wb : Nat → Int32, ∃ wf : Nat → Int32, ∃ vv : Nat → Int64, ∃ pay : Int32, ∃ fine : Int32, ∃ np : Nat, ∃ dp : Nat → Int32, ∃ nf : Nat, ∃ df : Nat → Int32, ∃ nr : Nat, ∃ dr : Nat → Int32, ∃ na : Nat, ∃ da : Nat → Int32, ∃ nt : Nat, ∃ ct : Nat → Int32, ∃ lf : Nat → Option Nat, ∃ tf : Nat → Option Nat, f 0 = eO 9 [.ref (g 1), .ref (g 36), .ref (g 2), .ref (g 3), .ref (g 4), .ref (g 6), .ref (g 7)] ∧ f 1 = eO 1 [.ref (g 36), .ref (g 12), .ref (g 13), .ref (g 15), .int (nI se)] ∧ f 12 = eA G 4 10 hf ∧ f 2 = eA G 3 2 imf ∧ f 3 = eZ G 2 kf ∧ f 4 = eO 4 [.ref (g 5), .int (nI mc), .int op, .int cm, .int wu] ∧ f 5 = eI G 50 mk ∧ f 6 = eO 2 [.long ab, .long be] ∧ f 7 = eO 8 [.ref (g 8), .ref (g 9), .ref (g 10), .ref (g 11), .int (nI mn), .int le] ∧ f 8 = eI G 6 wt ∧ f 9 = eI G 6 ww ∧ f 10 = eI G 6 wb ∧ f 11 = eI G 6 wf ∧ f 15 = eJ G 50 vv ∧ f 36 = eO 0 [.ref (g 37), .ref (g 39), .ref (g 41), .ref (g 43), .ref (g 45), .ref (g 47), .ref (g 112), .int pay, .int fine] ∧ f 37 = eO 5 [.int (nI 30), .int (nI 4), .ref (g 38), .int (nI np)] ∧ f 38 = eI G (30 * 4) dp ∧ f 39 = eO 5 [.int (nI 40), .int (nI 3), .ref (g 40), .int (nI nf)] ∧ f 40 = eI G (40 * 3) df ∧ f 41 = eO 5 [.int (nI 4), .int (nI 3), .ref (g 42), .int (nI nr)] ∧ f 42 = eI G (4 * 3) dr ∧ f 43 = eO 5 [.int (nI 20), .int (nI 3), .ref (g 44), .int (nI na)] ∧ f 44 = eI G (20 * 3) da ∧ f 45 = eO 5 [.int (nI 10), .int (nI 70), .ref (g 46), .int (nI nt)] ∧ f 46 = eI G (10 * 70) ct ∧ f 47 = eO 6 [.ref (g 48), .ref (g 49)] ∧ f 48 = eA G 5 20 lf ∧ f 112 = eO 6 [.ref (g 113), .ref (g 114)] ∧ f 113 = eA G 5 4 tf ∧ (se ≤ 10) ∧ (∀ i, i < 10 → hf i = some (g (2 * i + 16))) ∧ (imf 0 = some (g 129)) ∧ (imf 1 = some (g 222)) ∧ (mc ≤ 50) ∧ (mn ≤ 6) ∧ (np ≤ 30) ∧ (nf ≤ 40) ∧ (nr ≤ 4) ∧ (na ≤ 20) ∧ (nt ≤ 10) ∧ (∀ z, z < 20 → lf z = some (g (47 + 3 * z + 5))) ∧ (∀ z, z < 4 → tf z = some (g (112 + 3 * z + 5))) ∧ (∀ i, i < 10 → okH G g f (2 * i + 16)) ∧ (okH G g f 13) ∧ (∀ i, i < 20 → okT G g f (3 * i + 52)) ∧ (∀ i, i < 4 → okT G g f (3 * i + 117)) ∧ (okB G g f 129) ∧ (okB G g f 222)
theorem ok_X10_person : okV yX10_person cX10_person 6 (some .int) 4 := ⟨⟨w_133, w_2, ⟨by decide +kernel, by decide +kernel, by decide +kernel⟩⟩, trivial, w_131, w_132⟩
theorem ok_X10_kin : okV yX10_kin cX10_kin 5 (some .int) 3 := ⟨⟨w_173, w_2, ⟨by decide +kernel, by decide +kernel, by decide +kernel⟩⟩, trivial, w_171, w_172⟩
theorem ok_X10_roll : okV yX10_roll cX10_roll 5 (some .int) 3 := ⟨⟨w_197, w_2, ⟨by decide +kernel, by decide +kernel, by decide +kernel⟩⟩, trivial, w_195, w_196⟩
theorem ok_X10_rollOf : okV yX10_rollOf cX10_rollOf 2 (some .int) 1 := ⟨⟨w_220, w_2, ⟨by decide +kernel, by decide +kernel, by decide +kernel⟩⟩, trivial, w_218, w_219⟩
theorem ok_X10_write : okV yX10_write cX10_write 3 (some .int) 2 := ⟨⟨w_241, w_2, ⟨by decide +kernel, by decide +kernel, by decide +kernel⟩⟩, trivial, w_239, w_240⟩
theorem ok_X10_erase : okV yX10_erase cX10_erase 2 (some .int) 1 := ⟨⟨w_265, w_2, ⟨by decide +kernel, by decide +kernel, by decide +kernel⟩⟩, trivial, w_263, w_264⟩
theorem ok_X10_fault : okV yX10_fault cX10_fault 2 (some .int) 1 := ⟨⟨w_277, w_2, ⟨by decide +kernel, by decide +kernel, by decide +kernel⟩⟩, trivial, w_275, w_276⟩
theorem ok_X10_tells : okV yX10_tells cX10_tells 5 (some .long) 3 := ⟨⟨w_381, w_2, ⟨by decide +kernel, by decide +kernel, by decide +kernel⟩⟩, trivial, w_379, w_380⟩
theorem ok_X10_act : okV yX10_act cX10_act 6 (some .int) 3 := ⟨⟨w_590, w_2, ⟨by decide +kernel, by decide +kernel, by decide +kernel⟩⟩, trivial, w_588, w_589⟩
theorem ok_X10_strikeOut : okV yX10_strikeOut cX10_strikeOut 3 (some .int) 2 := ⟨⟨w_609, w_2, ⟨by decide +kernel, by decide +kernel, by decide +kernel⟩⟩, trivial, w_607, w_608⟩
theorem ok_X10_force : okV yX10_force cX10_force 3 (some .int) 2 := ⟨⟨w_618, w_2, ⟨by decide +kernel, by decide +kernel, by decide +kernel⟩⟩, trivial, w_616, w_617⟩
theorem ok_X10_may : okV yX10_may cX10_may 4 (some .int) 3 := ⟨⟨w_627, w_2, ⟨by decide +kernel, by decide +kernel, by decide +kernel⟩⟩, trivial, w_625, w_626⟩
theorem ok_X10_trial : okV yX10_trial cX10_trial 12 (some .int) 9 := ⟨⟨w_637, w_2, ⟨by decide +kernel, by decide +kernel, by decide +kernel⟩⟩, trivial, w_635, w_636⟩
theorem ok_X10_away : okV yX10_away cX10_away 5 (some .int) 3 := ⟨⟨w_654, w_2, ⟨by decide +kernel, by decide +kernel, by decide +kernel⟩⟩, trivial, w_652, w_653⟩
theorem ok_X10_like : okV yX10_like cX10_like 7 (some .int) 4 := ⟨⟨w_663, w_2, ⟨by decide +kernel, by decide +kernel, by decide +kernel⟩⟩, trivial, w_661, w_662⟩
theorem ok_X10_box : okV yX10_box cX10_box 2 (some .int) 1 := ⟨⟨w_674, w_2, ⟨by decide +kernel, by decide +kernel, by decide +kernel⟩⟩, trivial, w_672, w_673⟩
theorem ok_X10_drawn : okV yX10_drawn cX10_drawn 3 (some .int) 2 := ⟨⟨w_687, w_2, ⟨by decide +kernel, by decide +kernel, by decide +kernel⟩⟩, trivial, w_685, w_686⟩
theorem ok_X10_slip : okV yX10_slip cX10_slip 3 (some .int) 2 := ⟨⟨w_699, w_2, ⟨by decide +kernel, by decide +kernel, by decide +kernel⟩⟩, trivial, w_697, w_698⟩
theorem ok_X10_jury : okV yX10_jury cX10_jury 2 (some .int) 1 := ⟨⟨w_711, w_2, ⟨by decide +kernel, by decide +kernel, by decide +kernel⟩⟩, trivial, w_709, w_710⟩
theorem ok_X10_about : okV yX10_about cX10_about 3 (some .int) 2 := ⟨⟨w_719, w_2, ⟨by decide +kernel, by decide +kernel, by decide +kernel⟩⟩, trivial, w_717, w_718⟩
theorem ok_X10_bad : okV yX10_bad cX10_bad 4 (some .int) 1 := ⟨⟨w_733, w_2, ⟨by decide +kernel, by decide +kernel, by decide +kernel⟩⟩, trivial, w_731, w_732⟩
theorem ok_X10_sums : okV yX10_sums cX10_sums 3 (some .int) 2 := ⟨⟨w_742, w_2, ⟨by decide +kernel, by decide +kernel, by decide +kernel⟩⟩, trivial, w_740, w_741⟩
theorem ok_X10_owed : okV yX10_owed cX10_owed 6 (some .int) 2 := ⟨⟨w_750, w_2, ⟨by decide +kernel, by decide +kernel, by decide +kernel⟩⟩, trivial, w_748, w_749⟩
theorem ok_X10_chance : okV yX10_chance cX10_chance 8 (some .int) 4 := ⟨⟨w_760, w_2, ⟨by decide +kernel, by decide +kernel, by decide +kernel⟩⟩, trivial, w_758, w_759⟩
theorem ok_X10_twelve : okV yX10_twelve cX10_twelve 9 (some .int) 2 := ⟨⟨w_790, w_2, ⟨by decide +kernel, by decide +kernel, by decide +kernel⟩⟩, trivial, w_788, w_789⟩
theorem ok_X10_part : okV yX10_part cX10_part 2 (some .long) 1 := ⟨⟨w_800, w_2, ⟨by decide +kernel, by decide +kernel, by decide +kernel⟩⟩, trivial, w_798, w_799⟩
theorem ok_X10_beside : okV yX10_beside cX10_beside 6 (some .int) 3 := ⟨⟨w_809, w_2, ⟨by decide +kernel, by decide +kernel, by decide +kernel⟩⟩, trivial, w_807, w_808⟩
theorem ok_X10_clash : okV yX10_clash cX10_clash 5 (some .int) 2 := ⟨⟨w_818, w_2, ⟨by decide +kernel, by decide +kernel, by decide +kernel⟩⟩, trivial, w_816, w_817⟩
theorem ok_X10_turn : okV yX10_turn cX10_turn 4 (some .int) 2 := ⟨⟨w_874, w_2, ⟨by decide +kernel, by decide +kernel, by decide +kernel⟩⟩, trivial, w_872, w_873⟩
theorem ok_X10_image : okV yX10_image cX10_image 2 (some .int) 1 := ⟨⟨w_893, w_2, ⟨by decide +kernel, by decide +kernel, by decide +kernel⟩⟩, trivial, w_891, w_892⟩
theorem ok_X10_from : okV yX10_from cX10_from 2 (some .int) 1 := ⟨⟨w_917, w_2, ⟨by decide +kernel, by decide +kernel, by decide +kernel⟩⟩, trivial, w_915, w_916⟩
theorem ok_X10_count : okV yX10_count cX10_count 2 (some .int) 1 := ⟨⟨w_925, w_2, ⟨by decide +kernel, by decide +kernel, by decide +kernel⟩⟩, trivial, w_923, w_924⟩
theorem ok_X10_digest : okV yX10_digest cX10_digest 4 (some .long) 0 := ⟨⟨w_946, w_2, ⟨by decide +kernel, by decide +kernel, by decide +kernel⟩⟩, trivial, w_944, w_945⟩
theorem ok_X10_howMany : okV yX10_howMany cX10_howMany 2 (some .int) 1 := ⟨⟨w_929, w_2, ⟨by decide +kernel, by decide +kernel, by decide +kernel⟩⟩, trivial, w_927, w_928⟩
theorem ok_X10_isNextDay : okV yX10_isNextDay cX10_isNextDay 3 (some .boolean) 1 := ⟨⟨w_641, w_2, ⟨by decide +kernel, by decide +kernel, by decide +kernel⟩⟩, trivial, w_639, w_640⟩
set_option maxHeartbeats 4000000 in
set_option maxRecDepth 100000 in
theorem s_bitCount63 (l : Launch) (G : gW) (g : Nat → Nat) (hg : gOK g) (f : Nat → va_E) (n : Int32)   : Met l yJ6_bitCount_0f7a4 (wsT yJ6_bitCount_0f7a4 cJ6_bitCount_0f7a4 1 (some .int)) ({ frames := 0, cells := 0, slots := 0, locals := 0 }) (bP G g f [.int n]) (rQi (fun z9 => ∃ z8 : Int32, z9 = z8 ∧ (z8.toInt ≤ 63))) 0 0 fr0 := by
  refine Met.ofW (cc := cJ6_bitCount_0f7a4) (maxL := 1) (ret := (some .int)) (by decide) rfl ?_
  intro p e s m args below meth c s₁ B hml hv
  obtain ⟨rfl, hP, hG⟩ := hv
  have hx := B.exec
  have hb := B.bytes
  have hr := B.returns
  have hts := my_hts (atoms_spec (ws := wsT yJ6_bitCount_0f7a4 cJ6_bitCount_0f7a4 1 (some .int)) B.pre)
  have hown : s.vm.findClass RJ6 = some m.cls := findClass_of_methodNamed B.named
  have hlocks := B.notSynchronized
  have hl := lv_entry ([.int n]) (n := 1) (Nat.le_of_ble_eq_true rfl)
  rw [lg_entry_eq]
  generalize (lg_sl ([.int n]) ++ List.replicate (1 - (lg_sl ([.int n])).length) Slot.unset).toArray = ls at hl ⊢
  have hl : lv_has ls 1 [(0, .int n)] := hl
  refine lv_iload_n hx hb dJ6_bitCount_0f7a4_0 rfl (lv_at hl 0 rfl) ?_
  refine lv_iload_n hx hb dJ6_bitCount_0f7a4_1 rfl (lv_at hl 0 rfl) ?_
  refine lv_iconst (v := 1) hx hb dJ6_bitCount_0f7a4_2 (by decide) ?_
  refine lv_iushr hx hb dJ6_bitCount_0f7a4_3 rfl ?_
  refine lv_ldcw (v := 1431655765) hx hb hown (hts (.constant RJ6 265 (1431655765)) w_487) dJ6_bitCount_0f7a4_4 ?_
  refine lv_iand hx hb dJ6_bitCount_0f7a4_7 ?_
  refine lv_isub hx hb dJ6_bitCount_0f7a4_8 ?_
  refine lv_istore_n (lv' := [(0, .int (n - (((Int32.toUInt32 n >>> (Int32.toUInt32 1 &&& Int32.toUInt32 31)).toInt32) &&& 1431655765)))]) hx hb dJ6_bitCount_0f7a4_9 rfl hl (by decide) rfl (fun ls hl => ?_)
  refine lv_iload_n hx hb dJ6_bitCount_0f7a4_10 rfl (lv_at hl 0 rfl) ?_
  refine lv_ldcw (v := 858993459) hx hb hown (hts (.constant RJ6 266 (858993459)) w_488) dJ6_bitCount_0f7a4_11 ?_
  refine lv_iand hx hb dJ6_bitCount_0f7a4_14 ?_
  refine lv_iload_n hx hb dJ6_bitCount_0f7a4_15 rfl (lv_at hl 0 rfl) ?_
  refine lv_iconst (v := 2) hx hb dJ6_bitCount_0f7a4_16 (by decide) ?_
  refine lv_iushr hx hb dJ6_bitCount_0f7a4_17 rfl ?_
  refine lv_ldcw (v := 858993459) hx hb hown (hts (.constant RJ6 266 (858993459)) w_488) dJ6_bitCount_0f7a4_18 ?_
  refine lv_iand hx hb dJ6_bitCount_0f7a4_21 ?_
  refine lv_iadd hx hb dJ6_bitCount_0f7a4_22 ?_
  refine lv_istore_n (lv' := [(0, .int (((n - (((Int32.toUInt32 n >>> (Int32.toUInt32 1 &&& Int32.toUInt32 31)).toInt32) &&& 1431655765)) &&& 858993459) + (((Int32.toUInt32 (n - (((Int32.toUInt32 n >>> (Int32.toUInt32 1 &&& Int32.toUInt32 31)).toInt32) &&& 1431655765)) >>> (Int32.toUInt32 2 &&& Int32.toUInt32 31)).toInt32) &&& 858993459)))]) hx hb dJ6_bitCount_0f7a4_23 rfl hl (by decide) rfl (fun ls hl => ?_)
  refine lv_iload_n hx hb dJ6_bitCount_0f7a4_24 rfl (lv_at hl 0 rfl) ?_
  refine lv_iload_n hx hb dJ6_bitCount_0f7a4_25 rfl (lv_at hl 0 rfl) ?_
  refine lv_iconst (v := 4) hx hb dJ6_bitCount_0f7a4_26 (by decide) ?_
  refine lv_iushr hx hb dJ6_bitCount_0f7a4_27 rfl ?_
  refine lv_iadd hx hb dJ6_bitCount_0f7a4_28 ?_
  refine lv_ldcw (v := 252645135) hx hb hown (hts (.constant RJ6 267 (252645135)) w_489) dJ6_bitCount_0f7a4_29 ?_
  refine lv_iand hx hb dJ6_bitCount_0f7a4_32 ?_
  refine lv_istore_n (lv' := [(0, .int (((((n - (((Int32.toUInt32 n >>> (Int32.toUInt32 1 &&& Int32.toUInt32 31)).toInt32) &&& 1431655765)) &&& 858993459) + (((Int32.toUInt32 (n - (((Int32.toUInt32 n >>> (Int32.toUInt32 1 &&& Int32.toUInt32 31)).toInt32) &&& 1431655765)) >>> (Int32.toUInt32 2 &&& Int32.toUInt32 31)).toInt32) &&& 858993459)) + ((Int32.toUInt32 (((n - (((Int32.toUInt32 n >>> (Int32.toUInt32 1 &&& Int32.toUInt32 31)).toInt32) &&& 1431655765)) &&& 858993459) + (((Int32.toUInt32 (n - (((Int32.toUInt32 n >>> (Int32.toUInt32 1 &&& Int32.toUInt32 31)).toInt32) &&& 1431655765)) >>> (Int32.toUInt32 2 &&& Int32.toUInt32 31)).toInt32) &&& 858993459)) >>> (Int32.toUInt32 4 &&& Int32.toUInt32 31)).toInt32)) &&& 252645135))]) hx hb dJ6_bitCount_0f7a4_33 rfl hl (by decide) rfl (fun ls hl => ?_)
  refine lv_iload_n hx hb dJ6_bitCount_0f7a4_34 rfl (lv_at hl 0 rfl) ?_
  refine lv_iload_n hx hb dJ6_bitCount_0f7a4_35 rfl (lv_at hl 0 rfl) ?_
  refine lv_bipush (v := 8) hx hb dJ6_bitCount_0f7a4_36 (by decide) ?_
  refine lv_iushr hx hb dJ6_bitCount_0f7a4_38 rfl ?_
  refine lv_iadd hx hb dJ6_bitCount_0f7a4_39 ?_
  refine lv_istore_n (lv' := [(0, .int ((((((n - (((Int32.toUInt32 n >>> (Int32.toUInt32 1 &&& Int32.toUInt32 31)).toInt32) &&& 1431655765)) &&& 858993459) + (((Int32.toUInt32 (n - (((Int32.toUInt32 n >>> (Int32.toUInt32 1 &&& Int32.toUInt32 31)).toInt32) &&& 1431655765)) >>> (Int32.toUInt32 2 &&& Int32.toUInt32 31)).toInt32) &&& 858993459)) + ((Int32.toUInt32 (((n - (((Int32.toUInt32 n >>> (Int32.toUInt32 1 &&& Int32.toUInt32 31)).toInt32) &&& 1431655765)) &&& 858993459) + (((Int32.toUInt32 (n - (((Int32.toUInt32 n >>> (Int32.toUInt32 1 &&& Int32.toUInt32 31)).toInt32) &&& 1431655765)) >>> (Int32.toUInt32 2 &&& Int32.toUInt32 31)).toInt32) &&& 858993459)) >>> (Int32.toUInt32 4 &&& Int32.toUInt32 31)).toInt32)) &&& 252645135) + ((Int32.toUInt32 (((((n - (((Int32.toUInt32 n >>> (Int32.toUInt32 1 &&& Int32.toUInt32 31)).toInt32) &&& 1431655765)) &&& 858993459) + (((Int32.toUInt32 (n - (((Int32.toUInt32 n >>> (Int32.toUInt32 1 &&& Int32.toUInt32 31)).toInt32) &&& 1431655765)) >>> (Int32.toUInt32 2 &&& Int32.toUInt32 31)).toInt32) &&& 858993459)) + ((Int32.toUInt32 (((n - (((Int32.toUInt32 n >>> (Int32.toUInt32 1 &&& Int32.toUInt32 31)).toInt32) &&& 1431655765)) &&& 858993459) + (((Int32.toUInt32 (n - (((Int32.toUInt32 n >>> (Int32.toUInt32 1 &&& Int32.toUInt32 31)).toInt32) &&& 1431655765)) >>> (Int32.toUInt32 2 &&& Int32.toUInt32 31)).toInt32) &&& 858993459)) >>> (Int32.toUInt32 4 &&& Int32.toUInt32 31)).toInt32)) &&& 252645135) >>> (Int32.toUInt32 8 &&& Int32.toUInt32 31)).toInt32)))]) hx hb dJ6_bitCount_0f7a4_40 rfl hl (by decide) rfl (fun ls hl => ?_)
  refine lv_iload_n hx hb dJ6_bitCount_0f7a4_41 rfl (lv_at hl 0 rfl) ?_
  refine lv_iload_n hx hb dJ6_bitCount_0f7a4_42 rfl (lv_at hl 0 rfl) ?_
  refine lv_bipush (v := 16) hx hb dJ6_bitCount_0f7a4_43 (by decide) ?_
  refine lv_iushr hx hb dJ6_bitCount_0f7a4_45 rfl ?_
  refine lv_iadd hx hb dJ6_bitCount_0f7a4_46 ?_
  refine lv_istore_n (lv' := [(0, .int (((((((n - (((Int32.toUInt32 n >>> (Int32.toUInt32 1 &&& Int32.toUInt32 31)).toInt32) &&& 1431655765)) &&& 858993459) + (((Int32.toUInt32 (n - (((Int32.toUInt32 n >>> (Int32.toUInt32 1 &&& Int32.toUInt32 31)).toInt32) &&& 1431655765)) >>> (Int32.toUInt32 2 &&& Int32.toUInt32 31)).toInt32) &&& 858993459)) + ((Int32.toUInt32 (((n - (((Int32.toUInt32 n >>> (Int32.toUInt32 1 &&& Int32.toUInt32 31)).toInt32) &&& 1431655765)) &&& 858993459) + (((Int32.toUInt32 (n - (((Int32.toUInt32 n >>> (Int32.toUInt32 1 &&& Int32.toUInt32 31)).toInt32) &&& 1431655765)) >>> (Int32.toUInt32 2 &&& Int32.toUInt32 31)).toInt32) &&& 858993459)) >>> (Int32.toUInt32 4 &&& Int32.toUInt32 31)).toInt32)) &&& 252645135) + ((Int32.toUInt32 (((((n - (((Int32.toUInt32 n >>> (Int32.toUInt32 1 &&& Int32.toUInt32 31)).toInt32) &&& 1431655765)) &&& 858993459) + (((Int32.toUInt32 (n - (((Int32.toUInt32 n >>> (Int32.toUInt32 1 &&& Int32.toUInt32 31)).toInt32) &&& 1431655765)) >>> (Int32.toUInt32 2 &&& Int32.toUInt32 31)).toInt32) &&& 858993459)) + ((Int32.toUInt32 (((n - (((Int32.toUInt32 n >>> (Int32.toUInt32 1 &&& Int32.toUInt32 31)).toInt32) &&& 1431655765)) &&& 858993459) + (((Int32.toUInt32 (n - (((Int32.toUInt32 n >>> (Int32.toUInt32 1 &&& Int32.toUInt32 31)).toInt32) &&& 1431655765)) >>> (Int32.toUInt32 2 &&& Int32.toUInt32 31)).toInt32) &&& 858993459)) >>> (Int32.toUInt32 4 &&& Int32.toUInt32 31)).toInt32)) &&& 252645135) >>> (Int32.toUInt32 8 &&& Int32.toUInt32 31)).toInt32)) + ((Int32.toUInt32 ((((((n - (((Int32.toUInt32 n >>> (Int32.toUInt32 1 &&& Int32.toUInt32 31)).toInt32) &&& 1431655765)) &&& 858993459) + (((Int32.toUInt32 (n - (((Int32.toUInt32 n >>> (Int32.toUInt32 1 &&& Int32.toUInt32 31)).toInt32) &&& 1431655765)) >>> (Int32.toUInt32 2 &&& Int32.toUInt32 31)).toInt32) &&& 858993459)) + ((Int32.toUInt32 (((n - (((Int32.toUInt32 n >>> (Int32.toUInt32 1 &&& Int32.toUInt32 31)).toInt32) &&& 1431655765)) &&& 858993459) + (((Int32.toUInt32 (n - (((Int32.toUInt32 n >>> (Int32.toUInt32 1 &&& Int32.toUInt32 31)).toInt32) &&& 1431655765)) >>> (Int32.toUInt32 2 &&& Int32.toUInt32 31)).toInt32) &&& 858993459)) >>> (Int32.toUInt32 4 &&& Int32.toUInt32 31)).toInt32)) &&& 252645135) + ((Int32.toUInt32 (((((n - (((Int32.toUInt32 n >>> (Int32.toUInt32 1 &&& Int32.toUInt32 31)).toInt32) &&& 1431655765)) &&& 858993459) + (((Int32.toUInt32 (n - (((Int32.toUInt32 n >>> (Int32.toUInt32 1 &&& Int32.toUInt32 31)).toInt32) &&& 1431655765)) >>> (Int32.toUInt32 2 &&& Int32.toUInt32 31)).toInt32) &&& 858993459)) + ((Int32.toUInt32 (((n - (((Int32.toUInt32 n >>> (Int32.toUInt32 1 &&& Int32.toUInt32 31)).toInt32) &&& 1431655765)) &&& 858993459) + (((Int32.toUInt32 (n - (((Int32.toUInt32 n >>> (Int32.toUInt32 1 &&& Int32.toUInt32 31)).toInt32) &&& 1431655765)) >>> (Int32.toUInt32 2 &&& Int32.toUInt32 31)).toInt32) &&& 858993459)) >>> (Int32.toUInt32 4 &&& Int32.toUInt32 31)).toInt32)) &&& 252645135) >>> (Int32.toUInt32 8 &&& Int32.toUInt32 31)).toInt32)) >>> (Int32.toUInt32 16 &&& Int32.toUInt32 31)).toInt32)))]) hx hb dJ6_bitCount_0f7a4_47 rfl hl (by decide) rfl (fun ls hl => ?_)
  refine lv_iload_n hx hb dJ6_bitCount_0f7a4_48 rfl (lv_at hl 0 rfl) ?_
  refine lv_bipush (v := 63) hx hb dJ6_bitCount_0f7a4_49 (by decide) ?_
  refine lv_iand hx hb dJ6_bitCount_0f7a4_51 ?_
  exact W.iret (v := (((((((n - (((Int32.toUInt32 n >>> (Int32.toUInt32 1 &&& Int32.toUInt32 31)).toInt32) &&& 1431655765)) &&& 858993459) + (((Int32.toUInt32 (n - (((Int32.toUInt32 n >>> (Int32.toUInt32 1 &&& Int32.toUInt32 31)).toInt32) &&& 1431655765)) >>> (Int32.toUInt32 2 &&& Int32.toUInt32 31)).toInt32) &&& 858993459)) + ((Int32.toUInt32 (((n - (((Int32.toUInt32 n >>> (Int32.toUInt32 1 &&& Int32.toUInt32 31)).toInt32) &&& 1431655765)) &&& 858993459) + (((Int32.toUInt32 (n - (((Int32.toUInt32 n >>> (Int32.toUInt32 1 &&& Int32.toUInt32 31)).toInt32) &&& 1431655765)) >>> (Int32.toUInt32 2 &&& Int32.toUInt32 31)).toInt32) &&& 858993459)) >>> (Int32.toUInt32 4 &&& Int32.toUInt32 31)).toInt32)) &&& 252645135) + ((Int32.toUInt32 (((((n - (((Int32.toUInt32 n >>> (Int32.toUInt32 1 &&& Int32.toUInt32 31)).toInt32) &&& 1431655765)) &&& 858993459) + (((Int32.toUInt32 (n - (((Int32.toUInt32 n >>> (Int32.toUInt32 1 &&& Int32.toUInt32 31)).toInt32) &&& 1431655765)) >>> (Int32.toUInt32 2 &&& Int32.toUInt32 31)).toInt32) &&& 858993459)) + ((Int32.toUInt32 (((n - (((Int32.toUInt32 n >>> (Int32.toUInt32 1 &&& Int32.toUInt32 31)).toInt32) &&& 1431655765)) &&& 858993459) + (((Int32.toUInt32 (n - (((Int32.toUInt32 n >>> (Int32.toUInt32 1 &&& Int32.toUInt32 31)).toInt32) &&& 1431655765)) >>> (Int32.toUInt32 2 &&& Int32.toUInt32 31)).toInt32) &&& 858993459)) >>> (Int32.toUInt32 4 &&& Int32.toUInt32 31)).toInt32)) &&& 252645135) >>> (Int32.toUInt32 8 &&& Int32.toUInt32 31)).toInt32)) + ((Int32.toUInt32 ((((((n - (((Int32.toUInt32 n >>> (Int32.toUInt32 1 &&& Int32.toUInt32 31)).toInt32) &&& 1431655765)) &&& 858993459) + (((Int32.toUInt32 (n - (((Int32.toUInt32 n >>> (Int32.toUInt32 1 &&& Int32.toUInt32 31)).toInt32) &&& 1431655765)) >>> (Int32.toUInt32 2 &&& Int32.toUInt32 31)).toInt32) &&& 858993459)) + ((Int32.toUInt32 (((n - (((Int32.toUInt32 n >>> (Int32.toUInt32 1 &&& Int32.toUInt32 31)).toInt32) &&& 1431655765)) &&& 858993459) + (((Int32.toUInt32 (n - (((Int32.toUInt32 n >>> (Int32.toUInt32 1 &&& Int32.toUInt32 31)).toInt32) &&& 1431655765)) >>> (Int32.toUInt32 2 &&& Int32.toUInt32 31)).toInt32) &&& 858993459)) >>> (Int32.toUInt32 4 &&& Int32.toUInt32 31)).toInt32)) &&& 252645135) + ((Int32.toUInt32 (((((n - (((Int32.toUInt32 n >>> (Int32.toUInt32 1 &&& Int32.toUInt32 31)).toInt32) &&& 1431655765)) &&& 858993459) + (((Int32.toUInt32 (n - (((Int32.toUInt32 n >>> (Int32.toUInt32 1 &&& Int32.toUInt32 31)).toInt32) &&& 1431655765)) >>> (Int32.toUInt32 2 &&& Int32.toUInt32 31)).toInt32) &&& 858993459)) + ((Int32.toUInt32 (((n - (((Int32.toUInt32 n >>> (Int32.toUInt32 1 &&& Int32.toUInt32 31)).toInt32) &&& 1431655765)) &&& 858993459) + (((Int32.toUInt32 (n - (((Int32.toUInt32 n >>> (Int32.toUInt32 1 &&& Int32.toUInt32 31)).toInt32) &&& 1431655765)) >>> (Int32.toUInt32 2 &&& Int32.toUInt32 31)).toInt32) &&& 858993459)) >>> (Int32.toUInt32 4 &&& Int32.toUInt32 31)).toInt32)) &&& 252645135) >>> (Int32.toUInt32 8 &&& Int32.toUInt32 31)).toInt32)) >>> (Int32.toUInt32 16 &&& Int32.toUInt32 31)).toInt32)) &&& 63) hx hb hr (fun t ht hW => ⟨_, rfl, (⟨_, rfl, and63 _⟩), ht⟩) (fun _ h => absurd h List.not_mem_nil) dJ6_bitCount_0f7a4_52
set_option maxHeartbeats 4000000 in
set_option maxRecDepth 100000 in
theorem m_person (l : Launch) (G : gW) (g : Nat → Nat) (hg : gOK g) (f : Nat → va_E) (a1 : Int32) (a2 : Int32) (a3 : Int32) (a4 : Int32)  (hI : cI G g f) : Met l yX10_person (wsT yX10_person cX10_person 6 (some .int)) ({ frames := 2, cells := 0, slots := 0, locals := 35 }) (bP G g f [.ref (g 0), .int a1, .int a2, .int a3, .int a4]) (bQi G g (fun (z9 : Int32) (f' : Nat → va_E) => (cI G g f') ∧ ∀ j, 315 ≤ j → f' j = f j)) 0 0 (gA g) := by
  refine Met.ofW (cc := cX10_person) (maxL := 6) (ret := (some .int)) (by decide) rfl ?_
  intro p e s m args below meth c s₁ B hml hv
  obtain ⟨rfl, hP, hG⟩ := hv
  have hx := B.exec
  have hb := B.bytes
  have hr := B.returns
  have hts := my_hts (atoms_spec (ws := wsT yX10_person cX10_person 6 (some .int)) B.pre)
  have hown : s.vm.findClass RX10 = some m.cls := findClass_of_methodNamed B.named
  have hlocks := B.notSynchronized
  have hS : va_S (gA g) s.heap s.heap [] := va_S.rf
  have hl := lv_entry ([.ref (g 0), .int a1, .int a2, .int a3, .int a4]) (n := 6) (Nat.le_of_ble_eq_true rfl)
  rw [lg_entry_eq]
  generalize (lg_sl ([.ref (g 0), .int a1, .int a2, .int a3, .int a4]) ++ List.replicate (6 - (lg_sl ([.ref (g 0), .int a1, .int a2, .int a3, .int a4])).length) Slot.unset).toArray = ls at hl ⊢
  have hl : lv_has ls 6 [(0, .ref (g 0)), (1, .int a1), (2, .int a2), (3, .int a3), (4, .int a4)] := hl
  obtain ⟨se, hf, imf, kf, mc, op, cm, wu, mk, ab, be, mn, le, wt, ww, wb, wf, vv, pay, fine, np, dp, nf, df, nr, dr, na, da, nt, ct, lf, tf, hx0, hctc, hhs, him, hkp, hrd, hmk, hfc6, hwt, hw8, hw9, hw10, hw11, hvl, hbk, hpr, hpd, hfr, hfd, hor, hod, har, had, htr, hct, hla, hlaa, hts0, htsa, hse, hhf, him0, him1, hmc, hmn, hnp, hnf, hnr, hna, hnt, hlf, htf, hH, hS, hL, hT, hB1, hB2⟩ := hI
  refine lv_iload_n hx hb dX10_person_0 rfl (lv_at hl 1 rfl) ?_
  refine lv_iconst (v := 0) hx hb dX10_person_1 (by decide) ?_
  refine lv_iconst (v := 3) hx hb dX10_person_2 (by decide) ?_
  refine rd_calli (va_runS (As := [.int a1, .int 0, .int 3]) (rest := []) ⟨hx, hb, hml, hown, hts⟩ (s_within l G g hg f a1 0 3  ) (my_cwS hts ok_X10_within w_134 rfl rfl ⟨Nat.le_of_ble_eq_true rfl, Nat.le_of_ble_eq_true rfl⟩) ⟨bP.blind, fun U hU hW => ⟨rfl, by rw [hU]; exact hP, kG.warm hW hG⟩⟩ rfl rfl hl.1 rfl (lv_room (Nat.le_of_ble_eq_true rfl)) dX10_person_3 ⟨Nat.le_of_ble_eq_true rfl, Nat.le_of_ble_eq_true rfl⟩) (fun r hr9 => ?_)
  subst hr9
  refine my_ifeq (tgt := 40) hx hb dX10_person_6 (by decide) (fun c_6 => ?_) (fun c_6 => ?_)
  · refine lv_bipush (v := (-2)) hx hb dX10_person_40 (by decide) ?_
    exact W.iret (v := (-2)) hx hb hr (fun t ht hW => ⟨⟨_, f, rfl, (⟨⟨se, hf, imf, kf, mc, op, cm, wu, mk, ab, be, mn, le, wt, ww, wb, wf, vv, pay, fine, np, dp, nf, df, nr, dr, na, da, nt, ct, lf, tf, hx0, hctc, hhs, him, hkp, hrd, hmk, hfc6, hwt, hw8, hw9, hw10, hw11, hvl, hbk, hpr, hpd, hfr, hfd, hor, hod, har, had, htr, hct, hla, hlaa, hts0, htsa, by omega, hhf, him0, him1, by omega, by omega, by omega, by omega, by omega, by omega, by omega, hlf, htf, hH, hS, hL, hT, hB1, hB2⟩, fun j hj => rfl⟩), by rw [ht]; exact hP⟩, hS.F ht⟩) hS.2.2 dX10_person_42
  · refine lv_iload_n hx hb dX10_person_9 rfl (lv_at hl 2 rfl) ?_
    refine lv_iconst (v := 0) hx hb dX10_person_10 (by decide) ?_
    refine lv_iconst (v := 3) hx hb dX10_person_11 (by decide) ?_
    refine rd_calli (va_runS (As := [.int a2, .int 0, .int 3]) (rest := []) ⟨hx, hb, hml, hown, hts⟩ (s_within l G g hg f a2 0 3  ) (my_cwS hts ok_X10_within w_134 rfl rfl ⟨Nat.le_of_ble_eq_true rfl, Nat.le_of_ble_eq_true rfl⟩) ⟨bP.blind, fun U hU hW => ⟨rfl, by rw [hU]; exact hP, kG.warm hW hG⟩⟩ rfl rfl hl.1 rfl (lv_room (Nat.le_of_ble_eq_true rfl)) dX10_person_12 ⟨Nat.le_of_ble_eq_true rfl, Nat.le_of_ble_eq_true rfl⟩) (fun r hr9 => ?_)
    subst hr9
    refine my_ifeq (tgt := 40) hx hb dX10_person_15 (by decide) (fun c_15 => ?_) (fun c_15 => ?_)
    · refine lv_bipush (v := (-2)) hx hb dX10_person_40 (by decide) ?_
      exact W.iret (v := (-2)) hx hb hr (fun t ht hW => ⟨⟨_, f, rfl, (⟨⟨se, hf, imf, kf, mc, op, cm, wu, mk, ab, be, mn, le, wt, ww, wb, wf, vv, pay, fine, np, dp, nf, df, nr, dr, na, da, nt, ct, lf, tf, hx0, hctc, hhs, him, hkp, hrd, hmk, hfc6, hwt, hw8, hw9, hw10, hw11, hvl, hbk, hpr, hpd, hfr, hfd, hor, hod, har, had, htr, hct, hla, hlaa, hts0, htsa, by omega, hhf, him0, him1, by omega, by omega, by omega, by omega, by omega, by omega, by omega, hlf, htf, hH, hS, hL, hT, hB1, hB2⟩, fun j hj => rfl⟩), by rw [ht]; exact hP⟩, hS.F ht⟩) hS.2.2 dX10_person_42
    · refine lv_iload_n hx hb dX10_person_18 rfl (lv_at hl 3 rfl) ?_
      refine lv_iconst (v := 0) hx hb dX10_person_19 (by decide) ?_
      refine lv_sipush (v := 1000) hx hb dX10_person_20 (by decide) ?_
      refine rd_calli (va_runS (As := [.int a3, .int 0, .int 1000]) (rest := []) ⟨hx, hb, hml, hown, hts⟩ (s_within l G g hg f a3 0 1000  ) (my_cwS hts ok_X10_within w_134 rfl rfl ⟨Nat.le_of_ble_eq_true rfl, Nat.le_of_ble_eq_true rfl⟩) ⟨bP.blind, fun U hU hW => ⟨rfl, by rw [hU]; exact hP, kG.warm hW hG⟩⟩ rfl rfl hl.1 rfl (lv_room (Nat.le_of_ble_eq_true rfl)) dX10_person_23 ⟨Nat.le_of_ble_eq_true rfl, Nat.le_of_ble_eq_true rfl⟩) (fun r hr9 => ?_)
      subst hr9
      refine my_ifeq (tgt := 40) hx hb dX10_person_26 (by decide) (fun c_26 => ?_) (fun c_26 => ?_)
      · refine lv_bipush (v := (-2)) hx hb dX10_person_40 (by decide) ?_
        exact W.iret (v := (-2)) hx hb hr (fun t ht hW => ⟨⟨_, f, rfl, (⟨⟨se, hf, imf, kf, mc, op, cm, wu, mk, ab, be, mn, le, wt, ww, wb, wf, vv, pay, fine, np, dp, nf, df, nr, dr, na, da, nt, ct, lf, tf, hx0, hctc, hhs, him, hkp, hrd, hmk, hfc6, hwt, hw8, hw9, hw10, hw11, hvl, hbk, hpr, hpd, hfr, hfd, hor, hod, har, had, htr, hct, hla, hlaa, hts0, htsa, by omega, hhf, him0, him1, by omega, by omega, by omega, by omega, by omega, by omega, by omega, hlf, htf, hH, hS, hL, hT, hB1, hB2⟩, fun j hj => rfl⟩), by rw [ht]; exact hP⟩, hS.F ht⟩) hS.2.2 dX10_person_42
      · refine lv_iload hx hb dX10_person_29 (lv_at hl 4 rfl) ?_
        refine lv_iconst (v := 0) hx hb dX10_person_31 (by decide) ?_
        refine lv_bipush (v := 99) hx hb dX10_person_32 (by decide) ?_
        refine rd_calli (va_runS (As := [.int a4, .int 0, .int 99]) (rest := []) ⟨hx, hb, hml, hown, hts⟩ (s_within l G g hg f a4 0 99  ) (my_cwS hts ok_X10_within w_134 rfl rfl ⟨Nat.le_of_ble_eq_true rfl, Nat.le_of_ble_eq_true rfl⟩) ⟨bP.blind, fun U hU hW => ⟨rfl, by rw [hU]; exact hP, kG.warm hW hG⟩⟩ rfl rfl hl.1 rfl (lv_room (Nat.le_of_ble_eq_true rfl)) dX10_person_34 ⟨Nat.le_of_ble_eq_true rfl, Nat.le_of_ble_eq_true rfl⟩) (fun r hr9 => ?_)
        subst hr9
        refine my_ifne (tgt := 43) hx hb dX10_person_37 (by decide) (fun c_37 => ?_) (fun c_37 => ?_)
        · refine lv_aload_n hx hb dX10_person_43 rfl (lv_at hl 0 rfl) ?_
          refine va_get (D := G.1) (ci := 9) (v := .ref (g 36)) (C := RX10) (T := TX10) (N := 7) hx hb hts inlX10 hown hG.1 hP 0 (wl_at (by decide) hx0) rfl 1 (by decide) (hts (.fieldLink RX10 20 "SwornLists" "book" "LSwornLists$Book;") w_16) (fun _ h9 => h9) rfl dX10_person_44 ?_
          refine va_getN (D := G.1) (ci := 0) (v := .ref (g 37)) (C := RX0) (T := TX0) (N := 9) (host := RX10) hx hb hts inlX0 hown hG.1 hP 36 (wl_at (by decide) hbk) rfl 0 (by decide) (va_Nw.use rfl (hG.2.1 (.fieldLinkNest RX10 57 RX0 "people" "LSwornLists$Rows;" RX10) (List.mem_of_getElem? (i := 0) rfl))) (fun _ h9 => h9) rfl dX10_person_47 ?_
          by_cases hlt : np < 30
          · refine b_calli (va_runV (As := []) (rest := []) ⟨hx, hb, hml, hown, hts⟩ (r_grow l G g hg f 37 30 4 np hpr (by first | assumption | omega | decide) (by first | assumption | omega | decide) (by first | assumption | omega | decide) (by first | assumption | omega | decide) (by first | assumption | omega | decide)) (my_cwV hts ok_X5_grow w_137 rfl rfl ⟨Nat.le_of_ble_eq_true rfl, Nat.le_of_ble_eq_true rfl⟩) ⟨bP.blind, va_recv hG.1 hP (ci := 5) (q0 := 37) rfl (wl_at (by decide) hpr), fun U hU hW => ⟨rfl, by rw [hU]; exact hP, kG.warm hW hG⟩⟩ rfl rfl hl.1 rfl (lv_room (Nat.le_of_ble_eq_true rfl)) dX10_person_50 ⟨Nat.le_of_ble_eq_true rfl, Nat.le_of_ble_eq_true rfl⟩) hS (fun v1 f_1 H locs hq9 hP hS => ?_)
            obtain ⟨rfl, hq_1_0, o_1⟩ := hq9
            have hx0 : f_1 0 = eO 9 [.ref (g 1), .ref (g 36), .ref (g 2), .ref (g 3), .ref (g 4), .ref (g 6), .ref (g 7)] := (o_1 0 (by omega)).trans hx0
            have hctc : f_1 1 = eO 1 [.ref (g 36), .ref (g 12), .ref (g 13), .ref (g 15), .int (nI se)] := (o_1 1 (by omega)).trans hctc
            have hhs : f_1 12 = eA G 4 10 hf := (o_1 12 (by omega)).trans hhs
            have him : f_1 2 = eA G 3 2 imf := (o_1 2 (by omega)).trans him
            have hkp : f_1 3 = eZ G 2 kf := (o_1 3 (by omega)).trans hkp
            have hrd : f_1 4 = eO 4 [.ref (g 5), .int (nI mc), .int op, .int cm, .int wu] := (o_1 4 (by omega)).trans hrd
            have hmk : f_1 5 = eI G 50 mk := (o_1 5 (by omega)).trans hmk
            have hfc6 : f_1 6 = eO 2 [.long ab, .long be] := (o_1 6 (by omega)).trans hfc6
            have hwt : f_1 7 = eO 8 [.ref (g 8), .ref (g 9), .ref (g 10), .ref (g 11), .int (nI mn), .int le] := (o_1 7 (by omega)).trans hwt
            have hw8 : f_1 8 = eI G 6 wt := (o_1 8 (by omega)).trans hw8
            have hw9 : f_1 9 = eI G 6 ww := (o_1 9 (by omega)).trans hw9
            have hw10 : f_1 10 = eI G 6 wb := (o_1 10 (by omega)).trans hw10
            have hw11 : f_1 11 = eI G 6 wf := (o_1 11 (by omega)).trans hw11
            have hvl : f_1 15 = eJ G 50 vv := (o_1 15 (by omega)).trans hvl
            have hbk : f_1 36 = eO 0 [.ref (g 37), .ref (g 39), .ref (g 41), .ref (g 43), .ref (g 45), .ref (g 47), .ref (g 112), .int pay, .int fine] := (o_1 36 (by omega)).trans hbk
            have hpd : f_1 38 = eI G (30 * 4) dp := (o_1 38 (by omega)).trans hpd
            have hfr : f_1 39 = eO 5 [.int (nI 40), .int (nI 3), .ref (g 40), .int (nI nf)] := (o_1 39 (by omega)).trans hfr
            have hfd : f_1 40 = eI G (40 * 3) df := (o_1 40 (by omega)).trans hfd
            have hor : f_1 41 = eO 5 [.int (nI 4), .int (nI 3), .ref (g 42), .int (nI nr)] := (o_1 41 (by omega)).trans hor
            have hod : f_1 42 = eI G (4 * 3) dr := (o_1 42 (by omega)).trans hod
            have har : f_1 43 = eO 5 [.int (nI 20), .int (nI 3), .ref (g 44), .int (nI na)] := (o_1 43 (by omega)).trans har
            have had : f_1 44 = eI G (20 * 3) da := (o_1 44 (by omega)).trans had
            have htr : f_1 45 = eO 5 [.int (nI 10), .int (nI 70), .ref (g 46), .int (nI nt)] := (o_1 45 (by omega)).trans htr
            have hct : f_1 46 = eI G (10 * 70) ct := (o_1 46 (by omega)).trans hct
            have hla : f_1 47 = eO 6 [.ref (g 48), .ref (g 49)] := (o_1 47 (by omega)).trans hla
            have hlaa : f_1 48 = eA G 5 20 lf := (o_1 48 (by omega)).trans hlaa
            have hts0 : f_1 112 = eO 6 [.ref (g 113), .ref (g 114)] := (o_1 112 (by omega)).trans hts0
            have htsa : f_1 113 = eA G 5 4 tf := (o_1 113 (by omega)).trans htsa
            have hpr : f_1 37 = eO 5 [.int (nI 30), .int (nI 4), .ref (g (37 + 1)), .int (nI (np + 1))] := hq_1_0
            have hH : ∀ i, i < 10 → okH G g f_1 (2 * i + 16) := fun z hz => okH_fr (hH z hz) (o_1 _ (by omega)) (o_1 _ (by omega))
            have hS : okH G g f_1 13 := okH_fr hS (o_1 _ (by omega)) (o_1 _ (by omega))
            have hL : ∀ i, i < 20 → okT G g f_1 (3 * i + 52) := fun z hz => okT_fr (hL z hz) (o_1 _ (by omega)) (o_1 _ (by omega)) (o_1 _ (by omega))
            have hT : ∀ i, i < 4 → okT G g f_1 (3 * i + 117) := fun z hz => okT_fr (hT z hz) (o_1 _ (by omega)) (o_1 _ (by omega)) (o_1 _ (by omega))
            have hB1 : okB G g f_1 129 := okB_fr hB1 (fun j _ _ => o_1 j (by omega))
            have hB2 : okB G g f_1 222 := okB_fr hB2 (fun j _ _ => o_1 j (by omega))
            refine lv_istore (lv' := [(5, .int (nI np)), (0, .ref (g 0)), (1, .int a1), (2, .int a2), (3, .int a3), (4, .int a4)]) hx hb dX10_person_53 hl (by decide) rfl (fun ls hl => ?_)
            refine lv_iload hx hb dX10_person_55 (lv_at hl 0 rfl) ?_
            refine lv_bipush (v := (-4)) hx hb dX10_person_57 (by decide) ?_
            refine lv_icmp_ne (tgt := 65) hx hb dX10_person_59 (by decide) (fun c_59 => ?_) (fun c_59 => absurd c_59 (nI_m4 (by omega)))
            refine lv_aload_n hx hb dX10_person_65 rfl (lv_at hl 1 rfl) ?_
            refine va_get (D := G.1) (ci := 9) (v := .ref (g 36)) (C := RX10) (T := TX10) (N := 7) hx hb hts inlX10 hown hG.1 hP 0 (wl_at (by decide) hx0) rfl 1 (by decide) (hts (.fieldLink RX10 20 "SwornLists" "book" "LSwornLists$Book;") w_16) (fun _ h9 => h9) rfl dX10_person_66 ?_
            refine va_getN (D := G.1) (ci := 0) (v := .ref (g 37)) (C := RX0) (T := TX0) (N := 9) (host := RX10) hx hb hts inlX0 hown hG.1 hP 36 (wl_at (by decide) hbk) rfl 0 (by decide) (va_Nw.use rfl (hG.2.1 (.fieldLinkNest RX10 57 RX0 "people" "LSwornLists$Rows;" RX10) (List.mem_of_getElem? (i := 0) rfl))) (fun _ h9 => h9) rfl dX10_person_69 ?_
            refine lv_iload hx hb dX10_person_72 (lv_at hl 0 rfl) ?_
            refine lv_iconst (v := 0) hx hb dX10_person_74 (by decide) ?_
            refine lv_iload_n hx hb dX10_person_75 rfl (lv_at hl 2 rfl) ?_
            refine b_callv (va_runV (As := [.int (nI np), .int 0, .int a1]) (rest := []) ⟨hx, hb, hml, hown, hts⟩ (r_set l G g hg f_1 37 30 4 (np + 1) dp (nI np) 0 a1 hpr hpd (by first | assumption | omega | decide) (by first | assumption | omega | decide) (by first | assumption | omega | decide) (by first | assumption | omega | decide) (inN_n (by omega) (by omega)) (by first | assumption | omega | decide)) (my_cwV hts ok_X5_set w_142 rfl rfl ⟨Nat.le_of_ble_eq_true rfl, Nat.le_of_ble_eq_true rfl⟩) ⟨bP.blind, va_recv hG.1 hP (ci := 5) (q0 := 37) rfl (wl_at (by decide) hpr), fun U hU hW => ⟨rfl, by rw [hU]; exact hP, kG.warm hW hG⟩⟩ rfl rfl hl.1 rfl (lv_room (Nat.le_of_ble_eq_true rfl)) dX10_person_76 ⟨Nat.le_of_ble_eq_true rfl, Nat.le_of_ble_eq_true rfl⟩) hS (fun f_2 H locs hq9 hP hS => ?_)
            obtain ⟨hq_2_0, o_2⟩ := hq9
            have hx0 : f_2 0 = eO 9 [.ref (g 1), .ref (g 36), .ref (g 2), .ref (g 3), .ref (g 4), .ref (g 6), .ref (g 7)] := (o_2 0 (by omega)).trans hx0
            have hctc : f_2 1 = eO 1 [.ref (g 36), .ref (g 12), .ref (g 13), .ref (g 15), .int (nI se)] := (o_2 1 (by omega)).trans hctc
            have hhs : f_2 12 = eA G 4 10 hf := (o_2 12 (by omega)).trans hhs
            have him : f_2 2 = eA G 3 2 imf := (o_2 2 (by omega)).trans him
            have hkp : f_2 3 = eZ G 2 kf := (o_2 3 (by omega)).trans hkp
            have hrd : f_2 4 = eO 4 [.ref (g 5), .int (nI mc), .int op, .int cm, .int wu] := (o_2 4 (by omega)).trans hrd
            have hmk : f_2 5 = eI G 50 mk := (o_2 5 (by omega)).trans hmk
            have hfc6 : f_2 6 = eO 2 [.long ab, .long be] := (o_2 6 (by omega)).trans hfc6
            have hwt : f_2 7 = eO 8 [.ref (g 8), .ref (g 9), .ref (g 10), .ref (g 11), .int (nI mn), .int le] := (o_2 7 (by omega)).trans hwt
            have hw8 : f_2 8 = eI G 6 wt := (o_2 8 (by omega)).trans hw8
            have hw9 : f_2 9 = eI G 6 ww := (o_2 9 (by omega)).trans hw9
            have hw10 : f_2 10 = eI G 6 wb := (o_2 10 (by omega)).trans hw10
            have hw11 : f_2 11 = eI G 6 wf := (o_2 11 (by omega)).trans hw11
            have hvl : f_2 15 = eJ G 50 vv := (o_2 15 (by omega)).trans hvl
            have hbk : f_2 36 = eO 0 [.ref (g 37), .ref (g 39), .ref (g 41), .ref (g 43), .ref (g 45), .ref (g 47), .ref (g 112), .int pay, .int fine] := (o_2 36 (by omega)).trans hbk
            have hpr : f_2 37 = eO 5 [.int (nI 30), .int (nI 4), .ref (g (37 + 1)), .int (nI (np + 1))] := (o_2 37 (by omega)).trans hpr
            have hfr : f_2 39 = eO 5 [.int (nI 40), .int (nI 3), .ref (g 40), .int (nI nf)] := (o_2 39 (by omega)).trans hfr
            have hfd : f_2 40 = eI G (40 * 3) df := (o_2 40 (by omega)).trans hfd
            have hor : f_2 41 = eO 5 [.int (nI 4), .int (nI 3), .ref (g 42), .int (nI nr)] := (o_2 41 (by omega)).trans hor
            have hod : f_2 42 = eI G (4 * 3) dr := (o_2 42 (by omega)).trans hod
            have har : f_2 43 = eO 5 [.int (nI 20), .int (nI 3), .ref (g 44), .int (nI na)] := (o_2 43 (by omega)).trans har
            have had : f_2 44 = eI G (20 * 3) da := (o_2 44 (by omega)).trans had
            have htr : f_2 45 = eO 5 [.int (nI 10), .int (nI 70), .ref (g 46), .int (nI nt)] := (o_2 45 (by omega)).trans htr
            have hct : f_2 46 = eI G (10 * 70) ct := (o_2 46 (by omega)).trans hct
            have hla : f_2 47 = eO 6 [.ref (g 48), .ref (g 49)] := (o_2 47 (by omega)).trans hla
            have hlaa : f_2 48 = eA G 5 20 lf := (o_2 48 (by omega)).trans hlaa
            have hts0 : f_2 112 = eO 6 [.ref (g 113), .ref (g 114)] := (o_2 112 (by omega)).trans hts0
            have htsa : f_2 113 = eA G 5 4 tf := (o_2 113 (by omega)).trans htsa
            have hpd : f_2 38 = eI G (30 * 4) (upd dp (Int32.toNatClampNeg ((nI np) * nI 4 + 0)) a1) := hq_2_0
            have hH : ∀ i, i < 10 → okH G g f_2 (2 * i + 16) := fun z hz => okH_fr (hH z hz) (o_2 _ (by omega)) (o_2 _ (by omega))
            have hS : okH G g f_2 13 := okH_fr hS (o_2 _ (by omega)) (o_2 _ (by omega))
            have hL : ∀ i, i < 20 → okT G g f_2 (3 * i + 52) := fun z hz => okT_fr (hL z hz) (o_2 _ (by omega)) (o_2 _ (by omega)) (o_2 _ (by omega))
            have hT : ∀ i, i < 4 → okT G g f_2 (3 * i + 117) := fun z hz => okT_fr (hT z hz) (o_2 _ (by omega)) (o_2 _ (by omega)) (o_2 _ (by omega))
            have hB1 : okB G g f_2 129 := okB_fr hB1 (fun j _ _ => o_2 j (by omega))
            have hB2 : okB G g f_2 222 := okB_fr hB2 (fun j _ _ => o_2 j (by omega))
            refine lv_aload_n hx hb dX10_person_79 rfl (lv_at hl 1 rfl) ?_
            refine va_get (D := G.1) (ci := 9) (v := .ref (g 36)) (C := RX10) (T := TX10) (N := 7) hx hb hts inlX10 hown hG.1 hP 0 (wl_at (by decide) hx0) rfl 1 (by decide) (hts (.fieldLink RX10 20 "SwornLists" "book" "LSwornLists$Book;") w_16) (fun _ h9 => h9) rfl dX10_person_80 ?_
            refine va_getN (D := G.1) (ci := 0) (v := .ref (g 37)) (C := RX0) (T := TX0) (N := 9) (host := RX10) hx hb hts inlX0 hown hG.1 hP 36 (wl_at (by decide) hbk) rfl 0 (by decide) (va_Nw.use rfl (hG.2.1 (.fieldLinkNest RX10 57 RX0 "people" "LSwornLists$Rows;" RX10) (List.mem_of_getElem? (i := 0) rfl))) (fun _ h9 => h9) rfl dX10_person_83 ?_
            refine lv_iload hx hb dX10_person_86 (lv_at hl 0 rfl) ?_
            refine lv_iconst (v := 1) hx hb dX10_person_88 (by decide) ?_
            refine lv_iload_n hx hb dX10_person_89 rfl (lv_at hl 3 rfl) ?_
            refine b_callv (va_runV (As := [.int (nI np), .int 1, .int a2]) (rest := []) ⟨hx, hb, hml, hown, hts⟩ (r_set l G g hg f_2 37 30 4 (np + 1) (upd dp (Int32.toNatClampNeg ((nI np) * nI 4 + 0)) a1) (nI np) 1 a2 hpr hpd (by first | assumption | omega | decide) (by first | assumption | omega | decide) (by first | assumption | omega | decide) (by first | assumption | omega | decide) (inN_n (by omega) (by omega)) (by first | assumption | omega | decide)) (my_cwV hts ok_X5_set w_142 rfl rfl ⟨Nat.le_of_ble_eq_true rfl, Nat.le_of_ble_eq_true rfl⟩) ⟨bP.blind, va_recv hG.1 hP (ci := 5) (q0 := 37) rfl (wl_at (by decide) hpr), fun U hU hW => ⟨rfl, by rw [hU]; exact hP, kG.warm hW hG⟩⟩ rfl rfl hl.1 rfl (lv_room (Nat.le_of_ble_eq_true rfl)) dX10_person_90 ⟨Nat.le_of_ble_eq_true rfl, Nat.le_of_ble_eq_true rfl⟩) hS (fun f_3 H locs hq9 hP hS => ?_)
            obtain ⟨hq_3_0, o_3⟩ := hq9
            have hx0 : f_3 0 = eO 9 [.ref (g 1), .ref (g 36), .ref (g 2), .ref (g 3), .ref (g 4), .ref (g 6), .ref (g 7)] := (o_3 0 (by omega)).trans hx0
            have hctc : f_3 1 = eO 1 [.ref (g 36), .ref (g 12), .ref (g 13), .ref (g 15), .int (nI se)] := (o_3 1 (by omega)).trans hctc
            have hhs : f_3 12 = eA G 4 10 hf := (o_3 12 (by omega)).trans hhs
            have him : f_3 2 = eA G 3 2 imf := (o_3 2 (by omega)).trans him
            have hkp : f_3 3 = eZ G 2 kf := (o_3 3 (by omega)).trans hkp
            have hrd : f_3 4 = eO 4 [.ref (g 5), .int (nI mc), .int op, .int cm, .int wu] := (o_3 4 (by omega)).trans hrd
            have hmk : f_3 5 = eI G 50 mk := (o_3 5 (by omega)).trans hmk
            have hfc6 : f_3 6 = eO 2 [.long ab, .long be] := (o_3 6 (by omega)).trans hfc6
            have hwt : f_3 7 = eO 8 [.ref (g 8), .ref (g 9), .ref (g 10), .ref (g 11), .int (nI mn), .int le] := (o_3 7 (by omega)).trans hwt
            have hw8 : f_3 8 = eI G 6 wt := (o_3 8 (by omega)).trans hw8
            have hw9 : f_3 9 = eI G 6 ww := (o_3 9 (by omega)).trans hw9
            have hw10 : f_3 10 = eI G 6 wb := (o_3 10 (by omega)).trans hw10
            have hw11 : f_3 11 = eI G 6 wf := (o_3 11 (by omega)).trans hw11
            have hvl : f_3 15 = eJ G 50 vv := (o_3 15 (by omega)).trans hvl
            have hbk : f_3 36 = eO 0 [.ref (g 37), .ref (g 39), .ref (g 41), .ref (g 43), .ref (g 45), .ref (g 47), .ref (g 112), .int pay, .int fine] := (o_3 36 (by omega)).trans hbk
            have hpr : f_3 37 = eO 5 [.int (nI 30), .int (nI 4), .ref (g (37 + 1)), .int (nI (np + 1))] := (o_3 37 (by omega)).trans hpr
            have hfr : f_3 39 = eO 5 [.int (nI 40), .int (nI 3), .ref (g 40), .int (nI nf)] := (o_3 39 (by omega)).trans hfr
            have hfd : f_3 40 = eI G (40 * 3) df := (o_3 40 (by omega)).trans hfd
            have hor : f_3 41 = eO 5 [.int (nI 4), .int (nI 3), .ref (g 42), .int (nI nr)] := (o_3 41 (by omega)).trans hor
            have hod : f_3 42 = eI G (4 * 3) dr := (o_3 42 (by omega)).trans hod
            have har : f_3 43 = eO 5 [.int (nI 20), .int (nI 3), .ref (g 44), .int (nI na)] := (o_3 43 (by omega)).trans har
            have had : f_3 44 = eI G (20 * 3) da := (o_3 44 (by omega)).trans had
            have htr : f_3 45 = eO 5 [.int (nI 10), .int (nI 70), .ref (g 46), .int (nI nt)] := (o_3 45 (by omega)).trans htr
            have hct : f_3 46 = eI G (10 * 70) ct := (o_3 46 (by omega)).trans hct
            have hla : f_3 47 = eO 6 [.ref (g 48), .ref (g 49)] := (o_3 47 (by omega)).trans hla
            have hlaa : f_3 48 = eA G 5 20 lf := (o_3 48 (by omega)).trans hlaa
            have hts0 : f_3 112 = eO 6 [.ref (g 113), .ref (g 114)] := (o_3 112 (by omega)).trans hts0
            have htsa : f_3 113 = eA G 5 4 tf := (o_3 113 (by omega)).trans htsa
            have hpd : f_3 38 = eI G (30 * 4) (upd (upd dp (Int32.toNatClampNeg ((nI np) * nI 4 + 0)) a1) (Int32.toNatClampNeg ((nI np) * nI 4 + 1)) a2) := hq_3_0
            have hH : ∀ i, i < 10 → okH G g f_3 (2 * i + 16) := fun z hz => okH_fr (hH z hz) (o_3 _ (by omega)) (o_3 _ (by omega))
            have hS : okH G g f_3 13 := okH_fr hS (o_3 _ (by omega)) (o_3 _ (by omega))
            have hL : ∀ i, i < 20 → okT G g f_3 (3 * i + 52) := fun z hz => okT_fr (hL z hz) (o_3 _ (by omega)) (o_3 _ (by omega)) (o_3 _ (by omega))
            have hT : ∀ i, i < 4 → okT G g f_3 (3 * i + 117) := fun z hz => okT_fr (hT z hz) (o_3 _ (by omega)) (o_3 _ (by omega)) (o_3 _ (by omega))
            have hB1 : okB G g f_3 129 := okB_fr hB1 (fun j _ _ => o_3 j (by omega))
            have hB2 : okB G g f_3 222 := okB_fr hB2 (fun j _ _ => o_3 j (by omega))
            refine lv_aload_n hx hb dX10_person_93 rfl (lv_at hl 1 rfl) ?_
            refine va_get (D := G.1) (ci := 9) (v := .ref (g 36)) (C := RX10) (T := TX10) (N := 7) hx hb hts inlX10 hown hG.1 hP 0 (wl_at (by decide) hx0) rfl 1 (by decide) (hts (.fieldLink RX10 20 "SwornLists" "book" "LSwornLists$Book;") w_16) (fun _ h9 => h9) rfl dX10_person_94 ?_
            refine va_getN (D := G.1) (ci := 0) (v := .ref (g 37)) (C := RX0) (T := TX0) (N := 9) (host := RX10) hx hb hts inlX0 hown hG.1 hP 36 (wl_at (by decide) hbk) rfl 0 (by decide) (va_Nw.use rfl (hG.2.1 (.fieldLinkNest RX10 57 RX0 "people" "LSwornLists$Rows;" RX10) (List.mem_of_getElem? (i := 0) rfl))) (fun _ h9 => h9) rfl dX10_person_97 ?_
            refine lv_iload hx hb dX10_person_100 (lv_at hl 0 rfl) ?_
            refine lv_iconst (v := 2) hx hb dX10_person_102 (by decide) ?_
            refine lv_iload_n hx hb dX10_person_103 rfl (lv_at hl 4 rfl) ?_
            refine b_callv (va_runV (As := [.int (nI np), .int 2, .int a3]) (rest := []) ⟨hx, hb, hml, hown, hts⟩ (r_set l G g hg f_3 37 30 4 (np + 1) (upd (upd dp (Int32.toNatClampNeg ((nI np) * nI 4 + 0)) a1) (Int32.toNatClampNeg ((nI np) * nI 4 + 1)) a2) (nI np) 2 a3 hpr hpd (by first | assumption | omega | decide) (by first | assumption | omega | decide) (by first | assumption | omega | decide) (by first | assumption | omega | decide) (inN_n (by omega) (by omega)) (by first | assumption | omega | decide)) (my_cwV hts ok_X5_set w_142 rfl rfl ⟨Nat.le_of_ble_eq_true rfl, Nat.le_of_ble_eq_true rfl⟩) ⟨bP.blind, va_recv hG.1 hP (ci := 5) (q0 := 37) rfl (wl_at (by decide) hpr), fun U hU hW => ⟨rfl, by rw [hU]; exact hP, kG.warm hW hG⟩⟩ rfl rfl hl.1 rfl (lv_room (Nat.le_of_ble_eq_true rfl)) dX10_person_104 ⟨Nat.le_of_ble_eq_true rfl, Nat.le_of_ble_eq_true rfl⟩) hS (fun f_4 H locs hq9 hP hS => ?_)
            obtain ⟨hq_4_0, o_4⟩ := hq9
            have hx0 : f_4 0 = eO 9 [.ref (g 1), .ref (g 36), .ref (g 2), .ref (g 3), .ref (g 4), .ref (g 6), .ref (g 7)] := (o_4 0 (by omega)).trans hx0
            have hctc : f_4 1 = eO 1 [.ref (g 36), .ref (g 12), .ref (g 13), .ref (g 15), .int (nI se)] := (o_4 1 (by omega)).trans hctc
            have hhs : f_4 12 = eA G 4 10 hf := (o_4 12 (by omega)).trans hhs
            have him : f_4 2 = eA G 3 2 imf := (o_4 2 (by omega)).trans him
            have hkp : f_4 3 = eZ G 2 kf := (o_4 3 (by omega)).trans hkp
            have hrd : f_4 4 = eO 4 [.ref (g 5), .int (nI mc), .int op, .int cm, .int wu] := (o_4 4 (by omega)).trans hrd
            have hmk : f_4 5 = eI G 50 mk := (o_4 5 (by omega)).trans hmk
            have hfc6 : f_4 6 = eO 2 [.long ab, .long be] := (o_4 6 (by omega)).trans hfc6
            have hwt : f_4 7 = eO 8 [.ref (g 8), .ref (g 9), .ref (g 10), .ref (g 11), .int (nI mn), .int le] := (o_4 7 (by omega)).trans hwt
            have hw8 : f_4 8 = eI G 6 wt := (o_4 8 (by omega)).trans hw8
            have hw9 : f_4 9 = eI G 6 ww := (o_4 9 (by omega)).trans hw9
            have hw10 : f_4 10 = eI G 6 wb := (o_4 10 (by omega)).trans hw10
            have hw11 : f_4 11 = eI G 6 wf := (o_4 11 (by omega)).trans hw11
            have hvl : f_4 15 = eJ G 50 vv := (o_4 15 (by omega)).trans hvl
            have hbk : f_4 36 = eO 0 [.ref (g 37), .ref (g 39), .ref (g 41), .ref (g 43), .ref (g 45), .ref (g 47), .ref (g 112), .int pay, .int fine] := (o_4 36 (by omega)).trans hbk
            have hpr : f_4 37 = eO 5 [.int (nI 30), .int (nI 4), .ref (g (37 + 1)), .int (nI (np + 1))] := (o_4 37 (by omega)).trans hpr
            have hfr : f_4 39 = eO 5 [.int (nI 40), .int (nI 3), .ref (g 40), .int (nI nf)] := (o_4 39 (by omega)).trans hfr
            have hfd : f_4 40 = eI G (40 * 3) df := (o_4 40 (by omega)).trans hfd
            have hor : f_4 41 = eO 5 [.int (nI 4), .int (nI 3), .ref (g 42), .int (nI nr)] := (o_4 41 (by omega)).trans hor
            have hod : f_4 42 = eI G (4 * 3) dr := (o_4 42 (by omega)).trans hod
            have har : f_4 43 = eO 5 [.int (nI 20), .int (nI 3), .ref (g 44), .int (nI na)] := (o_4 43 (by omega)).trans har
            have had : f_4 44 = eI G (20 * 3) da := (o_4 44 (by omega)).trans had
            have htr : f_4 45 = eO 5 [.int (nI 10), .int (nI 70), .ref (g 46), .int (nI nt)] := (o_4 45 (by omega)).trans htr
            have hct : f_4 46 = eI G (10 * 70) ct := (o_4 46 (by omega)).trans hct
            have hla : f_4 47 = eO 6 [.ref (g 48), .ref (g 49)] := (o_4 47 (by omega)).trans hla
            have hlaa : f_4 48 = eA G 5 20 lf := (o_4 48 (by omega)).trans hlaa
            have hts0 : f_4 112 = eO 6 [.ref (g 113), .ref (g 114)] := (o_4 112 (by omega)).trans hts0
            have htsa : f_4 113 = eA G 5 4 tf := (o_4 113 (by omega)).trans htsa
            have hpd : f_4 38 = eI G (30 * 4) (upd (upd (upd dp (Int32.toNatClampNeg ((nI np) * nI 4 + 0)) a1) (Int32.toNatClampNeg ((nI np) * nI 4 + 1)) a2) (Int32.toNatClampNeg ((nI np) * nI 4 + 2)) a3) := hq_4_0
            have hH : ∀ i, i < 10 → okH G g f_4 (2 * i + 16) := fun z hz => okH_fr (hH z hz) (o_4 _ (by omega)) (o_4 _ (by omega))
            have hS : okH G g f_4 13 := okH_fr hS (o_4 _ (by omega)) (o_4 _ (by omega))
            have hL : ∀ i, i < 20 → okT G g f_4 (3 * i + 52) := fun z hz => okT_fr (hL z hz) (o_4 _ (by omega)) (o_4 _ (by omega)) (o_4 _ (by omega))
            have hT : ∀ i, i < 4 → okT G g f_4 (3 * i + 117) := fun z hz => okT_fr (hT z hz) (o_4 _ (by omega)) (o_4 _ (by omega)) (o_4 _ (by omega))
            have hB1 : okB G g f_4 129 := okB_fr hB1 (fun j _ _ => o_4 j (by omega))
            have hB2 : okB G g f_4 222 := okB_fr hB2 (fun j _ _ => o_4 j (by omega))
            refine lv_aload_n hx hb dX10_person_107 rfl (lv_at hl 1 rfl) ?_
            refine va_get (D := G.1) (ci := 9) (v := .ref (g 36)) (C := RX10) (T := TX10) (N := 7) hx hb hts inlX10 hown hG.1 hP 0 (wl_at (by decide) hx0) rfl 1 (by decide) (hts (.fieldLink RX10 20 "SwornLists" "book" "LSwornLists$Book;") w_16) (fun _ h9 => h9) rfl dX10_person_108 ?_
            refine va_getN (D := G.1) (ci := 0) (v := .ref (g 37)) (C := RX0) (T := TX0) (N := 9) (host := RX10) hx hb hts inlX0 hown hG.1 hP 36 (wl_at (by decide) hbk) rfl 0 (by decide) (va_Nw.use rfl (hG.2.1 (.fieldLinkNest RX10 57 RX0 "people" "LSwornLists$Rows;" RX10) (List.mem_of_getElem? (i := 0) rfl))) (fun _ h9 => h9) rfl dX10_person_111 ?_
            refine lv_iload hx hb dX10_person_114 (lv_at hl 0 rfl) ?_
            refine lv_iconst (v := 3) hx hb dX10_person_116 (by decide) ?_
            refine lv_iload hx hb dX10_person_117 (lv_at hl 5 rfl) ?_
            refine b_callv (va_runV (As := [.int (nI np), .int 3, .int a4]) (rest := []) ⟨hx, hb, hml, hown, hts⟩ (r_set l G g hg f_4 37 30 4 (np + 1) (upd (upd (upd dp (Int32.toNatClampNeg ((nI np) * nI 4 + 0)) a1) (Int32.toNatClampNeg ((nI np) * nI 4 + 1)) a2) (Int32.toNatClampNeg ((nI np) * nI 4 + 2)) a3) (nI np) 3 a4 hpr hpd (by first | assumption | omega | decide) (by first | assumption | omega | decide) (by first | assumption | omega | decide) (by first | assumption | omega | decide) (inN_n (by omega) (by omega)) (by first | assumption | omega | decide)) (my_cwV hts ok_X5_set w_142 rfl rfl ⟨Nat.le_of_ble_eq_true rfl, Nat.le_of_ble_eq_true rfl⟩) ⟨bP.blind, va_recv hG.1 hP (ci := 5) (q0 := 37) rfl (wl_at (by decide) hpr), fun U hU hW => ⟨rfl, by rw [hU]; exact hP, kG.warm hW hG⟩⟩ rfl rfl hl.1 rfl (lv_room (Nat.le_of_ble_eq_true rfl)) dX10_person_119 ⟨Nat.le_of_ble_eq_true rfl, Nat.le_of_ble_eq_true rfl⟩) hS (fun f_5 H locs hq9 hP hS => ?_)
            obtain ⟨hq_5_0, o_5⟩ := hq9
            have hx0 : f_5 0 = eO 9 [.ref (g 1), .ref (g 36), .ref (g 2), .ref (g 3), .ref (g 4), .ref (g 6), .ref (g 7)] := (o_5 0 (by omega)).trans hx0
            have hctc : f_5 1 = eO 1 [.ref (g 36), .ref (g 12), .ref (g 13), .ref (g 15), .int (nI se)] := (o_5 1 (by omega)).trans hctc
            have hhs : f_5 12 = eA G 4 10 hf := (o_5 12 (by omega)).trans hhs
            have him : f_5 2 = eA G 3 2 imf := (o_5 2 (by omega)).trans him
            have hkp : f_5 3 = eZ G 2 kf := (o_5 3 (by omega)).trans hkp
            have hrd : f_5 4 = eO 4 [.ref (g 5), .int (nI mc), .int op, .int cm, .int wu] := (o_5 4 (by omega)).trans hrd
            have hmk : f_5 5 = eI G 50 mk := (o_5 5 (by omega)).trans hmk
            have hfc6 : f_5 6 = eO 2 [.long ab, .long be] := (o_5 6 (by omega)).trans hfc6
            have hwt : f_5 7 = eO 8 [.ref (g 8), .ref (g 9), .ref (g 10), .ref (g 11), .int (nI mn), .int le] := (o_5 7 (by omega)).trans hwt
            have hw8 : f_5 8 = eI G 6 wt := (o_5 8 (by omega)).trans hw8
            have hw9 : f_5 9 = eI G 6 ww := (o_5 9 (by omega)).trans hw9
            have hw10 : f_5 10 = eI G 6 wb := (o_5 10 (by omega)).trans hw10
            have hw11 : f_5 11 = eI G 6 wf := (o_5 11 (by omega)).trans hw11
            have hvl : f_5 15 = eJ G 50 vv := (o_5 15 (by omega)).trans hvl
            have hbk : f_5 36 = eO 0 [.ref (g 37), .ref (g 39), .ref (g 41), .ref (g 43), .ref (g 45), .ref (g 47), .ref (g 112), .int pay, .int fine] := (o_5 36 (by omega)).trans hbk
            have hpr : f_5 37 = eO 5 [.int (nI 30), .int (nI 4), .ref (g (37 + 1)), .int (nI (np + 1))] := (o_5 37 (by omega)).trans hpr
            have hfr : f_5 39 = eO 5 [.int (nI 40), .int (nI 3), .ref (g 40), .int (nI nf)] := (o_5 39 (by omega)).trans hfr
            have hfd : f_5 40 = eI G (40 * 3) df := (o_5 40 (by omega)).trans hfd
            have hor : f_5 41 = eO 5 [.int (nI 4), .int (nI 3), .ref (g 42), .int (nI nr)] := (o_5 41 (by omega)).trans hor
            have hod : f_5 42 = eI G (4 * 3) dr := (o_5 42 (by omega)).trans hod
            have har : f_5 43 = eO 5 [.int (nI 20), .int (nI 3), .ref (g 44), .int (nI na)] := (o_5 43 (by omega)).trans har
            have had : f_5 44 = eI G (20 * 3) da := (o_5 44 (by omega)).trans had
            have htr : f_5 45 = eO 5 [.int (nI 10), .int (nI 70), .ref (g 46), .int (nI nt)] := (o_5 45 (by omega)).trans htr
            have hct : f_5 46 = eI G (10 * 70) ct := (o_5 46 (by omega)).trans hct
            have hla : f_5 47 = eO 6 [.ref (g 48), .ref (g 49)] := (o_5 47 (by omega)).trans hla
            have hlaa : f_5 48 = eA G 5 20 lf := (o_5 48 (by omega)).trans hlaa
            have hts0 : f_5 112 = eO 6 [.ref (g 113), .ref (g 114)] := (o_5 112 (by omega)).trans hts0
            have htsa : f_5 113 = eA G 5 4 tf := (o_5 113 (by omega)).trans htsa
            have hpd : f_5 38 = eI G (30 * 4) (upd (upd (upd (upd dp (Int32.toNatClampNeg ((nI np) * nI 4 + 0)) a1) (Int32.toNatClampNeg ((nI np) * nI 4 + 1)) a2) (Int32.toNatClampNeg ((nI np) * nI 4 + 2)) a3) (Int32.toNatClampNeg ((nI np) * nI 4 + 3)) a4) := hq_5_0
            have hH : ∀ i, i < 10 → okH G g f_5 (2 * i + 16) := fun z hz => okH_fr (hH z hz) (o_5 _ (by omega)) (o_5 _ (by omega))
            have hS : okH G g f_5 13 := okH_fr hS (o_5 _ (by omega)) (o_5 _ (by omega))
            have hL : ∀ i, i < 20 → okT G g f_5 (3 * i + 52) := fun z hz => okT_fr (hL z hz) (o_5 _ (by omega)) (o_5 _ (by omega)) (o_5 _ (by omega))
            have hT : ∀ i, i < 4 → okT G g f_5 (3 * i + 117) := fun z hz => okT_fr (hT z hz) (o_5 _ (by omega)) (o_5 _ (by omega)) (o_5 _ (by omega))
            have hB1 : okB G g f_5 129 := okB_fr hB1 (fun j _ _ => o_5 j (by omega))
            have hB2 : okB G g f_5 222 := okB_fr hB2 (fun j _ _ => o_5 j (by omega))
            refine lv_aload_n hx hb dX10_person_122 rfl (lv_at hl 1 rfl) ?_
            refine va_get (D := G.1) (ci := 9) (v := .ref (g 1)) (C := RX10) (T := TX10) (N := 7) hx hb hts inlX10 hown hG.1 hP 0 (wl_at (by decide) hx0) rfl 0 (by decide) (hts (.fieldLink RX10 12 "SwornLists" "court" "LSwornLists$Court;") w_15) (fun _ h9 => h9) rfl dX10_person_123 ?_
            refine lv_iconst (v := 0) hx hb dX10_person_126 (by decide) ?_
            refine b_callv (va_runV (As := [.int 0]) (rest := []) ⟨hx, hb, hml, hown, hts⟩ (u_unsettle l G g hg f_5 se 0 hctc (by first | assumption | omega | decide) (by first | assumption | omega | decide)) (my_cwV hts ok_X1_unsettle w_146 rfl rfl ⟨Nat.le_of_ble_eq_true rfl, Nat.le_of_ble_eq_true rfl⟩) ⟨bP.blind, va_recv hG.1 hP (ci := 1) (q0 := 1) rfl (wl_at (by decide) hctc), fun U hU hW => ⟨rfl, by rw [hU]; exact hP, kG.warm hW hG⟩⟩ rfl rfl hl.1 rfl (lv_room (Nat.le_of_ble_eq_true rfl)) dX10_person_127 ⟨Nat.le_of_ble_eq_true rfl, Nat.le_of_ble_eq_true rfl⟩) hS (fun f_6 H locs hq9 hP hS => ?_)
            obtain ⟨hq_6_0, o_6⟩ := hq9
            have hx0 : f_6 0 = eO 9 [.ref (g 1), .ref (g 36), .ref (g 2), .ref (g 3), .ref (g 4), .ref (g 6), .ref (g 7)] := (o_6 0 (by omega)).trans hx0
            have hhs : f_6 12 = eA G 4 10 hf := (o_6 12 (by omega)).trans hhs
            have him : f_6 2 = eA G 3 2 imf := (o_6 2 (by omega)).trans him
            have hkp : f_6 3 = eZ G 2 kf := (o_6 3 (by omega)).trans hkp
            have hrd : f_6 4 = eO 4 [.ref (g 5), .int (nI mc), .int op, .int cm, .int wu] := (o_6 4 (by omega)).trans hrd
            have hmk : f_6 5 = eI G 50 mk := (o_6 5 (by omega)).trans hmk
            have hfc6 : f_6 6 = eO 2 [.long ab, .long be] := (o_6 6 (by omega)).trans hfc6
            have hwt : f_6 7 = eO 8 [.ref (g 8), .ref (g 9), .ref (g 10), .ref (g 11), .int (nI mn), .int le] := (o_6 7 (by omega)).trans hwt
            have hw8 : f_6 8 = eI G 6 wt := (o_6 8 (by omega)).trans hw8
            have hw9 : f_6 9 = eI G 6 ww := (o_6 9 (by omega)).trans hw9
            have hw10 : f_6 10 = eI G 6 wb := (o_6 10 (by omega)).trans hw10
            have hw11 : f_6 11 = eI G 6 wf := (o_6 11 (by omega)).trans hw11
            have hvl : f_6 15 = eJ G 50 vv := (o_6 15 (by omega)).trans hvl
            have hbk : f_6 36 = eO 0 [.ref (g 37), .ref (g 39), .ref (g 41), .ref (g 43), .ref (g 45), .ref (g 47), .ref (g 112), .int pay, .int fine] := (o_6 36 (by omega)).trans hbk
            have hpr : f_6 37 = eO 5 [.int (nI 30), .int (nI 4), .ref (g (37 + 1)), .int (nI (np + 1))] := (o_6 37 (by omega)).trans hpr
            have hpd : f_6 38 = eI G (30 * 4) (upd (upd (upd (upd dp (Int32.toNatClampNeg ((nI np) * nI 4 + 0)) a1) (Int32.toNatClampNeg ((nI np) * nI 4 + 1)) a2) (Int32.toNatClampNeg ((nI np) * nI 4 + 2)) a3) (Int32.toNatClampNeg ((nI np) * nI 4 + 3)) a4) := (o_6 38 (by omega)).trans hpd
            have hfr : f_6 39 = eO 5 [.int (nI 40), .int (nI 3), .ref (g 40), .int (nI nf)] := (o_6 39 (by omega)).trans hfr
            have hfd : f_6 40 = eI G (40 * 3) df := (o_6 40 (by omega)).trans hfd
            have hor : f_6 41 = eO 5 [.int (nI 4), .int (nI 3), .ref (g 42), .int (nI nr)] := (o_6 41 (by omega)).trans hor
            have hod : f_6 42 = eI G (4 * 3) dr := (o_6 42 (by omega)).trans hod
            have har : f_6 43 = eO 5 [.int (nI 20), .int (nI 3), .ref (g 44), .int (nI na)] := (o_6 43 (by omega)).trans har
            have had : f_6 44 = eI G (20 * 3) da := (o_6 44 (by omega)).trans had
            have htr : f_6 45 = eO 5 [.int (nI 10), .int (nI 70), .ref (g 46), .int (nI nt)] := (o_6 45 (by omega)).trans htr
            have hct : f_6 46 = eI G (10 * 70) ct := (o_6 46 (by omega)).trans hct
            have hla : f_6 47 = eO 6 [.ref (g 48), .ref (g 49)] := (o_6 47 (by omega)).trans hla
            have hlaa : f_6 48 = eA G 5 20 lf := (o_6 48 (by omega)).trans hlaa
            have hts0 : f_6 112 = eO 6 [.ref (g 113), .ref (g 114)] := (o_6 112 (by omega)).trans hts0
            have htsa : f_6 113 = eA G 5 4 tf := (o_6 113 (by omega)).trans htsa
            have hctc : f_6 1 = eO 1 [.ref (g 36), .ref (g 12), .ref (g 13), .ref (g 15), .int (nI (min se 0))] := hq_6_0
            have hH : ∀ i, i < 10 → okH G g f_6 (2 * i + 16) := fun z hz => okH_fr (hH z hz) (o_6 _ (by omega)) (o_6 _ (by omega))
            have hS : okH G g f_6 13 := okH_fr hS (o_6 _ (by omega)) (o_6 _ (by omega))
            have hL : ∀ i, i < 20 → okT G g f_6 (3 * i + 52) := fun z hz => okT_fr (hL z hz) (o_6 _ (by omega)) (o_6 _ (by omega)) (o_6 _ (by omega))
            have hT : ∀ i, i < 4 → okT G g f_6 (3 * i + 117) := fun z hz => okT_fr (hT z hz) (o_6 _ (by omega)) (o_6 _ (by omega)) (o_6 _ (by omega))
            have hB1 : okB G g f_6 129 := okB_fr hB1 (fun j _ _ => o_6 j (by omega))
            have hB2 : okB G g f_6 222 := okB_fr hB2 (fun j _ _ => o_6 j (by omega))
            refine lv_iload hx hb dX10_person_130 (lv_at hl 0 rfl) ?_
            exact W.iret (v := nI np) hx hb hr (fun t ht hW => ⟨⟨_, f_6, rfl, (⟨⟨(min se 0), hf, imf, kf, mc, op, cm, wu, mk, ab, be, mn, le, wt, ww, wb, wf, vv, pay, fine, (np + 1), (upd (upd (upd (upd dp (Int32.toNatClampNeg ((nI np) * nI 4 + 0)) a1) (Int32.toNatClampNeg ((nI np) * nI 4 + 1)) a2) (Int32.toNatClampNeg ((nI np) * nI 4 + 2)) a3) (Int32.toNatClampNeg ((nI np) * nI 4 + 3)) a4), nf, df, nr, dr, na, da, nt, ct, lf, tf, hx0, hctc, hhs, him, hkp, hrd, hmk, hfc6, hwt, hw8, hw9, hw10, hw11, hvl, hbk, hpr, hpd, hfr, hfd, hor, hod, har, had, htr, hct, hla, hlaa, hts0, htsa, by omega, hhf, him0, him1, by omega, by omega, by omega, by omega, by omega, by omega, by omega, hlf, htf, hH, hS, hL, hT, hB1, hB2⟩, fun j hj => ((((((o_6 j (by omega))).trans (o_5 j (by omega))).trans (o_4 j (by omega))).trans (o_3 j (by omega))).trans (o_2 j (by omega))).trans (o_1 j (by omega))⟩), by rw [ht]; exact hP⟩, hS.F ht⟩) hS.2.2 dX10_person_132
          · refine rd_calli (va_runV (As := []) (rest := []) ⟨hx, hb, hml, hown, hts⟩ (r_growF l G g hg f 37 30 4 np hpr (by first | assumption | omega | decide) (by first | assumption | omega | decide) (by first | assumption | omega | decide) (by first | assumption | omega | decide) (by first | assumption | omega | decide)) (my_cwV hts ok_X5_grow w_137 rfl rfl ⟨Nat.le_of_ble_eq_true rfl, Nat.le_of_ble_eq_true rfl⟩) ⟨bP.blind, va_recv hG.1 hP (ci := 5) (q0 := 37) rfl (wl_at (by decide) hpr), fun U hU hW => ⟨rfl, by rw [hU]; exact hP, kG.warm hW hG⟩⟩ rfl rfl hl.1 rfl (lv_room (Nat.le_of_ble_eq_true rfl)) dX10_person_50 ⟨Nat.le_of_ble_eq_true rfl, Nat.le_of_ble_eq_true rfl⟩) (fun r hr9 => ?_)
            subst hr9
            refine lv_istore (lv' := [(5, .int (-4)), (0, .ref (g 0)), (1, .int a1), (2, .int a2), (3, .int a3), (4, .int a4)]) hx hb dX10_person_53 hl (by decide) rfl (fun ls hl => ?_)
            refine lv_iload hx hb dX10_person_55 (lv_at hl 0 rfl) ?_
            refine lv_bipush (v := (-4)) hx hb dX10_person_57 (by decide) ?_
            refine lv_icmp_ne (tgt := 65) hx hb dX10_person_59 (by decide) (fun c_59 => absurd (by decide) c_59) (fun c_59 => ?_)
            refine lv_bipush (v := (-4)) hx hb dX10_person_62 (by decide) ?_
            exact W.iret (v := (-4)) hx hb hr (fun t ht hW => ⟨⟨_, f, rfl, (⟨⟨se, hf, imf, kf, mc, op, cm, wu, mk, ab, be, mn, le, wt, ww, wb, wf, vv, pay, fine, np, dp, nf, df, nr, dr, na, da, nt, ct, lf, tf, hx0, hctc, hhs, him, hkp, hrd, hmk, hfc6, hwt, hw8, hw9, hw10, hw11, hvl, hbk, hpr, hpd, hfr, hfd, hor, hod, har, had, htr, hct, hla, hlaa, hts0, htsa, by omega, hhf, him0, him1, by omega, by omega, by omega, by omega, by omega, by omega, by omega, hlf, htf, hH, hS, hL, hT, hB1, hB2⟩, fun j hj => rfl⟩), by rw [ht]; exact hP⟩, hS.F ht⟩) hS.2.2 dX10_person_64
        · refine lv_bipush (v := (-2)) hx hb dX10_person_40 (by decide) ?_
          exact W.iret (v := (-2)) hx hb hr (fun t ht hW => ⟨⟨_, f, rfl, (⟨⟨se, hf, imf, kf, mc, op, cm, wu, mk, ab, be, mn, le, wt, ww, wb, wf, vv, pay, fine, np, dp, nf, df, nr, dr, na, da, nt, ct, lf, tf, hx0, hctc, hhs, him, hkp, hrd, hmk, hfc6, hwt, hw8, hw9, hw10, hw11, hvl, hbk, hpr, hpd, hfr, hfd, hor, hod, har, had, htr, hct, hla, hlaa, hts0, htsa, by omega, hhf, him0, him1, by omega, by omega, by omega, by omega, by omega, by omega, by omega, hlf, htf, hH, hS, hL, hT, hB1, hB2⟩, fun j hj => rfl⟩), by rw [ht]; exact hP⟩, hS.F ht⟩) hS.2.2 dX10_person_42
set_option maxHeartbeats 4000000 in
set_option maxRecDepth 100000 in
theorem m_kin (l : Launch) (G : gW) (g : Nat → Nat) (hg : gOK g) (f : Nat → va_E) (a1 : Int32) (a2 : Int32) (a3 : Int32)  (hI : cI G g f) : Met l yX10_kin (wsT yX10_kin cX10_kin 5 (some .int)) ({ frames := 2, cells := 0, slots := 0, locals := 42 }) (bP G g f [.ref (g 0), .int a1, .int a2, .int a3]) (bQi G g (fun (z9 : Int32) (f' : Nat → va_E) => (cI G g f') ∧ ∀ j, 315 ≤ j → f' j = f j)) 0 0 (gA g) := by
  refine Met.ofW (cc := cX10_kin) (maxL := 5) (ret := (some .int)) (by decide) rfl ?_
  intro p e s m args below meth c s₁ B hml hv
  obtain ⟨rfl, hP, hG⟩ := hv
  have hx := B.exec
  have hb := B.bytes
  have hr := B.returns
  have hts := my_hts (atoms_spec (ws := wsT yX10_kin cX10_kin 5 (some .int)) B.pre)
  have hown : s.vm.findClass RX10 = some m.cls := findClass_of_methodNamed B.named
  have hlocks := B.notSynchronized
  have hS : va_S (gA g) s.heap s.heap [] := va_S.rf
  have hl := lv_entry ([.ref (g 0), .int a1, .int a2, .int a3]) (n := 5) (Nat.le_of_ble_eq_true rfl)
  rw [lg_entry_eq]
  generalize (lg_sl ([.ref (g 0), .int a1, .int a2, .int a3]) ++ List.replicate (5 - (lg_sl ([.ref (g 0), .int a1, .int a2, .int a3])).length) Slot.unset).toArray = ls at hl ⊢
  have hl : lv_has ls 5 [(0, .ref (g 0)), (1, .int a1), (2, .int a2), (3, .int a3)] := hl
  obtain ⟨se, hf, imf, kf, mc, op, cm, wu, mk, ab, be, mn, le, wt, ww, wb, wf, vv, pay, fine, np, dp, nf, df, nr, dr, na, da, nt, ct, lf, tf, hx0, hctc, hhs, him, hkp, hrd, hmk, hfc6, hwt, hw8, hw9, hw10, hw11, hvl, hbk, hpr, hpd, hfr, hfd, hor, hod, har, had, htr, hct, hla, hlaa, hts0, htsa, hse, hhf, him0, him1, hmc, hmn, hnp, hnf, hnr, hna, hnt, hlf, htf, hH, hS, hL, hT, hB1, hB2⟩ := hI
  refine lv_aload_n hx hb dX10_kin_0 rfl (lv_at hl 0 rfl) ?_
  refine va_get (D := G.1) (ci := 9) (v := .ref (g 36)) (C := RX10) (T := TX10) (N := 7) hx hb hts inlX10 hown hG.1 hP 0 (wl_at (by decide) hx0) rfl 1 (by decide) (hts (.fieldLink RX10 20 "SwornLists" "book" "LSwornLists$Book;") w_16) (fun _ h9 => h9) rfl dX10_kin_1 ?_
  refine va_getN (D := G.1) (ci := 0) (v := .ref (g 37)) (C := RX0) (T := TX0) (N := 9) (host := RX10) hx hb hts inlX0 hown hG.1 hP 36 (wl_at (by decide) hbk) rfl 0 (by decide) (va_Nw.use rfl (hG.2.1 (.fieldLinkNest RX10 57 RX0 "people" "LSwornLists$Rows;" RX10) (List.mem_of_getElem? (i := 0) rfl))) (fun _ h9 => h9) rfl dX10_kin_4 ?_
  refine lv_iload_n hx hb dX10_kin_7 rfl (lv_at hl 1 rfl) ?_
  refine rd_calli (va_runV (As := [.int a1]) (rest := []) ⟨hx, hb, hml, hown, hts⟩ (r_has l G g hg f 37 30 4 np a1 hpr (by first | assumption | omega | decide) (by first | assumption | omega | decide) (by first | assumption | omega | decide) (by first | assumption | omega | decide)) (my_cwV hts ok_X5_has w_174 rfl rfl ⟨Nat.le_of_ble_eq_true rfl, Nat.le_of_ble_eq_true rfl⟩) ⟨bP.blind, va_recv hG.1 hP (ci := 5) (q0 := 37) rfl (wl_at (by decide) hpr), fun U hU hW => ⟨rfl, by rw [hU]; exact hP, kG.warm hW hG⟩⟩ rfl rfl hl.1 rfl (lv_room (Nat.le_of_ble_eq_true rfl)) dX10_kin_8 ⟨Nat.le_of_ble_eq_true rfl, Nat.le_of_ble_eq_true rfl⟩) (fun r hr9 => ?_)
  subst hr9
  refine my_ifeq (tgt := 31) hx hb dX10_kin_11 (by decide) (fun c_11 => ?_) (fun c_11 => ?_)
  · refine lv_bipush (v := (-2)) hx hb dX10_kin_31 (by decide) ?_
    exact W.iret (v := (-2)) hx hb hr (fun t ht hW => ⟨⟨_, f, rfl, (⟨⟨se, hf, imf, kf, mc, op, cm, wu, mk, ab, be, mn, le, wt, ww, wb, wf, vv, pay, fine, np, dp, nf, df, nr, dr, na, da, nt, ct, lf, tf, hx0, hctc, hhs, him, hkp, hrd, hmk, hfc6, hwt, hw8, hw9, hw10, hw11, hvl, hbk, hpr, hpd, hfr, hfd, hor, hod, har, had, htr, hct, hla, hlaa, hts0, htsa, by omega, hhf, him0, him1, by omega, by omega, by omega, by omega, by omega, by omega, by omega, hlf, htf, hH, hS, hL, hT, hB1, hB2⟩, fun j hj => rfl⟩), by rw [ht]; exact hP⟩, hS.F ht⟩) hS.2.2 dX10_kin_33
  · refine lv_iload_n hx hb dX10_kin_14 rfl (lv_at hl 2 rfl) ?_
    refine lv_iconst (v := 0) hx hb dX10_kin_15 (by decide) ?_
    refine lv_bipush (v := 9) hx hb dX10_kin_16 (by decide) ?_
    refine rd_calli (va_runS (As := [.int a2, .int 0, .int 9]) (rest := []) ⟨hx, hb, hml, hown, hts⟩ (s_within l G g hg f a2 0 9  ) (my_cwS hts ok_X10_within w_134 rfl rfl ⟨Nat.le_of_ble_eq_true rfl, Nat.le_of_ble_eq_true rfl⟩) ⟨bP.blind, fun U hU hW => ⟨rfl, by rw [hU]; exact hP, kG.warm hW hG⟩⟩ rfl rfl hl.1 rfl (lv_room (Nat.le_of_ble_eq_true rfl)) dX10_kin_18 ⟨Nat.le_of_ble_eq_true rfl, Nat.le_of_ble_eq_true rfl⟩) (fun r hr9 => ?_)
    subst hr9
    refine my_ifeq (tgt := 31) hx hb dX10_kin_21 (by decide) (fun c_21 => ?_) (fun c_21 => ?_)
    · refine lv_bipush (v := (-2)) hx hb dX10_kin_31 (by decide) ?_
      exact W.iret (v := (-2)) hx hb hr (fun t ht hW => ⟨⟨_, f, rfl, (⟨⟨se, hf, imf, kf, mc, op, cm, wu, mk, ab, be, mn, le, wt, ww, wb, wf, vv, pay, fine, np, dp, nf, df, nr, dr, na, da, nt, ct, lf, tf, hx0, hctc, hhs, him, hkp, hrd, hmk, hfc6, hwt, hw8, hw9, hw10, hw11, hvl, hbk, hpr, hpd, hfr, hfd, hor, hod, har, had, htr, hct, hla, hlaa, hts0, htsa, by omega, hhf, him0, him1, by omega, by omega, by omega, by omega, by omega, by omega, by omega, hlf, htf, hH, hS, hL, hT, hB1, hB2⟩, fun j hj => rfl⟩), by rw [ht]; exact hP⟩, hS.F ht⟩) hS.2.2 dX10_kin_33
    · refine lv_iload_n hx hb dX10_kin_24 rfl (lv_at hl 3 rfl) ?_
      refine rd_calli (va_runS (As := [.int a3]) (rest := []) ⟨hx, hb, hml, hown, hts⟩ (s_isDay l G g hg f a3  ) (my_cwS hts ok_X10_isDay w_178 rfl rfl ⟨Nat.le_of_ble_eq_true rfl, Nat.le_of_ble_eq_true rfl⟩) ⟨bP.blind, fun U hU hW => ⟨rfl, by rw [hU]; exact hP, kG.warm hW hG⟩⟩ rfl rfl hl.1 rfl (lv_room (Nat.le_of_ble_eq_true rfl)) dX10_kin_25 ⟨Nat.le_of_ble_eq_true rfl, Nat.le_of_ble_eq_true rfl⟩) (fun r hr9 => ?_)
      subst hr9
      refine my_ifne (tgt := 34) hx hb dX10_kin_28 (by decide) (fun c_28 => ?_) (fun c_28 => ?_)
      · refine lv_aload_n hx hb dX10_kin_34 rfl (lv_at hl 0 rfl) ?_
        refine va_get (D := G.1) (ci := 9) (v := .ref (g 36)) (C := RX10) (T := TX10) (N := 7) hx hb hts inlX10 hown hG.1 hP 0 (wl_at (by decide) hx0) rfl 1 (by decide) (hts (.fieldLink RX10 20 "SwornLists" "book" "LSwornLists$Book;") w_16) (fun _ h9 => h9) rfl dX10_kin_35 ?_
        refine va_getN (D := G.1) (ci := 0) (v := .ref (g 39)) (C := RX0) (T := TX0) (N := 9) (host := RX10) hx hb hts inlX0 hown hG.1 hP 36 (wl_at (by decide) hbk) rfl 1 (by decide) (va_Nw.use rfl (hG.2.1 (.fieldLinkNest RX10 82 RX0 "facts" "LSwornLists$Rows;" RX10) (List.mem_of_getElem? (i := 2) rfl))) (fun _ h9 => h9) rfl dX10_kin_38 ?_
        by_cases hlt : nf < 40
        · refine b_calli (va_runV (As := []) (rest := []) ⟨hx, hb, hml, hown, hts⟩ (r_grow l G g hg f 39 40 3 nf hfr (by first | assumption | omega | decide) (by first | assumption | omega | decide) (by first | assumption | omega | decide) (by first | assumption | omega | decide) (by first | assumption | omega | decide)) (my_cwV hts ok_X5_grow w_137 rfl rfl ⟨Nat.le_of_ble_eq_true rfl, Nat.le_of_ble_eq_true rfl⟩) ⟨bP.blind, va_recv hG.1 hP (ci := 5) (q0 := 39) rfl (wl_at (by decide) hfr), fun U hU hW => ⟨rfl, by rw [hU]; exact hP, kG.warm hW hG⟩⟩ rfl rfl hl.1 rfl (lv_room (Nat.le_of_ble_eq_true rfl)) dX10_kin_41 ⟨Nat.le_of_ble_eq_true rfl, Nat.le_of_ble_eq_true rfl⟩) hS (fun v1 f_1 H locs hq9 hP hS => ?_)
          obtain ⟨rfl, hq_1_0, o_1⟩ := hq9
          have hx0 : f_1 0 = eO 9 [.ref (g 1), .ref (g 36), .ref (g 2), .ref (g 3), .ref (g 4), .ref (g 6), .ref (g 7)] := (o_1 0 (by omega)).trans hx0
          have hctc : f_1 1 = eO 1 [.ref (g 36), .ref (g 12), .ref (g 13), .ref (g 15), .int (nI se)] := (o_1 1 (by omega)).trans hctc
          have hhs : f_1 12 = eA G 4 10 hf := (o_1 12 (by omega)).trans hhs
          have him : f_1 2 = eA G 3 2 imf := (o_1 2 (by omega)).trans him
          have hkp : f_1 3 = eZ G 2 kf := (o_1 3 (by omega)).trans hkp
          have hrd : f_1 4 = eO 4 [.ref (g 5), .int (nI mc), .int op, .int cm, .int wu] := (o_1 4 (by omega)).trans hrd
          have hmk : f_1 5 = eI G 50 mk := (o_1 5 (by omega)).trans hmk
          have hfc6 : f_1 6 = eO 2 [.long ab, .long be] := (o_1 6 (by omega)).trans hfc6
          have hwt : f_1 7 = eO 8 [.ref (g 8), .ref (g 9), .ref (g 10), .ref (g 11), .int (nI mn), .int le] := (o_1 7 (by omega)).trans hwt
          have hw8 : f_1 8 = eI G 6 wt := (o_1 8 (by omega)).trans hw8
          have hw9 : f_1 9 = eI G 6 ww := (o_1 9 (by omega)).trans hw9
          have hw10 : f_1 10 = eI G 6 wb := (o_1 10 (by omega)).trans hw10
          have hw11 : f_1 11 = eI G 6 wf := (o_1 11 (by omega)).trans hw11
          have hvl : f_1 15 = eJ G 50 vv := (o_1 15 (by omega)).trans hvl
          have hbk : f_1 36 = eO 0 [.ref (g 37), .ref (g 39), .ref (g 41), .ref (g 43), .ref (g 45), .ref (g 47), .ref (g 112), .int pay, .int fine] := (o_1 36 (by omega)).trans hbk
          have hpr : f_1 37 = eO 5 [.int (nI 30), .int (nI 4), .ref (g 38), .int (nI np)] := (o_1 37 (by omega)).trans hpr
          have hpd : f_1 38 = eI G (30 * 4) dp := (o_1 38 (by omega)).trans hpd
          have hfd : f_1 40 = eI G (40 * 3) df := (o_1 40 (by omega)).trans hfd
          have hor : f_1 41 = eO 5 [.int (nI 4), .int (nI 3), .ref (g 42), .int (nI nr)] := (o_1 41 (by omega)).trans hor
          have hod : f_1 42 = eI G (4 * 3) dr := (o_1 42 (by omega)).trans hod
          have har : f_1 43 = eO 5 [.int (nI 20), .int (nI 3), .ref (g 44), .int (nI na)] := (o_1 43 (by omega)).trans har
          have had : f_1 44 = eI G (20 * 3) da := (o_1 44 (by omega)).trans had
          have htr : f_1 45 = eO 5 [.int (nI 10), .int (nI 70), .ref (g 46), .int (nI nt)] := (o_1 45 (by omega)).trans htr
          have hct : f_1 46 = eI G (10 * 70) ct := (o_1 46 (by omega)).trans hct
          have hla : f_1 47 = eO 6 [.ref (g 48), .ref (g 49)] := (o_1 47 (by omega)).trans hla
          have hlaa : f_1 48 = eA G 5 20 lf := (o_1 48 (by omega)).trans hlaa
          have hts0 : f_1 112 = eO 6 [.ref (g 113), .ref (g 114)] := (o_1 112 (by omega)).trans hts0
          have htsa : f_1 113 = eA G 5 4 tf := (o_1 113 (by omega)).trans htsa
          have hfr : f_1 39 = eO 5 [.int (nI 40), .int (nI 3), .ref (g (39 + 1)), .int (nI (nf + 1))] := hq_1_0
          have hH : ∀ i, i < 10 → okH G g f_1 (2 * i + 16) := fun z hz => okH_fr (hH z hz) (o_1 _ (by omega)) (o_1 _ (by omega))
          have hS : okH G g f_1 13 := okH_fr hS (o_1 _ (by omega)) (o_1 _ (by omega))
          have hL : ∀ i, i < 20 → okT G g f_1 (3 * i + 52) := fun z hz => okT_fr (hL z hz) (o_1 _ (by omega)) (o_1 _ (by omega)) (o_1 _ (by omega))
          have hT : ∀ i, i < 4 → okT G g f_1 (3 * i + 117) := fun z hz => okT_fr (hT z hz) (o_1 _ (by omega)) (o_1 _ (by omega)) (o_1 _ (by omega))
          have hB1 : okB G g f_1 129 := okB_fr hB1 (fun j _ _ => o_1 j (by omega))
          have hB2 : okB G g f_1 222 := okB_fr hB2 (fun j _ _ => o_1 j (by omega))
          refine lv_istore (lv' := [(4, .int (nI nf)), (0, .ref (g 0)), (1, .int a1), (2, .int a2), (3, .int a3)]) hx hb dX10_kin_44 hl (by decide) rfl (fun ls hl => ?_)
          refine lv_iload hx hb dX10_kin_46 (lv_at hl 0 rfl) ?_
          refine lv_bipush (v := (-4)) hx hb dX10_kin_48 (by decide) ?_
          refine lv_icmp_ne (tgt := 56) hx hb dX10_kin_50 (by decide) (fun c_50 => ?_) (fun c_50 => absurd c_50 (nI_m4 (by omega)))
          refine lv_aload_n hx hb dX10_kin_56 rfl (lv_at hl 1 rfl) ?_
          refine va_get (D := G.1) (ci := 9) (v := .ref (g 36)) (C := RX10) (T := TX10) (N := 7) hx hb hts inlX10 hown hG.1 hP 0 (wl_at (by decide) hx0) rfl 1 (by decide) (hts (.fieldLink RX10 20 "SwornLists" "book" "LSwornLists$Book;") w_16) (fun _ h9 => h9) rfl dX10_kin_57 ?_
          refine va_getN (D := G.1) (ci := 0) (v := .ref (g 39)) (C := RX0) (T := TX0) (N := 9) (host := RX10) hx hb hts inlX0 hown hG.1 hP 36 (wl_at (by decide) hbk) rfl 1 (by decide) (va_Nw.use rfl (hG.2.1 (.fieldLinkNest RX10 82 RX0 "facts" "LSwornLists$Rows;" RX10) (List.mem_of_getElem? (i := 2) rfl))) (fun _ h9 => h9) rfl dX10_kin_60 ?_
          refine lv_iload hx hb dX10_kin_63 (lv_at hl 0 rfl) ?_
          refine lv_iconst (v := 0) hx hb dX10_kin_65 (by decide) ?_
          refine lv_iload_n hx hb dX10_kin_66 rfl (lv_at hl 2 rfl) ?_
          refine b_callv (va_runV (As := [.int (nI nf), .int 0, .int a1]) (rest := []) ⟨hx, hb, hml, hown, hts⟩ (r_set l G g hg f_1 39 40 3 (nf + 1) df (nI nf) 0 a1 hfr hfd (by first | assumption | omega | decide) (by first | assumption | omega | decide) (by first | assumption | omega | decide) (by first | assumption | omega | decide) (inN_n (by omega) (by omega)) (by first | assumption | omega | decide)) (my_cwV hts ok_X5_set w_142 rfl rfl ⟨Nat.le_of_ble_eq_true rfl, Nat.le_of_ble_eq_true rfl⟩) ⟨bP.blind, va_recv hG.1 hP (ci := 5) (q0 := 39) rfl (wl_at (by decide) hfr), fun U hU hW => ⟨rfl, by rw [hU]; exact hP, kG.warm hW hG⟩⟩ rfl rfl hl.1 rfl (lv_room (Nat.le_of_ble_eq_true rfl)) dX10_kin_67 ⟨Nat.le_of_ble_eq_true rfl, Nat.le_of_ble_eq_true rfl⟩) hS (fun f_2 H locs hq9 hP hS => ?_)
          obtain ⟨hq_2_0, o_2⟩ := hq9
          have hx0 : f_2 0 = eO 9 [.ref (g 1), .ref (g 36), .ref (g 2), .ref (g 3), .ref (g 4), .ref (g 6), .ref (g 7)] := (o_2 0 (by omega)).trans hx0
          have hctc : f_2 1 = eO 1 [.ref (g 36), .ref (g 12), .ref (g 13), .ref (g 15), .int (nI se)] := (o_2 1 (by omega)).trans hctc
          have hhs : f_2 12 = eA G 4 10 hf := (o_2 12 (by omega)).trans hhs
          have him : f_2 2 = eA G 3 2 imf := (o_2 2 (by omega)).trans him
          have hkp : f_2 3 = eZ G 2 kf := (o_2 3 (by omega)).trans hkp
          have hrd : f_2 4 = eO 4 [.ref (g 5), .int (nI mc), .int op, .int cm, .int wu] := (o_2 4 (by omega)).trans hrd
          have hmk : f_2 5 = eI G 50 mk := (o_2 5 (by omega)).trans hmk
          have hfc6 : f_2 6 = eO 2 [.long ab, .long be] := (o_2 6 (by omega)).trans hfc6
          have hwt : f_2 7 = eO 8 [.ref (g 8), .ref (g 9), .ref (g 10), .ref (g 11), .int (nI mn), .int le] := (o_2 7 (by omega)).trans hwt
          have hw8 : f_2 8 = eI G 6 wt := (o_2 8 (by omega)).trans hw8
          have hw9 : f_2 9 = eI G 6 ww := (o_2 9 (by omega)).trans hw9
          have hw10 : f_2 10 = eI G 6 wb := (o_2 10 (by omega)).trans hw10
          have hw11 : f_2 11 = eI G 6 wf := (o_2 11 (by omega)).trans hw11
          have hvl : f_2 15 = eJ G 50 vv := (o_2 15 (by omega)).trans hvl
          have hbk : f_2 36 = eO 0 [.ref (g 37), .ref (g 39), .ref (g 41), .ref (g 43), .ref (g 45), .ref (g 47), .ref (g 112), .int pay, .int fine] := (o_2 36 (by omega)).trans hbk
          have hpr : f_2 37 = eO 5 [.int (nI 30), .int (nI 4), .ref (g 38), .int (nI np)] := (o_2 37 (by omega)).trans hpr
          have hpd : f_2 38 = eI G (30 * 4) dp := (o_2 38 (by omega)).trans hpd
          have hfr : f_2 39 = eO 5 [.int (nI 40), .int (nI 3), .ref (g (39 + 1)), .int (nI (nf + 1))] := (o_2 39 (by omega)).trans hfr
          have hor : f_2 41 = eO 5 [.int (nI 4), .int (nI 3), .ref (g 42), .int (nI nr)] := (o_2 41 (by omega)).trans hor
          have hod : f_2 42 = eI G (4 * 3) dr := (o_2 42 (by omega)).trans hod
          have har : f_2 43 = eO 5 [.int (nI 20), .int (nI 3), .ref (g 44), .int (nI na)] := (o_2 43 (by omega)).trans har
          have had : f_2 44 = eI G (20 * 3) da := (o_2 44 (by omega)).trans had
          have htr : f_2 45 = eO 5 [.int (nI 10), .int (nI 70), .ref (g 46), .int (nI nt)] := (o_2 45 (by omega)).trans htr
          have hct : f_2 46 = eI G (10 * 70) ct := (o_2 46 (by omega)).trans hct
          have hla : f_2 47 = eO 6 [.ref (g 48), .ref (g 49)] := (o_2 47 (by omega)).trans hla
          have hlaa : f_2 48 = eA G 5 20 lf := (o_2 48 (by omega)).trans hlaa
          have hts0 : f_2 112 = eO 6 [.ref (g 113), .ref (g 114)] := (o_2 112 (by omega)).trans hts0
          have htsa : f_2 113 = eA G 5 4 tf := (o_2 113 (by omega)).trans htsa
          have hfd : f_2 40 = eI G (40 * 3) (upd df (Int32.toNatClampNeg ((nI nf) * nI 3 + 0)) a1) := hq_2_0
          have hH : ∀ i, i < 10 → okH G g f_2 (2 * i + 16) := fun z hz => okH_fr (hH z hz) (o_2 _ (by omega)) (o_2 _ (by omega))
          have hS : okH G g f_2 13 := okH_fr hS (o_2 _ (by omega)) (o_2 _ (by omega))
          have hL : ∀ i, i < 20 → okT G g f_2 (3 * i + 52) := fun z hz => okT_fr (hL z hz) (o_2 _ (by omega)) (o_2 _ (by omega)) (o_2 _ (by omega))
          have hT : ∀ i, i < 4 → okT G g f_2 (3 * i + 117) := fun z hz => okT_fr (hT z hz) (o_2 _ (by omega)) (o_2 _ (by omega)) (o_2 _ (by omega))
          have hB1 : okB G g f_2 129 := okB_fr hB1 (fun j _ _ => o_2 j (by omega))
          have hB2 : okB G g f_2 222 := okB_fr hB2 (fun j _ _ => o_2 j (by omega))
          refine lv_aload_n hx hb dX10_kin_70 rfl (lv_at hl 1 rfl) ?_
          refine va_get (D := G.1) (ci := 9) (v := .ref (g 36)) (C := RX10) (T := TX10) (N := 7) hx hb hts inlX10 hown hG.1 hP 0 (wl_at (by decide) hx0) rfl 1 (by decide) (hts (.fieldLink RX10 20 "SwornLists" "book" "LSwornLists$Book;") w_16) (fun _ h9 => h9) rfl dX10_kin_71 ?_
          refine va_getN (D := G.1) (ci := 0) (v := .ref (g 39)) (C := RX0) (T := TX0) (N := 9) (host := RX10) hx hb hts inlX0 hown hG.1 hP 36 (wl_at (by decide) hbk) rfl 1 (by decide) (va_Nw.use rfl (hG.2.1 (.fieldLinkNest RX10 82 RX0 "facts" "LSwornLists$Rows;" RX10) (List.mem_of_getElem? (i := 2) rfl))) (fun _ h9 => h9) rfl dX10_kin_74 ?_
          refine lv_iload hx hb dX10_kin_77 (lv_at hl 0 rfl) ?_
          refine lv_iconst (v := 1) hx hb dX10_kin_79 (by decide) ?_
          refine lv_iload_n hx hb dX10_kin_80 rfl (lv_at hl 3 rfl) ?_
          refine b_callv (va_runV (As := [.int (nI nf), .int 1, .int a2]) (rest := []) ⟨hx, hb, hml, hown, hts⟩ (r_set l G g hg f_2 39 40 3 (nf + 1) (upd df (Int32.toNatClampNeg ((nI nf) * nI 3 + 0)) a1) (nI nf) 1 a2 hfr hfd (by first | assumption | omega | decide) (by first | assumption | omega | decide) (by first | assumption | omega | decide) (by first | assumption | omega | decide) (inN_n (by omega) (by omega)) (by first | assumption | omega | decide)) (my_cwV hts ok_X5_set w_142 rfl rfl ⟨Nat.le_of_ble_eq_true rfl, Nat.le_of_ble_eq_true rfl⟩) ⟨bP.blind, va_recv hG.1 hP (ci := 5) (q0 := 39) rfl (wl_at (by decide) hfr), fun U hU hW => ⟨rfl, by rw [hU]; exact hP, kG.warm hW hG⟩⟩ rfl rfl hl.1 rfl (lv_room (Nat.le_of_ble_eq_true rfl)) dX10_kin_81 ⟨Nat.le_of_ble_eq_true rfl, Nat.le_of_ble_eq_true rfl⟩) hS (fun f_3 H locs hq9 hP hS => ?_)
          obtain ⟨hq_3_0, o_3⟩ := hq9
          have hx0 : f_3 0 = eO 9 [.ref (g 1), .ref (g 36), .ref (g 2), .ref (g 3), .ref (g 4), .ref (g 6), .ref (g 7)] := (o_3 0 (by omega)).trans hx0
          have hctc : f_3 1 = eO 1 [.ref (g 36), .ref (g 12), .ref (g 13), .ref (g 15), .int (nI se)] := (o_3 1 (by omega)).trans hctc
          have hhs : f_3 12 = eA G 4 10 hf := (o_3 12 (by omega)).trans hhs
          have him : f_3 2 = eA G 3 2 imf := (o_3 2 (by omega)).trans him
          have hkp : f_3 3 = eZ G 2 kf := (o_3 3 (by omega)).trans hkp
          have hrd : f_3 4 = eO 4 [.ref (g 5), .int (nI mc), .int op, .int cm, .int wu] := (o_3 4 (by omega)).trans hrd
          have hmk : f_3 5 = eI G 50 mk := (o_3 5 (by omega)).trans hmk
          have hfc6 : f_3 6 = eO 2 [.long ab, .long be] := (o_3 6 (by omega)).trans hfc6
          have hwt : f_3 7 = eO 8 [.ref (g 8), .ref (g 9), .ref (g 10), .ref (g 11), .int (nI mn), .int le] := (o_3 7 (by omega)).trans hwt
          have hw8 : f_3 8 = eI G 6 wt := (o_3 8 (by omega)).trans hw8
          have hw9 : f_3 9 = eI G 6 ww := (o_3 9 (by omega)).trans hw9
          have hw10 : f_3 10 = eI G 6 wb := (o_3 10 (by omega)).trans hw10
          have hw11 : f_3 11 = eI G 6 wf := (o_3 11 (by omega)).trans hw11
          have hvl : f_3 15 = eJ G 50 vv := (o_3 15 (by omega)).trans hvl
          have hbk : f_3 36 = eO 0 [.ref (g 37), .ref (g 39), .ref (g 41), .ref (g 43), .ref (g 45), .ref (g 47), .ref (g 112), .int pay, .int fine] := (o_3 36 (by omega)).trans hbk
          have hpr : f_3 37 = eO 5 [.int (nI 30), .int (nI 4), .ref (g 38), .int (nI np)] := (o_3 37 (by omega)).trans hpr
          have hpd : f_3 38 = eI G (30 * 4) dp := (o_3 38 (by omega)).trans hpd
          have hfr : f_3 39 = eO 5 [.int (nI 40), .int (nI 3), .ref (g (39 + 1)), .int (nI (nf + 1))] := (o_3 39 (by omega)).trans hfr
          have hor : f_3 41 = eO 5 [.int (nI 4), .int (nI 3), .ref (g 42), .int (nI nr)] := (o_3 41 (by omega)).trans hor
          have hod : f_3 42 = eI G (4 * 3) dr := (o_3 42 (by omega)).trans hod
          have har : f_3 43 = eO 5 [.int (nI 20), .int (nI 3), .ref (g 44), .int (nI na)] := (o_3 43 (by omega)).trans har
          have had : f_3 44 = eI G (20 * 3) da := (o_3 44 (by omega)).trans had
          have htr : f_3 45 = eO 5 [.int (nI 10), .int (nI 70), .ref (g 46), .int (nI nt)] := (o_3 45 (by omega)).trans htr
          have hct : f_3 46 = eI G (10 * 70) ct := (o_3 46 (by omega)).trans hct
          have hla : f_3 47 = eO 6 [.ref (g 48), .ref (g 49)] := (o_3 47 (by omega)).trans hla
          have hlaa : f_3 48 = eA G 5 20 lf := (o_3 48 (by omega)).trans hlaa
          have hts0 : f_3 112 = eO 6 [.ref (g 113), .ref (g 114)] := (o_3 112 (by omega)).trans hts0
          have htsa : f_3 113 = eA G 5 4 tf := (o_3 113 (by omega)).trans htsa
          have hfd : f_3 40 = eI G (40 * 3) (upd (upd df (Int32.toNatClampNeg ((nI nf) * nI 3 + 0)) a1) (Int32.toNatClampNeg ((nI nf) * nI 3 + 1)) a2) := hq_3_0
          have hH : ∀ i, i < 10 → okH G g f_3 (2 * i + 16) := fun z hz => okH_fr (hH z hz) (o_3 _ (by omega)) (o_3 _ (by omega))
          have hS : okH G g f_3 13 := okH_fr hS (o_3 _ (by omega)) (o_3 _ (by omega))
          have hL : ∀ i, i < 20 → okT G g f_3 (3 * i + 52) := fun z hz => okT_fr (hL z hz) (o_3 _ (by omega)) (o_3 _ (by omega)) (o_3 _ (by omega))
          have hT : ∀ i, i < 4 → okT G g f_3 (3 * i + 117) := fun z hz => okT_fr (hT z hz) (o_3 _ (by omega)) (o_3 _ (by omega)) (o_3 _ (by omega))
          have hB1 : okB G g f_3 129 := okB_fr hB1 (fun j _ _ => o_3 j (by omega))
          have hB2 : okB G g f_3 222 := okB_fr hB2 (fun j _ _ => o_3 j (by omega))
          refine lv_aload_n hx hb dX10_kin_84 rfl (lv_at hl 1 rfl) ?_
          refine va_get (D := G.1) (ci := 9) (v := .ref (g 36)) (C := RX10) (T := TX10) (N := 7) hx hb hts inlX10 hown hG.1 hP 0 (wl_at (by decide) hx0) rfl 1 (by decide) (hts (.fieldLink RX10 20 "SwornLists" "book" "LSwornLists$Book;") w_16) (fun _ h9 => h9) rfl dX10_kin_85 ?_
          refine va_getN (D := G.1) (ci := 0) (v := .ref (g 39)) (C := RX0) (T := TX0) (N := 9) (host := RX10) hx hb hts inlX0 hown hG.1 hP 36 (wl_at (by decide) hbk) rfl 1 (by decide) (va_Nw.use rfl (hG.2.1 (.fieldLinkNest RX10 82 RX0 "facts" "LSwornLists$Rows;" RX10) (List.mem_of_getElem? (i := 2) rfl))) (fun _ h9 => h9) rfl dX10_kin_88 ?_
          refine lv_iload hx hb dX10_kin_91 (lv_at hl 0 rfl) ?_
          refine lv_iconst (v := 2) hx hb dX10_kin_93 (by decide) ?_
          refine lv_iload_n hx hb dX10_kin_94 rfl (lv_at hl 4 rfl) ?_
          refine b_callv (va_runV (As := [.int (nI nf), .int 2, .int a3]) (rest := []) ⟨hx, hb, hml, hown, hts⟩ (r_set l G g hg f_3 39 40 3 (nf + 1) (upd (upd df (Int32.toNatClampNeg ((nI nf) * nI 3 + 0)) a1) (Int32.toNatClampNeg ((nI nf) * nI 3 + 1)) a2) (nI nf) 2 a3 hfr hfd (by first | assumption | omega | decide) (by first | assumption | omega | decide) (by first | assumption | omega | decide) (by first | assumption | omega | decide) (inN_n (by omega) (by omega)) (by first | assumption | omega | decide)) (my_cwV hts ok_X5_set w_142 rfl rfl ⟨Nat.le_of_ble_eq_true rfl, Nat.le_of_ble_eq_true rfl⟩) ⟨bP.blind, va_recv hG.1 hP (ci := 5) (q0 := 39) rfl (wl_at (by decide) hfr), fun U hU hW => ⟨rfl, by rw [hU]; exact hP, kG.warm hW hG⟩⟩ rfl rfl hl.1 rfl (lv_room (Nat.le_of_ble_eq_true rfl)) dX10_kin_95 ⟨Nat.le_of_ble_eq_true rfl, Nat.le_of_ble_eq_true rfl⟩) hS (fun f_4 H locs hq9 hP hS => ?_)
          obtain ⟨hq_4_0, o_4⟩ := hq9
          have hx0 : f_4 0 = eO 9 [.ref (g 1), .ref (g 36), .ref (g 2), .ref (g 3), .ref (g 4), .ref (g 6), .ref (g 7)] := (o_4 0 (by omega)).trans hx0
          have hctc : f_4 1 = eO 1 [.ref (g 36), .ref (g 12), .ref (g 13), .ref (g 15), .int (nI se)] := (o_4 1 (by omega)).trans hctc
          have hhs : f_4 12 = eA G 4 10 hf := (o_4 12 (by omega)).trans hhs
          have him : f_4 2 = eA G 3 2 imf := (o_4 2 (by omega)).trans him
          have hkp : f_4 3 = eZ G 2 kf := (o_4 3 (by omega)).trans hkp
          have hrd : f_4 4 = eO 4 [.ref (g 5), .int (nI mc), .int op, .int cm, .int wu] := (o_4 4 (by omega)).trans hrd
          have hmk : f_4 5 = eI G 50 mk := (o_4 5 (by omega)).trans hmk
          have hfc6 : f_4 6 = eO 2 [.long ab, .long be] := (o_4 6 (by omega)).trans hfc6
          have hwt : f_4 7 = eO 8 [.ref (g 8), .ref (g 9), .ref (g 10), .ref (g 11), .int (nI mn), .int le] := (o_4 7 (by omega)).trans hwt
          have hw8 : f_4 8 = eI G 6 wt := (o_4 8 (by omega)).trans hw8
          have hw9 : f_4 9 = eI G 6 ww := (o_4 9 (by omega)).trans hw9
          have hw10 : f_4 10 = eI G 6 wb := (o_4 10 (by omega)).trans hw10
          have hw11 : f_4 11 = eI G 6 wf := (o_4 11 (by omega)).trans hw11
          have hvl : f_4 15 = eJ G 50 vv := (o_4 15 (by omega)).trans hvl
          have hbk : f_4 36 = eO 0 [.ref (g 37), .ref (g 39), .ref (g 41), .ref (g 43), .ref (g 45), .ref (g 47), .ref (g 112), .int pay, .int fine] := (o_4 36 (by omega)).trans hbk
          have hpr : f_4 37 = eO 5 [.int (nI 30), .int (nI 4), .ref (g 38), .int (nI np)] := (o_4 37 (by omega)).trans hpr
          have hpd : f_4 38 = eI G (30 * 4) dp := (o_4 38 (by omega)).trans hpd
          have hfr : f_4 39 = eO 5 [.int (nI 40), .int (nI 3), .ref (g (39 + 1)), .int (nI (nf + 1))] := (o_4 39 (by omega)).trans hfr
          have hor : f_4 41 = eO 5 [.int (nI 4), .int (nI 3), .ref (g 42), .int (nI nr)] := (o_4 41 (by omega)).trans hor
          have hod : f_4 42 = eI G (4 * 3) dr := (o_4 42 (by omega)).trans hod
          have har : f_4 43 = eO 5 [.int (nI 20), .int (nI 3), .ref (g 44), .int (nI na)] := (o_4 43 (by omega)).trans har
          have had : f_4 44 = eI G (20 * 3) da := (o_4 44 (by omega)).trans had
          have htr : f_4 45 = eO 5 [.int (nI 10), .int (nI 70), .ref (g 46), .int (nI nt)] := (o_4 45 (by omega)).trans htr
          have hct : f_4 46 = eI G (10 * 70) ct := (o_4 46 (by omega)).trans hct
          have hla : f_4 47 = eO 6 [.ref (g 48), .ref (g 49)] := (o_4 47 (by omega)).trans hla
          have hlaa : f_4 48 = eA G 5 20 lf := (o_4 48 (by omega)).trans hlaa
          have hts0 : f_4 112 = eO 6 [.ref (g 113), .ref (g 114)] := (o_4 112 (by omega)).trans hts0
          have htsa : f_4 113 = eA G 5 4 tf := (o_4 113 (by omega)).trans htsa
          have hfd : f_4 40 = eI G (40 * 3) (upd (upd (upd df (Int32.toNatClampNeg ((nI nf) * nI 3 + 0)) a1) (Int32.toNatClampNeg ((nI nf) * nI 3 + 1)) a2) (Int32.toNatClampNeg ((nI nf) * nI 3 + 2)) a3) := hq_4_0
          have hH : ∀ i, i < 10 → okH G g f_4 (2 * i + 16) := fun z hz => okH_fr (hH z hz) (o_4 _ (by omega)) (o_4 _ (by omega))
          have hS : okH G g f_4 13 := okH_fr hS (o_4 _ (by omega)) (o_4 _ (by omega))
          have hL : ∀ i, i < 20 → okT G g f_4 (3 * i + 52) := fun z hz => okT_fr (hL z hz) (o_4 _ (by omega)) (o_4 _ (by omega)) (o_4 _ (by omega))
          have hT : ∀ i, i < 4 → okT G g f_4 (3 * i + 117) := fun z hz => okT_fr (hT z hz) (o_4 _ (by omega)) (o_4 _ (by omega)) (o_4 _ (by omega))
          have hB1 : okB G g f_4 129 := okB_fr hB1 (fun j _ _ => o_4 j (by omega))
          have hB2 : okB G g f_4 222 := okB_fr hB2 (fun j _ _ => o_4 j (by omega))
          refine lv_aload_n hx hb dX10_kin_98 rfl (lv_at hl 1 rfl) ?_
          refine va_get (D := G.1) (ci := 9) (v := .ref (g 1)) (C := RX10) (T := TX10) (N := 7) hx hb hts inlX10 hown hG.1 hP 0 (wl_at (by decide) hx0) rfl 0 (by decide) (hts (.fieldLink RX10 12 "SwornLists" "court" "LSwornLists$Court;") w_15) (fun _ h9 => h9) rfl dX10_kin_99 ?_
          refine lv_iconst (v := 0) hx hb dX10_kin_102 (by decide) ?_
          refine b_callv (va_runV (As := [.int 0]) (rest := []) ⟨hx, hb, hml, hown, hts⟩ (u_unsettle l G g hg f_4 se 0 hctc (by first | assumption | omega | decide) (by first | assumption | omega | decide)) (my_cwV hts ok_X1_unsettle w_146 rfl rfl ⟨Nat.le_of_ble_eq_true rfl, Nat.le_of_ble_eq_true rfl⟩) ⟨bP.blind, va_recv hG.1 hP (ci := 1) (q0 := 1) rfl (wl_at (by decide) hctc), fun U hU hW => ⟨rfl, by rw [hU]; exact hP, kG.warm hW hG⟩⟩ rfl rfl hl.1 rfl (lv_room (Nat.le_of_ble_eq_true rfl)) dX10_kin_103 ⟨Nat.le_of_ble_eq_true rfl, Nat.le_of_ble_eq_true rfl⟩) hS (fun f_5 H locs hq9 hP hS => ?_)
          obtain ⟨hq_5_0, o_5⟩ := hq9
          have hx0 : f_5 0 = eO 9 [.ref (g 1), .ref (g 36), .ref (g 2), .ref (g 3), .ref (g 4), .ref (g 6), .ref (g 7)] := (o_5 0 (by omega)).trans hx0
          have hhs : f_5 12 = eA G 4 10 hf := (o_5 12 (by omega)).trans hhs
          have him : f_5 2 = eA G 3 2 imf := (o_5 2 (by omega)).trans him
          have hkp : f_5 3 = eZ G 2 kf := (o_5 3 (by omega)).trans hkp
          have hrd : f_5 4 = eO 4 [.ref (g 5), .int (nI mc), .int op, .int cm, .int wu] := (o_5 4 (by omega)).trans hrd
          have hmk : f_5 5 = eI G 50 mk := (o_5 5 (by omega)).trans hmk
          have hfc6 : f_5 6 = eO 2 [.long ab, .long be] := (o_5 6 (by omega)).trans hfc6
          have hwt : f_5 7 = eO 8 [.ref (g 8), .ref (g 9), .ref (g 10), .ref (g 11), .int (nI mn), .int le] := (o_5 7 (by omega)).trans hwt
          have hw8 : f_5 8 = eI G 6 wt := (o_5 8 (by omega)).trans hw8
          have hw9 : f_5 9 = eI G 6 ww := (o_5 9 (by omega)).trans hw9
          have hw10 : f_5 10 = eI G 6 wb := (o_5 10 (by omega)).trans hw10
          have hw11 : f_5 11 = eI G 6 wf := (o_5 11 (by omega)).trans hw11
          have hvl : f_5 15 = eJ G 50 vv := (o_5 15 (by omega)).trans hvl
          have hbk : f_5 36 = eO 0 [.ref (g 37), .ref (g 39), .ref (g 41), .ref (g 43), .ref (g 45), .ref (g 47), .ref (g 112), .int pay, .int fine] := (o_5 36 (by omega)).trans hbk
          have hpr : f_5 37 = eO 5 [.int (nI 30), .int (nI 4), .ref (g 38), .int (nI np)] := (o_5 37 (by omega)).trans hpr
          have hpd : f_5 38 = eI G (30 * 4) dp := (o_5 38 (by omega)).trans hpd
          have hfr : f_5 39 = eO 5 [.int (nI 40), .int (nI 3), .ref (g (39 + 1)), .int (nI (nf + 1))] := (o_5 39 (by omega)).trans hfr
          have hfd : f_5 40 = eI G (40 * 3) (upd (upd (upd df (Int32.toNatClampNeg ((nI nf) * nI 3 + 0)) a1) (Int32.toNatClampNeg ((nI nf) * nI 3 + 1)) a2) (Int32.toNatClampNeg ((nI nf) * nI 3 + 2)) a3) := (o_5 40 (by omega)).trans hfd
          have hor : f_5 41 = eO 5 [.int (nI 4), .int (nI 3), .ref (g 42), .int (nI nr)] := (o_5 41 (by omega)).trans hor
          have hod : f_5 42 = eI G (4 * 3) dr := (o_5 42 (by omega)).trans hod
          have har : f_5 43 = eO 5 [.int (nI 20), .int (nI 3), .ref (g 44), .int (nI na)] := (o_5 43 (by omega)).trans har
          have had : f_5 44 = eI G (20 * 3) da := (o_5 44 (by omega)).trans had
          have htr : f_5 45 = eO 5 [.int (nI 10), .int (nI 70), .ref (g 46), .int (nI nt)] := (o_5 45 (by omega)).trans htr
          have hct : f_5 46 = eI G (10 * 70) ct := (o_5 46 (by omega)).trans hct
          have hla : f_5 47 = eO 6 [.ref (g 48), .ref (g 49)] := (o_5 47 (by omega)).trans hla
          have hlaa : f_5 48 = eA G 5 20 lf := (o_5 48 (by omega)).trans hlaa
          have hts0 : f_5 112 = eO 6 [.ref (g 113), .ref (g 114)] := (o_5 112 (by omega)).trans hts0
          have htsa : f_5 113 = eA G 5 4 tf := (o_5 113 (by omega)).trans htsa
          have hctc : f_5 1 = eO 1 [.ref (g 36), .ref (g 12), .ref (g 13), .ref (g 15), .int (nI (min se 0))] := hq_5_0
          have hH : ∀ i, i < 10 → okH G g f_5 (2 * i + 16) := fun z hz => okH_fr (hH z hz) (o_5 _ (by omega)) (o_5 _ (by omega))
          have hS : okH G g f_5 13 := okH_fr hS (o_5 _ (by omega)) (o_5 _ (by omega))
          have hL : ∀ i, i < 20 → okT G g f_5 (3 * i + 52) := fun z hz => okT_fr (hL z hz) (o_5 _ (by omega)) (o_5 _ (by omega)) (o_5 _ (by omega))
          have hT : ∀ i, i < 4 → okT G g f_5 (3 * i + 117) := fun z hz => okT_fr (hT z hz) (o_5 _ (by omega)) (o_5 _ (by omega)) (o_5 _ (by omega))
          have hB1 : okB G g f_5 129 := okB_fr hB1 (fun j _ _ => o_5 j (by omega))
          have hB2 : okB G g f_5 222 := okB_fr hB2 (fun j _ _ => o_5 j (by omega))
          refine lv_iload hx hb dX10_kin_106 (lv_at hl 0 rfl) ?_
          exact W.iret (v := nI nf) hx hb hr (fun t ht hW => ⟨⟨_, f_5, rfl, (⟨⟨(min se 0), hf, imf, kf, mc, op, cm, wu, mk, ab, be, mn, le, wt, ww, wb, wf, vv, pay, fine, np, dp, (nf + 1), (upd (upd (upd df (Int32.toNatClampNeg ((nI nf) * nI 3 + 0)) a1) (Int32.toNatClampNeg ((nI nf) * nI 3 + 1)) a2) (Int32.toNatClampNeg ((nI nf) * nI 3 + 2)) a3), nr, dr, na, da, nt, ct, lf, tf, hx0, hctc, hhs, him, hkp, hrd, hmk, hfc6, hwt, hw8, hw9, hw10, hw11, hvl, hbk, hpr, hpd, hfr, hfd, hor, hod, har, had, htr, hct, hla, hlaa, hts0, htsa, by omega, hhf, him0, him1, by omega, by omega, by omega, by omega, by omega, by omega, by omega, hlf, htf, hH, hS, hL, hT, hB1, hB2⟩, fun j hj => (((((o_5 j (by omega))).trans (o_4 j (by omega))).trans (o_3 j (by omega))).trans (o_2 j (by omega))).trans (o_1 j (by omega))⟩), by rw [ht]; exact hP⟩, hS.F ht⟩) hS.2.2 dX10_kin_108
        · refine rd_calli (va_runV (As := []) (rest := []) ⟨hx, hb, hml, hown, hts⟩ (r_growF l G g hg f 39 40 3 nf hfr (by first | assumption | omega | decide) (by first | assumption | omega | decide) (by first | assumption | omega | decide) (by first | assumption | omega | decide) (by first | assumption | omega | decide)) (my_cwV hts ok_X5_grow w_137 rfl rfl ⟨Nat.le_of_ble_eq_true rfl, Nat.le_of_ble_eq_true rfl⟩) ⟨bP.blind, va_recv hG.1 hP (ci := 5) (q0 := 39) rfl (wl_at (by decide) hfr), fun U hU hW => ⟨rfl, by rw [hU]; exact hP, kG.warm hW hG⟩⟩ rfl rfl hl.1 rfl (lv_room (Nat.le_of_ble_eq_true rfl)) dX10_kin_41 ⟨Nat.le_of_ble_eq_true rfl, Nat.le_of_ble_eq_true rfl⟩) (fun r hr9 => ?_)
          subst hr9
          refine lv_istore (lv' := [(4, .int (-4)), (0, .ref (g 0)), (1, .int a1), (2, .int a2), (3, .int a3)]) hx hb dX10_kin_44 hl (by decide) rfl (fun ls hl => ?_)
          refine lv_iload hx hb dX10_kin_46 (lv_at hl 0 rfl) ?_
          refine lv_bipush (v := (-4)) hx hb dX10_kin_48 (by decide) ?_
          refine lv_icmp_ne (tgt := 56) hx hb dX10_kin_50 (by decide) (fun c_50 => absurd (by decide) c_50) (fun c_50 => ?_)
          refine lv_bipush (v := (-4)) hx hb dX10_kin_53 (by decide) ?_
          exact W.iret (v := (-4)) hx hb hr (fun t ht hW => ⟨⟨_, f, rfl, (⟨⟨se, hf, imf, kf, mc, op, cm, wu, mk, ab, be, mn, le, wt, ww, wb, wf, vv, pay, fine, np, dp, nf, df, nr, dr, na, da, nt, ct, lf, tf, hx0, hctc, hhs, him, hkp, hrd, hmk, hfc6, hwt, hw8, hw9, hw10, hw11, hvl, hbk, hpr, hpd, hfr, hfd, hor, hod, har, had, htr, hct, hla, hlaa, hts0, htsa, by omega, hhf, him0, him1, by omega, by omega, by omega, by omega, by omega, by omega, by omega, hlf, htf, hH, hS, hL, hT, hB1, hB2⟩, fun j hj => rfl⟩), by rw [ht]; exact hP⟩, hS.F ht⟩) hS.2.2 dX10_kin_55
      · refine lv_bipush (v := (-2)) hx hb dX10_kin_31 (by decide) ?_
        exact W.iret (v := (-2)) hx hb hr (fun t ht hW => ⟨⟨_, f, rfl, (⟨⟨se, hf, imf, kf, mc, op, cm, wu, mk, ab, be, mn, le, wt, ww, wb, wf, vv, pay, fine, np, dp, nf, df, nr, dr, na, da, nt, ct, lf, tf, hx0, hctc, hhs, him, hkp, hrd, hmk, hfc6, hwt, hw8, hw9, hw10, hw11, hvl, hbk, hpr, hpd, hfr, hfd, hor, hod, har, had, htr, hct, hla, hlaa, hts0, htsa, by omega, hhf, him0, him1, by omega, by omega, by omega, by omega, by omega, by omega, by omega, hlf, htf, hH, hS, hL, hT, hB1, hB2⟩, fun j hj => rfl⟩), by rw [ht]; exact hP⟩, hS.F ht⟩) hS.2.2 dX10_kin_33
set_option maxHeartbeats 4000000 in
set_option maxRecDepth 100000 in
theorem m_roll (l : Launch) (G : gW) (g : Nat → Nat) (hg : gOK g) (f : Nat → va_E) (a1 : Int32) (a2 : Int32) (a3 : Int32)  (hI : cI G g f) : Met l yX10_roll (wsT yX10_roll cX10_roll 5 (some .int)) ({ frames := 2, cells := 0, slots := 0, locals := 42 }) (bP G g f [.ref (g 0), .int a1, .int a2, .int a3]) (bQi G g (fun (z9 : Int32) (f' : Nat → va_E) => (cI G g f') ∧ ∀ j, 315 ≤ j → f' j = f j)) 0 0 (gA g) := by
  refine Met.ofW (cc := cX10_roll) (maxL := 5) (ret := (some .int)) (by decide) rfl ?_
  intro p e s m args below meth c s₁ B hml hv
  obtain ⟨rfl, hP, hG⟩ := hv
  have hx := B.exec
  have hb := B.bytes
  have hr := B.returns
  have hts := my_hts (atoms_spec (ws := wsT yX10_roll cX10_roll 5 (some .int)) B.pre)
  have hown : s.vm.findClass RX10 = some m.cls := findClass_of_methodNamed B.named
  have hlocks := B.notSynchronized
  have hS : va_S (gA g) s.heap s.heap [] := va_S.rf
  have hl := lv_entry ([.ref (g 0), .int a1, .int a2, .int a3]) (n := 5) (Nat.le_of_ble_eq_true rfl)
  rw [lg_entry_eq]
  generalize (lg_sl ([.ref (g 0), .int a1, .int a2, .int a3]) ++ List.replicate (5 - (lg_sl ([.ref (g 0), .int a1, .int a2, .int a3])).length) Slot.unset).toArray = ls at hl ⊢
  have hl : lv_has ls 5 [(0, .ref (g 0)), (1, .int a1), (2, .int a2), (3, .int a3)] := hl
  obtain ⟨se, hf, imf, kf, mc, op, cm, wu, mk, ab, be, mn, le, wt, ww, wb, wf, vv, pay, fine, np, dp, nf, df, nr, dr, na, da, nt, ct, lf, tf, hx0, hctc, hhs, him, hkp, hrd, hmk, hfc6, hwt, hw8, hw9, hw10, hw11, hvl, hbk, hpr, hpd, hfr, hfd, hor, hod, har, had, htr, hct, hla, hlaa, hts0, htsa, hse, hhf, him0, him1, hmc, hmn, hnp, hnf, hnr, hna, hnt, hlf, htf, hH, hS, hL, hT, hB1, hB2⟩ := hI
  refine lv_iload_n hx hb dX10_roll_0 rfl (lv_at hl 1 rfl) ?_
  refine lv_aload_n hx hb dX10_roll_1 rfl (lv_at hl 0 rfl) ?_
  refine va_get (D := G.1) (ci := 9) (v := .ref (g 36)) (C := RX10) (T := TX10) (N := 7) hx hb hts inlX10 hown hG.1 hP 0 (wl_at (by decide) hx0) rfl 1 (by decide) (hts (.fieldLink RX10 20 "SwornLists" "book" "LSwornLists$Book;") w_16) (fun _ h9 => h9) rfl dX10_roll_2 ?_
  refine rd_calli (va_runV (As := []) (rest := [.int a1]) ⟨hx, hb, hml, hown, hts⟩ (k_everyone l G g hg f pay fine np dp hbk hpr hpd (by first | assumption | omega | decide)) (my_cwV hts ok_X0_everyone w_198 rfl rfl ⟨Nat.le_of_ble_eq_true rfl, Nat.le_of_ble_eq_true rfl⟩) ⟨bP.blind, va_recv hG.1 hP (ci := 0) (q0 := 36) rfl (wl_at (by decide) hbk), fun U hU hW => ⟨rfl, by rw [hU]; exact hP, kG.warm hW hG⟩⟩ rfl rfl hl.1 rfl (lv_room (Nat.le_of_ble_eq_true rfl)) dX10_roll_5 ⟨Nat.le_of_ble_eq_true rfl, Nat.le_of_ble_eq_true rfl⟩) (fun v1 _ => ?_)
  refine lv_iconst (v := (-1)) hx hb dX10_roll_8 (by decide) ?_
  refine lv_ixor hx hb dX10_roll_9 ?_
  refine lv_iand hx hb dX10_roll_10 ?_
  refine lv_if_ne (tgt := 32) hx hb dX10_roll_11 (by decide) (fun c_11 => ?_) (fun c_11 => ?_)
  · refine lv_bipush (v := (-2)) hx hb dX10_roll_32 (by decide) ?_
    exact W.iret (v := (-2)) hx hb hr (fun t ht hW => ⟨⟨_, f, rfl, (⟨⟨se, hf, imf, kf, mc, op, cm, wu, mk, ab, be, mn, le, wt, ww, wb, wf, vv, pay, fine, np, dp, nf, df, nr, dr, na, da, nt, ct, lf, tf, hx0, hctc, hhs, him, hkp, hrd, hmk, hfc6, hwt, hw8, hw9, hw10, hw11, hvl, hbk, hpr, hpd, hfr, hfd, hor, hod, har, had, htr, hct, hla, hlaa, hts0, htsa, by omega, hhf, him0, him1, by omega, by omega, by omega, by omega, by omega, by omega, by omega, hlf, htf, hH, hS, hL, hT, hB1, hB2⟩, fun j hj => rfl⟩), by rw [ht]; exact hP⟩, hS.F ht⟩) hS.2.2 dX10_roll_34
  · refine lv_iload_n hx hb dX10_roll_14 rfl (lv_at hl 2 rfl) ?_
    refine lv_iconst (v := 0) hx hb dX10_roll_15 (by decide) ?_
    refine lv_sipush (v := 199) hx hb dX10_roll_16 (by decide) ?_
    refine rd_calli (va_runS (As := [.int a2, .int 0, .int 199]) (rest := []) ⟨hx, hb, hml, hown, hts⟩ (s_within l G g hg f a2 0 199  ) (my_cwS hts ok_X10_within w_134 rfl rfl ⟨Nat.le_of_ble_eq_true rfl, Nat.le_of_ble_eq_true rfl⟩) ⟨bP.blind, fun U hU hW => ⟨rfl, by rw [hU]; exact hP, kG.warm hW hG⟩⟩ rfl rfl hl.1 rfl (lv_room (Nat.le_of_ble_eq_true rfl)) dX10_roll_19 ⟨Nat.le_of_ble_eq_true rfl, Nat.le_of_ble_eq_true rfl⟩) (fun r hr9 => ?_)
    subst hr9
    refine my_ifeq (tgt := 32) hx hb dX10_roll_22 (by decide) (fun c_22 => ?_) (fun c_22 => ?_)
    · refine lv_bipush (v := (-2)) hx hb dX10_roll_32 (by decide) ?_
      exact W.iret (v := (-2)) hx hb hr (fun t ht hW => ⟨⟨_, f, rfl, (⟨⟨se, hf, imf, kf, mc, op, cm, wu, mk, ab, be, mn, le, wt, ww, wb, wf, vv, pay, fine, np, dp, nf, df, nr, dr, na, da, nt, ct, lf, tf, hx0, hctc, hhs, him, hkp, hrd, hmk, hfc6, hwt, hw8, hw9, hw10, hw11, hvl, hbk, hpr, hpd, hfr, hfd, hor, hod, har, had, htr, hct, hla, hlaa, hts0, htsa, by omega, hhf, him0, him1, by omega, by omega, by omega, by omega, by omega, by omega, by omega, hlf, htf, hH, hS, hL, hT, hB1, hB2⟩, fun j hj => rfl⟩), by rw [ht]; exact hP⟩, hS.F ht⟩) hS.2.2 dX10_roll_34
    · refine lv_iload_n hx hb dX10_roll_25 rfl (lv_at hl 3 rfl) ?_
      refine rd_calli (va_runS (As := [.int a3]) (rest := []) ⟨hx, hb, hml, hown, hts⟩ (s_isDay l G g hg f a3  ) (my_cwS hts ok_X10_isDay w_178 rfl rfl ⟨Nat.le_of_ble_eq_true rfl, Nat.le_of_ble_eq_true rfl⟩) ⟨bP.blind, fun U hU hW => ⟨rfl, by rw [hU]; exact hP, kG.warm hW hG⟩⟩ rfl rfl hl.1 rfl (lv_room (Nat.le_of_ble_eq_true rfl)) dX10_roll_26 ⟨Nat.le_of_ble_eq_true rfl, Nat.le_of_ble_eq_true rfl⟩) (fun r hr9 => ?_)
      subst hr9
      refine my_ifne (tgt := 35) hx hb dX10_roll_29 (by decide) (fun c_29 => ?_) (fun c_29 => ?_)
      · refine lv_aload_n hx hb dX10_roll_35 rfl (lv_at hl 0 rfl) ?_
        refine va_get (D := G.1) (ci := 9) (v := .ref (g 36)) (C := RX10) (T := TX10) (N := 7) hx hb hts inlX10 hown hG.1 hP 0 (wl_at (by decide) hx0) rfl 1 (by decide) (hts (.fieldLink RX10 20 "SwornLists" "book" "LSwornLists$Book;") w_16) (fun _ h9 => h9) rfl dX10_roll_36 ?_
        refine va_getN (D := G.1) (ci := 0) (v := .ref (g 41)) (C := RX0) (T := TX0) (N := 9) (host := RX10) hx hb hts inlX0 hown hG.1 hP 36 (wl_at (by decide) hbk) rfl 2 (by decide) (va_Nw.use rfl (hG.2.1 (.fieldLinkNest RX10 88 RX0 "rolls" "LSwornLists$Rows;" RX10) (List.mem_of_getElem? (i := 3) rfl))) (fun _ h9 => h9) rfl dX10_roll_39 ?_
        by_cases hlt : nr < 4
        · refine b_calli (va_runV (As := []) (rest := []) ⟨hx, hb, hml, hown, hts⟩ (r_grow l G g hg f 41 4 3 nr hor (by first | assumption | omega | decide) (by first | assumption | omega | decide) (by first | assumption | omega | decide) (by first | assumption | omega | decide) (by first | assumption | omega | decide)) (my_cwV hts ok_X5_grow w_137 rfl rfl ⟨Nat.le_of_ble_eq_true rfl, Nat.le_of_ble_eq_true rfl⟩) ⟨bP.blind, va_recv hG.1 hP (ci := 5) (q0 := 41) rfl (wl_at (by decide) hor), fun U hU hW => ⟨rfl, by rw [hU]; exact hP, kG.warm hW hG⟩⟩ rfl rfl hl.1 rfl (lv_room (Nat.le_of_ble_eq_true rfl)) dX10_roll_42 ⟨Nat.le_of_ble_eq_true rfl, Nat.le_of_ble_eq_true rfl⟩) hS (fun v2 f_1 H locs hq9 hP hS => ?_)
          obtain ⟨rfl, hq_1_0, o_1⟩ := hq9
          have hx0 : f_1 0 = eO 9 [.ref (g 1), .ref (g 36), .ref (g 2), .ref (g 3), .ref (g 4), .ref (g 6), .ref (g 7)] := (o_1 0 (by omega)).trans hx0
          have hctc : f_1 1 = eO 1 [.ref (g 36), .ref (g 12), .ref (g 13), .ref (g 15), .int (nI se)] := (o_1 1 (by omega)).trans hctc
          have hhs : f_1 12 = eA G 4 10 hf := (o_1 12 (by omega)).trans hhs
          have him : f_1 2 = eA G 3 2 imf := (o_1 2 (by omega)).trans him
          have hkp : f_1 3 = eZ G 2 kf := (o_1 3 (by omega)).trans hkp
          have hrd : f_1 4 = eO 4 [.ref (g 5), .int (nI mc), .int op, .int cm, .int wu] := (o_1 4 (by omega)).trans hrd
          have hmk : f_1 5 = eI G 50 mk := (o_1 5 (by omega)).trans hmk
          have hfc6 : f_1 6 = eO 2 [.long ab, .long be] := (o_1 6 (by omega)).trans hfc6
          have hwt : f_1 7 = eO 8 [.ref (g 8), .ref (g 9), .ref (g 10), .ref (g 11), .int (nI mn), .int le] := (o_1 7 (by omega)).trans hwt
          have hw8 : f_1 8 = eI G 6 wt := (o_1 8 (by omega)).trans hw8
          have hw9 : f_1 9 = eI G 6 ww := (o_1 9 (by omega)).trans hw9
          have hw10 : f_1 10 = eI G 6 wb := (o_1 10 (by omega)).trans hw10
          have hw11 : f_1 11 = eI G 6 wf := (o_1 11 (by omega)).trans hw11
          have hvl : f_1 15 = eJ G 50 vv := (o_1 15 (by omega)).trans hvl
          have hbk : f_1 36 = eO 0 [.ref (g 37), .ref (g 39), .ref (g 41), .ref (g 43), .ref (g 45), .ref (g 47), .ref (g 112), .int pay, .int fine] := (o_1 36 (by omega)).trans hbk
          have hpr : f_1 37 = eO 5 [.int (nI 30), .int (nI 4), .ref (g 38), .int (nI np)] := (o_1 37 (by omega)).trans hpr
          have hpd : f_1 38 = eI G (30 * 4) dp := (o_1 38 (by omega)).trans hpd
          have hfr : f_1 39 = eO 5 [.int (nI 40), .int (nI 3), .ref (g 40), .int (nI nf)] := (o_1 39 (by omega)).trans hfr
          have hfd : f_1 40 = eI G (40 * 3) df := (o_1 40 (by omega)).trans hfd
          have hod : f_1 42 = eI G (4 * 3) dr := (o_1 42 (by omega)).trans hod
          have har : f_1 43 = eO 5 [.int (nI 20), .int (nI 3), .ref (g 44), .int (nI na)] := (o_1 43 (by omega)).trans har
          have had : f_1 44 = eI G (20 * 3) da := (o_1 44 (by omega)).trans had
          have htr : f_1 45 = eO 5 [.int (nI 10), .int (nI 70), .ref (g 46), .int (nI nt)] := (o_1 45 (by omega)).trans htr
          have hct : f_1 46 = eI G (10 * 70) ct := (o_1 46 (by omega)).trans hct
          have hla : f_1 47 = eO 6 [.ref (g 48), .ref (g 49)] := (o_1 47 (by omega)).trans hla
          have hlaa : f_1 48 = eA G 5 20 lf := (o_1 48 (by omega)).trans hlaa
          have hts0 : f_1 112 = eO 6 [.ref (g 113), .ref (g 114)] := (o_1 112 (by omega)).trans hts0
          have htsa : f_1 113 = eA G 5 4 tf := (o_1 113 (by omega)).trans htsa
          have hor : f_1 41 = eO 5 [.int (nI 4), .int (nI 3), .ref (g (41 + 1)), .int (nI (nr + 1))] := hq_1_0
          have hH : ∀ i, i < 10 → okH G g f_1 (2 * i + 16) := fun z hz => okH_fr (hH z hz) (o_1 _ (by omega)) (o_1 _ (by omega))
          have hS : okH G g f_1 13 := okH_fr hS (o_1 _ (by omega)) (o_1 _ (by omega))
          have hL : ∀ i, i < 20 → okT G g f_1 (3 * i + 52) := fun z hz => okT_fr (hL z hz) (o_1 _ (by omega)) (o_1 _ (by omega)) (o_1 _ (by omega))
          have hT : ∀ i, i < 4 → okT G g f_1 (3 * i + 117) := fun z hz => okT_fr (hT z hz) (o_1 _ (by omega)) (o_1 _ (by omega)) (o_1 _ (by omega))
          have hB1 : okB G g f_1 129 := okB_fr hB1 (fun j _ _ => o_1 j (by omega))
          have hB2 : okB G g f_1 222 := okB_fr hB2 (fun j _ _ => o_1 j (by omega))
          refine lv_istore (lv' := [(4, .int (nI nr)), (0, .ref (g 0)), (1, .int a1), (2, .int a2), (3, .int a3)]) hx hb dX10_roll_45 hl (by decide) rfl (fun ls hl => ?_)
          refine lv_iload hx hb dX10_roll_47 (lv_at hl 0 rfl) ?_
          refine lv_bipush (v := (-4)) hx hb dX10_roll_49 (by decide) ?_
          refine lv_icmp_ne (tgt := 57) hx hb dX10_roll_51 (by decide) (fun c_51 => ?_) (fun c_51 => absurd c_51 (nI_m4 (by omega)))
          refine lv_aload_n hx hb dX10_roll_57 rfl (lv_at hl 1 rfl) ?_
          refine va_get (D := G.1) (ci := 9) (v := .ref (g 36)) (C := RX10) (T := TX10) (N := 7) hx hb hts inlX10 hown hG.1 hP 0 (wl_at (by decide) hx0) rfl 1 (by decide) (hts (.fieldLink RX10 20 "SwornLists" "book" "LSwornLists$Book;") w_16) (fun _ h9 => h9) rfl dX10_roll_58 ?_
          refine va_getN (D := G.1) (ci := 0) (v := .ref (g 41)) (C := RX0) (T := TX0) (N := 9) (host := RX10) hx hb hts inlX0 hown hG.1 hP 36 (wl_at (by decide) hbk) rfl 2 (by decide) (va_Nw.use rfl (hG.2.1 (.fieldLinkNest RX10 88 RX0 "rolls" "LSwornLists$Rows;" RX10) (List.mem_of_getElem? (i := 3) rfl))) (fun _ h9 => h9) rfl dX10_roll_61 ?_
          refine lv_iload hx hb dX10_roll_64 (lv_at hl 0 rfl) ?_
          refine lv_iconst (v := 0) hx hb dX10_roll_66 (by decide) ?_
          refine lv_iload_n hx hb dX10_roll_67 rfl (lv_at hl 2 rfl) ?_
          refine b_callv (va_runV (As := [.int (nI nr), .int 0, .int a1]) (rest := []) ⟨hx, hb, hml, hown, hts⟩ (r_set l G g hg f_1 41 4 3 (nr + 1) dr (nI nr) 0 a1 hor hod (by first | assumption | omega | decide) (by first | assumption | omega | decide) (by first | assumption | omega | decide) (by first | assumption | omega | decide) (inN_n (by omega) (by omega)) (by first | assumption | omega | decide)) (my_cwV hts ok_X5_set w_142 rfl rfl ⟨Nat.le_of_ble_eq_true rfl, Nat.le_of_ble_eq_true rfl⟩) ⟨bP.blind, va_recv hG.1 hP (ci := 5) (q0 := 41) rfl (wl_at (by decide) hor), fun U hU hW => ⟨rfl, by rw [hU]; exact hP, kG.warm hW hG⟩⟩ rfl rfl hl.1 rfl (lv_room (Nat.le_of_ble_eq_true rfl)) dX10_roll_68 ⟨Nat.le_of_ble_eq_true rfl, Nat.le_of_ble_eq_true rfl⟩) hS (fun f_2 H locs hq9 hP hS => ?_)
          obtain ⟨hq_2_0, o_2⟩ := hq9
          have hx0 : f_2 0 = eO 9 [.ref (g 1), .ref (g 36), .ref (g 2), .ref (g 3), .ref (g 4), .ref (g 6), .ref (g 7)] := (o_2 0 (by omega)).trans hx0
          have hctc : f_2 1 = eO 1 [.ref (g 36), .ref (g 12), .ref (g 13), .ref (g 15), .int (nI se)] := (o_2 1 (by omega)).trans hctc
          have hhs : f_2 12 = eA G 4 10 hf := (o_2 12 (by omega)).trans hhs
          have him : f_2 2 = eA G 3 2 imf := (o_2 2 (by omega)).trans him
          have hkp : f_2 3 = eZ G 2 kf := (o_2 3 (by omega)).trans hkp
          have hrd : f_2 4 = eO 4 [.ref (g 5), .int (nI mc), .int op, .int cm, .int wu] := (o_2 4 (by omega)).trans hrd
          have hmk : f_2 5 = eI G 50 mk := (o_2 5 (by omega)).trans hmk
          have hfc6 : f_2 6 = eO 2 [.long ab, .long be] := (o_2 6 (by omega)).trans hfc6
          have hwt : f_2 7 = eO 8 [.ref (g 8), .ref (g 9), .ref (g 10), .ref (g 11), .int (nI mn), .int le] := (o_2 7 (by omega)).trans hwt
          have hw8 : f_2 8 = eI G 6 wt := (o_2 8 (by omega)).trans hw8
          have hw9 : f_2 9 = eI G 6 ww := (o_2 9 (by omega)).trans hw9
          have hw10 : f_2 10 = eI G 6 wb := (o_2 10 (by omega)).trans hw10
          have hw11 : f_2 11 = eI G 6 wf := (o_2 11 (by omega)).trans hw11
          have hvl : f_2 15 = eJ G 50 vv := (o_2 15 (by omega)).trans hvl
          have hbk : f_2 36 = eO 0 [.ref (g 37), .ref (g 39), .ref (g 41), .ref (g 43), .ref (g 45), .ref (g 47), .ref (g 112), .int pay, .int fine] := (o_2 36 (by omega)).trans hbk
          have hpr : f_2 37 = eO 5 [.int (nI 30), .int (nI 4), .ref (g 38), .int (nI np)] := (o_2 37 (by omega)).trans hpr
          have hpd : f_2 38 = eI G (30 * 4) dp := (o_2 38 (by omega)).trans hpd
          have hfr : f_2 39 = eO 5 [.int (nI 40), .int (nI 3), .ref (g 40), .int (nI nf)] := (o_2 39 (by omega)).trans hfr
          have hfd : f_2 40 = eI G (40 * 3) df := (o_2 40 (by omega)).trans hfd
          have hor : f_2 41 = eO 5 [.int (nI 4), .int (nI 3), .ref (g (41 + 1)), .int (nI (nr + 1))] := (o_2 41 (by omega)).trans hor
          have har : f_2 43 = eO 5 [.int (nI 20), .int (nI 3), .ref (g 44), .int (nI na)] := (o_2 43 (by omega)).trans har
          have had : f_2 44 = eI G (20 * 3) da := (o_2 44 (by omega)).trans had
          have htr : f_2 45 = eO 5 [.int (nI 10), .int (nI 70), .ref (g 46), .int (nI nt)] := (o_2 45 (by omega)).trans htr
          have hct : f_2 46 = eI G (10 * 70) ct := (o_2 46 (by omega)).trans hct
          have hla : f_2 47 = eO 6 [.ref (g 48), .ref (g 49)] := (o_2 47 (by omega)).trans hla
          have hlaa : f_2 48 = eA G 5 20 lf := (o_2 48 (by omega)).trans hlaa
          have hts0 : f_2 112 = eO 6 [.ref (g 113), .ref (g 114)] := (o_2 112 (by omega)).trans hts0
          have htsa : f_2 113 = eA G 5 4 tf := (o_2 113 (by omega)).trans htsa
          have hod : f_2 42 = eI G (4 * 3) (upd dr (Int32.toNatClampNeg ((nI nr) * nI 3 + 0)) a1) := hq_2_0
          have hH : ∀ i, i < 10 → okH G g f_2 (2 * i + 16) := fun z hz => okH_fr (hH z hz) (o_2 _ (by omega)) (o_2 _ (by omega))
          have hS : okH G g f_2 13 := okH_fr hS (o_2 _ (by omega)) (o_2 _ (by omega))
          have hL : ∀ i, i < 20 → okT G g f_2 (3 * i + 52) := fun z hz => okT_fr (hL z hz) (o_2 _ (by omega)) (o_2 _ (by omega)) (o_2 _ (by omega))
          have hT : ∀ i, i < 4 → okT G g f_2 (3 * i + 117) := fun z hz => okT_fr (hT z hz) (o_2 _ (by omega)) (o_2 _ (by omega)) (o_2 _ (by omega))
          have hB1 : okB G g f_2 129 := okB_fr hB1 (fun j _ _ => o_2 j (by omega))
          have hB2 : okB G g f_2 222 := okB_fr hB2 (fun j _ _ => o_2 j (by omega))
          refine lv_aload_n hx hb dX10_roll_71 rfl (lv_at hl 1 rfl) ?_
          refine va_get (D := G.1) (ci := 9) (v := .ref (g 36)) (C := RX10) (T := TX10) (N := 7) hx hb hts inlX10 hown hG.1 hP 0 (wl_at (by decide) hx0) rfl 1 (by decide) (hts (.fieldLink RX10 20 "SwornLists" "book" "LSwornLists$Book;") w_16) (fun _ h9 => h9) rfl dX10_roll_72 ?_
          refine va_getN (D := G.1) (ci := 0) (v := .ref (g 41)) (C := RX0) (T := TX0) (N := 9) (host := RX10) hx hb hts inlX0 hown hG.1 hP 36 (wl_at (by decide) hbk) rfl 2 (by decide) (va_Nw.use rfl (hG.2.1 (.fieldLinkNest RX10 88 RX0 "rolls" "LSwornLists$Rows;" RX10) (List.mem_of_getElem? (i := 3) rfl))) (fun _ h9 => h9) rfl dX10_roll_75 ?_
          refine lv_iload hx hb dX10_roll_78 (lv_at hl 0 rfl) ?_
          refine lv_iconst (v := 1) hx hb dX10_roll_80 (by decide) ?_
          refine lv_iload_n hx hb dX10_roll_81 rfl (lv_at hl 3 rfl) ?_
          refine b_callv (va_runV (As := [.int (nI nr), .int 1, .int a2]) (rest := []) ⟨hx, hb, hml, hown, hts⟩ (r_set l G g hg f_2 41 4 3 (nr + 1) (upd dr (Int32.toNatClampNeg ((nI nr) * nI 3 + 0)) a1) (nI nr) 1 a2 hor hod (by first | assumption | omega | decide) (by first | assumption | omega | decide) (by first | assumption | omega | decide) (by first | assumption | omega | decide) (inN_n (by omega) (by omega)) (by first | assumption | omega | decide)) (my_cwV hts ok_X5_set w_142 rfl rfl ⟨Nat.le_of_ble_eq_true rfl, Nat.le_of_ble_eq_true rfl⟩) ⟨bP.blind, va_recv hG.1 hP (ci := 5) (q0 := 41) rfl (wl_at (by decide) hor), fun U hU hW => ⟨rfl, by rw [hU]; exact hP, kG.warm hW hG⟩⟩ rfl rfl hl.1 rfl (lv_room (Nat.le_of_ble_eq_true rfl)) dX10_roll_82 ⟨Nat.le_of_ble_eq_true rfl, Nat.le_of_ble_eq_true rfl⟩) hS (fun f_3 H locs hq9 hP hS => ?_)
          obtain ⟨hq_3_0, o_3⟩ := hq9
          have hx0 : f_3 0 = eO 9 [.ref (g 1), .ref (g 36), .ref (g 2), .ref (g 3), .ref (g 4), .ref (g 6), .ref (g 7)] := (o_3 0 (by omega)).trans hx0
          have hctc : f_3 1 = eO 1 [.ref (g 36), .ref (g 12), .ref (g 13), .ref (g 15), .int (nI se)] := (o_3 1 (by omega)).trans hctc
          have hhs : f_3 12 = eA G 4 10 hf := (o_3 12 (by omega)).trans hhs
          have him : f_3 2 = eA G 3 2 imf := (o_3 2 (by omega)).trans him
          have hkp : f_3 3 = eZ G 2 kf := (o_3 3 (by omega)).trans hkp
          have hrd : f_3 4 = eO 4 [.ref (g 5), .int (nI mc), .int op, .int cm, .int wu] := (o_3 4 (by omega)).trans hrd
          have hmk : f_3 5 = eI G 50 mk := (o_3 5 (by omega)).trans hmk
          have hfc6 : f_3 6 = eO 2 [.long ab, .long be] := (o_3 6 (by omega)).trans hfc6
          have hwt : f_3 7 = eO 8 [.ref (g 8), .ref (g 9), .ref (g 10), .ref (g 11), .int (nI mn), .int le] := (o_3 7 (by omega)).trans hwt
          have hw8 : f_3 8 = eI G 6 wt := (o_3 8 (by omega)).trans hw8
          have hw9 : f_3 9 = eI G 6 ww := (o_3 9 (by omega)).trans hw9
          have hw10 : f_3 10 = eI G 6 wb := (o_3 10 (by omega)).trans hw10
          have hw11 : f_3 11 = eI G 6 wf := (o_3 11 (by omega)).trans hw11
          have hvl : f_3 15 = eJ G 50 vv := (o_3 15 (by omega)).trans hvl
          have hbk : f_3 36 = eO 0 [.ref (g 37), .ref (g 39), .ref (g 41), .ref (g 43), .ref (g 45), .ref (g 47), .ref (g 112), .int pay, .int fine] := (o_3 36 (by omega)).trans hbk
          have hpr : f_3 37 = eO 5 [.int (nI 30), .int (nI 4), .ref (g 38), .int (nI np)] := (o_3 37 (by omega)).trans hpr
          have hpd : f_3 38 = eI G (30 * 4) dp := (o_3 38 (by omega)).trans hpd
          have hfr : f_3 39 = eO 5 [.int (nI 40), .int (nI 3), .ref (g 40), .int (nI nf)] := (o_3 39 (by omega)).trans hfr
          have hfd : f_3 40 = eI G (40 * 3) df := (o_3 40 (by omega)).trans hfd
          have hor : f_3 41 = eO 5 [.int (nI 4), .int (nI 3), .ref (g (41 + 1)), .int (nI (nr + 1))] := (o_3 41 (by omega)).trans hor
          have har : f_3 43 = eO 5 [.int (nI 20), .int (nI 3), .ref (g 44), .int (nI na)] := (o_3 43 (by omega)).trans har
          have had : f_3 44 = eI G (20 * 3) da := (o_3 44 (by omega)).trans had
          have htr : f_3 45 = eO 5 [.int (nI 10), .int (nI 70), .ref (g 46), .int (nI nt)] := (o_3 45 (by omega)).trans htr
          have hct : f_3 46 = eI G (10 * 70) ct := (o_3 46 (by omega)).trans hct
          have hla : f_3 47 = eO 6 [.ref (g 48), .ref (g 49)] := (o_3 47 (by omega)).trans hla
          have hlaa : f_3 48 = eA G 5 20 lf := (o_3 48 (by omega)).trans hlaa
          have hts0 : f_3 112 = eO 6 [.ref (g 113), .ref (g 114)] := (o_3 112 (by omega)).trans hts0
          have htsa : f_3 113 = eA G 5 4 tf := (o_3 113 (by omega)).trans htsa
          have hod : f_3 42 = eI G (4 * 3) (upd (upd dr (Int32.toNatClampNeg ((nI nr) * nI 3 + 0)) a1) (Int32.toNatClampNeg ((nI nr) * nI 3 + 1)) a2) := hq_3_0
          have hH : ∀ i, i < 10 → okH G g f_3 (2 * i + 16) := fun z hz => okH_fr (hH z hz) (o_3 _ (by omega)) (o_3 _ (by omega))
          have hS : okH G g f_3 13 := okH_fr hS (o_3 _ (by omega)) (o_3 _ (by omega))
          have hL : ∀ i, i < 20 → okT G g f_3 (3 * i + 52) := fun z hz => okT_fr (hL z hz) (o_3 _ (by omega)) (o_3 _ (by omega)) (o_3 _ (by omega))
          have hT : ∀ i, i < 4 → okT G g f_3 (3 * i + 117) := fun z hz => okT_fr (hT z hz) (o_3 _ (by omega)) (o_3 _ (by omega)) (o_3 _ (by omega))
          have hB1 : okB G g f_3 129 := okB_fr hB1 (fun j _ _ => o_3 j (by omega))
          have hB2 : okB G g f_3 222 := okB_fr hB2 (fun j _ _ => o_3 j (by omega))
          refine lv_aload_n hx hb dX10_roll_85 rfl (lv_at hl 1 rfl) ?_
          refine va_get (D := G.1) (ci := 9) (v := .ref (g 36)) (C := RX10) (T := TX10) (N := 7) hx hb hts inlX10 hown hG.1 hP 0 (wl_at (by decide) hx0) rfl 1 (by decide) (hts (.fieldLink RX10 20 "SwornLists" "book" "LSwornLists$Book;") w_16) (fun _ h9 => h9) rfl dX10_roll_86 ?_
          refine va_getN (D := G.1) (ci := 0) (v := .ref (g 41)) (C := RX0) (T := TX0) (N := 9) (host := RX10) hx hb hts inlX0 hown hG.1 hP 36 (wl_at (by decide) hbk) rfl 2 (by decide) (va_Nw.use rfl (hG.2.1 (.fieldLinkNest RX10 88 RX0 "rolls" "LSwornLists$Rows;" RX10) (List.mem_of_getElem? (i := 3) rfl))) (fun _ h9 => h9) rfl dX10_roll_89 ?_
          refine lv_iload hx hb dX10_roll_92 (lv_at hl 0 rfl) ?_
          refine lv_iconst (v := 2) hx hb dX10_roll_94 (by decide) ?_
          refine lv_iload_n hx hb dX10_roll_95 rfl (lv_at hl 4 rfl) ?_
          refine b_callv (va_runV (As := [.int (nI nr), .int 2, .int a3]) (rest := []) ⟨hx, hb, hml, hown, hts⟩ (r_set l G g hg f_3 41 4 3 (nr + 1) (upd (upd dr (Int32.toNatClampNeg ((nI nr) * nI 3 + 0)) a1) (Int32.toNatClampNeg ((nI nr) * nI 3 + 1)) a2) (nI nr) 2 a3 hor hod (by first | assumption | omega | decide) (by first | assumption | omega | decide) (by first | assumption | omega | decide) (by first | assumption | omega | decide) (inN_n (by omega) (by omega)) (by first | assumption | omega | decide)) (my_cwV hts ok_X5_set w_142 rfl rfl ⟨Nat.le_of_ble_eq_true rfl, Nat.le_of_ble_eq_true rfl⟩) ⟨bP.blind, va_recv hG.1 hP (ci := 5) (q0 := 41) rfl (wl_at (by decide) hor), fun U hU hW => ⟨rfl, by rw [hU]; exact hP, kG.warm hW hG⟩⟩ rfl rfl hl.1 rfl (lv_room (Nat.le_of_ble_eq_true rfl)) dX10_roll_96 ⟨Nat.le_of_ble_eq_true rfl, Nat.le_of_ble_eq_true rfl⟩) hS (fun f_4 H locs hq9 hP hS => ?_)
          obtain ⟨hq_4_0, o_4⟩ := hq9
          have hx0 : f_4 0 = eO 9 [.ref (g 1), .ref (g 36), .ref (g 2), .ref (g 3), .ref (g 4), .ref (g 6), .ref (g 7)] := (o_4 0 (by omega)).trans hx0
          have hctc : f_4 1 = eO 1 [.ref (g 36), .ref (g 12), .ref (g 13), .ref (g 15), .int (nI se)] := (o_4 1 (by omega)).trans hctc
          have hhs : f_4 12 = eA G 4 10 hf := (o_4 12 (by omega)).trans hhs
          have him : f_4 2 = eA G 3 2 imf := (o_4 2 (by omega)).trans him
          have hkp : f_4 3 = eZ G 2 kf := (o_4 3 (by omega)).trans hkp
          have hrd : f_4 4 = eO 4 [.ref (g 5), .int (nI mc), .int op, .int cm, .int wu] := (o_4 4 (by omega)).trans hrd
          have hmk : f_4 5 = eI G 50 mk := (o_4 5 (by omega)).trans hmk
          have hfc6 : f_4 6 = eO 2 [.long ab, .long be] := (o_4 6 (by omega)).trans hfc6
          have hwt : f_4 7 = eO 8 [.ref (g 8), .ref (g 9), .ref (g 10), .ref (g 11), .int (nI mn), .int le] := (o_4 7 (by omega)).trans hwt
          have hw8 : f_4 8 = eI G 6 wt := (o_4 8 (by omega)).trans hw8
          have hw9 : f_4 9 = eI G 6 ww := (o_4 9 (by omega)).trans hw9
          have hw10 : f_4 10 = eI G 6 wb := (o_4 10 (by omega)).trans hw10
          have hw11 : f_4 11 = eI G 6 wf := (o_4 11 (by omega)).trans hw11
          have hvl : f_4 15 = eJ G 50 vv := (o_4 15 (by omega)).trans hvl
          have hbk : f_4 36 = eO 0 [.ref (g 37), .ref (g 39), .ref (g 41), .ref (g 43), .ref (g 45), .ref (g 47), .ref (g 112), .int pay, .int fine] := (o_4 36 (by omega)).trans hbk
          have hpr : f_4 37 = eO 5 [.int (nI 30), .int (nI 4), .ref (g 38), .int (nI np)] := (o_4 37 (by omega)).trans hpr
          have hpd : f_4 38 = eI G (30 * 4) dp := (o_4 38 (by omega)).trans hpd
          have hfr : f_4 39 = eO 5 [.int (nI 40), .int (nI 3), .ref (g 40), .int (nI nf)] := (o_4 39 (by omega)).trans hfr
          have hfd : f_4 40 = eI G (40 * 3) df := (o_4 40 (by omega)).trans hfd
          have hor : f_4 41 = eO 5 [.int (nI 4), .int (nI 3), .ref (g (41 + 1)), .int (nI (nr + 1))] := (o_4 41 (by omega)).trans hor
          have har : f_4 43 = eO 5 [.int (nI 20), .int (nI 3), .ref (g 44), .int (nI na)] := (o_4 43 (by omega)).trans har
          have had : f_4 44 = eI G (20 * 3) da := (o_4 44 (by omega)).trans had
          have htr : f_4 45 = eO 5 [.int (nI 10), .int (nI 70), .ref (g 46), .int (nI nt)] := (o_4 45 (by omega)).trans htr
          have hct : f_4 46 = eI G (10 * 70) ct := (o_4 46 (by omega)).trans hct
          have hla : f_4 47 = eO 6 [.ref (g 48), .ref (g 49)] := (o_4 47 (by omega)).trans hla
          have hlaa : f_4 48 = eA G 5 20 lf := (o_4 48 (by omega)).trans hlaa
          have hts0 : f_4 112 = eO 6 [.ref (g 113), .ref (g 114)] := (o_4 112 (by omega)).trans hts0
          have htsa : f_4 113 = eA G 5 4 tf := (o_4 113 (by omega)).trans htsa
          have hod : f_4 42 = eI G (4 * 3) (upd (upd (upd dr (Int32.toNatClampNeg ((nI nr) * nI 3 + 0)) a1) (Int32.toNatClampNeg ((nI nr) * nI 3 + 1)) a2) (Int32.toNatClampNeg ((nI nr) * nI 3 + 2)) a3) := hq_4_0
          have hH : ∀ i, i < 10 → okH G g f_4 (2 * i + 16) := fun z hz => okH_fr (hH z hz) (o_4 _ (by omega)) (o_4 _ (by omega))
          have hS : okH G g f_4 13 := okH_fr hS (o_4 _ (by omega)) (o_4 _ (by omega))
          have hL : ∀ i, i < 20 → okT G g f_4 (3 * i + 52) := fun z hz => okT_fr (hL z hz) (o_4 _ (by omega)) (o_4 _ (by omega)) (o_4 _ (by omega))
          have hT : ∀ i, i < 4 → okT G g f_4 (3 * i + 117) := fun z hz => okT_fr (hT z hz) (o_4 _ (by omega)) (o_4 _ (by omega)) (o_4 _ (by omega))
          have hB1 : okB G g f_4 129 := okB_fr hB1 (fun j _ _ => o_4 j (by omega))
          have hB2 : okB G g f_4 222 := okB_fr hB2 (fun j _ _ => o_4 j (by omega))
          refine lv_aload_n hx hb dX10_roll_99 rfl (lv_at hl 1 rfl) ?_
          refine va_get (D := G.1) (ci := 9) (v := .ref (g 1)) (C := RX10) (T := TX10) (N := 7) hx hb hts inlX10 hown hG.1 hP 0 (wl_at (by decide) hx0) rfl 0 (by decide) (hts (.fieldLink RX10 12 "SwornLists" "court" "LSwornLists$Court;") w_15) (fun _ h9 => h9) rfl dX10_roll_100 ?_
          refine lv_iconst (v := 0) hx hb dX10_roll_103 (by decide) ?_
          refine b_callv (va_runV (As := [.int 0]) (rest := []) ⟨hx, hb, hml, hown, hts⟩ (u_unsettle l G g hg f_4 se 0 hctc (by first | assumption | omega | decide) (by first | assumption | omega | decide)) (my_cwV hts ok_X1_unsettle w_146 rfl rfl ⟨Nat.le_of_ble_eq_true rfl, Nat.le_of_ble_eq_true rfl⟩) ⟨bP.blind, va_recv hG.1 hP (ci := 1) (q0 := 1) rfl (wl_at (by decide) hctc), fun U hU hW => ⟨rfl, by rw [hU]; exact hP, kG.warm hW hG⟩⟩ rfl rfl hl.1 rfl (lv_room (Nat.le_of_ble_eq_true rfl)) dX10_roll_104 ⟨Nat.le_of_ble_eq_true rfl, Nat.le_of_ble_eq_true rfl⟩) hS (fun f_5 H locs hq9 hP hS => ?_)
          obtain ⟨hq_5_0, o_5⟩ := hq9
          have hx0 : f_5 0 = eO 9 [.ref (g 1), .ref (g 36), .ref (g 2), .ref (g 3), .ref (g 4), .ref (g 6), .ref (g 7)] := (o_5 0 (by omega)).trans hx0
          have hhs : f_5 12 = eA G 4 10 hf := (o_5 12 (by omega)).trans hhs
          have him : f_5 2 = eA G 3 2 imf := (o_5 2 (by omega)).trans him
          have hkp : f_5 3 = eZ G 2 kf := (o_5 3 (by omega)).trans hkp
          have hrd : f_5 4 = eO 4 [.ref (g 5), .int (nI mc), .int op, .int cm, .int wu] := (o_5 4 (by omega)).trans hrd
          have hmk : f_5 5 = eI G 50 mk := (o_5 5 (by omega)).trans hmk
          have hfc6 : f_5 6 = eO 2 [.long ab, .long be] := (o_5 6 (by omega)).trans hfc6
          have hwt : f_5 7 = eO 8 [.ref (g 8), .ref (g 9), .ref (g 10), .ref (g 11), .int (nI mn), .int le] := (o_5 7 (by omega)).trans hwt
          have hw8 : f_5 8 = eI G 6 wt := (o_5 8 (by omega)).trans hw8
          have hw9 : f_5 9 = eI G 6 ww := (o_5 9 (by omega)).trans hw9
          have hw10 : f_5 10 = eI G 6 wb := (o_5 10 (by omega)).trans hw10
          have hw11 : f_5 11 = eI G 6 wf := (o_5 11 (by omega)).trans hw11
          have hvl : f_5 15 = eJ G 50 vv := (o_5 15 (by omega)).trans hvl
          have hbk : f_5 36 = eO 0 [.ref (g 37), .ref (g 39), .ref (g 41), .ref (g 43), .ref (g 45), .ref (g 47), .ref (g 112), .int pay, .int fine] := (o_5 36 (by omega)).trans hbk
          have hpr : f_5 37 = eO 5 [.int (nI 30), .int (nI 4), .ref (g 38), .int (nI np)] := (o_5 37 (by omega)).trans hpr
          have hpd : f_5 38 = eI G (30 * 4) dp := (o_5 38 (by omega)).trans hpd
          have hfr : f_5 39 = eO 5 [.int (nI 40), .int (nI 3), .ref (g 40), .int (nI nf)] := (o_5 39 (by omega)).trans hfr
          have hfd : f_5 40 = eI G (40 * 3) df := (o_5 40 (by omega)).trans hfd
          have hor : f_5 41 = eO 5 [.int (nI 4), .int (nI 3), .ref (g (41 + 1)), .int (nI (nr + 1))] := (o_5 41 (by omega)).trans hor
          have hod : f_5 42 = eI G (4 * 3) (upd (upd (upd dr (Int32.toNatClampNeg ((nI nr) * nI 3 + 0)) a1) (Int32.toNatClampNeg ((nI nr) * nI 3 + 1)) a2) (Int32.toNatClampNeg ((nI nr) * nI 3 + 2)) a3) := (o_5 42 (by omega)).trans hod
          have har : f_5 43 = eO 5 [.int (nI 20), .int (nI 3), .ref (g 44), .int (nI na)] := (o_5 43 (by omega)).trans har
          have had : f_5 44 = eI G (20 * 3) da := (o_5 44 (by omega)).trans had
          have htr : f_5 45 = eO 5 [.int (nI 10), .int (nI 70), .ref (g 46), .int (nI nt)] := (o_5 45 (by omega)).trans htr
          have hct : f_5 46 = eI G (10 * 70) ct := (o_5 46 (by omega)).trans hct
          have hla : f_5 47 = eO 6 [.ref (g 48), .ref (g 49)] := (o_5 47 (by omega)).trans hla
          have hlaa : f_5 48 = eA G 5 20 lf := (o_5 48 (by omega)).trans hlaa
          have hts0 : f_5 112 = eO 6 [.ref (g 113), .ref (g 114)] := (o_5 112 (by omega)).trans hts0
          have htsa : f_5 113 = eA G 5 4 tf := (o_5 113 (by omega)).trans htsa
          have hctc : f_5 1 = eO 1 [.ref (g 36), .ref (g 12), .ref (g 13), .ref (g 15), .int (nI (min se 0))] := hq_5_0
          have hH : ∀ i, i < 10 → okH G g f_5 (2 * i + 16) := fun z hz => okH_fr (hH z hz) (o_5 _ (by omega)) (o_5 _ (by omega))
          have hS : okH G g f_5 13 := okH_fr hS (o_5 _ (by omega)) (o_5 _ (by omega))
          have hL : ∀ i, i < 20 → okT G g f_5 (3 * i + 52) := fun z hz => okT_fr (hL z hz) (o_5 _ (by omega)) (o_5 _ (by omega)) (o_5 _ (by omega))
          have hT : ∀ i, i < 4 → okT G g f_5 (3 * i + 117) := fun z hz => okT_fr (hT z hz) (o_5 _ (by omega)) (o_5 _ (by omega)) (o_5 _ (by omega))
          have hB1 : okB G g f_5 129 := okB_fr hB1 (fun j _ _ => o_5 j (by omega))
          have hB2 : okB G g f_5 222 := okB_fr hB2 (fun j _ _ => o_5 j (by omega))
          refine lv_iload hx hb dX10_roll_107 (lv_at hl 0 rfl) ?_
          exact W.iret (v := nI nr) hx hb hr (fun t ht hW => ⟨⟨_, f_5, rfl, (⟨⟨(min se 0), hf, imf, kf, mc, op, cm, wu, mk, ab, be, mn, le, wt, ww, wb, wf, vv, pay, fine, np, dp, nf, df, (nr + 1), (upd (upd (upd dr (Int32.toNatClampNeg ((nI nr) * nI 3 + 0)) a1) (Int32.toNatClampNeg ((nI nr) * nI 3 + 1)) a2) (Int32.toNatClampNeg ((nI nr) * nI 3 + 2)) a3), na, da, nt, ct, lf, tf, hx0, hctc, hhs, him, hkp, hrd, hmk, hfc6, hwt, hw8, hw9, hw10, hw11, hvl, hbk, hpr, hpd, hfr, hfd, hor, hod, har, had, htr, hct, hla, hlaa, hts0, htsa, by omega, hhf, him0, him1, by omega, by omega, by omega, by omega, by omega, by omega, by omega, hlf, htf, hH, hS, hL, hT, hB1, hB2⟩, fun j hj => (((((o_5 j (by omega))).trans (o_4 j (by omega))).trans (o_3 j (by omega))).trans (o_2 j (by omega))).trans (o_1 j (by omega))⟩), by rw [ht]; exact hP⟩, hS.F ht⟩) hS.2.2 dX10_roll_109
        · refine rd_calli (va_runV (As := []) (rest := []) ⟨hx, hb, hml, hown, hts⟩ (r_growF l G g hg f 41 4 3 nr hor (by first | assumption | omega | decide) (by first | assumption | omega | decide) (by first | assumption | omega | decide) (by first | assumption | omega | decide) (by first | assumption | omega | decide)) (my_cwV hts ok_X5_grow w_137 rfl rfl ⟨Nat.le_of_ble_eq_true rfl, Nat.le_of_ble_eq_true rfl⟩) ⟨bP.blind, va_recv hG.1 hP (ci := 5) (q0 := 41) rfl (wl_at (by decide) hor), fun U hU hW => ⟨rfl, by rw [hU]; exact hP, kG.warm hW hG⟩⟩ rfl rfl hl.1 rfl (lv_room (Nat.le_of_ble_eq_true rfl)) dX10_roll_42 ⟨Nat.le_of_ble_eq_true rfl, Nat.le_of_ble_eq_true rfl⟩) (fun r hr9 => ?_)
          subst hr9
          refine lv_istore (lv' := [(4, .int (-4)), (0, .ref (g 0)), (1, .int a1), (2, .int a2), (3, .int a3)]) hx hb dX10_roll_45 hl (by decide) rfl (fun ls hl => ?_)
          refine lv_iload hx hb dX10_roll_47 (lv_at hl 0 rfl) ?_
          refine lv_bipush (v := (-4)) hx hb dX10_roll_49 (by decide) ?_
          refine lv_icmp_ne (tgt := 57) hx hb dX10_roll_51 (by decide) (fun c_51 => absurd (by decide) c_51) (fun c_51 => ?_)
          refine lv_bipush (v := (-4)) hx hb dX10_roll_54 (by decide) ?_
          exact W.iret (v := (-4)) hx hb hr (fun t ht hW => ⟨⟨_, f, rfl, (⟨⟨se, hf, imf, kf, mc, op, cm, wu, mk, ab, be, mn, le, wt, ww, wb, wf, vv, pay, fine, np, dp, nf, df, nr, dr, na, da, nt, ct, lf, tf, hx0, hctc, hhs, him, hkp, hrd, hmk, hfc6, hwt, hw8, hw9, hw10, hw11, hvl, hbk, hpr, hpd, hfr, hfd, hor, hod, har, had, htr, hct, hla, hlaa, hts0, htsa, by omega, hhf, him0, him1, by omega, by omega, by omega, by omega, by omega, by omega, by omega, hlf, htf, hH, hS, hL, hT, hB1, hB2⟩, fun j hj => rfl⟩), by rw [ht]; exact hP⟩, hS.F ht⟩) hS.2.2 dX10_roll_56
      · refine lv_bipush (v := (-2)) hx hb dX10_roll_32 (by decide) ?_
        exact W.iret (v := (-2)) hx hb hr (fun t ht hW => ⟨⟨_, f, rfl, (⟨⟨se, hf, imf, kf, mc, op, cm, wu, mk, ab, be, mn, le, wt, ww, wb, wf, vv, pay, fine, np, dp, nf, df, nr, dr, na, da, nt, ct, lf, tf, hx0, hctc, hhs, him, hkp, hrd, hmk, hfc6, hwt, hw8, hw9, hw10, hw11, hvl, hbk, hpr, hpd, hfr, hfd, hor, hod, har, had, htr, hct, hla, hlaa, hts0, htsa, by omega, hhf, him0, him1, by omega, by omega, by omega, by omega, by omega, by omega, by omega, hlf, htf, hH, hS, hL, hT, hB1, hB2⟩, fun j hj => rfl⟩), by rw [ht]; exact hP⟩, hS.F ht⟩) hS.2.2 dX10_roll_34
set_option maxHeartbeats 4000000 in
set_option maxRecDepth 100000 in
theorem m_rollOf (l : Launch) (G : gW) (g : Nat → Nat) (hg : gOK g) (f : Nat → va_E) (a1 : Int32)  (hI : cI G g f) : Met l yX10_rollOf (wsT yX10_rollOf cX10_rollOf 2 (some .int)) ({ frames := 3, cells := 0, slots := 0, locals := 64 }) (bP G g f [.ref (g 0), .int a1]) (bQi G g (fun (z9 : Int32) (f' : Nat → va_E) => (cI G g f') ∧ ∀ j, 315 ≤ j → f' j = f j)) 0 0 (gA g) := by
  refine Met.ofW (cc := cX10_rollOf) (maxL := 2) (ret := (some .int)) (by decide) rfl ?_
  intro p e s m args below meth c s₁ B hml hv
  obtain ⟨rfl, hP, hG⟩ := hv
  have hx := B.exec
  have hb := B.bytes
  have hr := B.returns
  have hts := my_hts (atoms_spec (ws := wsT yX10_rollOf cX10_rollOf 2 (some .int)) B.pre)
  have hown : s.vm.findClass RX10 = some m.cls := findClass_of_methodNamed B.named
  have hlocks := B.notSynchronized
  have hS : va_S (gA g) s.heap s.heap [] := va_S.rf
  have hl := lv_entry ([.ref (g 0), .int a1]) (n := 2) (Nat.le_of_ble_eq_true rfl)
  rw [lg_entry_eq]
  generalize (lg_sl ([.ref (g 0), .int a1]) ++ List.replicate (2 - (lg_sl ([.ref (g 0), .int a1])).length) Slot.unset).toArray = ls at hl ⊢
  have hl : lv_has ls 2 [(0, .ref (g 0)), (1, .int a1)] := hl
  obtain ⟨se, hf, imf, kf, mc, op, cm, wu, mk, ab, be, mn, le, wt, ww, wb, wf, vv, pay, fine, np, dp, nf, df, nr, dr, na, da, nt, ct, lf, tf, hx0, hctc, hhs, him, hkp, hrd, hmk, hfc6, hwt, hw8, hw9, hw10, hw11, hvl, hbk, hpr, hpd, hfr, hfd, hor, hod, har, had, htr, hct, hla, hlaa, hts0, htsa, hse, hhf, him0, him1, hmc, hmn, hnp, hnf, hnr, hna, hnt, hlf, htf, hH, hS, hL, hT, hB1, hB2⟩ := hI
  refine lv_iload_n hx hb dX10_rollOf_0 rfl (lv_at hl 1 rfl) ?_
  refine rd_calli (va_runS (As := [.int a1]) (rest := []) ⟨hx, hb, hml, hown, hts⟩ (s_isDay l G g hg f a1  ) (my_cwS hts ok_X10_isDay w_178 rfl rfl ⟨Nat.le_of_ble_eq_true rfl, Nat.le_of_ble_eq_true rfl⟩) ⟨bP.blind, fun U hU hW => ⟨rfl, by rw [hU]; exact hP, kG.warm hW hG⟩⟩ rfl rfl hl.1 rfl (lv_room (Nat.le_of_ble_eq_true rfl)) dX10_rollOf_1 ⟨Nat.le_of_ble_eq_true rfl, Nat.le_of_ble_eq_true rfl⟩) (fun r hr9 => ?_)
  subst hr9
  refine my_ifeq (tgt := 18) hx hb dX10_rollOf_4 (by decide) (fun c_4 => ?_) (fun c_4 => ?_)
  · refine lv_bipush (v := (-2)) hx hb dX10_rollOf_18 (by decide) ?_
    exact W.iret (v := (-2)) hx hb hr (fun t ht hW => ⟨⟨_, f, rfl, (⟨⟨se, hf, imf, kf, mc, op, cm, wu, mk, ab, be, mn, le, wt, ww, wb, wf, vv, pay, fine, np, dp, nf, df, nr, dr, na, da, nt, ct, lf, tf, hx0, hctc, hhs, him, hkp, hrd, hmk, hfc6, hwt, hw8, hw9, hw10, hw11, hvl, hbk, hpr, hpd, hfr, hfd, hor, hod, har, had, htr, hct, hla, hlaa, hts0, htsa, by omega, hhf, him0, him1, by omega, by omega, by omega, by omega, by omega, by omega, by omega, hlf, htf, hH, hS, hL, hT, hB1, hB2⟩, fun j hj => rfl⟩), by rw [ht]; exact hP⟩, hS.F ht⟩) hS.2.2 dX10_rollOf_20
  · refine lv_aload_n hx hb dX10_rollOf_7 rfl (lv_at hl 0 rfl) ?_
    refine va_get (D := G.1) (ci := 9) (v := .ref (g 36)) (C := RX10) (T := TX10) (N := 7) hx hb hts inlX10 hown hG.1 hP 0 (wl_at (by decide) hx0) rfl 1 (by decide) (hts (.fieldLink RX10 20 "SwornLists" "book" "LSwornLists$Book;") w_16) (fun _ h9 => h9) rfl dX10_rollOf_8 ?_
    refine lv_iload_n hx hb dX10_rollOf_11 rfl (lv_at hl 1 rfl) ?_
    refine rd_calli (va_runV (As := [.int a1]) (rest := []) ⟨hx, hb, hml, hown, hts⟩ (k_listedOn l G g hg f pay fine np dp nr dr a1 hbk hpr hpd hor hod (by first | assumption | omega | decide) (by first | assumption | omega | decide)) (my_cwV hts ok_X0_listedOn w_221 rfl rfl ⟨Nat.le_of_ble_eq_true rfl, Nat.le_of_ble_eq_true rfl⟩) ⟨bP.blind, va_recv hG.1 hP (ci := 0) (q0 := 36) rfl (wl_at (by decide) hbk), fun U hU hW => ⟨rfl, by rw [hU]; exact hP, kG.warm hW hG⟩⟩ rfl rfl hl.1 rfl (lv_room (Nat.le_of_ble_eq_true rfl)) dX10_rollOf_12 ⟨Nat.le_of_ble_eq_true rfl, Nat.le_of_ble_eq_true rfl⟩) (fun v1 _ => ?_)
    refine lv_goto (tgt := 20) hx hb dX10_rollOf_15 (by decide) ?_
    exact W.iret (v := v1) hx hb hr (fun t ht hW => ⟨⟨_, f, rfl, (⟨⟨se, hf, imf, kf, mc, op, cm, wu, mk, ab, be, mn, le, wt, ww, wb, wf, vv, pay, fine, np, dp, nf, df, nr, dr, na, da, nt, ct, lf, tf, hx0, hctc, hhs, him, hkp, hrd, hmk, hfc6, hwt, hw8, hw9, hw10, hw11, hvl, hbk, hpr, hpd, hfr, hfd, hor, hod, har, had, htr, hct, hla, hlaa, hts0, htsa, by omega, hhf, him0, him1, by omega, by omega, by omega, by omega, by omega, by omega, by omega, hlf, htf, hH, hS, hL, hT, hB1, hB2⟩, fun j hj => rfl⟩), by rw [ht]; exact hP⟩, hS.F ht⟩) hS.2.2 dX10_rollOf_20
set_option maxHeartbeats 4000000 in
set_option maxRecDepth 100000 in
theorem m_sums (l : Launch) (G : gW) (g : Nat → Nat) (hg : gOK g) (f : Nat → va_E) (a1 : Int32) (a2 : Int32)  (hI : cI G g f) : Met l yX10_sums (wsT yX10_sums cX10_sums 3 (some .int)) ({ frames := 1, cells := 0, slots := 0, locals := 22 }) (bP G g f [.ref (g 0), .int a1, .int a2]) (bQi G g (fun (z9 : Int32) (f' : Nat → va_E) => (cI G g f') ∧ ∀ j, 315 ≤ j → f' j = f j)) 0 0 (gA g) := by
  refine Met.ofW (cc := cX10_sums) (maxL := 3) (ret := (some .int)) (by decide) rfl ?_
  intro p e s m args below meth c s₁ B hml hv
  obtain ⟨rfl, hP, hG⟩ := hv
  have hx := B.exec
  have hb := B.bytes
  have hr := B.returns
  have hts := my_hts (atoms_spec (ws := wsT yX10_sums cX10_sums 3 (some .int)) B.pre)
  have hown : s.vm.findClass RX10 = some m.cls := findClass_of_methodNamed B.named
  have hlocks := B.notSynchronized
  have hS : va_S (gA g) s.heap s.heap [] := va_S.rf
  have hl := lv_entry ([.ref (g 0), .int a1, .int a2]) (n := 3) (Nat.le_of_ble_eq_true rfl)
  rw [lg_entry_eq]
  generalize (lg_sl ([.ref (g 0), .int a1, .int a2]) ++ List.replicate (3 - (lg_sl ([.ref (g 0), .int a1, .int a2])).length) Slot.unset).toArray = ls at hl ⊢
  have hl : lv_has ls 3 [(0, .ref (g 0)), (1, .int a1), (2, .int a2)] := hl
  obtain ⟨se, hf, imf, kf, mc, op, cm, wu, mk, ab, be, mn, le, wt, ww, wb, wf, vv, pay, fine, np, dp, nf, df, nr, dr, na, da, nt, ct, lf, tf, hx0, hctc, hhs, him, hkp, hrd, hmk, hfc6, hwt, hw8, hw9, hw10, hw11, hvl, hbk, hpr, hpd, hfr, hfd, hor, hod, har, had, htr, hct, hla, hlaa, hts0, htsa, hse, hhf, him0, him1, hmc, hmn, hnp, hnf, hnr, hna, hnt, hlf, htf, hH, hS, hL, hT, hB1, hB2⟩ := hI
  refine lv_iload_n hx hb dX10_sums_0 rfl (lv_at hl 1 rfl) ?_
  refine lv_iconst (v := 0) hx hb dX10_sums_1 (by decide) ?_
  refine lv_bipush (v := 100) hx hb dX10_sums_2 (by decide) ?_
  refine rd_calli (va_runS (As := [.int a1, .int 0, .int 100]) (rest := []) ⟨hx, hb, hml, hown, hts⟩ (s_within l G g hg f a1 0 100  ) (my_cwS hts ok_X10_within w_134 rfl rfl ⟨Nat.le_of_ble_eq_true rfl, Nat.le_of_ble_eq_true rfl⟩) ⟨bP.blind, fun U hU hW => ⟨rfl, by rw [hU]; exact hP, kG.warm hW hG⟩⟩ rfl rfl hl.1 rfl (lv_room (Nat.le_of_ble_eq_true rfl)) dX10_sums_4 ⟨Nat.le_of_ble_eq_true rfl, Nat.le_of_ble_eq_true rfl⟩) (fun r hr9 => ?_)
  subst hr9
  refine my_ifeq (tgt := 21) hx hb dX10_sums_7 (by decide) (fun c_7 => ?_) (fun c_7 => ?_)
  · refine lv_bipush (v := (-2)) hx hb dX10_sums_21 (by decide) ?_
    exact W.iret (v := (-2)) hx hb hr (fun t ht hW => ⟨⟨_, f, rfl, (⟨⟨se, hf, imf, kf, mc, op, cm, wu, mk, ab, be, mn, le, wt, ww, wb, wf, vv, pay, fine, np, dp, nf, df, nr, dr, na, da, nt, ct, lf, tf, hx0, hctc, hhs, him, hkp, hrd, hmk, hfc6, hwt, hw8, hw9, hw10, hw11, hvl, hbk, hpr, hpd, hfr, hfd, hor, hod, har, had, htr, hct, hla, hlaa, hts0, htsa, by omega, hhf, him0, him1, by omega, by omega, by omega, by omega, by omega, by omega, by omega, hlf, htf, hH, hS, hL, hT, hB1, hB2⟩, fun j hj => rfl⟩), by rw [ht]; exact hP⟩, hS.F ht⟩) hS.2.2 dX10_sums_23
  · refine lv_iload_n hx hb dX10_sums_10 rfl (lv_at hl 2 rfl) ?_
    refine lv_iconst (v := 0) hx hb dX10_sums_11 (by decide) ?_
    refine lv_sipush (v := 1000) hx hb dX10_sums_12 (by decide) ?_
    refine rd_calli (va_runS (As := [.int a2, .int 0, .int 1000]) (rest := []) ⟨hx, hb, hml, hown, hts⟩ (s_within l G g hg f a2 0 1000  ) (my_cwS hts ok_X10_within w_134 rfl rfl ⟨Nat.le_of_ble_eq_true rfl, Nat.le_of_ble_eq_true rfl⟩) ⟨bP.blind, fun U hU hW => ⟨rfl, by rw [hU]; exact hP, kG.warm hW hG⟩⟩ rfl rfl hl.1 rfl (lv_room (Nat.le_of_ble_eq_true rfl)) dX10_sums_15 ⟨Nat.le_of_ble_eq_true rfl, Nat.le_of_ble_eq_true rfl⟩) (fun r hr9 => ?_)
    subst hr9
    refine my_ifne (tgt := 24) hx hb dX10_sums_18 (by decide) (fun c_18 => ?_) (fun c_18 => ?_)
    · refine lv_aload_n hx hb dX10_sums_24 rfl (lv_at hl 0 rfl) ?_
      refine va_get (D := G.1) (ci := 9) (v := .ref (g 36)) (C := RX10) (T := TX10) (N := 7) hx hb hts inlX10 hown hG.1 hP 0 (wl_at (by decide) hx0) rfl 1 (by decide) (hts (.fieldLink RX10 20 "SwornLists" "book" "LSwornLists$Book;") w_16) (fun _ h9 => h9) rfl dX10_sums_25 ?_
      refine lv_iload_n hx hb dX10_sums_28 rfl (lv_at hl 1 rfl) ?_
      refine va_putN (D := G.1) (ci := 0) (v := .int a1) (ty := .int) (C := RX0) (T := TX0) (N := 9) (host := RX10) hx hb hts inlX0 tyX0 tyX0_ok nmX0 hown hG.1 hP (wl_D hg f) hS 36 (wl_at (by decide) hbk) rfl 7 (by decide) (va_Nw.use rfl (hG.2.1 (.fieldLinkNest RX10 201 RX0 "pay" "I" RX10) (List.mem_of_getElem? (i := 10) rfl))) (fun _ h9 => h9) rfl (by decide +kernel) rfl rfl (Nat.le_of_ble_eq_true rfl) dX10_sums_29 (fun H locs hP _ hS => ?_)
      obtain ⟨f_1, hP, e_1, o_1⟩ := b_put (by decide) hP
      have hbk : f_1 36 = eO 0 [.ref (g 37), .ref (g 39), .ref (g 41), .ref (g 43), .ref (g 45), .ref (g 47), .ref (g 112), .int a1, .int fine] := e_1
      have hx0 : f_1 0 = eO 9 [.ref (g 1), .ref (g 36), .ref (g 2), .ref (g 3), .ref (g 4), .ref (g 6), .ref (g 7)] := (o_1 0 (by decide)).trans hx0
      have hctc : f_1 1 = eO 1 [.ref (g 36), .ref (g 12), .ref (g 13), .ref (g 15), .int (nI se)] := (o_1 1 (by decide)).trans hctc
      have hhs : f_1 12 = eA G 4 10 hf := (o_1 12 (by decide)).trans hhs
      have him : f_1 2 = eA G 3 2 imf := (o_1 2 (by decide)).trans him
      have hkp : f_1 3 = eZ G 2 kf := (o_1 3 (by decide)).trans hkp
      have hrd : f_1 4 = eO 4 [.ref (g 5), .int (nI mc), .int op, .int cm, .int wu] := (o_1 4 (by decide)).trans hrd
      have hmk : f_1 5 = eI G 50 mk := (o_1 5 (by decide)).trans hmk
      have hfc6 : f_1 6 = eO 2 [.long ab, .long be] := (o_1 6 (by decide)).trans hfc6
      have hwt : f_1 7 = eO 8 [.ref (g 8), .ref (g 9), .ref (g 10), .ref (g 11), .int (nI mn), .int le] := (o_1 7 (by decide)).trans hwt
      have hw8 : f_1 8 = eI G 6 wt := (o_1 8 (by decide)).trans hw8
      have hw9 : f_1 9 = eI G 6 ww := (o_1 9 (by decide)).trans hw9
      have hw10 : f_1 10 = eI G 6 wb := (o_1 10 (by decide)).trans hw10
      have hw11 : f_1 11 = eI G 6 wf := (o_1 11 (by decide)).trans hw11
      have hvl : f_1 15 = eJ G 50 vv := (o_1 15 (by decide)).trans hvl
      have hpr : f_1 37 = eO 5 [.int (nI 30), .int (nI 4), .ref (g 38), .int (nI np)] := (o_1 37 (by decide)).trans hpr
      have hpd : f_1 38 = eI G (30 * 4) dp := (o_1 38 (by decide)).trans hpd
      have hfr : f_1 39 = eO 5 [.int (nI 40), .int (nI 3), .ref (g 40), .int (nI nf)] := (o_1 39 (by decide)).trans hfr
      have hfd : f_1 40 = eI G (40 * 3) df := (o_1 40 (by decide)).trans hfd
      have hor : f_1 41 = eO 5 [.int (nI 4), .int (nI 3), .ref (g 42), .int (nI nr)] := (o_1 41 (by decide)).trans hor
      have hod : f_1 42 = eI G (4 * 3) dr := (o_1 42 (by decide)).trans hod
      have har : f_1 43 = eO 5 [.int (nI 20), .int (nI 3), .ref (g 44), .int (nI na)] := (o_1 43 (by decide)).trans har
      have had : f_1 44 = eI G (20 * 3) da := (o_1 44 (by decide)).trans had
      have htr : f_1 45 = eO 5 [.int (nI 10), .int (nI 70), .ref (g 46), .int (nI nt)] := (o_1 45 (by decide)).trans htr
      have hct : f_1 46 = eI G (10 * 70) ct := (o_1 46 (by decide)).trans hct
      have hla : f_1 47 = eO 6 [.ref (g 48), .ref (g 49)] := (o_1 47 (by decide)).trans hla
      have hlaa : f_1 48 = eA G 5 20 lf := (o_1 48 (by decide)).trans hlaa
      have hts0 : f_1 112 = eO 6 [.ref (g 113), .ref (g 114)] := (o_1 112 (by decide)).trans hts0
      have htsa : f_1 113 = eA G 5 4 tf := (o_1 113 (by decide)).trans htsa
      have hH : ∀ i, i < 10 → okH G g f_1 (2 * i + 16) := fun z hz => okH_fr (hH z hz) (o_1 _ (by omega)) (o_1 _ (by omega))
      have hS : okH G g f_1 13 := okH_fr hS (o_1 _ (by omega)) (o_1 _ (by omega))
      have hL : ∀ i, i < 20 → okT G g f_1 (3 * i + 52) := fun z hz => okT_fr (hL z hz) (o_1 _ (by omega)) (o_1 _ (by omega)) (o_1 _ (by omega))
      have hT : ∀ i, i < 4 → okT G g f_1 (3 * i + 117) := fun z hz => okT_fr (hT z hz) (o_1 _ (by omega)) (o_1 _ (by omega)) (o_1 _ (by omega))
      have hB1 : okB G g f_1 129 := okB_fr hB1 (fun j _ _ => o_1 j (by omega))
      have hB2 : okB G g f_1 222 := okB_fr hB2 (fun j _ _ => o_1 j (by omega))
      refine lv_aload_n hx hb dX10_sums_32 rfl (lv_at hl 0 rfl) ?_
      refine va_get (D := G.1) (ci := 9) (v := .ref (g 36)) (C := RX10) (T := TX10) (N := 7) hx hb hts inlX10 hown hG.1 hP 0 (wl_at (by decide) hx0) rfl 1 (by decide) (hts (.fieldLink RX10 20 "SwornLists" "book" "LSwornLists$Book;") w_16) (fun _ h9 => h9) rfl dX10_sums_33 ?_
      refine lv_iload_n hx hb dX10_sums_36 rfl (lv_at hl 2 rfl) ?_
      refine va_putN (D := G.1) (ci := 0) (v := .int a2) (ty := .int) (C := RX0) (T := TX0) (N := 9) (host := RX10) hx hb hts inlX0 tyX0 tyX0_ok nmX0 hown hG.1 hP (wl_D hg f_1) hS 36 (wl_at (by decide) hbk) rfl 8 (by decide) (va_Nw.use rfl (hG.2.1 (.fieldLinkNest RX10 204 RX0 "fine" "I" RX10) (List.mem_of_getElem? (i := 11) rfl))) (fun _ h9 => h9) rfl (by decide +kernel) rfl rfl (Nat.le_of_ble_eq_true rfl) dX10_sums_37 (fun H locs hP _ hS => ?_)
      obtain ⟨f_2, hP, e_2, o_2⟩ := b_put (by decide) hP
      have hbk : f_2 36 = eO 0 [.ref (g 37), .ref (g 39), .ref (g 41), .ref (g 43), .ref (g 45), .ref (g 47), .ref (g 112), .int a1, .int a2] := e_2
      have hx0 : f_2 0 = eO 9 [.ref (g 1), .ref (g 36), .ref (g 2), .ref (g 3), .ref (g 4), .ref (g 6), .ref (g 7)] := (o_2 0 (by decide)).trans hx0
      have hctc : f_2 1 = eO 1 [.ref (g 36), .ref (g 12), .ref (g 13), .ref (g 15), .int (nI se)] := (o_2 1 (by decide)).trans hctc
      have hhs : f_2 12 = eA G 4 10 hf := (o_2 12 (by decide)).trans hhs
      have him : f_2 2 = eA G 3 2 imf := (o_2 2 (by decide)).trans him
      have hkp : f_2 3 = eZ G 2 kf := (o_2 3 (by decide)).trans hkp
      have hrd : f_2 4 = eO 4 [.ref (g 5), .int (nI mc), .int op, .int cm, .int wu] := (o_2 4 (by decide)).trans hrd
      have hmk : f_2 5 = eI G 50 mk := (o_2 5 (by decide)).trans hmk
      have hfc6 : f_2 6 = eO 2 [.long ab, .long be] := (o_2 6 (by decide)).trans hfc6
      have hwt : f_2 7 = eO 8 [.ref (g 8), .ref (g 9), .ref (g 10), .ref (g 11), .int (nI mn), .int le] := (o_2 7 (by decide)).trans hwt
      have hw8 : f_2 8 = eI G 6 wt := (o_2 8 (by decide)).trans hw8
      have hw9 : f_2 9 = eI G 6 ww := (o_2 9 (by decide)).trans hw9
      have hw10 : f_2 10 = eI G 6 wb := (o_2 10 (by decide)).trans hw10
      have hw11 : f_2 11 = eI G 6 wf := (o_2 11 (by decide)).trans hw11
      have hvl : f_2 15 = eJ G 50 vv := (o_2 15 (by decide)).trans hvl
      have hpr : f_2 37 = eO 5 [.int (nI 30), .int (nI 4), .ref (g 38), .int (nI np)] := (o_2 37 (by decide)).trans hpr
      have hpd : f_2 38 = eI G (30 * 4) dp := (o_2 38 (by decide)).trans hpd
      have hfr : f_2 39 = eO 5 [.int (nI 40), .int (nI 3), .ref (g 40), .int (nI nf)] := (o_2 39 (by decide)).trans hfr
      have hfd : f_2 40 = eI G (40 * 3) df := (o_2 40 (by decide)).trans hfd
      have hor : f_2 41 = eO 5 [.int (nI 4), .int (nI 3), .ref (g 42), .int (nI nr)] := (o_2 41 (by decide)).trans hor
      have hod : f_2 42 = eI G (4 * 3) dr := (o_2 42 (by decide)).trans hod
      have har : f_2 43 = eO 5 [.int (nI 20), .int (nI 3), .ref (g 44), .int (nI na)] := (o_2 43 (by decide)).trans har
      have had : f_2 44 = eI G (20 * 3) da := (o_2 44 (by decide)).trans had
      have htr : f_2 45 = eO 5 [.int (nI 10), .int (nI 70), .ref (g 46), .int (nI nt)] := (o_2 45 (by decide)).trans htr
      have hct : f_2 46 = eI G (10 * 70) ct := (o_2 46 (by decide)).trans hct
      have hla : f_2 47 = eO 6 [.ref (g 48), .ref (g 49)] := (o_2 47 (by decide)).trans hla
      have hlaa : f_2 48 = eA G 5 20 lf := (o_2 48 (by decide)).trans hlaa
      have hts0 : f_2 112 = eO 6 [.ref (g 113), .ref (g 114)] := (o_2 112 (by decide)).trans hts0
      have htsa : f_2 113 = eA G 5 4 tf := (o_2 113 (by decide)).trans htsa
      have hH : ∀ i, i < 10 → okH G g f_2 (2 * i + 16) := fun z hz => okH_fr (hH z hz) (o_2 _ (by omega)) (o_2 _ (by omega))
      have hS : okH G g f_2 13 := okH_fr hS (o_2 _ (by omega)) (o_2 _ (by omega))
      have hL : ∀ i, i < 20 → okT G g f_2 (3 * i + 52) := fun z hz => okT_fr (hL z hz) (o_2 _ (by omega)) (o_2 _ (by omega)) (o_2 _ (by omega))
      have hT : ∀ i, i < 4 → okT G g f_2 (3 * i + 117) := fun z hz => okT_fr (hT z hz) (o_2 _ (by omega)) (o_2 _ (by omega)) (o_2 _ (by omega))
      have hB1 : okB G g f_2 129 := okB_fr hB1 (fun j _ _ => o_2 j (by omega))
      have hB2 : okB G g f_2 222 := okB_fr hB2 (fun j _ _ => o_2 j (by omega))
      refine lv_iconst (v := 1) hx hb dX10_sums_40 (by decide) ?_
      exact W.iret (v := 1) hx hb hr (fun t ht hW => ⟨⟨_, f_2, rfl, (⟨⟨se, hf, imf, kf, mc, op, cm, wu, mk, ab, be, mn, le, wt, ww, wb, wf, vv, a1, a2, np, dp, nf, df, nr, dr, na, da, nt, ct, lf, tf, hx0, hctc, hhs, him, hkp, hrd, hmk, hfc6, hwt, hw8, hw9, hw10, hw11, hvl, hbk, hpr, hpd, hfr, hfd, hor, hod, har, had, htr, hct, hla, hlaa, hts0, htsa, by omega, hhf, him0, him1, by omega, by omega, by omega, by omega, by omega, by omega, by omega, hlf, htf, hH, hS, hL, hT, hB1, hB2⟩, fun j hj => ((o_2 j (by omega))).trans (o_1 j (by omega))⟩), by rw [ht]; exact hP⟩, hS.F ht⟩) hS.2.2 dX10_sums_41
    · refine lv_bipush (v := (-2)) hx hb dX10_sums_21 (by decide) ?_
      exact W.iret (v := (-2)) hx hb hr (fun t ht hW => ⟨⟨_, f, rfl, (⟨⟨se, hf, imf, kf, mc, op, cm, wu, mk, ab, be, mn, le, wt, ww, wb, wf, vv, pay, fine, np, dp, nf, df, nr, dr, na, da, nt, ct, lf, tf, hx0, hctc, hhs, him, hkp, hrd, hmk, hfc6, hwt, hw8, hw9, hw10, hw11, hvl, hbk, hpr, hpd, hfr, hfd, hor, hod, har, had, htr, hct, hla, hlaa, hts0, htsa, by omega, hhf, him0, him1, by omega, by omega, by omega, by omega, by omega, by omega, by omega, hlf, htf, hH, hS, hL, hT, hB1, hB2⟩, fun j hj => rfl⟩), by rw [ht]; exact hP⟩, hS.F ht⟩) hS.2.2 dX10_sums_23
set_option maxHeartbeats 4000000 in
set_option maxRecDepth 100000 in
theorem m_strikeOut (l : Launch) (G : gW) (g : Nat → Nat) (hg : gOK g) (f : Nat → va_E) (a1 : Int32) (a2 : Int32)  (hI : cI G g f) : Met l yX10_strikeOut (wsT yX10_strikeOut cX10_strikeOut 3 (some .int)) ({ frames := 2, cells := 0, slots := 0, locals := 42 }) (bP G g f [.ref (g 0), .int a1, .int a2]) (bQi G g (fun (z9 : Int32) (f' : Nat → va_E) => (cI G g f') ∧ ∀ j, 315 ≤ j → f' j = f j)) 0 0 (gA g) := by
  refine Met.ofW (cc := cX10_strikeOut) (maxL := 3) (ret := (some .int)) (by decide) rfl ?_
  intro p e s m args below meth c s₁ B hml hv
  obtain ⟨rfl, hP, hG⟩ := hv
  have hx := B.exec
  have hb := B.bytes
  have hr := B.returns
  have hts := my_hts (atoms_spec (ws := wsT yX10_strikeOut cX10_strikeOut 3 (some .int)) B.pre)
  have hown : s.vm.findClass RX10 = some m.cls := findClass_of_methodNamed B.named
  have hlocks := B.notSynchronized
  have hS : va_S (gA g) s.heap s.heap [] := va_S.rf
  have hl := lv_entry ([.ref (g 0), .int a1, .int a2]) (n := 3) (Nat.le_of_ble_eq_true rfl)
  rw [lg_entry_eq]
  generalize (lg_sl ([.ref (g 0), .int a1, .int a2]) ++ List.replicate (3 - (lg_sl ([.ref (g 0), .int a1, .int a2])).length) Slot.unset).toArray = ls at hl ⊢
  have hl : lv_has ls 3 [(0, .ref (g 0)), (1, .int a1), (2, .int a2)] := hl
  obtain ⟨se, hf, imf, kf, mc, op, cm, wu, mk, ab, be, mn, le, wt, ww, wb, wf, vv, pay, fine, np, dp, nf, df, nr, dr, na, da, nt, ct, lf, tf, hx0, hctc, hhs, him, hkp, hrd, hmk, hfc6, hwt, hw8, hw9, hw10, hw11, hvl, hbk, hpr, hpd, hfr, hfd, hor, hod, har, had, htr, hct, hla, hlaa, hts0, htsa, hse, hhf, him0, him1, hmc, hmn, hnp, hnf, hnr, hna, hnt, hlf, htf, hH, hS, hL, hT, hB1, hB2⟩ := hI
  refine lv_aload_n hx hb dX10_strikeOut_0 rfl (lv_at hl 0 rfl) ?_
  refine va_get (D := G.1) (ci := 9) (v := .ref (g 36)) (C := RX10) (T := TX10) (N := 7) hx hb hts inlX10 hown hG.1 hP 0 (wl_at (by decide) hx0) rfl 1 (by decide) (hts (.fieldLink RX10 20 "SwornLists" "book" "LSwornLists$Book;") w_16) (fun _ h9 => h9) rfl dX10_strikeOut_1 ?_
  refine va_getN (D := G.1) (ci := 0) (v := .ref (g 43)) (C := RX0) (T := TX0) (N := 9) (host := RX10) hx hb hts inlX0 hown hG.1 hP 36 (wl_at (by decide) hbk) rfl 3 (by decide) (va_Nw.use rfl (hG.2.1 (.fieldLinkNest RX10 134 RX0 "acts" "LSwornLists$Rows;" RX10) (List.mem_of_getElem? (i := 4) rfl))) (fun _ h9 => h9) rfl dX10_strikeOut_4 ?_
  refine lv_iload_n hx hb dX10_strikeOut_7 rfl (lv_at hl 1 rfl) ?_
  refine rd_calli (va_runV (As := [.int a1]) (rest := []) ⟨hx, hb, hml, hown, hts⟩ (r_has l G g hg f 43 20 3 na a1 har (by first | assumption | omega | decide) (by first | assumption | omega | decide) (by first | assumption | omega | decide) (by first | assumption | omega | decide)) (my_cwV hts ok_X5_has w_174 rfl rfl ⟨Nat.le_of_ble_eq_true rfl, Nat.le_of_ble_eq_true rfl⟩) ⟨bP.blind, va_recv hG.1 hP (ci := 5) (q0 := 43) rfl (wl_at (by decide) har), fun U hU hW => ⟨rfl, by rw [hU]; exact hP, kG.warm hW hG⟩⟩ rfl rfl hl.1 rfl (lv_room (Nat.le_of_ble_eq_true rfl)) dX10_strikeOut_8 ⟨Nat.le_of_ble_eq_true rfl, Nat.le_of_ble_eq_true rfl⟩) (fun r hr9 => ?_)
  subst hr9
  refine my_ifeq (tgt := 21) hx hb dX10_strikeOut_11 (by decide) (fun c_11 => ?_) (fun c_11 => ?_)
  · refine lv_bipush (v := (-2)) hx hb dX10_strikeOut_21 (by decide) ?_
    exact W.iret (v := (-2)) hx hb hr (fun t ht hW => ⟨⟨_, f, rfl, (⟨⟨se, hf, imf, kf, mc, op, cm, wu, mk, ab, be, mn, le, wt, ww, wb, wf, vv, pay, fine, np, dp, nf, df, nr, dr, na, da, nt, ct, lf, tf, hx0, hctc, hhs, him, hkp, hrd, hmk, hfc6, hwt, hw8, hw9, hw10, hw11, hvl, hbk, hpr, hpd, hfr, hfd, hor, hod, har, had, htr, hct, hla, hlaa, hts0, htsa, by omega, hhf, him0, him1, by omega, by omega, by omega, by omega, by omega, by omega, by omega, hlf, htf, hH, hS, hL, hT, hB1, hB2⟩, fun j hj => rfl⟩), by rw [ht]; exact hP⟩, hS.F ht⟩) hS.2.2 dX10_strikeOut_23
  · refine lv_iload_n hx hb dX10_strikeOut_14 rfl (lv_at hl 2 rfl) ?_
    refine rd_calli (va_runS (As := [.int a2]) (rest := []) ⟨hx, hb, hml, hown, hts⟩ (s_isDay l G g hg f a2  ) (my_cwS hts ok_X10_isDay w_178 rfl rfl ⟨Nat.le_of_ble_eq_true rfl, Nat.le_of_ble_eq_true rfl⟩) ⟨bP.blind, fun U hU hW => ⟨rfl, by rw [hU]; exact hP, kG.warm hW hG⟩⟩ rfl rfl hl.1 rfl (lv_room (Nat.le_of_ble_eq_true rfl)) dX10_strikeOut_15 ⟨Nat.le_of_ble_eq_true rfl, Nat.le_of_ble_eq_true rfl⟩) (fun r hr9 => ?_)
    subst hr9
    refine my_ifne (tgt := 24) hx hb dX10_strikeOut_18 (by decide) (fun c_18 => ?_) (fun c_18 => ?_)
    · refine lv_aload_n hx hb dX10_strikeOut_24 rfl (lv_at hl 0 rfl) ?_
      refine va_get (D := G.1) (ci := 9) (v := .ref (g 36)) (C := RX10) (T := TX10) (N := 7) hx hb hts inlX10 hown hG.1 hP 0 (wl_at (by decide) hx0) rfl 1 (by decide) (hts (.fieldLink RX10 20 "SwornLists" "book" "LSwornLists$Book;") w_16) (fun _ h9 => h9) rfl dX10_strikeOut_25 ?_
      refine va_getN (D := G.1) (ci := 0) (v := .ref (g 43)) (C := RX0) (T := TX0) (N := 9) (host := RX10) hx hb hts inlX0 hown hG.1 hP 36 (wl_at (by decide) hbk) rfl 3 (by decide) (va_Nw.use rfl (hG.2.1 (.fieldLinkNest RX10 134 RX0 "acts" "LSwornLists$Rows;" RX10) (List.mem_of_getElem? (i := 4) rfl))) (fun _ h9 => h9) rfl dX10_strikeOut_28 ?_
      refine lv_iload_n hx hb dX10_strikeOut_31 rfl (lv_at hl 1 rfl) ?_
      refine lv_iconst (v := 2) hx hb dX10_strikeOut_32 (by decide) ?_
      refine rd_calli (va_runV (As := [.int a1, .int 2]) (rest := []) ⟨hx, hb, hml, hown, hts⟩ (r_at l G g hg f 43 20 3 na da a1 2 har had (by first | assumption | omega | decide) (by first | assumption | omega | decide) (by first | assumption | omega | decide) (by first | assumption | omega | decide)) (my_cwV hts ok_X5_at w_610 rfl rfl ⟨Nat.le_of_ble_eq_true rfl, Nat.le_of_ble_eq_true rfl⟩) ⟨bP.blind, va_recv hG.1 hP (ci := 5) (q0 := 43) rfl (wl_at (by decide) har), fun U hU hW => ⟨rfl, by rw [hU]; exact hP, kG.warm hW hG⟩⟩ rfl rfl hl.1 rfl (lv_room (Nat.le_of_ble_eq_true rfl)) dX10_strikeOut_33 ⟨Nat.le_of_ble_eq_true rfl, Nat.le_of_ble_eq_true rfl⟩) (fun r hr9 => ?_)
      subst hr9
      refine lv_iconst (v := (-1)) hx hb dX10_strikeOut_36 (by decide) ?_
      refine lv_icmp_eq (tgt := 43) hx hb dX10_strikeOut_37 (by decide) (fun c_37 => ?_) (fun c_37 => ?_)
      · refine lv_aload_n hx hb dX10_strikeOut_43 rfl (lv_at hl 0 rfl) ?_
        refine va_get (D := G.1) (ci := 9) (v := .ref (g 36)) (C := RX10) (T := TX10) (N := 7) hx hb hts inlX10 hown hG.1 hP 0 (wl_at (by decide) hx0) rfl 1 (by decide) (hts (.fieldLink RX10 20 "SwornLists" "book" "LSwornLists$Book;") w_16) (fun _ h9 => h9) rfl dX10_strikeOut_44 ?_
        refine va_getN (D := G.1) (ci := 0) (v := .ref (g 43)) (C := RX0) (T := TX0) (N := 9) (host := RX10) hx hb hts inlX0 hown hG.1 hP 36 (wl_at (by decide) hbk) rfl 3 (by decide) (va_Nw.use rfl (hG.2.1 (.fieldLinkNest RX10 134 RX0 "acts" "LSwornLists$Rows;" RX10) (List.mem_of_getElem? (i := 4) rfl))) (fun _ h9 => h9) rfl dX10_strikeOut_47 ?_
        refine lv_iload_n hx hb dX10_strikeOut_50 rfl (lv_at hl 1 rfl) ?_
        refine lv_iconst (v := 2) hx hb dX10_strikeOut_51 (by decide) ?_
        refine lv_iload_n hx hb dX10_strikeOut_52 rfl (lv_at hl 2 rfl) ?_
        refine b_callv (va_runV (As := [.int a1, .int 2, .int a2]) (rest := []) ⟨hx, hb, hml, hown, hts⟩ (r_set l G g hg f 43 20 3 na da a1 2 a2 har had (by first | assumption | omega | decide) (by first | assumption | omega | decide) (by first | assumption | omega | decide) (by first | assumption | omega | decide) (by first | assumption | omega | decide) (by first | assumption | omega | decide)) (my_cwV hts ok_X5_set w_142 rfl rfl ⟨Nat.le_of_ble_eq_true rfl, Nat.le_of_ble_eq_true rfl⟩) ⟨bP.blind, va_recv hG.1 hP (ci := 5) (q0 := 43) rfl (wl_at (by decide) har), fun U hU hW => ⟨rfl, by rw [hU]; exact hP, kG.warm hW hG⟩⟩ rfl rfl hl.1 rfl (lv_room (Nat.le_of_ble_eq_true rfl)) dX10_strikeOut_53 ⟨Nat.le_of_ble_eq_true rfl, Nat.le_of_ble_eq_true rfl⟩) hS (fun f_1 H locs hq9 hP hS => ?_)
        obtain ⟨hq_1_0, o_1⟩ := hq9
        have hx0 : f_1 0 = eO 9 [.ref (g 1), .ref (g 36), .ref (g 2), .ref (g 3), .ref (g 4), .ref (g 6), .ref (g 7)] := (o_1 0 (by omega)).trans hx0
        have hctc : f_1 1 = eO 1 [.ref (g 36), .ref (g 12), .ref (g 13), .ref (g 15), .int (nI se)] := (o_1 1 (by omega)).trans hctc
        have hhs : f_1 12 = eA G 4 10 hf := (o_1 12 (by omega)).trans hhs
        have him : f_1 2 = eA G 3 2 imf := (o_1 2 (by omega)).trans him
        have hkp : f_1 3 = eZ G 2 kf := (o_1 3 (by omega)).trans hkp
        have hrd : f_1 4 = eO 4 [.ref (g 5), .int (nI mc), .int op, .int cm, .int wu] := (o_1 4 (by omega)).trans hrd
        have hmk : f_1 5 = eI G 50 mk := (o_1 5 (by omega)).trans hmk
        have hfc6 : f_1 6 = eO 2 [.long ab, .long be] := (o_1 6 (by omega)).trans hfc6
        have hwt : f_1 7 = eO 8 [.ref (g 8), .ref (g 9), .ref (g 10), .ref (g 11), .int (nI mn), .int le] := (o_1 7 (by omega)).trans hwt
        have hw8 : f_1 8 = eI G 6 wt := (o_1 8 (by omega)).trans hw8
        have hw9 : f_1 9 = eI G 6 ww := (o_1 9 (by omega)).trans hw9
        have hw10 : f_1 10 = eI G 6 wb := (o_1 10 (by omega)).trans hw10
        have hw11 : f_1 11 = eI G 6 wf := (o_1 11 (by omega)).trans hw11
        have hvl : f_1 15 = eJ G 50 vv := (o_1 15 (by omega)).trans hvl
        have hbk : f_1 36 = eO 0 [.ref (g 37), .ref (g 39), .ref (g 41), .ref (g 43), .ref (g 45), .ref (g 47), .ref (g 112), .int pay, .int fine] := (o_1 36 (by omega)).trans hbk
        have hpr : f_1 37 = eO 5 [.int (nI 30), .int (nI 4), .ref (g 38), .int (nI np)] := (o_1 37 (by omega)).trans hpr
        have hpd : f_1 38 = eI G (30 * 4) dp := (o_1 38 (by omega)).trans hpd
        have hfr : f_1 39 = eO 5 [.int (nI 40), .int (nI 3), .ref (g 40), .int (nI nf)] := (o_1 39 (by omega)).trans hfr
        have hfd : f_1 40 = eI G (40 * 3) df := (o_1 40 (by omega)).trans hfd
        have hor : f_1 41 = eO 5 [.int (nI 4), .int (nI 3), .ref (g 42), .int (nI nr)] := (o_1 41 (by omega)).trans hor
        have hod : f_1 42 = eI G (4 * 3) dr := (o_1 42 (by omega)).trans hod
        have har : f_1 43 = eO 5 [.int (nI 20), .int (nI 3), .ref (g 44), .int (nI na)] := (o_1 43 (by omega)).trans har
        have htr : f_1 45 = eO 5 [.int (nI 10), .int (nI 70), .ref (g 46), .int (nI nt)] := (o_1 45 (by omega)).trans htr
        have hct : f_1 46 = eI G (10 * 70) ct := (o_1 46 (by omega)).trans hct
        have hla : f_1 47 = eO 6 [.ref (g 48), .ref (g 49)] := (o_1 47 (by omega)).trans hla
        have hlaa : f_1 48 = eA G 5 20 lf := (o_1 48 (by omega)).trans hlaa
        have hts0 : f_1 112 = eO 6 [.ref (g 113), .ref (g 114)] := (o_1 112 (by omega)).trans hts0
        have htsa : f_1 113 = eA G 5 4 tf := (o_1 113 (by omega)).trans htsa
        have had : f_1 44 = eI G (20 * 3) (upd da (Int32.toNatClampNeg (a1 * nI 3 + 2)) a2) := hq_1_0
        have hH : ∀ i, i < 10 → okH G g f_1 (2 * i + 16) := fun z hz => okH_fr (hH z hz) (o_1 _ (by omega)) (o_1 _ (by omega))
        have hS : okH G g f_1 13 := okH_fr hS (o_1 _ (by omega)) (o_1 _ (by omega))
        have hL : ∀ i, i < 20 → okT G g f_1 (3 * i + 52) := fun z hz => okT_fr (hL z hz) (o_1 _ (by omega)) (o_1 _ (by omega)) (o_1 _ (by omega))
        have hT : ∀ i, i < 4 → okT G g f_1 (3 * i + 117) := fun z hz => okT_fr (hT z hz) (o_1 _ (by omega)) (o_1 _ (by omega)) (o_1 _ (by omega))
        have hB1 : okB G g f_1 129 := okB_fr hB1 (fun j _ _ => o_1 j (by omega))
        have hB2 : okB G g f_1 222 := okB_fr hB2 (fun j _ _ => o_1 j (by omega))
        refine lv_aload_n hx hb dX10_strikeOut_56 rfl (lv_at hl 0 rfl) ?_
        refine va_get (D := G.1) (ci := 9) (v := .ref (g 1)) (C := RX10) (T := TX10) (N := 7) hx hb hts inlX10 hown hG.1 hP 0 (wl_at (by decide) hx0) rfl 0 (by decide) (hts (.fieldLink RX10 12 "SwornLists" "court" "LSwornLists$Court;") w_15) (fun _ h9 => h9) rfl dX10_strikeOut_57 ?_
        refine lv_iconst (v := 0) hx hb dX10_strikeOut_60 (by decide) ?_
        refine b_callv (va_runV (As := [.int 0]) (rest := []) ⟨hx, hb, hml, hown, hts⟩ (u_unsettle l G g hg f_1 se 0 hctc (by first | assumption | omega | decide) (by first | assumption | omega | decide)) (my_cwV hts ok_X1_unsettle w_146 rfl rfl ⟨Nat.le_of_ble_eq_true rfl, Nat.le_of_ble_eq_true rfl⟩) ⟨bP.blind, va_recv hG.1 hP (ci := 1) (q0 := 1) rfl (wl_at (by decide) hctc), fun U hU hW => ⟨rfl, by rw [hU]; exact hP, kG.warm hW hG⟩⟩ rfl rfl hl.1 rfl (lv_room (Nat.le_of_ble_eq_true rfl)) dX10_strikeOut_61 ⟨Nat.le_of_ble_eq_true rfl, Nat.le_of_ble_eq_true rfl⟩) hS (fun f_2 H locs hq9 hP hS => ?_)
        obtain ⟨hq_2_0, o_2⟩ := hq9
        have hx0 : f_2 0 = eO 9 [.ref (g 1), .ref (g 36), .ref (g 2), .ref (g 3), .ref (g 4), .ref (g 6), .ref (g 7)] := (o_2 0 (by omega)).trans hx0
        have hhs : f_2 12 = eA G 4 10 hf := (o_2 12 (by omega)).trans hhs
        have him : f_2 2 = eA G 3 2 imf := (o_2 2 (by omega)).trans him
        have hkp : f_2 3 = eZ G 2 kf := (o_2 3 (by omega)).trans hkp
        have hrd : f_2 4 = eO 4 [.ref (g 5), .int (nI mc), .int op, .int cm, .int wu] := (o_2 4 (by omega)).trans hrd
        have hmk : f_2 5 = eI G 50 mk := (o_2 5 (by omega)).trans hmk
        have hfc6 : f_2 6 = eO 2 [.long ab, .long be] := (o_2 6 (by omega)).trans hfc6
        have hwt : f_2 7 = eO 8 [.ref (g 8), .ref (g 9), .ref (g 10), .ref (g 11), .int (nI mn), .int le] := (o_2 7 (by omega)).trans hwt
        have hw8 : f_2 8 = eI G 6 wt := (o_2 8 (by omega)).trans hw8
        have hw9 : f_2 9 = eI G 6 ww := (o_2 9 (by omega)).trans hw9
        have hw10 : f_2 10 = eI G 6 wb := (o_2 10 (by omega)).trans hw10
        have hw11 : f_2 11 = eI G 6 wf := (o_2 11 (by omega)).trans hw11
        have hvl : f_2 15 = eJ G 50 vv := (o_2 15 (by omega)).trans hvl
        have hbk : f_2 36 = eO 0 [.ref (g 37), .ref (g 39), .ref (g 41), .ref (g 43), .ref (g 45), .ref (g 47), .ref (g 112), .int pay, .int fine] := (o_2 36 (by omega)).trans hbk
        have hpr : f_2 37 = eO 5 [.int (nI 30), .int (nI 4), .ref (g 38), .int (nI np)] := (o_2 37 (by omega)).trans hpr
        have hpd : f_2 38 = eI G (30 * 4) dp := (o_2 38 (by omega)).trans hpd
        have hfr : f_2 39 = eO 5 [.int (nI 40), .int (nI 3), .ref (g 40), .int (nI nf)] := (o_2 39 (by omega)).trans hfr
        have hfd : f_2 40 = eI G (40 * 3) df := (o_2 40 (by omega)).trans hfd
        have hor : f_2 41 = eO 5 [.int (nI 4), .int (nI 3), .ref (g 42), .int (nI nr)] := (o_2 41 (by omega)).trans hor
        have hod : f_2 42 = eI G (4 * 3) dr := (o_2 42 (by omega)).trans hod
        have har : f_2 43 = eO 5 [.int (nI 20), .int (nI 3), .ref (g 44), .int (nI na)] := (o_2 43 (by omega)).trans har
        have had : f_2 44 = eI G (20 * 3) (upd da (Int32.toNatClampNeg (a1 * nI 3 + 2)) a2) := (o_2 44 (by omega)).trans had
        have htr : f_2 45 = eO 5 [.int (nI 10), .int (nI 70), .ref (g 46), .int (nI nt)] := (o_2 45 (by omega)).trans htr
        have hct : f_2 46 = eI G (10 * 70) ct := (o_2 46 (by omega)).trans hct
        have hla : f_2 47 = eO 6 [.ref (g 48), .ref (g 49)] := (o_2 47 (by omega)).trans hla
        have hlaa : f_2 48 = eA G 5 20 lf := (o_2 48 (by omega)).trans hlaa
        have hts0 : f_2 112 = eO 6 [.ref (g 113), .ref (g 114)] := (o_2 112 (by omega)).trans hts0
        have htsa : f_2 113 = eA G 5 4 tf := (o_2 113 (by omega)).trans htsa
        have hctc : f_2 1 = eO 1 [.ref (g 36), .ref (g 12), .ref (g 13), .ref (g 15), .int (nI (min se 0))] := hq_2_0
        have hH : ∀ i, i < 10 → okH G g f_2 (2 * i + 16) := fun z hz => okH_fr (hH z hz) (o_2 _ (by omega)) (o_2 _ (by omega))
        have hS : okH G g f_2 13 := okH_fr hS (o_2 _ (by omega)) (o_2 _ (by omega))
        have hL : ∀ i, i < 20 → okT G g f_2 (3 * i + 52) := fun z hz => okT_fr (hL z hz) (o_2 _ (by omega)) (o_2 _ (by omega)) (o_2 _ (by omega))
        have hT : ∀ i, i < 4 → okT G g f_2 (3 * i + 117) := fun z hz => okT_fr (hT z hz) (o_2 _ (by omega)) (o_2 _ (by omega)) (o_2 _ (by omega))
        have hB1 : okB G g f_2 129 := okB_fr hB1 (fun j _ _ => o_2 j (by omega))
        have hB2 : okB G g f_2 222 := okB_fr hB2 (fun j _ _ => o_2 j (by omega))
        refine lv_iconst (v := 1) hx hb dX10_strikeOut_64 (by decide) ?_
        exact W.iret (v := 1) hx hb hr (fun t ht hW => ⟨⟨_, f_2, rfl, (⟨⟨(min se 0), hf, imf, kf, mc, op, cm, wu, mk, ab, be, mn, le, wt, ww, wb, wf, vv, pay, fine, np, dp, nf, df, nr, dr, na, (upd da (Int32.toNatClampNeg (a1 * nI 3 + 2)) a2), nt, ct, lf, tf, hx0, hctc, hhs, him, hkp, hrd, hmk, hfc6, hwt, hw8, hw9, hw10, hw11, hvl, hbk, hpr, hpd, hfr, hfd, hor, hod, har, had, htr, hct, hla, hlaa, hts0, htsa, by omega, hhf, him0, him1, by omega, by omega, by omega, by omega, by omega, by omega, by omega, hlf, htf, hH, hS, hL, hT, hB1, hB2⟩, fun j hj => ((o_2 j (by omega))).trans (o_1 j (by omega))⟩), by rw [ht]; exact hP⟩, hS.F ht⟩) hS.2.2 dX10_strikeOut_65
      · refine lv_bipush (v := (-3)) hx hb dX10_strikeOut_40 (by decide) ?_
        exact W.iret (v := (-3)) hx hb hr (fun t ht hW => ⟨⟨_, f, rfl, (⟨⟨se, hf, imf, kf, mc, op, cm, wu, mk, ab, be, mn, le, wt, ww, wb, wf, vv, pay, fine, np, dp, nf, df, nr, dr, na, da, nt, ct, lf, tf, hx0, hctc, hhs, him, hkp, hrd, hmk, hfc6, hwt, hw8, hw9, hw10, hw11, hvl, hbk, hpr, hpd, hfr, hfd, hor, hod, har, had, htr, hct, hla, hlaa, hts0, htsa, by omega, hhf, him0, him1, by omega, by omega, by omega, by omega, by omega, by omega, by omega, hlf, htf, hH, hS, hL, hT, hB1, hB2⟩, fun j hj => rfl⟩), by rw [ht]; exact hP⟩, hS.F ht⟩) hS.2.2 dX10_strikeOut_42
    · refine lv_bipush (v := (-2)) hx hb dX10_strikeOut_21 (by decide) ?_
      exact W.iret (v := (-2)) hx hb hr (fun t ht hW => ⟨⟨_, f, rfl, (⟨⟨se, hf, imf, kf, mc, op, cm, wu, mk, ab, be, mn, le, wt, ww, wb, wf, vv, pay, fine, np, dp, nf, df, nr, dr, na, da, nt, ct, lf, tf, hx0, hctc, hhs, him, hkp, hrd, hmk, hfc6, hwt, hw8, hw9, hw10, hw11, hvl, hbk, hpr, hpd, hfr, hfd, hor, hod, har, had, htr, hct, hla, hlaa, hts0, htsa, by omega, hhf, him0, him1, by omega, by omega, by omega, by omega, by omega, by omega, by omega, hlf, htf, hH, hS, hL, hT, hB1, hB2⟩, fun j hj => rfl⟩), by rw [ht]; exact hP⟩, hS.F ht⟩) hS.2.2 dX10_strikeOut_23
set_option maxHeartbeats 4000000 in
set_option maxRecDepth 100000 in
theorem m_force (l : Launch) (G : gW) (g : Nat → Nat) (hg : gOK g) (f : Nat → va_E) (a1 : Int32) (a2 : Int32)  (hI : cI G g f) : Met l yX10_force (wsT yX10_force cX10_force 3 (some .int)) ({ frames := 2, cells := 0, slots := 0, locals := 49 }) (bP G g f [.ref (g 0), .int a1, .int a2]) (bQi G g (fun (z9 : Int32) (f' : Nat → va_E) => (cI G g f') ∧ ∀ j, 315 ≤ j → f' j = f j)) 0 0 (gA g) := by
  refine Met.ofW (cc := cX10_force) (maxL := 3) (ret := (some .int)) (by decide) rfl ?_
  intro p e s m args below meth c s₁ B hml hv
  obtain ⟨rfl, hP, hG⟩ := hv
  have hx := B.exec
  have hb := B.bytes
  have hr := B.returns
  have hts := my_hts (atoms_spec (ws := wsT yX10_force cX10_force 3 (some .int)) B.pre)
  have hown : s.vm.findClass RX10 = some m.cls := findClass_of_methodNamed B.named
  have hlocks := B.notSynchronized
  have hS : va_S (gA g) s.heap s.heap [] := va_S.rf
  have hl := lv_entry ([.ref (g 0), .int a1, .int a2]) (n := 3) (Nat.le_of_ble_eq_true rfl)
  rw [lg_entry_eq]
  generalize (lg_sl ([.ref (g 0), .int a1, .int a2]) ++ List.replicate (3 - (lg_sl ([.ref (g 0), .int a1, .int a2])).length) Slot.unset).toArray = ls at hl ⊢
  have hl : lv_has ls 3 [(0, .ref (g 0)), (1, .int a1), (2, .int a2)] := hl
  obtain ⟨se, hf, imf, kf, mc, op, cm, wu, mk, ab, be, mn, le, wt, ww, wb, wf, vv, pay, fine, np, dp, nf, df, nr, dr, na, da, nt, ct, lf, tf, hx0, hctc, hhs, him, hkp, hrd, hmk, hfc6, hwt, hw8, hw9, hw10, hw11, hvl, hbk, hpr, hpd, hfr, hfd, hor, hod, har, had, htr, hct, hla, hlaa, hts0, htsa, hse, hhf, him0, him1, hmc, hmn, hnp, hnf, hnr, hna, hnt, hlf, htf, hH, hS, hL, hT, hB1, hB2⟩ := hI
  refine lv_iload_n hx hb dX10_force_0 rfl (lv_at hl 1 rfl) ?_
  refine rd_calli (va_runS (As := [.int a1]) (rest := []) ⟨hx, hb, hml, hown, hts⟩ (s_isSort l G g hg f a1  ) (my_cwS hts ok_X10_isSort w_591 rfl rfl ⟨Nat.le_of_ble_eq_true rfl, Nat.le_of_ble_eq_true rfl⟩) ⟨bP.blind, fun U hU hW => ⟨rfl, by rw [hU]; exact hP, kG.warm hW hG⟩⟩ rfl rfl hl.1 rfl (lv_room (Nat.le_of_ble_eq_true rfl)) dX10_force_1 ⟨Nat.le_of_ble_eq_true rfl, Nat.le_of_ble_eq_true rfl⟩) (fun r hr9 => ?_)
  subst hr9
  refine my_ifeq (tgt := 26) hx hb dX10_force_4 (by decide) (fun c_4 => ?_) (fun c_4 => ?_)
  · refine lv_bipush (v := (-2)) hx hb dX10_force_26 (by decide) ?_
    exact W.iret (v := (-2)) hx hb hr (fun t ht hW => ⟨⟨_, f, rfl, (⟨⟨se, hf, imf, kf, mc, op, cm, wu, mk, ab, be, mn, le, wt, ww, wb, wf, vv, pay, fine, np, dp, nf, df, nr, dr, na, da, nt, ct, lf, tf, hx0, hctc, hhs, him, hkp, hrd, hmk, hfc6, hwt, hw8, hw9, hw10, hw11, hvl, hbk, hpr, hpd, hfr, hfd, hor, hod, har, had, htr, hct, hla, hlaa, hts0, htsa, by omega, hhf, him0, him1, by omega, by omega, by omega, by omega, by omega, by omega, by omega, hlf, htf, hH, hS, hL, hT, hB1, hB2⟩, fun j hj => rfl⟩), by rw [ht]; exact hP⟩, hS.F ht⟩) hS.2.2 dX10_force_28
  · refine lv_iload_n hx hb dX10_force_7 rfl (lv_at hl 2 rfl) ?_
    refine rd_calli (va_runS (As := [.int a2]) (rest := []) ⟨hx, hb, hml, hown, hts⟩ (s_isDay l G g hg f a2  ) (my_cwS hts ok_X10_isDay w_178 rfl rfl ⟨Nat.le_of_ble_eq_true rfl, Nat.le_of_ble_eq_true rfl⟩) ⟨bP.blind, fun U hU hW => ⟨rfl, by rw [hU]; exact hP, kG.warm hW hG⟩⟩ rfl rfl hl.1 rfl (lv_room (Nat.le_of_ble_eq_true rfl)) dX10_force_8 ⟨Nat.le_of_ble_eq_true rfl, Nat.le_of_ble_eq_true rfl⟩) (fun r hr9 => ?_)
    subst hr9
    refine my_ifeq (tgt := 26) hx hb dX10_force_11 (by decide) (fun c_11 => ?_) (fun c_11 => ?_)
    · refine lv_bipush (v := (-2)) hx hb dX10_force_26 (by decide) ?_
      exact W.iret (v := (-2)) hx hb hr (fun t ht hW => ⟨⟨_, f, rfl, (⟨⟨se, hf, imf, kf, mc, op, cm, wu, mk, ab, be, mn, le, wt, ww, wb, wf, vv, pay, fine, np, dp, nf, df, nr, dr, na, da, nt, ct, lf, tf, hx0, hctc, hhs, him, hkp, hrd, hmk, hfc6, hwt, hw8, hw9, hw10, hw11, hvl, hbk, hpr, hpd, hfr, hfd, hor, hod, har, had, htr, hct, hla, hlaa, hts0, htsa, by omega, hhf, him0, him1, by omega, by omega, by omega, by omega, by omega, by omega, by omega, hlf, htf, hH, hS, hL, hT, hB1, hB2⟩, fun j hj => rfl⟩), by rw [ht]; exact hP⟩, hS.F ht⟩) hS.2.2 dX10_force_28
    · refine lv_aload_n hx hb dX10_force_14 rfl (lv_at hl 0 rfl) ?_
      refine va_get (D := G.1) (ci := 9) (v := .ref (g 36)) (C := RX10) (T := TX10) (N := 7) hx hb hts inlX10 hown hG.1 hP 0 (wl_at (by decide) hx0) rfl 1 (by decide) (hts (.fieldLink RX10 20 "SwornLists" "book" "LSwornLists$Book;") w_16) (fun _ h9 => h9) rfl dX10_force_15 ?_
      refine lv_iload_n hx hb dX10_force_18 rfl (lv_at hl 1 rfl) ?_
      refine lv_iload_n hx hb dX10_force_19 rfl (lv_at hl 2 rfl) ?_
      refine rd_calli (va_runV (As := [.int a1, .int a2]) (rest := []) ⟨hx, hb, hml, hown, hts⟩ (k_inForce l G g hg f pay fine na da a1 a2 hbk har had (by first | assumption | omega | decide)) (my_cwV hts ok_X0_inForce w_619 rfl rfl ⟨Nat.le_of_ble_eq_true rfl, Nat.le_of_ble_eq_true rfl⟩) ⟨bP.blind, va_recv hG.1 hP (ci := 0) (q0 := 36) rfl (wl_at (by decide) hbk), fun U hU hW => ⟨rfl, by rw [hU]; exact hP, kG.warm hW hG⟩⟩ rfl rfl hl.1 rfl (lv_room (Nat.le_of_ble_eq_true rfl)) dX10_force_20 ⟨Nat.le_of_ble_eq_true rfl, Nat.le_of_ble_eq_true rfl⟩) (fun r hr9 => ?_)
      obtain ⟨o91, rfl, hx_1_0⟩ := hr9
      refine lv_goto (tgt := 28) hx hb dX10_force_23 (by decide) ?_
      exact W.iret (v := fo o91) hx hb hr (fun t ht hW => ⟨⟨_, f, rfl, (⟨⟨se, hf, imf, kf, mc, op, cm, wu, mk, ab, be, mn, le, wt, ww, wb, wf, vv, pay, fine, np, dp, nf, df, nr, dr, na, da, nt, ct, lf, tf, hx0, hctc, hhs, him, hkp, hrd, hmk, hfc6, hwt, hw8, hw9, hw10, hw11, hvl, hbk, hpr, hpd, hfr, hfd, hor, hod, har, had, htr, hct, hla, hlaa, hts0, htsa, by omega, hhf, him0, him1, by omega, by omega, by omega, by omega, by omega, by omega, by omega, hlf, htf, hH, hS, hL, hT, hB1, hB2⟩, fun j hj => rfl⟩), by rw [ht]; exact hP⟩, hS.F ht⟩) hS.2.2 dX10_force_28
set_option maxHeartbeats 4000000 in
set_option maxRecDepth 100000 in
theorem m_part (l : Launch) (G : gW) (g : Nat → Nat) (hg : gOK g) (f : Nat → va_E) (a1 : Int32)  (hI : cI G g f) : Met l yX10_part (wsT yX10_part cX10_part 2 (some .long)) ({ frames := 0, cells := 0, slots := 0, locals := 0 }) (bP G g f [.ref (g 0), .int a1]) (bQl G g (fun (z9 : Int64) (f' : Nat → va_E) => (cI G g f') ∧ ∀ j, 315 ≤ j → f' j = f j)) 0 0 (gA g) := by
  refine Met.ofW (cc := cX10_part) (maxL := 2) (ret := (some .long)) (by decide) rfl ?_
  intro p e s m args below meth c s₁ B hml hv
  obtain ⟨rfl, hP, hG⟩ := hv
  have hx := B.exec
  have hb := B.bytes
  have hr := B.returns
  have hts := my_hts (atoms_spec (ws := wsT yX10_part cX10_part 2 (some .long)) B.pre)
  have hown : s.vm.findClass RX10 = some m.cls := findClass_of_methodNamed B.named
  have hlocks := B.notSynchronized
  have hS : va_S (gA g) s.heap s.heap [] := va_S.rf
  have hl := lv_entry ([.ref (g 0), .int a1]) (n := 2) (Nat.le_of_ble_eq_true rfl)
  rw [lg_entry_eq]
  generalize (lg_sl ([.ref (g 0), .int a1]) ++ List.replicate (2 - (lg_sl ([.ref (g 0), .int a1])).length) Slot.unset).toArray = ls at hl ⊢
  have hl : lv_has ls 2 [(0, .ref (g 0)), (1, .int a1)] := hl
  obtain ⟨se, hf, imf, kf, mc, op, cm, wu, mk, ab, be, mn, le, wt, ww, wb, wf, vv, pay, fine, np, dp, nf, df, nr, dr, na, da, nt, ct, lf, tf, hx0, hctc, hhs, him, hkp, hrd, hmk, hfc6, hwt, hw8, hw9, hw10, hw11, hvl, hbk, hpr, hpd, hfr, hfd, hor, hod, har, had, htr, hct, hla, hlaa, hts0, htsa, hse, hhf, him0, him1, hmc, hmn, hnp, hnf, hnr, hna, hnt, hlf, htf, hH, hS, hL, hT, hB1, hB2⟩ := hI
  refine lv_iload_n hx hb dX10_part_0 rfl (lv_at hl 1 rfl) ?_
  refine lv_if_ne (tgt := 12) hx hb dX10_part_1 (by decide) (fun c_1 => ?_) (fun c_1 => ?_)
  · refine lv_iload_n hx hb dX10_part_12 rfl (lv_at hl 1 rfl) ?_
    refine lv_iconst (v := 1) hx hb dX10_part_13 (by decide) ?_
    refine lv_icmp_ne (tgt := 27) hx hb dX10_part_14 (by decide) (fun c_14 => ?_) (fun c_14 => ?_)
    · refine lv_ldc2 (v := (-1)) hx hb hown (hts (.constantLong RX10 234 (-1)) w_801) dX10_part_27 ?_
      exact W.lret (v := (-1)) hx hb hr (fun t ht hW => ⟨⟨_, f, rfl, (⟨⟨se, hf, imf, kf, mc, op, cm, wu, mk, ab, be, mn, le, wt, ww, wb, wf, vv, pay, fine, np, dp, nf, df, nr, dr, na, da, nt, ct, lf, tf, hx0, hctc, hhs, him, hkp, hrd, hmk, hfc6, hwt, hw8, hw9, hw10, hw11, hvl, hbk, hpr, hpd, hfr, hfd, hor, hod, har, had, htr, hct, hla, hlaa, hts0, htsa, by omega, hhf, him0, him1, by omega, by omega, by omega, by omega, by omega, by omega, by omega, hlf, htf, hH, hS, hL, hT, hB1, hB2⟩, fun j hj => rfl⟩), by rw [ht]; exact hP⟩, hS.F ht⟩) hS.2.2 dX10_part_30
    · refine lv_aload_n hx hb dX10_part_17 rfl (lv_at hl 0 rfl) ?_
      refine va_get (D := G.1) (ci := 9) (v := .ref (g 6)) (C := RX10) (T := TX10) (N := 7) hx hb hts inlX10 hown hG.1 hP 0 (wl_at (by decide) hx0) rfl 5 (by decide) (hts (.fieldLink RX10 41 "SwornLists" "fraction" "LSwornLists$Fraction;") w_28) (fun _ h9 => h9) rfl dX10_part_18 ?_
      refine va_getN (D := G.1) (ci := 2) (v := .long be) (C := RX2) (T := TX2) (N := 2) (host := RX10) hx hb hts inlX2 hown hG.1 hP 6 (wl_at (by decide) hfc6) rfl 1 (by decide) (va_Nw.use rfl (hG.2.1 (.fieldLinkNest RX10 231 RX2 "below" "J" RX10) (List.mem_of_getElem? (i := 20) rfl))) (fun _ h9 => h9) rfl dX10_part_21 ?_
      refine lv_goto (tgt := 30) hx hb dX10_part_24 (by decide) ?_
      exact W.lret (v := be) hx hb hr (fun t ht hW => ⟨⟨_, f, rfl, (⟨⟨se, hf, imf, kf, mc, op, cm, wu, mk, ab, be, mn, le, wt, ww, wb, wf, vv, pay, fine, np, dp, nf, df, nr, dr, na, da, nt, ct, lf, tf, hx0, hctc, hhs, him, hkp, hrd, hmk, hfc6, hwt, hw8, hw9, hw10, hw11, hvl, hbk, hpr, hpd, hfr, hfd, hor, hod, har, had, htr, hct, hla, hlaa, hts0, htsa, by omega, hhf, him0, him1, by omega, by omega, by omega, by omega, by omega, by omega, by omega, hlf, htf, hH, hS, hL, hT, hB1, hB2⟩, fun j hj => rfl⟩), by rw [ht]; exact hP⟩, hS.F ht⟩) hS.2.2 dX10_part_30
  · refine lv_aload_n hx hb dX10_part_4 rfl (lv_at hl 0 rfl) ?_
    refine va_get (D := G.1) (ci := 9) (v := .ref (g 6)) (C := RX10) (T := TX10) (N := 7) hx hb hts inlX10 hown hG.1 hP 0 (wl_at (by decide) hx0) rfl 5 (by decide) (hts (.fieldLink RX10 41 "SwornLists" "fraction" "LSwornLists$Fraction;") w_28) (fun _ h9 => h9) rfl dX10_part_5 ?_
    refine va_getN (D := G.1) (ci := 2) (v := .long ab) (C := RX2) (T := TX2) (N := 2) (host := RX10) hx hb hts inlX2 hown hG.1 hP 6 (wl_at (by decide) hfc6) rfl 0 (by decide) (va_Nw.use rfl (hG.2.1 (.fieldLinkNest RX10 227 RX2 "above" "J" RX10) (List.mem_of_getElem? (i := 19) rfl))) (fun _ h9 => h9) rfl dX10_part_8 ?_
    exact W.lret (v := ab) hx hb hr (fun t ht hW => ⟨⟨_, f, rfl, (⟨⟨se, hf, imf, kf, mc, op, cm, wu, mk, ab, be, mn, le, wt, ww, wb, wf, vv, pay, fine, np, dp, nf, df, nr, dr, na, da, nt, ct, lf, tf, hx0, hctc, hhs, him, hkp, hrd, hmk, hfc6, hwt, hw8, hw9, hw10, hw11, hvl, hbk, hpr, hpd, hfr, hfd, hor, hod, har, had, htr, hct, hla, hlaa, hts0, htsa, by omega, hhf, him0, him1, by omega, by omega, by omega, by omega, by omega, by omega, by omega, hlf, htf, hH, hS, hL, hT, hB1, hB2⟩, fun j hj => rfl⟩), by rw [ht]; exact hP⟩, hS.F ht⟩) hS.2.2 dX10_part_11

def inB (a n b : Int32) : Bool := decide (a ≤ n ∧ n ≤ b)
theorem inB_t {a n b : Int32} (h1 : ¬ n < a) (h2 : ¬ b < n) : inB a n b = true := decide_eq_true ⟨Int32.not_lt.mp h1, Int32.not_lt.mp h2⟩
theorem inB_lo {a n b : Int32} (h : n < a) : ¬ inB a n b = true := fun q => absurd (of_decide_eq_true q).1 (Int32.not_le.mpr h)
theorem inB_hi {a n b : Int32} (h : b < n) : ¬ inB a n b = true := fun q => absurd (of_decide_eq_true q).2 (Int32.not_le.mpr h)
theorem inB_z {n : Int32} : inB 0 n 0 = true ↔ n = 0 := ⟨fun q => Int32.le_antisymm (of_decide_eq_true q).2 (of_decide_eq_true q).1, fun q => by subst q; decide⟩
theorem inB_01 {n : Int32} : inB 0 n 1 = true ↔ (n = 0 ∨ n = 1) := by
  constructor
  · intro q
    obtain ⟨h1, h2⟩ := of_decide_eq_true q
    have h1 : (0 : Int) ≤ n.toInt := Int32.le_iff_toInt_le.mp h1
    have h2 : n.toInt ≤ 1 := Int32.le_iff_toInt_le.mp h2
    rcases (show n.toInt = 0 ∨ n.toInt = 1 by omega) with h | h
    · exact Or.inl (Int32.toInt_inj.mp h)
    · exact Or.inr (Int32.toInt_inj.mp h)
  · rintro (h | h) <;> subst h <;> decide
theorem andm1 (x : Int32) : x &&& (-1) = x := Int32.toBitVec_inj.mp (by simp)
theorem ok_X10_within : okS yX10_within cX10_within 3 (some .boolean) 3 := ⟨⟨w_136, w_2, ⟨by decide +kernel, by decide +kernel, by decide +kernel⟩⟩, trivial, w_135, trivial⟩
theorem ok_X10_isDay : okS yX10_isDay cX10_isDay 1 (some .boolean) 1 := ⟨⟨w_180, w_2, ⟨by decide +kernel, by decide +kernel, by decide +kernel⟩⟩, trivial, w_179, trivial⟩
theorem ok_X10_isText : okS yX10_isText cX10_isText 1 (some .boolean) 1 := ⟨⟨w_244, w_2, ⟨by decide +kernel, by decide +kernel, by decide +kernel⟩⟩, trivial, w_243, trivial⟩
theorem ok_X10_isSort : okS yX10_isSort cX10_isSort 1 (some .boolean) 1 := ⟨⟨w_593, w_2, ⟨by decide +kernel, by decide +kernel, by decide +kernel⟩⟩, trivial, w_592, trivial⟩
theorem ok_X10_lowBits : okS yX10_lowBits cX10_lowBits 1 (some .int) 1 := ⟨⟨w_207, w_2, ⟨by decide +kernel, by decide +kernel, by decide +kernel⟩⟩, trivial, w_206, trivial⟩
theorem ok_J6_bitCount_0f7a4 : okS yJ6_bitCount_0f7a4 cJ6_bitCount_0f7a4 1 (some .int) 1 := ⟨⟨w_486, w_485, ⟨by decide +kernel, by decide +kernel, by decide +kernel⟩⟩, trivial, w_484, trivial⟩
theorem ok_X5_has : okV yX5_has cX5_has 2 (some .boolean) 1 := ⟨⟨w_177, w_53, ⟨by decide +kernel, by decide +kernel, by decide +kernel⟩⟩, trivial, w_175, w_176⟩
theorem ok_X5_size : okV yX5_size cX5_size 1 (some .int) 0 := ⟨⟨w_205, w_53, ⟨by decide +kernel, by decide +kernel, by decide +kernel⟩⟩, trivial, w_203, w_204⟩
theorem ok_X5_grow : okV yX5_grow cX5_grow 1 (some .int) 0 := ⟨⟨w_140, w_53, ⟨by decide +kernel, by decide +kernel, by decide +kernel⟩⟩, trivial, w_138, w_139⟩
theorem ok_X5_set : okV yX5_set cX5_set 4 none 3 := ⟨⟨w_145, w_53, ⟨by decide +kernel, by decide +kernel, by decide +kernel⟩⟩, trivial, w_143, w_144⟩
theorem ok_X5_foldAll : okV yX5_foldAll cX5_foldAll 4 (some .long) 1 := ⟨⟨w_952, w_53, ⟨by decide +kernel, by decide +kernel, by decide +kernel⟩⟩, trivial, w_950, w_951⟩
theorem ok_X1_unsettle : okV yX1_unsettle cX1_unsettle 2 none 1 := ⟨⟨w_149, w_14, ⟨by decide +kernel, by decide +kernel, by decide +kernel⟩⟩, trivial, w_147, w_148⟩
theorem ok_X1_settle : okV yX1_settle cX1_settle 3 none 0 := ⟨⟨w_387, w_14, ⟨by decide +kernel, by decide +kernel, by decide +kernel⟩⟩, trivial, w_385, w_386⟩
theorem ok_X1_sworn : okV yX1_sworn cX1_sworn 3 (some .int) 0 := ⟨⟨w_933, w_14, ⟨by decide +kernel, by decide +kernel, by decide +kernel⟩⟩, trivial, w_931, w_932⟩
theorem ok_X1_truths : okV yX1_truths cX1_truths 7 (some .int) 4 := ⟨⟨w_427, w_14, ⟨by decide +kernel, by decide +kernel, by decide +kernel⟩⟩, trivial, w_425, w_426⟩
theorem ok_X1_nextInTurn : okV yX1_nextInTurn cX1_nextInTurn 5 (some .int) 2 := ⟨⟨w_878, w_14, ⟨by decide +kernel, by decide +kernel, by decide +kernel⟩⟩, trivial, w_876, w_877⟩
theorem ok_X0_everyone : okV yX0_everyone cX0_everyone 1 (some .int) 0 := ⟨⟨w_201, w_34, ⟨by decide +kernel, by decide +kernel, by decide +kernel⟩⟩, trivial, w_199, w_200⟩
theorem ok_X0_listedOn : okV yX0_listedOn cX0_listedOn 5 (some .int) 1 := ⟨⟨w_224, w_34, ⟨by decide +kernel, by decide +kernel, by decide +kernel⟩⟩, trivial, w_222, w_223⟩
theorem ok_X0_peopleWith : okV yX0_peopleWith cX0_peopleWith 5 (some .int) 2 := ⟨⟨w_472, w_34, ⟨by decide +kernel, by decide +kernel, by decide +kernel⟩⟩, trivial, w_470, w_471⟩
theorem ok_X0_inForce : okV yX0_inForce cX0_inForce 7 (some .int) 2 := ⟨⟨w_401, w_34, ⟨by decide +kernel, by decide +kernel, by decide +kernel⟩⟩, trivial, w_399, w_400⟩
theorem ok_X0_lawOf : okV yX0_lawOf cX0_lawOf 4 (some (.object "SwornLists$Text")) 2 := ⟨⟨w_397, w_34, ⟨by decide +kernel, by decide +kernel, by decide +kernel⟩⟩, trivial, w_395, w_396⟩
theorem ok_X8_put : okV yX8_put cX8_put 2 (some .int) 1 := ⟨⟨w_252, w_80, ⟨by decide +kernel, by decide +kernel, by decide +kernel⟩⟩, trivial, w_250, w_251⟩
theorem ok_X8_clear : okV yX8_clear cX8_clear 2 (some .int) 0 := ⟨⟨w_269, w_80, ⟨by decide +kernel, by decide +kernel, by decide +kernel⟩⟩, trivial, w_267, w_268⟩
theorem ok_X8_forgetSteps : okV yX8_forgetSteps cX8_forgetSteps 1 none 0 := ⟨⟨w_292, w_80, ⟨by decide +kernel, by decide +kernel, by decide +kernel⟩⟩, trivial, w_290, w_291⟩
theorem ok_X8_length : okV yX8_length cX8_length 1 (some .int) 0 := ⟨⟨w_297, w_80, ⟨by decide +kernel, by decide +kernel, by decide +kernel⟩⟩, trivial, w_295, w_296⟩
theorem ok_X8_fold : okV yX8_fold cX8_fold 4 (some .long) 1 := ⟨⟨w_963, w_80, ⟨by decide +kernel, by decide +kernel, by decide +kernel⟩⟩, trivial, w_961, w_962⟩
theorem ok_X6_get : okV yX6_get cX6_get 2 (some (.object "SwornLists$Text")) 1 := ⟨⟨w_248, w_61, ⟨by decide +kernel, by decide +kernel, by decide +kernel⟩⟩, trivial, w_246, w_247⟩
theorem ok_X4_read : okV yX4_read cX4_read 5 (some .int) 1 := ⟨⟨w_281, w_23, ⟨by decide +kernel, by decide +kernel, by decide +kernel⟩⟩, trivial, w_279, w_280⟩
theorem ok_X9_gather : okV yX9_gather cX9_gather 5 none 2 := ⟨⟨w_831, w_31, ⟨by decide +kernel, by decide +kernel, by decide +kernel⟩⟩, trivial, w_829, w_830⟩
theorem ok_X9_seek : okV yX9_seek cX9_seek 6 none 2 := ⟨⟨w_823, w_31, ⟨by decide +kernel, by decide +kernel, by decide +kernel⟩⟩, trivial, w_821, w_822⟩
theorem ok_X10_isNextDay : okV yX10_isNextDay cX10_isNextDay 3 (some .boolean) 1 := ⟨⟨w_641, w_2, ⟨by decide +kernel, by decide +kernel, by decide +kernel⟩⟩, trivial, w_639, w_640⟩
theorem ok_X10_howMany : okV yX10_howMany cX10_howMany 2 (some .int) 1 := ⟨⟨w_929, w_2, ⟨by decide +kernel, by decide +kernel, by decide +kernel⟩⟩, trivial, w_927, w_928⟩
set_option maxHeartbeats 4000000 in
set_option maxRecDepth 100000 in
theorem c_within (l : Launch) (G : gW) (n : Int32) (a : Int32) (b : Int32)  : Met l yX10_within (wsT yX10_within cX10_within 3 (some .boolean)) ({ frames := 0, cells := 0, slots := 0, locals := 0 }) (rP G [.int n, .int a, .int b] []) (rQi (fun r => r = b2 (inB a n b = true))) 0 0 fr0 := by
  refine Met.ofW (cc := cX10_within) (maxL := 3) (ret := (some .boolean)) (by decide) rfl ?_
  intro p e s m args below meth c s₁ B hml hv
  obtain ⟨rfl, hP, hG⟩ := hv
  have hx := B.exec
  have hb := B.bytes
  have hr := B.returns
  have hts := my_hts (atoms_spec (ws := wsT yX10_within cX10_within 3 (some .boolean)) B.pre)
  have hown : s.vm.findClass RX10 = some m.cls := findClass_of_methodNamed B.named
  have hlocks := B.notSynchronized
  have hP : va_P G.1 vwCl [] s.heap := hP
  have hl := lv_entry ([.int n, .int a, .int b]) (n := 3) (Nat.le_of_ble_eq_true rfl)
  rw [lg_entry_eq]
  generalize (lg_sl ([.int n, .int a, .int b]) ++ List.replicate (3 - (lg_sl ([.int n, .int a, .int b])).length) Slot.unset).toArray = ls at hl ⊢
  have hl : lv_has ls 3 [(0, .int n), (1, .int a), (2, .int b)] := hl
  refine lv_iload_n hx hb dX10_within_0 rfl (lv_at hl 0 rfl) ?_
  refine lv_iload_n hx hb dX10_within_1 rfl (lv_at hl 1 rfl) ?_
  refine lv_icmp_lt (tgt := 14) hx hb dX10_within_2 (by decide) (fun c_2 => ?_) (fun c_2 => ?_)
  · refine lv_iconst (v := 0) hx hb dX10_within_14 (by decide) ?_
    exact W.zret (v := 0) hx hb hr (rfl) (fun t ht hW => ⟨_, rfl, (by first | exact (b2_t (inB_t (by assumption) (by assumption))).symm | exact (b2_f (inB_lo (by assumption))).symm | exact (b2_f (inB_hi (by assumption))).symm), ht⟩) (fun _ h => absurd h List.not_mem_nil) dX10_within_15
  · refine lv_iload_n hx hb dX10_within_5 rfl (lv_at hl 0 rfl) ?_
    refine lv_iload_n hx hb dX10_within_6 rfl (lv_at hl 2 rfl) ?_
    refine lv_icmp_gt (tgt := 14) hx hb dX10_within_7 (by decide) (fun c_7 => ?_) (fun c_7 => ?_)
    · refine lv_iconst (v := 0) hx hb dX10_within_14 (by decide) ?_
      exact W.zret (v := 0) hx hb hr (rfl) (fun t ht hW => ⟨_, rfl, (by first | exact (b2_t (inB_t (by assumption) (by assumption))).symm | exact (b2_f (inB_lo (by assumption))).symm | exact (b2_f (inB_hi (by assumption))).symm), ht⟩) (fun _ h => absurd h List.not_mem_nil) dX10_within_15
    · refine lv_iconst (v := 1) hx hb dX10_within_10 (by decide) ?_
      refine lv_goto (tgt := 15) hx hb dX10_within_11 (by decide) ?_
      exact W.zret (v := 1) hx hb hr (rfl) (fun t ht hW => ⟨_, rfl, (by first | exact (b2_t (inB_t (by assumption) (by assumption))).symm | exact (b2_f (inB_lo (by assumption))).symm | exact (b2_f (inB_hi (by assumption))).symm), ht⟩) (fun _ h => absurd h List.not_mem_nil) dX10_within_15
set_option maxHeartbeats 4000000 in
set_option maxRecDepth 100000 in
theorem c_isDay (l : Launch) (G : gW) (d : Int32)  : Met l yX10_isDay (wsT yX10_isDay cX10_isDay 1 (some .boolean)) ({ frames := 1, cells := 0, slots := 0, locals := 22 }) (rP G [.int d] []) (rQi (fun r => r = b2 (inB 0 d 9999 = true))) 0 0 fr0 := by
  refine Met.ofW (cc := cX10_isDay) (maxL := 1) (ret := (some .boolean)) (by decide) rfl ?_
  intro p e s m args below meth c s₁ B hml hv
  obtain ⟨rfl, hP, hG⟩ := hv
  have hx := B.exec
  have hb := B.bytes
  have hr := B.returns
  have hts := my_hts (atoms_spec (ws := wsT yX10_isDay cX10_isDay 1 (some .boolean)) B.pre)
  have hown : s.vm.findClass RX10 = some m.cls := findClass_of_methodNamed B.named
  have hlocks := B.notSynchronized
  have hP : va_P G.1 vwCl [] s.heap := hP
  have hl := lv_entry ([.int d]) (n := 1) (Nat.le_of_ble_eq_true rfl)
  rw [lg_entry_eq]
  generalize (lg_sl ([.int d]) ++ List.replicate (1 - (lg_sl ([.int d])).length) Slot.unset).toArray = ls at hl ⊢
  have hl : lv_has ls 1 [(0, .int d)] := hl
  refine lv_iload_n hx hb dX10_isDay_0 rfl (lv_at hl 0 rfl) ?_
  refine lv_iconst (v := 0) hx hb dX10_isDay_1 (by decide) ?_
  refine lv_sipush (v := 9999) hx hb dX10_isDay_2 (by decide) ?_
  have hPc := hP.sub (ws' := []) [] rfl
  refine rd_calli (va_runS (As := [.int d, .int 0, .int 9999]) (rest := []) ⟨hx, hb, hml, hown, hts⟩ (c_within l G d 0 9999 ) (my_cwS hts ok_X10_within w_134 rfl rfl ⟨Nat.le_of_ble_eq_true rfl, Nat.le_of_ble_eq_true rfl⟩) ⟨rP.blind, fun U hU hW => ⟨rfl, by rw [hU]; exact hPc, kG.warm hW hG⟩⟩ rfl rfl hl.1 rfl (lv_room (Nat.le_of_ble_eq_true rfl)) dX10_isDay_5 ⟨Nat.le_of_ble_eq_true rfl, Nat.le_of_ble_eq_true rfl⟩) (fun r hr9 => ?_)
  subst hr9
  exact W.zret (v := b2 (inB 0 d 9999 = true)) hx hb hr (b2_nar) (fun t ht hW => ⟨_, rfl, (rfl), ht⟩) (fun _ h => absurd h List.not_mem_nil) dX10_isDay_8
set_option maxHeartbeats 4000000 in
set_option maxRecDepth 100000 in
theorem c_isText (l : Launch) (G : gW) (d : Int32)  : Met l yX10_isText (wsT yX10_isText cX10_isText 1 (some .boolean)) ({ frames := 1, cells := 0, slots := 0, locals := 22 }) (rP G [.int d] []) (rQi (fun r => r = b2 (inB 0 d 3 = true))) 0 0 fr0 := by
  refine Met.ofW (cc := cX10_isText) (maxL := 1) (ret := (some .boolean)) (by decide) rfl ?_
  intro p e s m args below meth c s₁ B hml hv
  obtain ⟨rfl, hP, hG⟩ := hv
  have hx := B.exec
  have hb := B.bytes
  have hr := B.returns
  have hts := my_hts (atoms_spec (ws := wsT yX10_isText cX10_isText 1 (some .boolean)) B.pre)
  have hown : s.vm.findClass RX10 = some m.cls := findClass_of_methodNamed B.named
  have hlocks := B.notSynchronized
  have hP : va_P G.1 vwCl [] s.heap := hP
  have hl := lv_entry ([.int d]) (n := 1) (Nat.le_of_ble_eq_true rfl)
  rw [lg_entry_eq]
  generalize (lg_sl ([.int d]) ++ List.replicate (1 - (lg_sl ([.int d])).length) Slot.unset).toArray = ls at hl ⊢
  have hl : lv_has ls 1 [(0, .int d)] := hl
  refine lv_iload_n hx hb dX10_isText_0 rfl (lv_at hl 0 rfl) ?_
  refine lv_iconst (v := 0) hx hb dX10_isText_1 (by decide) ?_
  refine lv_iconst (v := 3) hx hb dX10_isText_2 (by decide) ?_
  have hPc := hP.sub (ws' := []) [] rfl
  refine rd_calli (va_runS (As := [.int d, .int 0, .int 3]) (rest := []) ⟨hx, hb, hml, hown, hts⟩ (c_within l G d 0 3 ) (my_cwS hts ok_X10_within w_134 rfl rfl ⟨Nat.le_of_ble_eq_true rfl, Nat.le_of_ble_eq_true rfl⟩) ⟨rP.blind, fun U hU hW => ⟨rfl, by rw [hU]; exact hPc, kG.warm hW hG⟩⟩ rfl rfl hl.1 rfl (lv_room (Nat.le_of_ble_eq_true rfl)) dX10_isText_3 ⟨Nat.le_of_ble_eq_true rfl, Nat.le_of_ble_eq_true rfl⟩) (fun r hr9 => ?_)
  subst hr9
  exact W.zret (v := b2 (inB 0 d 3 = true)) hx hb hr (b2_nar) (fun t ht hW => ⟨_, rfl, (rfl), ht⟩) (fun _ h => absurd h List.not_mem_nil) dX10_isText_6
set_option maxHeartbeats 4000000 in
set_option maxRecDepth 100000 in
theorem c_isSort (l : Launch) (G : gW) (d : Int32)  : Met l yX10_isSort (wsT yX10_isSort cX10_isSort 1 (some .boolean)) ({ frames := 0, cells := 0, slots := 0, locals := 0 }) (rP G [.int d] []) (rQi (fun r => r = b2 (inB 0 d 1 = true))) 0 0 fr0 := by
  refine Met.ofW (cc := cX10_isSort) (maxL := 1) (ret := (some .boolean)) (by decide) rfl ?_
  intro p e s m args below meth c s₁ B hml hv
  obtain ⟨rfl, hP, hG⟩ := hv
  have hx := B.exec
  have hb := B.bytes
  have hr := B.returns
  have hts := my_hts (atoms_spec (ws := wsT yX10_isSort cX10_isSort 1 (some .boolean)) B.pre)
  have hown : s.vm.findClass RX10 = some m.cls := findClass_of_methodNamed B.named
  have hlocks := B.notSynchronized
  have hP : va_P G.1 vwCl [] s.heap := hP
  have hl := lv_entry ([.int d]) (n := 1) (Nat.le_of_ble_eq_true rfl)
  rw [lg_entry_eq]
  generalize (lg_sl ([.int d]) ++ List.replicate (1 - (lg_sl ([.int d])).length) Slot.unset).toArray = ls at hl ⊢
  have hl : lv_has ls 1 [(0, .int d)] := hl
  refine lv_iload_n hx hb dX10_isSort_0 rfl (lv_at hl 0 rfl) ?_
  refine lv_if_eq (tgt := 9) hx hb dX10_isSort_1 (by decide) (fun c_1 => ?_) (fun c_1 => ?_)
  · refine lv_iconst (v := 1) hx hb dX10_isSort_9 (by decide) ?_
    refine lv_goto (tgt := 14) hx hb dX10_isSort_10 (by decide) ?_
    exact W.zret (v := 1) hx hb hr (rfl) (fun t ht hW => ⟨_, rfl, (by first | exact (b2_t (inB_01.mpr (by first | exact Or.inl (by assumption) | exact Or.inr (by assumption)))).symm | exact (b2_f (fun q => (inB_01.mp q).elim (fun z => absurd z (by assumption)) (fun z => absurd z (by assumption)))).symm), ht⟩) (fun _ h => absurd h List.not_mem_nil) dX10_isSort_14
  · refine lv_iload_n hx hb dX10_isSort_4 rfl (lv_at hl 0 rfl) ?_
    refine lv_iconst (v := 1) hx hb dX10_isSort_5 (by decide) ?_
    refine lv_icmp_ne (tgt := 13) hx hb dX10_isSort_6 (by decide) (fun c_6 => ?_) (fun c_6 => ?_)
    · refine lv_iconst (v := 0) hx hb dX10_isSort_13 (by decide) ?_
      exact W.zret (v := 0) hx hb hr (rfl) (fun t ht hW => ⟨_, rfl, (by first | exact (b2_t (inB_01.mpr (by first | exact Or.inl (by assumption) | exact Or.inr (by assumption)))).symm | exact (b2_f (fun q => (inB_01.mp q).elim (fun z => absurd z (by assumption)) (fun z => absurd z (by assumption)))).symm), ht⟩) (fun _ h => absurd h List.not_mem_nil) dX10_isSort_14
    · refine lv_iconst (v := 1) hx hb dX10_isSort_9 (by decide) ?_
      refine lv_goto (tgt := 14) hx hb dX10_isSort_10 (by decide) ?_
      exact W.zret (v := 1) hx hb hr (rfl) (fun t ht hW => ⟨_, rfl, (by first | exact (b2_t (inB_01.mpr (by first | exact Or.inl (by assumption) | exact Or.inr (by assumption)))).symm | exact (b2_f (fun q => (inB_01.mp q).elim (fun z => absurd z (by assumption)) (fun z => absurd z (by assumption)))).symm), ht⟩) (fun _ h => absurd h List.not_mem_nil) dX10_isSort_14
set_option maxHeartbeats 4000000 in
set_option maxRecDepth 100000 in
theorem c_lowBits0 (l : Launch) (G : gW)   : Met l yX10_lowBits (wsT yX10_lowBits cX10_lowBits 1 (some .int)) ({ frames := 0, cells := 0, slots := 0, locals := 0 }) (rP G [.int 0] []) (rQi (fun r => r = 0)) 0 0 fr0 := by
  refine Met.ofW (cc := cX10_lowBits) (maxL := 1) (ret := (some .int)) (by decide) rfl ?_
  intro p e s m args below meth c s₁ B hml hv
  obtain ⟨rfl, hP, hG⟩ := hv
  have hx := B.exec
  have hb := B.bytes
  have hr := B.returns
  have hts := my_hts (atoms_spec (ws := wsT yX10_lowBits cX10_lowBits 1 (some .int)) B.pre)
  have hown : s.vm.findClass RX10 = some m.cls := findClass_of_methodNamed B.named
  have hlocks := B.notSynchronized
  have hP : va_P G.1 vwCl [] s.heap := hP
  have hl := lv_entry ([.int 0]) (n := 1) (Nat.le_of_ble_eq_true rfl)
  rw [lg_entry_eq]
  generalize (lg_sl ([.int 0]) ++ List.replicate (1 - (lg_sl ([.int 0])).length) Slot.unset).toArray = ls at hl ⊢
  have hl : lv_has ls 1 [(0, .int 0)] := hl
  refine lv_iconst (v := 1) hx hb dX10_lowBits_0 (by decide) ?_
  refine lv_iload_n hx hb dX10_lowBits_1 rfl (lv_at hl 0 rfl) ?_
  refine lv_ishl hx hb dX10_lowBits_2 ?_
  refine my_bei (v := 1) (by decide) ?_
  refine lv_iconst (v := 1) hx hb dX10_lowBits_3 (by decide) ?_
  refine lv_isub hx hb dX10_lowBits_4 ?_
  refine my_bei (v := 0) (by decide) ?_
  exact W.iret (v := 0) hx hb hr (fun t ht hW => ⟨_, rfl, (rfl), ht⟩) (fun _ h => absurd h List.not_mem_nil) dX10_lowBits_5
set_option maxHeartbeats 4000000 in
set_option maxRecDepth 100000 in
theorem c_bitCount0 (l : Launch) (G : gW)   : Met l yJ6_bitCount_0f7a4 (wsT yJ6_bitCount_0f7a4 cJ6_bitCount_0f7a4 1 (some .int)) ({ frames := 0, cells := 0, slots := 0, locals := 0 }) (rP G [.int 0] []) (rQi (fun r => r = 0)) 0 0 fr0 := by
  refine Met.ofW (cc := cJ6_bitCount_0f7a4) (maxL := 1) (ret := (some .int)) (by decide) rfl ?_
  intro p e s m args below meth c s₁ B hml hv
  obtain ⟨rfl, hP, hG⟩ := hv
  have hx := B.exec
  have hb := B.bytes
  have hr := B.returns
  have hts := my_hts (atoms_spec (ws := wsT yJ6_bitCount_0f7a4 cJ6_bitCount_0f7a4 1 (some .int)) B.pre)
  have hown : s.vm.findClass RJ6 = some m.cls := findClass_of_methodNamed B.named
  have hlocks := B.notSynchronized
  have hP : va_P G.1 vwCl [] s.heap := hP
  have hl := lv_entry ([.int 0]) (n := 1) (Nat.le_of_ble_eq_true rfl)
  rw [lg_entry_eq]
  generalize (lg_sl ([.int 0]) ++ List.replicate (1 - (lg_sl ([.int 0])).length) Slot.unset).toArray = ls at hl ⊢
  have hl : lv_has ls 1 [(0, .int 0)] := hl
  refine lv_iload_n hx hb dJ6_bitCount_0f7a4_0 rfl (lv_at hl 0 rfl) ?_
  refine lv_iload_n hx hb dJ6_bitCount_0f7a4_1 rfl (lv_at hl 0 rfl) ?_
  refine lv_iconst (v := 1) hx hb dJ6_bitCount_0f7a4_2 (by decide) ?_
  refine lv_iushr (v := 0) hx hb dJ6_bitCount_0f7a4_3 (by decide) ?_
  refine lv_ldcw (v := 1431655765) hx hb hown (hts (.constant RJ6 265 (1431655765)) w_487) dJ6_bitCount_0f7a4_4 ?_
  refine lv_iand hx hb dJ6_bitCount_0f7a4_7 ?_
  refine my_bei (v := 0) (by decide) ?_
  refine lv_isub hx hb dJ6_bitCount_0f7a4_8 ?_
  refine my_bei (v := 0) (by decide) ?_
  refine lv_istore_n (lv' := [(0, .int 0)]) hx hb dJ6_bitCount_0f7a4_9 rfl hl (by decide) rfl (fun ls hl => ?_)
  refine lv_iload_n hx hb dJ6_bitCount_0f7a4_10 rfl (lv_at hl 0 rfl) ?_
  refine lv_ldcw (v := 858993459) hx hb hown (hts (.constant RJ6 266 (858993459)) w_488) dJ6_bitCount_0f7a4_11 ?_
  refine lv_iand hx hb dJ6_bitCount_0f7a4_14 ?_
  refine my_bei (v := 0) (by decide) ?_
  refine lv_iload_n hx hb dJ6_bitCount_0f7a4_15 rfl (lv_at hl 0 rfl) ?_
  refine lv_iconst (v := 2) hx hb dJ6_bitCount_0f7a4_16 (by decide) ?_
  refine lv_iushr (v := 0) hx hb dJ6_bitCount_0f7a4_17 (by decide) ?_
  refine lv_ldcw (v := 858993459) hx hb hown (hts (.constant RJ6 266 (858993459)) w_488) dJ6_bitCount_0f7a4_18 ?_
  refine lv_iand hx hb dJ6_bitCount_0f7a4_21 ?_
  refine my_bei (v := 0) (by decide) ?_
  refine lv_iadd hx hb dJ6_bitCount_0f7a4_22 ?_
  refine my_bei (v := 0) (by decide) ?_
  refine lv_istore_n (lv' := [(0, .int 0)]) hx hb dJ6_bitCount_0f7a4_23 rfl hl (by decide) rfl (fun ls hl => ?_)
  refine lv_iload_n hx hb dJ6_bitCount_0f7a4_24 rfl (lv_at hl 0 rfl) ?_
  refine lv_iload_n hx hb dJ6_bitCount_0f7a4_25 rfl (lv_at hl 0 rfl) ?_
  refine lv_iconst (v := 4) hx hb dJ6_bitCount_0f7a4_26 (by decide) ?_
  refine lv_iushr (v := 0) hx hb dJ6_bitCount_0f7a4_27 (by decide) ?_
  refine lv_iadd hx hb dJ6_bitCount_0f7a4_28 ?_
  refine my_bei (v := 0) (by decide) ?_
  refine lv_ldcw (v := 252645135) hx hb hown (hts (.constant RJ6 267 (252645135)) w_489) dJ6_bitCount_0f7a4_29 ?_
  refine lv_iand hx hb dJ6_bitCount_0f7a4_32 ?_
  refine my_bei (v := 0) (by decide) ?_
  refine lv_istore_n (lv' := [(0, .int 0)]) hx hb dJ6_bitCount_0f7a4_33 rfl hl (by decide) rfl (fun ls hl => ?_)
  refine lv_iload_n hx hb dJ6_bitCount_0f7a4_34 rfl (lv_at hl 0 rfl) ?_
  refine lv_iload_n hx hb dJ6_bitCount_0f7a4_35 rfl (lv_at hl 0 rfl) ?_
  refine lv_bipush (v := 8) hx hb dJ6_bitCount_0f7a4_36 (by decide) ?_
  refine lv_iushr (v := 0) hx hb dJ6_bitCount_0f7a4_38 (by decide) ?_
  refine lv_iadd hx hb dJ6_bitCount_0f7a4_39 ?_
  refine my_bei (v := 0) (by decide) ?_
  refine lv_istore_n (lv' := [(0, .int 0)]) hx hb dJ6_bitCount_0f7a4_40 rfl hl (by decide) rfl (fun ls hl => ?_)
  refine lv_iload_n hx hb dJ6_bitCount_0f7a4_41 rfl (lv_at hl 0 rfl) ?_
  refine lv_iload_n hx hb dJ6_bitCount_0f7a4_42 rfl (lv_at hl 0 rfl) ?_
  refine lv_bipush (v := 16) hx hb dJ6_bitCount_0f7a4_43 (by decide) ?_
  refine lv_iushr (v := 0) hx hb dJ6_bitCount_0f7a4_45 (by decide) ?_
  refine lv_iadd hx hb dJ6_bitCount_0f7a4_46 ?_
  refine my_bei (v := 0) (by decide) ?_
  refine lv_istore_n (lv' := [(0, .int 0)]) hx hb dJ6_bitCount_0f7a4_47 rfl hl (by decide) rfl (fun ls hl => ?_)
  refine lv_iload_n hx hb dJ6_bitCount_0f7a4_48 rfl (lv_at hl 0 rfl) ?_
  refine lv_bipush (v := 63) hx hb dJ6_bitCount_0f7a4_49 (by decide) ?_
  refine lv_iand hx hb dJ6_bitCount_0f7a4_51 ?_
  refine my_bei (v := 0) (by decide) ?_
  exact W.iret (v := 0) hx hb hr (fun t ht hW => ⟨_, rfl, (rfl), ht⟩) (fun _ h => absurd h List.not_mem_nil) dJ6_bitCount_0f7a4_52
set_option maxHeartbeats 4000000 in
set_option maxRecDepth 100000 in
theorem c_has0 (l : Launch) (G : gW) (a : Nat) (mo : Int32) (wi : Int32) (b : Nat) (r : Int32)  : Met l yX5_has (wsT yX5_has cX5_has 2 (some .boolean)) ({ frames := 0, cells := 0, slots := 0, locals := 0 }) (rP G [.ref a, .int r] [(a, eO 5 [.int mo, .int wi, .ref b, .int 0])]) (rQi (fun r => r = 0)) 0 0 fr0 := by
  refine Met.ofW (cc := cX5_has) (maxL := 2) (ret := (some .boolean)) (by decide) rfl ?_
  intro p e s m args below meth c s₁ B hml hv
  obtain ⟨rfl, hP, hG⟩ := hv
  have hx := B.exec
  have hb := B.bytes
  have hr := B.returns
  have hts := my_hts (atoms_spec (ws := wsT yX5_has cX5_has 2 (some .boolean)) B.pre)
  have hown : s.vm.findClass RX5 = some m.cls := findClass_of_methodNamed B.named
  have hlocks := B.notSynchronized
  have hP : va_P G.1 vwCl [(a, eO 5 [.int mo, .int wi, .ref b, .int 0])] s.heap := hP
  have hl := lv_entry ([.ref a, .int r]) (n := 2) (Nat.le_of_ble_eq_true rfl)
  rw [lg_entry_eq]
  generalize (lg_sl ([.ref a, .int r]) ++ List.replicate (2 - (lg_sl ([.ref a, .int r])).length) Slot.unset).toArray = ls at hl ⊢
  have hl : lv_has ls 2 [(0, .ref a), (1, .int r)] := hl
  refine lv_iload_n hx hb dX5_has_0 rfl (lv_at hl 1 rfl) ?_
  refine lv_if_lt (tgt := 16) hx hb dX5_has_1 (by decide) (fun c_1 => ?_) (fun c_1 => ?_)
  · refine lv_iconst (v := 0) hx hb dX5_has_16 (by decide) ?_
    exact W.zret (v := 0) hx hb hr (rfl) (fun t ht hW => ⟨_, rfl, (rfl), ht⟩) (fun _ h => absurd h List.not_mem_nil) dX5_has_17
  · refine lv_iload_n hx hb dX5_has_4 rfl (lv_at hl 1 rfl) ?_
    refine lv_aload_n hx hb dX5_has_5 rfl (lv_at hl 0 rfl) ?_
    refine va_get (D := G.1) (ci := 5) (v := .int 0) (C := RX5) (T := TX5) (N := 4) hx hb hts inlX5 hown hG.1 hP 0 rfl rfl 3 (by decide) (hts (.fieldLink RX5 22 "SwornLists$Rows" "size" "I") w_141) (fun _ h9 => h9) rfl dX5_has_6 ?_
    refine lv_icmp_ge (tgt := 16) hx hb dX5_has_9 (by decide) (fun c_9 => ?_) (fun c_9 => absurd (Int32.not_lt.mp c_1) c_9)
    refine lv_iconst (v := 0) hx hb dX5_has_16 (by decide) ?_
    exact W.zret (v := 0) hx hb hr (rfl) (fun t ht hW => ⟨_, rfl, (rfl), ht⟩) (fun _ h => absurd h List.not_mem_nil) dX5_has_17
set_option maxHeartbeats 4000000 in
set_option maxRecDepth 100000 in
theorem c_size0 (l : Launch) (G : gW) (a : Nat) (mo : Int32) (wi : Int32) (b : Nat)  : Met l yX5_size (wsT yX5_size cX5_size 1 (some .int)) ({ frames := 0, cells := 0, slots := 0, locals := 0 }) (rP G [.ref a] [(a, eO 5 [.int mo, .int wi, .ref b, .int 0])]) (rQi (fun r => r = 0)) 0 0 fr0 := by
  refine Met.ofW (cc := cX5_size) (maxL := 1) (ret := (some .int)) (by decide) rfl ?_
  intro p e s m args below meth c s₁ B hml hv
  obtain ⟨rfl, hP, hG⟩ := hv
  have hx := B.exec
  have hb := B.bytes
  have hr := B.returns
  have hts := my_hts (atoms_spec (ws := wsT yX5_size cX5_size 1 (some .int)) B.pre)
  have hown : s.vm.findClass RX5 = some m.cls := findClass_of_methodNamed B.named
  have hlocks := B.notSynchronized
  have hP : va_P G.1 vwCl [(a, eO 5 [.int mo, .int wi, .ref b, .int 0])] s.heap := hP
  have hl := lv_entry ([.ref a]) (n := 1) (Nat.le_of_ble_eq_true rfl)
  rw [lg_entry_eq]
  generalize (lg_sl ([.ref a]) ++ List.replicate (1 - (lg_sl ([.ref a])).length) Slot.unset).toArray = ls at hl ⊢
  have hl : lv_has ls 1 [(0, .ref a)] := hl
  refine lv_aload_n hx hb dX5_size_0 rfl (lv_at hl 0 rfl) ?_
  refine va_get (D := G.1) (ci := 5) (v := .int 0) (C := RX5) (T := TX5) (N := 4) hx hb hts inlX5 hown hG.1 hP 0 rfl rfl 3 (by decide) (hts (.fieldLink RX5 22 "SwornLists$Rows" "size" "I") w_141) (fun _ h9 => h9) rfl dX5_size_1 ?_
  exact W.iret (v := 0) hx hb hr (fun t ht hW => ⟨_, rfl, (rfl), ht⟩) (fun _ h => absurd h List.not_mem_nil) dX5_size_4
set_option maxHeartbeats 4000000 in
set_option maxRecDepth 100000 in
theorem c_grow0 (l : Launch) (G : gW) (sz : Nat) (a : Nat) (mo : Int32) (wi : Int32) (b : Nat) (hm : (0 : Int32) < mo) : Met l yX5_grow (wsT yX5_grow cX5_grow 1 (some .int)) ({ frames := 0, cells := 0, slots := 0, locals := 0 }) (wP G [.ref a] sz [(a, eO 5 [.int mo, .int wi, .ref b, .int 0])]) (va_Qi (fun (r : Int32) (_ : Unit) => r = 0) (wB G (va_A [(a, eO 5 [.int mo, .int wi, .ref b, .int 0])] sz) (fun _ : Unit => [(a, eO 5 [.int mo, .int wi, .ref b, .int 1])])) (va_A [(a, eO 5 [.int mo, .int wi, .ref b, .int 0])] sz)) 0 0 (va_A [(a, eO 5 [.int mo, .int wi, .ref b, .int 0])] sz) := by
  refine Met.ofW (cc := cX5_grow) (maxL := 1) (ret := (some .int)) (by decide) rfl ?_
  intro p e s m args below meth c s₁ B hml hv
  obtain ⟨rfl, hsz, hP, hG, hD0⟩ := hv
  have hx := B.exec
  have hb := B.bytes
  have hr := B.returns
  have hts := my_hts (atoms_spec (ws := wsT yX5_grow cX5_grow 1 (some .int)) B.pre)
  have hown : s.vm.findClass RX5 = some m.cls := findClass_of_methodNamed B.named
  have hlocks := B.notSynchronized
  subst hsz
  have hD := hD0.self (sz := s.heap.size)
  generalize hAe : va_A [(a, eO 5 [.int mo, .int wi, .ref b, .int 0])] s.heap.size = A at hD ⊢
  have hA : ∀ q : Nat, s.heap.size ≤ q → A q := fun q h => by rw [← hAe]; exact Or.inr h
  have hS : va_S A s.heap s.heap [] := va_S.rf
  have hP : va_P G.1 vwCl [(a, eO 5 [.int mo, .int wi, .ref b, .int 0])] s.heap := hP
  have hl := lv_entry ([.ref a]) (n := 1) (Nat.le_of_ble_eq_true rfl)
  rw [lg_entry_eq]
  generalize (lg_sl ([.ref a]) ++ List.replicate (1 - (lg_sl ([.ref a])).length) Slot.unset).toArray = ls at hl ⊢
  have hl : lv_has ls 1 [(0, .ref a)] := hl
  refine lv_aload_n hx hb dX5_grow_0 rfl (lv_at hl 0 rfl) ?_
  refine va_get (D := G.1) (ci := 5) (v := .int 0) (C := RX5) (T := TX5) (N := 4) hx hb hts inlX5 hown hG.1 hP 0 rfl rfl 3 (by decide) (hts (.fieldLink RX5 22 "SwornLists$Rows" "size" "I") w_141) (fun _ h9 => h9) rfl dX5_grow_1 ?_
  refine lv_aload_n hx hb dX5_grow_4 rfl (lv_at hl 0 rfl) ?_
  refine va_get (D := G.1) (ci := 5) (v := .int mo) (C := RX5) (T := TX5) (N := 4) hx hb hts inlX5 hown hG.1 hP 0 rfl rfl 0 (by decide) (hts (.fieldLink RX5 9 "SwornLists$Rows" "most" "I") w_70) (fun _ h9 => h9) rfl dX5_grow_5 ?_
  refine lv_icmp_lt (tgt := 14) hx hb dX5_grow_8 (by decide) (fun c_8 => ?_) (fun c_8 => absurd (hm) c_8)
  refine lv_aload_n hx hb dX5_grow_14 rfl (lv_at hl 0 rfl) ?_
  refine lv_dup hx hb dX5_grow_15 rfl ?_
  refine va_get (D := G.1) (ci := 5) (v := .int 0) (C := RX5) (T := TX5) (N := 4) hx hb hts inlX5 hown hG.1 hP 0 rfl rfl 3 (by decide) (hts (.fieldLink RX5 22 "SwornLists$Rows" "size" "I") w_141) (fun _ h9 => h9) rfl dX5_grow_16 ?_
  refine lv_iconst (v := 1) hx hb dX5_grow_19 (by decide) ?_
  refine lv_iadd hx hb dX5_grow_20 ?_
  refine my_bei (v := 1) (by decide) ?_
  refine va_put (D := G.1) (ci := 5) (v := .int 1) (ty := .int) (C := RX5) (T := TX5) (N := 4) hx hb hts inlX5 tyX5 tyX5_ok nmX5 hown hG.1 hP hD hS 0 rfl rfl 3 (by decide) (hts (.fieldLink RX5 22 "SwornLists$Rows" "size" "I") w_141) (fun _ h9 => h9) rfl (by decide +kernel) rfl rfl (Nat.le_of_ble_eq_true rfl) dX5_grow_21 (fun H locs hP hD hS => ?_)
  have hP : va_P G.1 vwCl [(a, eO 5 [.int mo, .int wi, .ref b, .int 1])] H := hP
  have hD : va_D A [(a, eO 5 [.int mo, .int wi, .ref b, .int 1])] := hD
  refine lv_aload_n hx hb dX5_grow_24 rfl (lv_at hl 0 rfl) ?_
  refine va_get (D := G.1) (ci := 5) (v := .int 1) (C := RX5) (T := TX5) (N := 4) hx hb hts inlX5 hown hG.1 hP 0 rfl rfl 3 (by decide) (hts (.fieldLink RX5 22 "SwornLists$Rows" "size" "I") w_141) (fun _ h9 => h9) rfl dX5_grow_25 ?_
  refine lv_iconst (v := 1) hx hb dX5_grow_28 (by decide) ?_
  refine lv_isub hx hb dX5_grow_29 ?_
  refine my_bei (v := 0) (by decide) ?_
  have hP9 := hP.sub (ws' := [(a, eO 5 [.int mo, .int wi, .ref b, .int 1])]) [0] rfl
  have hD9 := hD.sub (ws' := [(a, eO 5 [.int mo, .int wi, .ref b, .int 1])]) [0] (by decide) rfl
  exact W.iret (v := 0) hx hb hr (fun t ht hW => ⟨⟨_, (), rfl, (rfl), ⟨by rw [ht]; exact hP9, hD9⟩⟩, hS.F ht⟩) hS.2.2 dX5_grow_30
set_option maxHeartbeats 4000000 in
set_option maxRecDepth 100000 in
theorem c_set0 (l : Launch) (G : gW) (sz : Nat) (a : Nat) (mo : Int32) (wi : Int32) (b : Nat) (N : Nat) (f : Nat → Int32) (co : Int32) (va : Int32) (h0 : ¬ co < 0) (h1 : ¬ wi ≤ co) (hi : vp_in (0 * wi + co) N) : Met l yX5_set (wsT yX5_set cX5_set 4 none) ({ frames := 0, cells := 0, slots := 0, locals := 0 }) (wP G [.ref a, .int 0, .int co, .int va] sz [(a, eO 5 [.int mo, .int wi, .ref b, .int 1]), (b, eI G N f)]) (va_Qv (fun _ : Unit => True) (wB G (va_A [(a, eO 5 [.int mo, .int wi, .ref b, .int 1]), (b, eI G N f)] sz) (fun _ : Unit => [(a, eO 5 [.int mo, .int wi, .ref b, .int 1]), (b, eI G N (upd f (Int32.toNatClampNeg (0 * wi + co)) va))])) (va_A [(a, eO 5 [.int mo, .int wi, .ref b, .int 1]), (b, eI G N f)] sz)) 0 0 (va_A [(a, eO 5 [.int mo, .int wi, .ref b, .int 1]), (b, eI G N f)] sz) := by
  refine Met.ofW (cc := cX5_set) (maxL := 4) (ret := none) (by decide) rfl ?_
  intro p e s m args below meth c s₁ B hml hv
  obtain ⟨rfl, hsz, hP, hG, hD0⟩ := hv
  have hx := B.exec
  have hb := B.bytes
  have hr := B.returns
  have hts := my_hts (atoms_spec (ws := wsT yX5_set cX5_set 4 none) B.pre)
  have hown : s.vm.findClass RX5 = some m.cls := findClass_of_methodNamed B.named
  have hlocks := B.notSynchronized
  subst hsz
  have hD := hD0.self (sz := s.heap.size)
  generalize hAe : va_A [(a, eO 5 [.int mo, .int wi, .ref b, .int 1]), (b, eI G N f)] s.heap.size = A at hD ⊢
  have hA : ∀ q : Nat, s.heap.size ≤ q → A q := fun q h => by rw [← hAe]; exact Or.inr h
  have hS : va_S A s.heap s.heap [] := va_S.rf
  have hP : va_P G.1 vwCl [(a, eO 5 [.int mo, .int wi, .ref b, .int 1]), (b, eI G N f)] s.heap := hP
  have hl := lv_entry ([.ref a, .int 0, .int co, .int va]) (n := 4) (Nat.le_of_ble_eq_true rfl)
  rw [lg_entry_eq]
  generalize (lg_sl ([.ref a, .int 0, .int co, .int va]) ++ List.replicate (4 - (lg_sl ([.ref a, .int 0, .int co, .int va])).length) Slot.unset).toArray = ls at hl ⊢
  have hl : lv_has ls 4 [(0, .ref a), (1, .int 0), (2, .int co), (3, .int va)] := hl
  refine lv_iload_n hx hb dX5_set_0 rfl (lv_at hl 1 rfl) ?_
  refine lv_if_lt (tgt := 38) hx hb dX5_set_1 (by decide) (fun c_1 => absurd c_1 (by decide)) (fun c_1 => ?_)
  refine lv_iload_n hx hb dX5_set_4 rfl (lv_at hl 1 rfl) ?_
  refine lv_aload_n hx hb dX5_set_5 rfl (lv_at hl 0 rfl) ?_
  refine va_get (D := G.1) (ci := 5) (v := .int 1) (C := RX5) (T := TX5) (N := 4) hx hb hts inlX5 hown hG.1 hP 0 rfl rfl 3 (by decide) (hts (.fieldLink RX5 22 "SwornLists$Rows" "size" "I") w_141) (fun _ h9 => h9) rfl dX5_set_6 ?_
  refine lv_icmp_ge (tgt := 38) hx hb dX5_set_9 (by decide) (fun c_9 => absurd c_9 (by decide)) (fun c_9 => ?_)
  refine lv_iload_n hx hb dX5_set_12 rfl (lv_at hl 2 rfl) ?_
  refine lv_if_lt (tgt := 38) hx hb dX5_set_13 (by decide) (fun c_13 => absurd c_13 (h0)) (fun c_13 => ?_)
  refine lv_iload_n hx hb dX5_set_16 rfl (lv_at hl 2 rfl) ?_
  refine lv_aload_n hx hb dX5_set_17 rfl (lv_at hl 0 rfl) ?_
  refine va_get (D := G.1) (ci := 5) (v := .int wi) (C := RX5) (T := TX5) (N := 4) hx hb hts inlX5 hown hG.1 hP 0 rfl rfl 1 (by decide) (hts (.fieldLink RX5 15 "SwornLists$Rows" "width" "I") w_71) (fun _ h9 => h9) rfl dX5_set_18 ?_
  refine lv_icmp_ge (tgt := 38) hx hb dX5_set_21 (by decide) (fun c_21 => absurd c_21 (h1)) (fun c_21 => ?_)
  refine lv_aload_n hx hb dX5_set_24 rfl (lv_at hl 0 rfl) ?_
  refine va_get (D := G.1) (ci := 5) (v := .ref b) (C := RX5) (T := TX5) (N := 4) hx hb hts inlX5 hown hG.1 hP 0 rfl rfl 2 (by decide) (hts (.fieldLink RX5 18 "SwornLists$Rows" "cells" "[I") w_73) (fun _ h9 => h9) rfl dX5_set_25 ?_
  refine lv_iload_n hx hb dX5_set_28 rfl (lv_at hl 1 rfl) ?_
  refine lv_aload_n hx hb dX5_set_29 rfl (lv_at hl 0 rfl) ?_
  refine va_get (D := G.1) (ci := 5) (v := .int wi) (C := RX5) (T := TX5) (N := 4) hx hb hts inlX5 hown hG.1 hP 0 rfl rfl 1 (by decide) (hts (.fieldLink RX5 15 "SwornLists$Rows" "width" "I") w_71) (fun _ h9 => h9) rfl dX5_set_30 ?_
  refine lv_imul hx hb dX5_set_33 ?_
  refine lv_iload_n hx hb dX5_set_34 rfl (lv_at hl 2 rfl) ?_
  refine lv_iadd hx hb dX5_set_35 ?_
  refine lv_iload_n hx hb dX5_set_36 rfl (lv_at hl 3 rfl) ?_
  refine va_iast hx hb hG.1 hP hD hS 1 0 rfl rfl (hi) dX5_set_37 (fun H locs hP hD hS => ?_)
  have hP : va_P G.1 vwCl [(a, eO 5 [.int mo, .int wi, .ref b, .int 1]), (b, eI G N (upd f (Int32.toNatClampNeg ((0 * wi) + co)) va))] H := hP
  have hD : va_D A [(a, eO 5 [.int mo, .int wi, .ref b, .int 1]), (b, eI G N (upd f (Int32.toNatClampNeg ((0 * wi) + co)) va))] := hD
  have hP9 := hP.sub (ws' := [(a, eO 5 [.int mo, .int wi, .ref b, .int 1]), (b, eI G N (upd f (Int32.toNatClampNeg ((0 * wi) + co)) va))]) [0, 1] rfl
  have hD9 := hD.sub (ws' := [(a, eO 5 [.int mo, .int wi, .ref b, .int 1]), (b, eI G N (upd f (Int32.toNatClampNeg ((0 * wi) + co)) va))]) [0, 1] (by decide) rfl
  exact W.vret hx hb hr (fun t ht hW => ⟨⟨(), rfl, (trivial), ⟨by rw [ht]; exact hP9, hD9⟩⟩, hS.F ht⟩) hS.2.2 dX5_set_38
set_option maxHeartbeats 4000000 in
set_option maxRecDepth 100000 in
theorem c_foldAll0 (l : Launch) (G : gW) (a : Nat) (mo : Int32) (wi : Int32) (b : Nat) (h : Int64)  : Met l yX5_foldAll (wsT yX5_foldAll cX5_foldAll 4 (some .long)) ({ frames := 0, cells := 0, slots := 0, locals := 0 }) (rP G [.ref a, .long h] [(a, eO 5 [.int mo, .int wi, .ref b, .int 0])]) (rQl (fun r => r = h)) 0 0 fr0 := by
  refine Met.ofW (cc := cX5_foldAll) (maxL := 4) (ret := (some .long)) (by decide) rfl ?_
  intro p e s m args below meth c s₁ B hml hv
  obtain ⟨rfl, hP, hG⟩ := hv
  have hx := B.exec
  have hb := B.bytes
  have hr := B.returns
  have hts := my_hts (atoms_spec (ws := wsT yX5_foldAll cX5_foldAll 4 (some .long)) B.pre)
  have hown : s.vm.findClass RX5 = some m.cls := findClass_of_methodNamed B.named
  have hlocks := B.notSynchronized
  have hP : va_P G.1 vwCl [(a, eO 5 [.int mo, .int wi, .ref b, .int 0])] s.heap := hP
  have hl := lv_entry ([.ref a, .long h]) (n := 4) (Nat.le_of_ble_eq_true rfl)
  rw [lg_entry_eq]
  generalize (lg_sl ([.ref a, .long h]) ++ List.replicate (4 - (lg_sl ([.ref a, .long h])).length) Slot.unset).toArray = ls at hl ⊢
  have hl : lv_has ls 4 [(0, .ref a), (1, .long h)] := hl
  refine lv_iconst (v := 0) hx hb dX5_foldAll_0 (by decide) ?_
  refine lv_istore_n (lv' := [(3, .int 0), (0, .ref a), (1, .long h)]) hx hb dX5_foldAll_1 rfl hl (by decide) rfl (fun ls hl => ?_)
  refine lv_iload_n hx hb dX5_foldAll_2 rfl (lv_at hl 0 rfl) ?_
  refine lv_aload_n hx hb dX5_foldAll_3 rfl (lv_at hl 1 rfl) ?_
  refine va_get (D := G.1) (ci := 5) (v := .int 0) (C := RX5) (T := TX5) (N := 4) hx hb hts inlX5 hown hG.1 hP 0 rfl rfl 3 (by decide) (hts (.fieldLink RX5 22 "SwornLists$Rows" "size" "I") w_141) (fun _ h9 => h9) rfl dX5_foldAll_4 ?_
  refine lv_icmp_ge (tgt := 23) hx hb dX5_foldAll_7 (by decide) (fun c_7 => ?_) (fun c_7 => absurd (by decide) c_7)
  refine lv_lload_n hx hb dX5_foldAll_23 rfl (lv_at hl 2 rfl) ?_
  exact W.lret (v := h) hx hb hr (fun t ht hW => ⟨_, rfl, (rfl), ht⟩) (fun _ h => absurd h List.not_mem_nil) dX5_foldAll_24

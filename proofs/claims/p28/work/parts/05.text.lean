theorem ok_X10_within : okS yX10_within cX10_within 3 (some .boolean) 3 := ⟨⟨w_136, w_2, ⟨by decide +kernel, by decide +kernel, by decide +kernel⟩⟩, trivial, w_135, trivial⟩
theorem ok_X10_isDay : okS yX10_isDay cX10_isDay 1 (some .boolean) 1 := ⟨⟨w_180, w_2, ⟨by decide +kernel, by decide +kernel, by decide +kernel⟩⟩, trivial, w_179, trivial⟩
theorem ok_X10_isText : okS yX10_isText cX10_isText 1 (some .boolean) 1 := ⟨⟨w_244, w_2, ⟨by decide +kernel, by decide +kernel, by decide +kernel⟩⟩, trivial, w_243, trivial⟩
theorem ok_X10_isSort : okS yX10_isSort cX10_isSort 1 (some .boolean) 1 := ⟨⟨w_593, w_2, ⟨by decide +kernel, by decide +kernel, by decide +kernel⟩⟩, trivial, w_592, trivial⟩
theorem ok_X10_yearOf : okS yX10_yearOf cX10_yearOf 1 (some .int) 1 := ⟨⟨w_446, w_2, ⟨by decide +kernel, by decide +kernel, by decide +kernel⟩⟩, trivial, w_445, trivial⟩
theorem ok_X10_hasBit : okS yX10_hasBit cX10_hasBit 2 (some .boolean) 2 := ⟨⟨w_340, w_2, ⟨by decide +kernel, by decide +kernel, by decide +kernel⟩⟩, trivial, w_339, trivial⟩
theorem ok_X10_lowBits : okS yX10_lowBits cX10_lowBits 1 (some .int) 1 := ⟨⟨w_207, w_2, ⟨by decide +kernel, by decide +kernel, by decide +kernel⟩⟩, trivial, w_206, trivial⟩
theorem ok_X10_likesColumn : okS yX10_likesColumn cX10_likesColumn 2 (some .int) 2 := ⟨⟨w_506, w_2, ⟨by decide +kernel, by decide +kernel, by decide +kernel⟩⟩, trivial, w_505, trivial⟩
theorem ok_J6_bitCount_0f7a4 : okS yJ6_bitCount_0f7a4 cJ6_bitCount_0f7a4 1 (some .int) 1 := ⟨⟨w_486, w_485, ⟨by decide +kernel, by decide +kernel, by decide +kernel⟩⟩, trivial, w_484, trivial⟩
theorem ok_J6_compare_7cf53 : okS yJ6_compare_7cf53 cJ6_compare_7cf53 2 (some .int) 2 := ⟨⟨w_885, w_485, ⟨by decide +kernel, by decide +kernel, by decide +kernel⟩⟩, trivial, w_884, trivial⟩
theorem ok_X8_length : okV yX8_length cX8_length 1 (some .int) 0 := ⟨⟨w_297, w_80, ⟨by decide +kernel, by decide +kernel, by decide +kernel⟩⟩, trivial, w_295, w_296⟩
theorem ok_X8_signAt : okV yX8_signAt cX8_signAt 2 (some .int) 1 := ⟨⟨w_301, w_80, ⟨by decide +kernel, by decide +kernel, by decide +kernel⟩⟩, trivial, w_299, w_300⟩
theorem ok_X8_put : okV yX8_put cX8_put 2 (some .int) 1 := ⟨⟨w_252, w_80, ⟨by decide +kernel, by decide +kernel, by decide +kernel⟩⟩, trivial, w_250, w_251⟩
theorem ok_X8_clear : okV yX8_clear cX8_clear 2 (some .int) 0 := ⟨⟨w_269, w_80, ⟨by decide +kernel, by decide +kernel, by decide +kernel⟩⟩, trivial, w_267, w_268⟩
theorem ok_X8_stepCount : okV yX8_stepCount cX8_stepCount 1 (some .int) 0 := ⟨⟨w_435, w_80, ⟨by decide +kernel, by decide +kernel, by decide +kernel⟩⟩, trivial, w_433, w_434⟩
theorem ok_X8_stepAt : okV yX8_stepAt cX8_stepAt 2 (some .int) 1 := ⟨⟨w_439, w_80, ⟨by decide +kernel, by decide +kernel, by decide +kernel⟩⟩, trivial, w_437, w_438⟩
theorem ok_X8_forgetSteps : okV yX8_forgetSteps cX8_forgetSteps 1 none 0 := ⟨⟨w_292, w_80, ⟨by decide +kernel, by decide +kernel, by decide +kernel⟩⟩, trivial, w_290, w_291⟩
theorem ok_X8_addStep : okV yX8_addStep cX8_addStep 2 none 1 := ⟨⟨w_314, w_80, ⟨by decide +kernel, by decide +kernel, by decide +kernel⟩⟩, trivial, w_312, w_313⟩
theorem ok_X8_copy : okV yX8_copy cX8_copy 2 none 1 := ⟨⟨w_597, w_80, ⟨by decide +kernel, by decide +kernel, by decide +kernel⟩⟩, trivial, w_595, w_596⟩
theorem ok_X8_fold : okV yX8_fold cX8_fold 4 (some .long) 1 := ⟨⟨w_963, w_80, ⟨by decide +kernel, by decide +kernel, by decide +kernel⟩⟩, trivial, w_961, w_962⟩
theorem ok_X6_get : okV yX6_get cX6_get 2 (some (.object "SwornLists$Text")) 1 := ⟨⟨w_248, w_61, ⟨by decide +kernel, by decide +kernel, by decide +kernel⟩⟩, trivial, w_246, w_247⟩
theorem ok_X6_copy : okV yX6_copy cX6_copy 3 none 1 := ⟨⟨w_907, w_61, ⟨by decide +kernel, by decide +kernel, by decide +kernel⟩⟩, trivial, w_905, w_906⟩
set_option maxHeartbeats 4000000 in
set_option maxRecDepth 100000 in
theorem s_within (l : Launch) (G : gW) (g : Nat → Nat) (hg : gOK g) (f : Nat → va_E) (n : Int32) (a : Int32) (b : Int32)   : Met l yX10_within (wsT yX10_within cX10_within 3 (some .boolean)) ({ frames := 0, cells := 0, slots := 0, locals := 0 }) (bP G g f [.int n, .int a, .int b]) (rQi (fun z9 => z9 = b2 (inB a n b = true))) 0 0 fr0 := by
  refine Met.ofW (cc := cX10_within) (maxL := 3) (ret := (some .boolean)) (by decide) rfl ?_
  intro p e s m args below meth c s₁ B hml hv
  obtain ⟨rfl, hP, hG⟩ := hv
  have hx := B.exec
  have hb := B.bytes
  have hr := B.returns
  have hts := my_hts (atoms_spec (ws := wsT yX10_within cX10_within 3 (some .boolean)) B.pre)
  have hown : s.vm.findClass RX10 = some m.cls := findClass_of_methodNamed B.named
  have hlocks := B.notSynchronized
  have hl := lv_entry ([.int n, .int a, .int b]) (n := 3) (Nat.le_of_ble_eq_true rfl)
  rw [lg_entry_eq]
  generalize (lg_sl ([.int n, .int a, .int b]) ++ List.replicate (3 - (lg_sl ([.int n, .int a, .int b])).length) Slot.unset).toArray = ls at hl ⊢
  have hl : lv_has ls 3 [(0, .int n), (1, .int a), (2, .int b)] := hl
  refine lv_iload_n hx hb dX10_within_0 rfl (lv_at hl 0 rfl) ?_
  refine lv_iload_n hx hb dX10_within_1 rfl (lv_at hl 1 rfl) ?_
  refine lv_icmp_lt (tgt := 14) hx hb dX10_within_2 (by decide) (fun c_2 => ?_) (fun c_2 => ?_)
  · refine lv_iconst (v := 0) hx hb dX10_within_14 (by decide) ?_
    exact W.zret (v := 0) hx hb hr (rfl) (fun t ht hW => ⟨_, rfl, ((b2_f (inB_lo c_2)).symm), ht⟩) (fun _ h => absurd h List.not_mem_nil) dX10_within_15
  · refine lv_iload_n hx hb dX10_within_5 rfl (lv_at hl 0 rfl) ?_
    refine lv_iload_n hx hb dX10_within_6 rfl (lv_at hl 2 rfl) ?_
    refine lv_icmp_gt (tgt := 14) hx hb dX10_within_7 (by decide) (fun c_7 => ?_) (fun c_7 => ?_)
    · refine lv_iconst (v := 0) hx hb dX10_within_14 (by decide) ?_
      exact W.zret (v := 0) hx hb hr (rfl) (fun t ht hW => ⟨_, rfl, ((b2_f (inB_hi c_7)).symm), ht⟩) (fun _ h => absurd h List.not_mem_nil) dX10_within_15
    · refine lv_iconst (v := 1) hx hb dX10_within_10 (by decide) ?_
      refine lv_goto (tgt := 15) hx hb dX10_within_11 (by decide) ?_
      exact W.zret (v := 1) hx hb hr (rfl) (fun t ht hW => ⟨_, rfl, ((b2_t (inB_t c_2 c_7)).symm), ht⟩) (fun _ h => absurd h List.not_mem_nil) dX10_within_15
set_option maxHeartbeats 4000000 in
set_option maxRecDepth 100000 in
theorem s_isDay (l : Launch) (G : gW) (g : Nat → Nat) (hg : gOK g) (f : Nat → va_E) (n : Int32)   : Met l yX10_isDay (wsT yX10_isDay cX10_isDay 1 (some .boolean)) ({ frames := 1, cells := 0, slots := 0, locals := 22 }) (bP G g f [.int n]) (rQi (fun z9 => z9 = b2 (inB 0 n 9999 = true))) 0 0 fr0 := by
  refine Met.ofW (cc := cX10_isDay) (maxL := 1) (ret := (some .boolean)) (by decide) rfl ?_
  intro p e s m args below meth c s₁ B hml hv
  obtain ⟨rfl, hP, hG⟩ := hv
  have hx := B.exec
  have hb := B.bytes
  have hr := B.returns
  have hts := my_hts (atoms_spec (ws := wsT yX10_isDay cX10_isDay 1 (some .boolean)) B.pre)
  have hown : s.vm.findClass RX10 = some m.cls := findClass_of_methodNamed B.named
  have hlocks := B.notSynchronized
  have hl := lv_entry ([.int n]) (n := 1) (Nat.le_of_ble_eq_true rfl)
  rw [lg_entry_eq]
  generalize (lg_sl ([.int n]) ++ List.replicate (1 - (lg_sl ([.int n])).length) Slot.unset).toArray = ls at hl ⊢
  have hl : lv_has ls 1 [(0, .int n)] := hl
  refine lv_iload_n hx hb dX10_isDay_0 rfl (lv_at hl 0 rfl) ?_
  refine lv_iconst (v := 0) hx hb dX10_isDay_1 (by decide) ?_
  refine lv_sipush (v := 9999) hx hb dX10_isDay_2 (by decide) ?_
  refine rd_calli (va_runS (As := [.int n, .int 0, .int 9999]) (rest := []) ⟨hx, hb, hml, hown, hts⟩ (s_within l G g hg f n 0 9999  ) (my_cwS hts ok_X10_within w_134 rfl rfl ⟨Nat.le_of_ble_eq_true rfl, Nat.le_of_ble_eq_true rfl⟩) ⟨bP.blind, fun U hU hW => ⟨rfl, by rw [hU]; exact hP, kG.warm hW hG⟩⟩ rfl rfl hl.1 rfl (lv_room (Nat.le_of_ble_eq_true rfl)) dX10_isDay_5 ⟨Nat.le_of_ble_eq_true rfl, Nat.le_of_ble_eq_true rfl⟩) (fun r hr9 => ?_)
  subst hr9
  exact W.zret (v := b2 (inB 0 n 9999 = true)) hx hb hr (b2_nar) (fun t ht hW => ⟨_, rfl, (rfl), ht⟩) (fun _ h => absurd h List.not_mem_nil) dX10_isDay_8
set_option maxHeartbeats 4000000 in
set_option maxRecDepth 100000 in
theorem s_isText (l : Launch) (G : gW) (g : Nat → Nat) (hg : gOK g) (f : Nat → va_E) (n : Int32)   : Met l yX10_isText (wsT yX10_isText cX10_isText 1 (some .boolean)) ({ frames := 1, cells := 0, slots := 0, locals := 22 }) (bP G g f [.int n]) (rQi (fun z9 => z9 = b2 (inB 0 n 3 = true))) 0 0 fr0 := by
  refine Met.ofW (cc := cX10_isText) (maxL := 1) (ret := (some .boolean)) (by decide) rfl ?_
  intro p e s m args below meth c s₁ B hml hv
  obtain ⟨rfl, hP, hG⟩ := hv
  have hx := B.exec
  have hb := B.bytes
  have hr := B.returns
  have hts := my_hts (atoms_spec (ws := wsT yX10_isText cX10_isText 1 (some .boolean)) B.pre)
  have hown : s.vm.findClass RX10 = some m.cls := findClass_of_methodNamed B.named
  have hlocks := B.notSynchronized
  have hl := lv_entry ([.int n]) (n := 1) (Nat.le_of_ble_eq_true rfl)
  rw [lg_entry_eq]
  generalize (lg_sl ([.int n]) ++ List.replicate (1 - (lg_sl ([.int n])).length) Slot.unset).toArray = ls at hl ⊢
  have hl : lv_has ls 1 [(0, .int n)] := hl
  refine lv_iload_n hx hb dX10_isText_0 rfl (lv_at hl 0 rfl) ?_
  refine lv_iconst (v := 0) hx hb dX10_isText_1 (by decide) ?_
  refine lv_iconst (v := 3) hx hb dX10_isText_2 (by decide) ?_
  refine rd_calli (va_runS (As := [.int n, .int 0, .int 3]) (rest := []) ⟨hx, hb, hml, hown, hts⟩ (s_within l G g hg f n 0 3  ) (my_cwS hts ok_X10_within w_134 rfl rfl ⟨Nat.le_of_ble_eq_true rfl, Nat.le_of_ble_eq_true rfl⟩) ⟨bP.blind, fun U hU hW => ⟨rfl, by rw [hU]; exact hP, kG.warm hW hG⟩⟩ rfl rfl hl.1 rfl (lv_room (Nat.le_of_ble_eq_true rfl)) dX10_isText_3 ⟨Nat.le_of_ble_eq_true rfl, Nat.le_of_ble_eq_true rfl⟩) (fun r hr9 => ?_)
  subst hr9
  exact W.zret (v := b2 (inB 0 n 3 = true)) hx hb hr (b2_nar) (fun t ht hW => ⟨_, rfl, (rfl), ht⟩) (fun _ h => absurd h List.not_mem_nil) dX10_isText_6
set_option maxHeartbeats 4000000 in
set_option maxRecDepth 100000 in
theorem s_isSort (l : Launch) (G : gW) (g : Nat → Nat) (hg : gOK g) (f : Nat → va_E) (n : Int32)   : Met l yX10_isSort (wsT yX10_isSort cX10_isSort 1 (some .boolean)) ({ frames := 0, cells := 0, slots := 0, locals := 0 }) (bP G g f [.int n]) (rQi (fun z9 => z9 = b2 (inB 0 n 1 = true))) 0 0 fr0 := by
  refine Met.ofW (cc := cX10_isSort) (maxL := 1) (ret := (some .boolean)) (by decide) rfl ?_
  intro p e s m args below meth c s₁ B hml hv
  obtain ⟨rfl, hP, hG⟩ := hv
  have hx := B.exec
  have hb := B.bytes
  have hr := B.returns
  have hts := my_hts (atoms_spec (ws := wsT yX10_isSort cX10_isSort 1 (some .boolean)) B.pre)
  have hown : s.vm.findClass RX10 = some m.cls := findClass_of_methodNamed B.named
  have hlocks := B.notSynchronized
  have hl := lv_entry ([.int n]) (n := 1) (Nat.le_of_ble_eq_true rfl)
  rw [lg_entry_eq]
  generalize (lg_sl ([.int n]) ++ List.replicate (1 - (lg_sl ([.int n])).length) Slot.unset).toArray = ls at hl ⊢
  have hl : lv_has ls 1 [(0, .int n)] := hl
  refine lv_iload_n hx hb dX10_isSort_0 rfl (lv_at hl 0 rfl) ?_
  refine lv_if_eq (tgt := 9) hx hb dX10_isSort_1 (by decide) (fun c_1 => ?_) (fun c_1 => ?_)
  · refine lv_iconst (v := 1) hx hb dX10_isSort_9 (by decide) ?_
    refine lv_goto (tgt := 14) hx hb dX10_isSort_10 (by decide) ?_
    exact W.zret (v := 1) hx hb hr (rfl) (fun t ht hW => ⟨_, rfl, ((b2_t (inB_01.mpr (Or.inl c_1))).symm), ht⟩) (fun _ h => absurd h List.not_mem_nil) dX10_isSort_14
  · refine lv_iload_n hx hb dX10_isSort_4 rfl (lv_at hl 0 rfl) ?_
    refine lv_iconst (v := 1) hx hb dX10_isSort_5 (by decide) ?_
    refine lv_icmp_ne (tgt := 13) hx hb dX10_isSort_6 (by decide) (fun c_6 => ?_) (fun c_6 => ?_)
    · refine lv_iconst (v := 0) hx hb dX10_isSort_13 (by decide) ?_
      exact W.zret (v := 0) hx hb hr (rfl) (fun t ht hW => ⟨_, rfl, ((b2_f (fun q => (inB_01.mp q).elim (fun z => c_1 z) (fun z => c_6 z))).symm), ht⟩) (fun _ h => absurd h List.not_mem_nil) dX10_isSort_14
    · refine lv_iconst (v := 1) hx hb dX10_isSort_9 (by decide) ?_
      refine lv_goto (tgt := 14) hx hb dX10_isSort_10 (by decide) ?_
      exact W.zret (v := 1) hx hb hr (rfl) (fun t ht hW => ⟨_, rfl, ((b2_t (inB_01.mpr (Or.inr c_6))).symm), ht⟩) (fun _ h => absurd h List.not_mem_nil) dX10_isSort_14
set_option maxHeartbeats 4000000 in
set_option maxRecDepth 100000 in
theorem s_yearOf (l : Launch) (G : gW) (g : Nat → Nat) (hg : gOK g) (f : Nat → va_E) (n : Int32)   : Met l yX10_yearOf (wsT yX10_yearOf cX10_yearOf 1 (some .int)) ({ frames := 0, cells := 0, slots := 0, locals := 0 }) (bP G g f [.int n]) (rQi (fun z9 => z9 = 100 + n / 100)) 0 0 fr0 := by
  refine Met.ofW (cc := cX10_yearOf) (maxL := 1) (ret := (some .int)) (by decide) rfl ?_
  intro p e s m args below meth c s₁ B hml hv
  obtain ⟨rfl, hP, hG⟩ := hv
  have hx := B.exec
  have hb := B.bytes
  have hr := B.returns
  have hts := my_hts (atoms_spec (ws := wsT yX10_yearOf cX10_yearOf 1 (some .int)) B.pre)
  have hown : s.vm.findClass RX10 = some m.cls := findClass_of_methodNamed B.named
  have hlocks := B.notSynchronized
  have hl := lv_entry ([.int n]) (n := 1) (Nat.le_of_ble_eq_true rfl)
  rw [lg_entry_eq]
  generalize (lg_sl ([.int n]) ++ List.replicate (1 - (lg_sl ([.int n])).length) Slot.unset).toArray = ls at hl ⊢
  have hl : lv_has ls 1 [(0, .int n)] := hl
  refine lv_bipush (v := 100) hx hb dX10_yearOf_0 (by decide) ?_
  refine lv_iload_n hx hb dX10_yearOf_2 rfl (lv_at hl 0 rfl) ?_
  refine lv_bipush (v := 100) hx hb dX10_yearOf_3 (by decide) ?_
  refine lv_idiv hx hb dX10_yearOf_5 (by decide) ?_
  refine lv_iadd hx hb dX10_yearOf_6 ?_
  exact W.iret (v := 100 + (n / 100)) hx hb hr (fun t ht hW => ⟨_, rfl, (rfl), ht⟩) (fun _ h => absurd h List.not_mem_nil) dX10_yearOf_7
set_option maxHeartbeats 4000000 in
set_option maxRecDepth 100000 in
theorem s_hasBit (l : Launch) (G : gW) (g : Nat → Nat) (hg : gOK g) (f : Nat → va_E) (n : Int32) (q : Int32)   : Met l yX10_hasBit (wsT yX10_hasBit cX10_hasBit 2 (some .boolean)) ({ frames := 0, cells := 0, slots := 0, locals := 0 }) (bP G g f [.int n, .int q]) (rQi (fun z9 => z9 = b2 (hbt n q = true))) 0 0 fr0 := by
  refine Met.ofW (cc := cX10_hasBit) (maxL := 2) (ret := (some .boolean)) (by decide) rfl ?_
  intro p e s m args below meth c s₁ B hml hv
  obtain ⟨rfl, hP, hG⟩ := hv
  have hx := B.exec
  have hb := B.bytes
  have hr := B.returns
  have hts := my_hts (atoms_spec (ws := wsT yX10_hasBit cX10_hasBit 2 (some .boolean)) B.pre)
  have hown : s.vm.findClass RX10 = some m.cls := findClass_of_methodNamed B.named
  have hlocks := B.notSynchronized
  have hl := lv_entry ([.int n, .int q]) (n := 2) (Nat.le_of_ble_eq_true rfl)
  rw [lg_entry_eq]
  generalize (lg_sl ([.int n, .int q]) ++ List.replicate (2 - (lg_sl ([.int n, .int q])).length) Slot.unset).toArray = ls at hl ⊢
  have hl : lv_has ls 2 [(0, .int n), (1, .int q)] := hl
  refine lv_iload_n hx hb dX10_hasBit_0 rfl (lv_at hl 0 rfl) ?_
  refine lv_iconst (v := 1) hx hb dX10_hasBit_1 (by decide) ?_
  refine lv_iload_n hx hb dX10_hasBit_2 rfl (lv_at hl 1 rfl) ?_
  refine lv_ishl hx hb dX10_hasBit_3 ?_
  refine lv_iand hx hb dX10_hasBit_4 ?_
  refine lv_if_eq (tgt := 12) hx hb dX10_hasBit_5 (by decide) (fun c_5 => ?_) (fun c_5 => ?_)
  · refine lv_iconst (v := 0) hx hb dX10_hasBit_12 (by decide) ?_
    exact W.zret (v := 0) hx hb hr (rfl) (fun t ht hW => ⟨_, rfl, ((b2_f (fun z => (of_decide_eq_true z) c_5)).symm), ht⟩) (fun _ h => absurd h List.not_mem_nil) dX10_hasBit_13
  · refine lv_iconst (v := 1) hx hb dX10_hasBit_8 (by decide) ?_
    refine lv_goto (tgt := 13) hx hb dX10_hasBit_9 (by decide) ?_
    exact W.zret (v := 1) hx hb hr (rfl) (fun t ht hW => ⟨_, rfl, ((b2_t (decide_eq_true c_5)).symm), ht⟩) (fun _ h => absurd h List.not_mem_nil) dX10_hasBit_13
set_option maxHeartbeats 4000000 in
set_option maxRecDepth 100000 in
theorem s_lowBits (l : Launch) (G : gW) (g : Nat → Nat) (hg : gOK g) (f : Nat → va_E) (n : Int32)   : Met l yX10_lowBits (wsT yX10_lowBits cX10_lowBits 1 (some .int)) ({ frames := 0, cells := 0, slots := 0, locals := 0 }) (bP G g f [.int n]) (rQi (fun z9 => z9 = (1 <<< (n &&& 31)) - 1)) 0 0 fr0 := by
  refine Met.ofW (cc := cX10_lowBits) (maxL := 1) (ret := (some .int)) (by decide) rfl ?_
  intro p e s m args below meth c s₁ B hml hv
  obtain ⟨rfl, hP, hG⟩ := hv
  have hx := B.exec
  have hb := B.bytes
  have hr := B.returns
  have hts := my_hts (atoms_spec (ws := wsT yX10_lowBits cX10_lowBits 1 (some .int)) B.pre)
  have hown : s.vm.findClass RX10 = some m.cls := findClass_of_methodNamed B.named
  have hlocks := B.notSynchronized
  have hl := lv_entry ([.int n]) (n := 1) (Nat.le_of_ble_eq_true rfl)
  rw [lg_entry_eq]
  generalize (lg_sl ([.int n]) ++ List.replicate (1 - (lg_sl ([.int n])).length) Slot.unset).toArray = ls at hl ⊢
  have hl : lv_has ls 1 [(0, .int n)] := hl
  refine lv_iconst (v := 1) hx hb dX10_lowBits_0 (by decide) ?_
  refine lv_iload_n hx hb dX10_lowBits_1 rfl (lv_at hl 0 rfl) ?_
  refine lv_ishl hx hb dX10_lowBits_2 ?_
  refine lv_iconst (v := 1) hx hb dX10_lowBits_3 (by decide) ?_
  refine lv_isub hx hb dX10_lowBits_4 ?_
  exact W.iret (v := (1 <<< (n &&& 31)) - 1) hx hb hr (fun t ht hW => ⟨_, rfl, (rfl), ht⟩) (fun _ h => absurd h List.not_mem_nil) dX10_lowBits_5
set_option maxHeartbeats 4000000 in
set_option maxRecDepth 100000 in
theorem s_likesColumn (l : Launch) (G : gW) (g : Nat → Nat) (hg : gOK g) (f : Nat → va_E) (n : Int32) (q : Int32)   : Met l yX10_likesColumn (wsT yX10_likesColumn cX10_likesColumn 2 (some .int)) ({ frames := 0, cells := 0, slots := 0, locals := 0 }) (bP G g f [.int n, .int q]) (rQi (fun z9 => z9 = 10 + n * 30 + q)) 0 0 fr0 := by
  refine Met.ofW (cc := cX10_likesColumn) (maxL := 2) (ret := (some .int)) (by decide) rfl ?_
  intro p e s m args below meth c s₁ B hml hv
  obtain ⟨rfl, hP, hG⟩ := hv
  have hx := B.exec
  have hb := B.bytes
  have hr := B.returns
  have hts := my_hts (atoms_spec (ws := wsT yX10_likesColumn cX10_likesColumn 2 (some .int)) B.pre)
  have hown : s.vm.findClass RX10 = some m.cls := findClass_of_methodNamed B.named
  have hlocks := B.notSynchronized
  have hl := lv_entry ([.int n, .int q]) (n := 2) (Nat.le_of_ble_eq_true rfl)
  rw [lg_entry_eq]
  generalize (lg_sl ([.int n, .int q]) ++ List.replicate (2 - (lg_sl ([.int n, .int q])).length) Slot.unset).toArray = ls at hl ⊢
  have hl : lv_has ls 2 [(0, .int n), (1, .int q)] := hl
  refine lv_bipush (v := 10) hx hb dX10_likesColumn_0 (by decide) ?_
  refine lv_iload_n hx hb dX10_likesColumn_2 rfl (lv_at hl 0 rfl) ?_
  refine lv_bipush (v := 30) hx hb dX10_likesColumn_3 (by decide) ?_
  refine lv_imul hx hb dX10_likesColumn_5 ?_
  refine lv_iadd hx hb dX10_likesColumn_6 ?_
  refine lv_iload_n hx hb dX10_likesColumn_7 rfl (lv_at hl 1 rfl) ?_
  refine lv_iadd hx hb dX10_likesColumn_8 ?_
  exact W.iret (v := (10 + (n * 30)) + q) hx hb hr (fun t ht hW => ⟨_, rfl, (rfl), ht⟩) (fun _ h => absurd h List.not_mem_nil) dX10_likesColumn_9
set_option maxHeartbeats 4000000 in
set_option maxRecDepth 100000 in
theorem s_bitCount (l : Launch) (G : gW) (g : Nat → Nat) (hg : gOK g) (f : Nat → va_E) (n : Int32)   : Met l yJ6_bitCount_0f7a4 (wsT yJ6_bitCount_0f7a4 cJ6_bitCount_0f7a4 1 (some .int)) ({ frames := 0, cells := 0, slots := 0, locals := 0 }) (bP G g f [.int n]) (rQi (fun z9 => True)) 0 0 fr0 := by
  refine Met.ofW (cc := cJ6_bitCount_0f7a4) (maxL := 1) (ret := (some .int)) (by decide) rfl ?_
  intro p e s m args below meth c s₁ B hml hv
  obtain ⟨rfl, hP, hG⟩ := hv
  have hx := B.exec
  have hb := B.bytes
  have hr := B.returns
  have hts := my_hts (atoms_spec (ws := wsT yJ6_bitCount_0f7a4 cJ6_bitCount_0f7a4 1 (some .int)) B.pre)
  have hown : s.vm.findClass RJ6 = some m.cls := findClass_of_methodNamed B.named
  have hlocks := B.notSynchronized
  have hl := lv_entry ([.int n]) (n := 1) (Nat.le_of_ble_eq_true rfl)
  rw [lg_entry_eq]
  generalize (lg_sl ([.int n]) ++ List.replicate (1 - (lg_sl ([.int n])).length) Slot.unset).toArray = ls at hl ⊢
  have hl : lv_has ls 1 [(0, .int n)] := hl
  refine lv_iload_n hx hb dJ6_bitCount_0f7a4_0 rfl (lv_at hl 0 rfl) ?_
  refine lv_iload_n hx hb dJ6_bitCount_0f7a4_1 rfl (lv_at hl 0 rfl) ?_
  refine lv_iconst (v := 1) hx hb dJ6_bitCount_0f7a4_2 (by decide) ?_
  refine lv_iushr hx hb dJ6_bitCount_0f7a4_3 rfl ?_
  refine lv_ldcw (v := 1431655765) hx hb hown (hts (.constant RJ6 265 (1431655765)) w_487) dJ6_bitCount_0f7a4_4 ?_
  refine lv_iand hx hb dJ6_bitCount_0f7a4_7 ?_
  refine lv_isub hx hb dJ6_bitCount_0f7a4_8 ?_
  refine lv_istore_n (lv' := [(0, .int (n - (((Int32.toUInt32 n >>> (Int32.toUInt32 1 &&& Int32.toUInt32 31)).toInt32) &&& 1431655765)))]) hx hb dJ6_bitCount_0f7a4_9 rfl hl (by decide) rfl (fun ls hl => ?_)
  refine lv_iload_n hx hb dJ6_bitCount_0f7a4_10 rfl (lv_at hl 0 rfl) ?_
  refine lv_ldcw (v := 858993459) hx hb hown (hts (.constant RJ6 266 (858993459)) w_488) dJ6_bitCount_0f7a4_11 ?_
  refine lv_iand hx hb dJ6_bitCount_0f7a4_14 ?_
  refine lv_iload_n hx hb dJ6_bitCount_0f7a4_15 rfl (lv_at hl 0 rfl) ?_
  refine lv_iconst (v := 2) hx hb dJ6_bitCount_0f7a4_16 (by decide) ?_
  refine lv_iushr hx hb dJ6_bitCount_0f7a4_17 rfl ?_
  refine lv_ldcw (v := 858993459) hx hb hown (hts (.constant RJ6 266 (858993459)) w_488) dJ6_bitCount_0f7a4_18 ?_
  refine lv_iand hx hb dJ6_bitCount_0f7a4_21 ?_
  refine lv_iadd hx hb dJ6_bitCount_0f7a4_22 ?_
  refine lv_istore_n (lv' := [(0, .int (((n - (((Int32.toUInt32 n >>> (Int32.toUInt32 1 &&& Int32.toUInt32 31)).toInt32) &&& 1431655765)) &&& 858993459) + (((Int32.toUInt32 (n - (((Int32.toUInt32 n >>> (Int32.toUInt32 1 &&& Int32.toUInt32 31)).toInt32) &&& 1431655765)) >>> (Int32.toUInt32 2 &&& Int32.toUInt32 31)).toInt32) &&& 858993459)))]) hx hb dJ6_bitCount_0f7a4_23 rfl hl (by decide) rfl (fun ls hl => ?_)
  refine lv_iload_n hx hb dJ6_bitCount_0f7a4_24 rfl (lv_at hl 0 rfl) ?_
  refine lv_iload_n hx hb dJ6_bitCount_0f7a4_25 rfl (lv_at hl 0 rfl) ?_
  refine lv_iconst (v := 4) hx hb dJ6_bitCount_0f7a4_26 (by decide) ?_
  refine lv_iushr hx hb dJ6_bitCount_0f7a4_27 rfl ?_
  refine lv_iadd hx hb dJ6_bitCount_0f7a4_28 ?_
  refine lv_ldcw (v := 252645135) hx hb hown (hts (.constant RJ6 267 (252645135)) w_489) dJ6_bitCount_0f7a4_29 ?_
  refine lv_iand hx hb dJ6_bitCount_0f7a4_32 ?_
  refine lv_istore_n (lv' := [(0, .int (((((n - (((Int32.toUInt32 n >>> (Int32.toUInt32 1 &&& Int32.toUInt32 31)).toInt32) &&& 1431655765)) &&& 858993459) + (((Int32.toUInt32 (n - (((Int32.toUInt32 n >>> (Int32.toUInt32 1 &&& Int32.toUInt32 31)).toInt32) &&& 1431655765)) >>> (Int32.toUInt32 2 &&& Int32.toUInt32 31)).toInt32) &&& 858993459)) + ((Int32.toUInt32 (((n - (((Int32.toUInt32 n >>> (Int32.toUInt32 1 &&& Int32.toUInt32 31)).toInt32) &&& 1431655765)) &&& 858993459) + (((Int32.toUInt32 (n - (((Int32.toUInt32 n >>> (Int32.toUInt32 1 &&& Int32.toUInt32 31)).toInt32) &&& 1431655765)) >>> (Int32.toUInt32 2 &&& Int32.toUInt32 31)).toInt32) &&& 858993459)) >>> (Int32.toUInt32 4 &&& Int32.toUInt32 31)).toInt32)) &&& 252645135))]) hx hb dJ6_bitCount_0f7a4_33 rfl hl (by decide) rfl (fun ls hl => ?_)
  refine lv_iload_n hx hb dJ6_bitCount_0f7a4_34 rfl (lv_at hl 0 rfl) ?_
  refine lv_iload_n hx hb dJ6_bitCount_0f7a4_35 rfl (lv_at hl 0 rfl) ?_
  refine lv_bipush (v := 8) hx hb dJ6_bitCount_0f7a4_36 (by decide) ?_
  refine lv_iushr hx hb dJ6_bitCount_0f7a4_38 rfl ?_
  refine lv_iadd hx hb dJ6_bitCount_0f7a4_39 ?_
  refine lv_istore_n (lv' := [(0, .int ((((((n - (((Int32.toUInt32 n >>> (Int32.toUInt32 1 &&& Int32.toUInt32 31)).toInt32) &&& 1431655765)) &&& 858993459) + (((Int32.toUInt32 (n - (((Int32.toUInt32 n >>> (Int32.toUInt32 1 &&& Int32.toUInt32 31)).toInt32) &&& 1431655765)) >>> (Int32.toUInt32 2 &&& Int32.toUInt32 31)).toInt32) &&& 858993459)) + ((Int32.toUInt32 (((n - (((Int32.toUInt32 n >>> (Int32.toUInt32 1 &&& Int32.toUInt32 31)).toInt32) &&& 1431655765)) &&& 858993459) + (((Int32.toUInt32 (n - (((Int32.toUInt32 n >>> (Int32.toUInt32 1 &&& Int32.toUInt32 31)).toInt32) &&& 1431655765)) >>> (Int32.toUInt32 2 &&& Int32.toUInt32 31)).toInt32) &&& 858993459)) >>> (Int32.toUInt32 4 &&& Int32.toUInt32 31)).toInt32)) &&& 252645135) + ((Int32.toUInt32 (((((n - (((Int32.toUInt32 n >>> (Int32.toUInt32 1 &&& Int32.toUInt32 31)).toInt32) &&& 1431655765)) &&& 858993459) + (((Int32.toUInt32 (n - (((Int32.toUInt32 n >>> (Int32.toUInt32 1 &&& Int32.toUInt32 31)).toInt32) &&& 1431655765)) >>> (Int32.toUInt32 2 &&& Int32.toUInt32 31)).toInt32) &&& 858993459)) + ((Int32.toUInt32 (((n - (((Int32.toUInt32 n >>> (Int32.toUInt32 1 &&& Int32.toUInt32 31)).toInt32) &&& 1431655765)) &&& 858993459) + (((Int32.toUInt32 (n - (((Int32.toUInt32 n >>> (Int32.toUInt32 1 &&& Int32.toUInt32 31)).toInt32) &&& 1431655765)) >>> (Int32.toUInt32 2 &&& Int32.toUInt32 31)).toInt32) &&& 858993459)) >>> (Int32.toUInt32 4 &&& Int32.toUInt32 31)).toInt32)) &&& 252645135) >>> (Int32.toUInt32 8 &&& Int32.toUInt32 31)).toInt32)))]) hx hb dJ6_bitCount_0f7a4_40 rfl hl (by decide) rfl (fun ls hl => ?_)
  refine lv_iload_n hx hb dJ6_bitCount_0f7a4_41 rfl (lv_at hl 0 rfl) ?_
  refine lv_iload_n hx hb dJ6_bitCount_0f7a4_42 rfl (lv_at hl 0 rfl) ?_
  refine lv_bipush (v := 16) hx hb dJ6_bitCount_0f7a4_43 (by decide) ?_
  refine lv_iushr hx hb dJ6_bitCount_0f7a4_45 rfl ?_
  refine lv_iadd hx hb dJ6_bitCount_0f7a4_46 ?_
  refine lv_istore_n (lv' := [(0, .int (((((((n - (((Int32.toUInt32 n >>> (Int32.toUInt32 1 &&& Int32.toUInt32 31)).toInt32) &&& 1431655765)) &&& 858993459) + (((Int32.toUInt32 (n - (((Int32.toUInt32 n >>> (Int32.toUInt32 1 &&& Int32.toUInt32 31)).toInt32) &&& 1431655765)) >>> (Int32.toUInt32 2 &&& Int32.toUInt32 31)).toInt32) &&& 858993459)) + ((Int32.toUInt32 (((n - (((Int32.toUInt32 n >>> (Int32.toUInt32 1 &&& Int32.toUInt32 31)).toInt32) &&& 1431655765)) &&& 858993459) + (((Int32.toUInt32 (n - (((Int32.toUInt32 n >>> (Int32.toUInt32 1 &&& Int32.toUInt32 31)).toInt32) &&& 1431655765)) >>> (Int32.toUInt32 2 &&& Int32.toUInt32 31)).toInt32) &&& 858993459)) >>> (Int32.toUInt32 4 &&& Int32.toUInt32 31)).toInt32)) &&& 252645135) + ((Int32.toUInt32 (((((n - (((Int32.toUInt32 n >>> (Int32.toUInt32 1 &&& Int32.toUInt32 31)).toInt32) &&& 1431655765)) &&& 858993459) + (((Int32.toUInt32 (n - (((Int32.toUInt32 n >>> (Int32.toUInt32 1 &&& Int32.toUInt32 31)).toInt32) &&& 1431655765)) >>> (Int32.toUInt32 2 &&& Int32.toUInt32 31)).toInt32) &&& 858993459)) + ((Int32.toUInt32 (((n - (((Int32.toUInt32 n >>> (Int32.toUInt32 1 &&& Int32.toUInt32 31)).toInt32) &&& 1431655765)) &&& 858993459) + (((Int32.toUInt32 (n - (((Int32.toUInt32 n >>> (Int32.toUInt32 1 &&& Int32.toUInt32 31)).toInt32) &&& 1431655765)) >>> (Int32.toUInt32 2 &&& Int32.toUInt32 31)).toInt32) &&& 858993459)) >>> (Int32.toUInt32 4 &&& Int32.toUInt32 31)).toInt32)) &&& 252645135) >>> (Int32.toUInt32 8 &&& Int32.toUInt32 31)).toInt32)) + ((Int32.toUInt32 ((((((n - (((Int32.toUInt32 n >>> (Int32.toUInt32 1 &&& Int32.toUInt32 31)).toInt32) &&& 1431655765)) &&& 858993459) + (((Int32.toUInt32 (n - (((Int32.toUInt32 n >>> (Int32.toUInt32 1 &&& Int32.toUInt32 31)).toInt32) &&& 1431655765)) >>> (Int32.toUInt32 2 &&& Int32.toUInt32 31)).toInt32) &&& 858993459)) + ((Int32.toUInt32 (((n - (((Int32.toUInt32 n >>> (Int32.toUInt32 1 &&& Int32.toUInt32 31)).toInt32) &&& 1431655765)) &&& 858993459) + (((Int32.toUInt32 (n - (((Int32.toUInt32 n >>> (Int32.toUInt32 1 &&& Int32.toUInt32 31)).toInt32) &&& 1431655765)) >>> (Int32.toUInt32 2 &&& Int32.toUInt32 31)).toInt32) &&& 858993459)) >>> (Int32.toUInt32 4 &&& Int32.toUInt32 31)).toInt32)) &&& 252645135) + ((Int32.toUInt32 (((((n - (((Int32.toUInt32 n >>> (Int32.toUInt32 1 &&& Int32.toUInt32 31)).toInt32) &&& 1431655765)) &&& 858993459) + (((Int32.toUInt32 (n - (((Int32.toUInt32 n >>> (Int32.toUInt32 1 &&& Int32.toUInt32 31)).toInt32) &&& 1431655765)) >>> (Int32.toUInt32 2 &&& Int32.toUInt32 31)).toInt32) &&& 858993459)) + ((Int32.toUInt32 (((n - (((Int32.toUInt32 n >>> (Int32.toUInt32 1 &&& Int32.toUInt32 31)).toInt32) &&& 1431655765)) &&& 858993459) + (((Int32.toUInt32 (n - (((Int32.toUInt32 n >>> (Int32.toUInt32 1 &&& Int32.toUInt32 31)).toInt32) &&& 1431655765)) >>> (Int32.toUInt32 2 &&& Int32.toUInt32 31)).toInt32) &&& 858993459)) >>> (Int32.toUInt32 4 &&& Int32.toUInt32 31)).toInt32)) &&& 252645135) >>> (Int32.toUInt32 8 &&& Int32.toUInt32 31)).toInt32)) >>> (Int32.toUInt32 16 &&& Int32.toUInt32 31)).toInt32)))]) hx hb dJ6_bitCount_0f7a4_47 rfl hl (by decide) rfl (fun ls hl => ?_)
  refine lv_iload_n hx hb dJ6_bitCount_0f7a4_48 rfl (lv_at hl 0 rfl) ?_
  refine lv_bipush (v := 63) hx hb dJ6_bitCount_0f7a4_49 (by decide) ?_
  refine lv_iand hx hb dJ6_bitCount_0f7a4_51 ?_
  exact W.iret (v := (((((((n - (((Int32.toUInt32 n >>> (Int32.toUInt32 1 &&& Int32.toUInt32 31)).toInt32) &&& 1431655765)) &&& 858993459) + (((Int32.toUInt32 (n - (((Int32.toUInt32 n >>> (Int32.toUInt32 1 &&& Int32.toUInt32 31)).toInt32) &&& 1431655765)) >>> (Int32.toUInt32 2 &&& Int32.toUInt32 31)).toInt32) &&& 858993459)) + ((Int32.toUInt32 (((n - (((Int32.toUInt32 n >>> (Int32.toUInt32 1 &&& Int32.toUInt32 31)).toInt32) &&& 1431655765)) &&& 858993459) + (((Int32.toUInt32 (n - (((Int32.toUInt32 n >>> (Int32.toUInt32 1 &&& Int32.toUInt32 31)).toInt32) &&& 1431655765)) >>> (Int32.toUInt32 2 &&& Int32.toUInt32 31)).toInt32) &&& 858993459)) >>> (Int32.toUInt32 4 &&& Int32.toUInt32 31)).toInt32)) &&& 252645135) + ((Int32.toUInt32 (((((n - (((Int32.toUInt32 n >>> (Int32.toUInt32 1 &&& Int32.toUInt32 31)).toInt32) &&& 1431655765)) &&& 858993459) + (((Int32.toUInt32 (n - (((Int32.toUInt32 n >>> (Int32.toUInt32 1 &&& Int32.toUInt32 31)).toInt32) &&& 1431655765)) >>> (Int32.toUInt32 2 &&& Int32.toUInt32 31)).toInt32) &&& 858993459)) + ((Int32.toUInt32 (((n - (((Int32.toUInt32 n >>> (Int32.toUInt32 1 &&& Int32.toUInt32 31)).toInt32) &&& 1431655765)) &&& 858993459) + (((Int32.toUInt32 (n - (((Int32.toUInt32 n >>> (Int32.toUInt32 1 &&& Int32.toUInt32 31)).toInt32) &&& 1431655765)) >>> (Int32.toUInt32 2 &&& Int32.toUInt32 31)).toInt32) &&& 858993459)) >>> (Int32.toUInt32 4 &&& Int32.toUInt32 31)).toInt32)) &&& 252645135) >>> (Int32.toUInt32 8 &&& Int32.toUInt32 31)).toInt32)) + ((Int32.toUInt32 ((((((n - (((Int32.toUInt32 n >>> (Int32.toUInt32 1 &&& Int32.toUInt32 31)).toInt32) &&& 1431655765)) &&& 858993459) + (((Int32.toUInt32 (n - (((Int32.toUInt32 n >>> (Int32.toUInt32 1 &&& Int32.toUInt32 31)).toInt32) &&& 1431655765)) >>> (Int32.toUInt32 2 &&& Int32.toUInt32 31)).toInt32) &&& 858993459)) + ((Int32.toUInt32 (((n - (((Int32.toUInt32 n >>> (Int32.toUInt32 1 &&& Int32.toUInt32 31)).toInt32) &&& 1431655765)) &&& 858993459) + (((Int32.toUInt32 (n - (((Int32.toUInt32 n >>> (Int32.toUInt32 1 &&& Int32.toUInt32 31)).toInt32) &&& 1431655765)) >>> (Int32.toUInt32 2 &&& Int32.toUInt32 31)).toInt32) &&& 858993459)) >>> (Int32.toUInt32 4 &&& Int32.toUInt32 31)).toInt32)) &&& 252645135) + ((Int32.toUInt32 (((((n - (((Int32.toUInt32 n >>> (Int32.toUInt32 1 &&& Int32.toUInt32 31)).toInt32) &&& 1431655765)) &&& 858993459) + (((Int32.toUInt32 (n - (((Int32.toUInt32 n >>> (Int32.toUInt32 1 &&& Int32.toUInt32 31)).toInt32) &&& 1431655765)) >>> (Int32.toUInt32 2 &&& Int32.toUInt32 31)).toInt32) &&& 858993459)) + ((Int32.toUInt32 (((n - (((Int32.toUInt32 n >>> (Int32.toUInt32 1 &&& Int32.toUInt32 31)).toInt32) &&& 1431655765)) &&& 858993459) + (((Int32.toUInt32 (n - (((Int32.toUInt32 n >>> (Int32.toUInt32 1 &&& Int32.toUInt32 31)).toInt32) &&& 1431655765)) >>> (Int32.toUInt32 2 &&& Int32.toUInt32 31)).toInt32) &&& 858993459)) >>> (Int32.toUInt32 4 &&& Int32.toUInt32 31)).toInt32)) &&& 252645135) >>> (Int32.toUInt32 8 &&& Int32.toUInt32 31)).toInt32)) >>> (Int32.toUInt32 16 &&& Int32.toUInt32 31)).toInt32)) &&& 63) hx hb hr (fun t ht hW => ⟨_, rfl, (trivial), ht⟩) (fun _ h => absurd h List.not_mem_nil) dJ6_bitCount_0f7a4_52
set_option maxHeartbeats 4000000 in
set_option maxRecDepth 100000 in
theorem t_length (l : Launch) (G : gW) (g : Nat → Nat) (hg : gOK g) (f : Nat → va_E) (k : Nat) (ln : Nat) (sc : Nat) (htx : f k = eO 7 [.ref (g (k + 1)), .ref (g (k + 2)), .int (nI ln), .int (nI sc)]) (hk3 : k + 2 < 333) (hln : ln ≤ 50) (hsc : sc ≤ 50) : Met l yX8_length (wsT yX8_length cX8_length 1 (some .int)) ({ frames := 0, cells := 0, slots := 0, locals := 0 }) (bP G g f [.ref (g k)]) (rQi (fun z9 => z9 = nI ln)) 0 0 fr0 := by
  refine Met.ofW (cc := cX8_length) (maxL := 1) (ret := (some .int)) (by decide) rfl ?_
  intro p e s m args below meth c s₁ B hml hv
  obtain ⟨rfl, hP, hG⟩ := hv
  have hx := B.exec
  have hb := B.bytes
  have hr := B.returns
  have hts := my_hts (atoms_spec (ws := wsT yX8_length cX8_length 1 (some .int)) B.pre)
  have hown : s.vm.findClass RX8 = some m.cls := findClass_of_methodNamed B.named
  have hlocks := B.notSynchronized
  have hl := lv_entry ([.ref (g k)]) (n := 1) (Nat.le_of_ble_eq_true rfl)
  rw [lg_entry_eq]
  generalize (lg_sl ([.ref (g k)]) ++ List.replicate (1 - (lg_sl ([.ref (g k)])).length) Slot.unset).toArray = ls at hl ⊢
  have hl : lv_has ls 1 [(0, .ref (g k))] := hl
  refine lv_aload_n hx hb dX8_length_0 rfl (lv_at hl 0 rfl) ?_
  refine va_get (D := G.1) (ci := 7) (v := .int (nI ln)) (C := RX8) (T := TX8) (N := 4) hx hb hts inlX8 hown hG.1 hP k (wl_at (by omega) htx) rfl 2 (by decide) (hts (.fieldLink RX8 18 "SwornLists$Text" "length" "I") w_253) (fun _ h9 => h9) rfl dX8_length_1 ?_
  exact W.iret (v := nI ln) hx hb hr (fun t ht hW => ⟨_, rfl, (rfl), ht⟩) (fun _ h => absurd h List.not_mem_nil) dX8_length_4
set_option maxHeartbeats 4000000 in
set_option maxRecDepth 100000 in
theorem t_stepCount (l : Launch) (G : gW) (g : Nat → Nat) (hg : gOK g) (f : Nat → va_E) (k : Nat) (ln : Nat) (sc : Nat) (htx : f k = eO 7 [.ref (g (k + 1)), .ref (g (k + 2)), .int (nI ln), .int (nI sc)]) (hk3 : k + 2 < 333) (hln : ln ≤ 50) (hsc : sc ≤ 50) : Met l yX8_stepCount (wsT yX8_stepCount cX8_stepCount 1 (some .int)) ({ frames := 0, cells := 0, slots := 0, locals := 0 }) (bP G g f [.ref (g k)]) (rQi (fun z9 => z9 = nI sc)) 0 0 fr0 := by
  refine Met.ofW (cc := cX8_stepCount) (maxL := 1) (ret := (some .int)) (by decide) rfl ?_
  intro p e s m args below meth c s₁ B hml hv
  obtain ⟨rfl, hP, hG⟩ := hv
  have hx := B.exec
  have hb := B.bytes
  have hr := B.returns
  have hts := my_hts (atoms_spec (ws := wsT yX8_stepCount cX8_stepCount 1 (some .int)) B.pre)
  have hown : s.vm.findClass RX8 = some m.cls := findClass_of_methodNamed B.named
  have hlocks := B.notSynchronized
  have hl := lv_entry ([.ref (g k)]) (n := 1) (Nat.le_of_ble_eq_true rfl)
  rw [lg_entry_eq]
  generalize (lg_sl ([.ref (g k)]) ++ List.replicate (1 - (lg_sl ([.ref (g k)])).length) Slot.unset).toArray = ls at hl ⊢
  have hl : lv_has ls 1 [(0, .ref (g k))] := hl
  refine lv_aload_n hx hb dX8_stepCount_0 rfl (lv_at hl 0 rfl) ?_
  refine va_get (D := G.1) (ci := 7) (v := .int (nI sc)) (C := RX8) (T := TX8) (N := 4) hx hb hts inlX8 hown hG.1 hP k (wl_at (by omega) htx) rfl 3 (by decide) (hts (.fieldLink RX8 22 "SwornLists$Text" "stepCount" "I") w_293) (fun _ h9 => h9) rfl dX8_stepCount_1 ?_
  exact W.iret (v := nI sc) hx hb hr (fun t ht hW => ⟨_, rfl, (rfl), ht⟩) (fun _ h => absurd h List.not_mem_nil) dX8_stepCount_4
set_option maxHeartbeats 4000000 in
set_option maxRecDepth 100000 in
theorem t_signAt (l : Launch) (G : gW) (g : Nat → Nat) (hg : gOK g) (f : Nat → va_E) (k : Nat) (ln : Nat) (sc : Nat) (sg : Nat → Int32) (q : Int32) (htx : f k = eO 7 [.ref (g (k + 1)), .ref (g (k + 2)), .int (nI ln), .int (nI sc)]) (hsx : f (k + 1) = eI G 50 sg) (hk3 : k + 2 < 333) (hln : ln ≤ 50) (hsc : sc ≤ 50) : Met l yX8_signAt (wsT yX8_signAt cX8_signAt 2 (some .int)) ({ frames := 0, cells := 0, slots := 0, locals := 0 }) (bP G g f [.ref (g k), .int q]) (rQi (fun z9 => z9 = if inN q ln = true then sg (Int32.toNatClampNeg q) else 0)) 0 0 fr0 := by
  refine Met.ofW (cc := cX8_signAt) (maxL := 2) (ret := (some .int)) (by decide) rfl ?_
  intro p e s m args below meth c s₁ B hml hv
  obtain ⟨rfl, hP, hG⟩ := hv
  have hx := B.exec
  have hb := B.bytes
  have hr := B.returns
  have hts := my_hts (atoms_spec (ws := wsT yX8_signAt cX8_signAt 2 (some .int)) B.pre)
  have hown : s.vm.findClass RX8 = some m.cls := findClass_of_methodNamed B.named
  have hlocks := B.notSynchronized
  have hl := lv_entry ([.ref (g k), .int q]) (n := 2) (Nat.le_of_ble_eq_true rfl)
  rw [lg_entry_eq]
  generalize (lg_sl ([.ref (g k), .int q]) ++ List.replicate (2 - (lg_sl ([.ref (g k), .int q])).length) Slot.unset).toArray = ls at hl ⊢
  have hl : lv_has ls 2 [(0, .ref (g k)), (1, .int q)] := hl
  refine lv_iload_n hx hb dX8_signAt_0 rfl (lv_at hl 1 rfl) ?_
  refine lv_if_lt (tgt := 21) hx hb dX8_signAt_1 (by decide) (fun c_1 => ?_) (fun c_1 => ?_)
  · refine lv_iconst (v := 0) hx hb dX8_signAt_21 (by decide) ?_
    exact W.iret (v := 0) hx hb hr (fun t ht hW => ⟨_, rfl, (by rw [if_neg (inN_lo c_1)]), ht⟩) (fun _ h => absurd h List.not_mem_nil) dX8_signAt_22
  · refine lv_iload_n hx hb dX8_signAt_4 rfl (lv_at hl 1 rfl) ?_
    refine lv_aload_n hx hb dX8_signAt_5 rfl (lv_at hl 0 rfl) ?_
    refine va_get (D := G.1) (ci := 7) (v := .int (nI ln)) (C := RX8) (T := TX8) (N := 4) hx hb hts inlX8 hown hG.1 hP k (wl_at (by omega) htx) rfl 2 (by decide) (hts (.fieldLink RX8 18 "SwornLists$Text" "length" "I") w_253) (fun _ h9 => h9) rfl dX8_signAt_6 ?_
    refine lv_icmp_ge (tgt := 21) hx hb dX8_signAt_9 (by decide) (fun c_9 => ?_) (fun c_9 => ?_)
    · refine lv_iconst (v := 0) hx hb dX8_signAt_21 (by decide) ?_
      exact W.iret (v := 0) hx hb hr (fun t ht hW => ⟨_, rfl, (by rw [if_neg (inN_hi (by omega) c_9)]), ht⟩) (fun _ h => absurd h List.not_mem_nil) dX8_signAt_22
    · refine lv_aload_n hx hb dX8_signAt_12 rfl (lv_at hl 0 rfl) ?_
      refine va_get (D := G.1) (ci := 7) (v := .ref (g (k + 1))) (C := RX8) (T := TX8) (N := 4) hx hb hts inlX8 hown hG.1 hP k (wl_at (by omega) htx) rfl 0 (by decide) (hts (.fieldLink RX8 9 "SwornLists$Text" "signs" "[I") w_86) (fun _ h9 => h9) rfl dX8_signAt_13 ?_
      refine lv_iload_n hx hb dX8_signAt_16 rfl (lv_at hl 1 rfl) ?_
      refine va_iald hx hb hG.1 hP (k + 1) 0 (wl_at (by omega) hsx) rfl (inN_vp (inN_t (by omega) c_1 c_9) hln (by decide)) dX8_signAt_17 ?_
      refine lv_goto (tgt := 22) hx hb dX8_signAt_18 (by decide) ?_
      exact W.iret (v := sg (Int32.toNatClampNeg q)) hx hb hr (fun t ht hW => ⟨_, rfl, (by rw [if_pos (inN_t (by omega) c_1 c_9)]), ht⟩) (fun _ h => absurd h List.not_mem_nil) dX8_signAt_22
set_option maxHeartbeats 4000000 in
set_option maxRecDepth 100000 in
theorem t_stepAt (l : Launch) (G : gW) (g : Nat → Nat) (hg : gOK g) (f : Nat → va_E) (k : Nat) (ln : Nat) (sc : Nat) (sp : Nat → Int32) (q : Int32) (htx : f k = eO 7 [.ref (g (k + 1)), .ref (g (k + 2)), .int (nI ln), .int (nI sc)]) (hpx : f (k + 2) = eI G 50 sp) (hk3 : k + 2 < 333) (hln : ln ≤ 50) (hsc : sc ≤ 50) : Met l yX8_stepAt (wsT yX8_stepAt cX8_stepAt 2 (some .int)) ({ frames := 0, cells := 0, slots := 0, locals := 0 }) (bP G g f [.ref (g k), .int q]) (rQi (fun z9 => z9 = if inN q sc = true then sp (Int32.toNatClampNeg q) else 0)) 0 0 fr0 := by
  refine Met.ofW (cc := cX8_stepAt) (maxL := 2) (ret := (some .int)) (by decide) rfl ?_
  intro p e s m args below meth c s₁ B hml hv
  obtain ⟨rfl, hP, hG⟩ := hv
  have hx := B.exec
  have hb := B.bytes
  have hr := B.returns
  have hts := my_hts (atoms_spec (ws := wsT yX8_stepAt cX8_stepAt 2 (some .int)) B.pre)
  have hown : s.vm.findClass RX8 = some m.cls := findClass_of_methodNamed B.named
  have hlocks := B.notSynchronized
  have hl := lv_entry ([.ref (g k), .int q]) (n := 2) (Nat.le_of_ble_eq_true rfl)
  rw [lg_entry_eq]
  generalize (lg_sl ([.ref (g k), .int q]) ++ List.replicate (2 - (lg_sl ([.ref (g k), .int q])).length) Slot.unset).toArray = ls at hl ⊢
  have hl : lv_has ls 2 [(0, .ref (g k)), (1, .int q)] := hl
  refine lv_iload_n hx hb dX8_stepAt_0 rfl (lv_at hl 1 rfl) ?_
  refine lv_if_lt (tgt := 21) hx hb dX8_stepAt_1 (by decide) (fun c_1 => ?_) (fun c_1 => ?_)
  · refine lv_iconst (v := 0) hx hb dX8_stepAt_21 (by decide) ?_
    exact W.iret (v := 0) hx hb hr (fun t ht hW => ⟨_, rfl, (by rw [if_neg (inN_lo c_1)]), ht⟩) (fun _ h => absurd h List.not_mem_nil) dX8_stepAt_22
  · refine lv_iload_n hx hb dX8_stepAt_4 rfl (lv_at hl 1 rfl) ?_
    refine lv_aload_n hx hb dX8_stepAt_5 rfl (lv_at hl 0 rfl) ?_
    refine va_get (D := G.1) (ci := 7) (v := .int (nI sc)) (C := RX8) (T := TX8) (N := 4) hx hb hts inlX8 hown hG.1 hP k (wl_at (by omega) htx) rfl 3 (by decide) (hts (.fieldLink RX8 22 "SwornLists$Text" "stepCount" "I") w_293) (fun _ h9 => h9) rfl dX8_stepAt_6 ?_
    refine lv_icmp_ge (tgt := 21) hx hb dX8_stepAt_9 (by decide) (fun c_9 => ?_) (fun c_9 => ?_)
    · refine lv_iconst (v := 0) hx hb dX8_stepAt_21 (by decide) ?_
      exact W.iret (v := 0) hx hb hr (fun t ht hW => ⟨_, rfl, (by rw [if_neg (inN_hi (by omega) c_9)]), ht⟩) (fun _ h => absurd h List.not_mem_nil) dX8_stepAt_22
    · refine lv_aload_n hx hb dX8_stepAt_12 rfl (lv_at hl 0 rfl) ?_
      refine va_get (D := G.1) (ci := 7) (v := .ref (g (k + 2))) (C := RX8) (T := TX8) (N := 4) hx hb hts inlX8 hown hG.1 hP k (wl_at (by omega) htx) rfl 1 (by decide) (hts (.fieldLink RX8 15 "SwornLists$Text" "steps" "[I") w_87) (fun _ h9 => h9) rfl dX8_stepAt_13 ?_
      refine lv_iload_n hx hb dX8_stepAt_16 rfl (lv_at hl 1 rfl) ?_
      refine va_iald hx hb hG.1 hP (k + 2) 0 (wl_at (by omega) hpx) rfl (inN_vp (inN_t (by omega) c_1 c_9) hsc (by decide)) dX8_stepAt_17 ?_
      refine lv_goto (tgt := 22) hx hb dX8_stepAt_18 (by decide) ?_
      exact W.iret (v := sp (Int32.toNatClampNeg q)) hx hb hr (fun t ht hW => ⟨_, rfl, (by rw [if_pos (inN_t (by omega) c_1 c_9)]), ht⟩) (fun _ h => absurd h List.not_mem_nil) dX8_stepAt_22
set_option maxHeartbeats 4000000 in
set_option maxRecDepth 100000 in
theorem t_put (l : Launch) (G : gW) (g : Nat → Nat) (hg : gOK g) (f : Nat → va_E) (k : Nat) (ln : Nat) (sc : Nat) (sg : Nat → Int32) (v : Int32) (htx : f k = eO 7 [.ref (g (k + 1)), .ref (g (k + 2)), .int (nI ln), .int (nI sc)]) (hsx : f (k + 1) = eI G 50 sg) (hk3 : k + 2 < 333) (hln : ln ≤ 50) (hsc : sc ≤ 50) (hlt : ln < 50) : Met l yX8_put (wsT yX8_put cX8_put 2 (some .int)) ({ frames := 0, cells := 0, slots := 0, locals := 0 }) (bP G g f [.ref (g k), .int v]) (bQi G g (fun (z9 : Int32) (f' : Nat → va_E) => z9 = nI (ln + 1) ∧ f' k = eO 7 [.ref (g (k + 1)), .ref (g (k + 2)), .int (nI (ln + 1)), .int (nI sc)] ∧ f' (k + 1) = eI G 50 (upd sg (Int32.toNatClampNeg (nI ln)) v) ∧ ∀ j, (j ≠ k ∧ j ≠ k + 1) → f' j = f j)) 0 0 (gA g) := by
  refine Met.ofW (cc := cX8_put) (maxL := 2) (ret := (some .int)) (by decide) rfl ?_
  intro p e s m args below meth c s₁ B hml hv
  obtain ⟨rfl, hP, hG⟩ := hv
  have hx := B.exec
  have hb := B.bytes
  have hr := B.returns
  have hts := my_hts (atoms_spec (ws := wsT yX8_put cX8_put 2 (some .int)) B.pre)
  have hown : s.vm.findClass RX8 = some m.cls := findClass_of_methodNamed B.named
  have hlocks := B.notSynchronized
  have hS : va_S (gA g) s.heap s.heap [] := va_S.rf
  have hl := lv_entry ([.ref (g k), .int v]) (n := 2) (Nat.le_of_ble_eq_true rfl)
  rw [lg_entry_eq]
  generalize (lg_sl ([.ref (g k), .int v]) ++ List.replicate (2 - (lg_sl ([.ref (g k), .int v])).length) Slot.unset).toArray = ls at hl ⊢
  have hl : lv_has ls 2 [(0, .ref (g k)), (1, .int v)] := hl
  refine lv_aload_n hx hb dX8_put_0 rfl (lv_at hl 0 rfl) ?_
  refine va_get (D := G.1) (ci := 7) (v := .int (nI ln)) (C := RX8) (T := TX8) (N := 4) hx hb hts inlX8 hown hG.1 hP k (wl_at (by omega) htx) rfl 2 (by decide) (hts (.fieldLink RX8 18 "SwornLists$Text" "length" "I") w_253) (fun _ h9 => h9) rfl dX8_put_1 ?_
  refine lv_bipush (v := 50) hx hb dX8_put_4 (by decide) ?_
  refine lv_icmp_lt (tgt := 12) hx hb dX8_put_6 (by decide) (fun c_6 => ?_) (fun c_6 => absurd (nI_lt (b := 50) hlt (by decide)) c_6)
  refine lv_aload_n hx hb dX8_put_12 rfl (lv_at hl 0 rfl) ?_
  refine va_get (D := G.1) (ci := 7) (v := .ref (g (k + 1))) (C := RX8) (T := TX8) (N := 4) hx hb hts inlX8 hown hG.1 hP k (wl_at (by omega) htx) rfl 0 (by decide) (hts (.fieldLink RX8 9 "SwornLists$Text" "signs" "[I") w_86) (fun _ h9 => h9) rfl dX8_put_13 ?_
  refine lv_aload_n hx hb dX8_put_16 rfl (lv_at hl 0 rfl) ?_
  refine va_get (D := G.1) (ci := 7) (v := .int (nI ln)) (C := RX8) (T := TX8) (N := 4) hx hb hts inlX8 hown hG.1 hP k (wl_at (by omega) htx) rfl 2 (by decide) (hts (.fieldLink RX8 18 "SwornLists$Text" "length" "I") w_253) (fun _ h9 => h9) rfl dX8_put_17 ?_
  refine lv_iload_n hx hb dX8_put_20 rfl (lv_at hl 1 rfl) ?_
  refine va_iast hx hb hG.1 hP (wl_D hg f) hS (k + 1) 0 (wl_at (by omega) hsx) rfl (vp_in_nI hlt (by decide)) dX8_put_21 (fun H locs hP _ hS => ?_)
  obtain ⟨f_1, hP, e_1, o_1⟩ := b_put (by omega) hP
  have hsx : f_1 (k + 1) = eI G 50 (upd sg (Int32.toNatClampNeg (nI ln)) v) := e_1
  replace htx : f_1 k = eO 7 [.ref (g (k + 1)), .ref (g (k + 2)), .int (nI ln), .int (nI sc)] := (o_1 k (by omega)).trans htx
  refine lv_aload_n hx hb dX8_put_22 rfl (lv_at hl 0 rfl) ?_
  refine lv_dup hx hb dX8_put_23 rfl ?_
  refine va_get (D := G.1) (ci := 7) (v := .int (nI ln)) (C := RX8) (T := TX8) (N := 4) hx hb hts inlX8 hown hG.1 hP k (wl_at (by omega) htx) rfl 2 (by decide) (hts (.fieldLink RX8 18 "SwornLists$Text" "length" "I") w_253) (fun _ h9 => h9) rfl dX8_put_24 ?_
  refine lv_iconst (v := 1) hx hb dX8_put_27 (by decide) ?_
  refine lv_iadd hx hb dX8_put_28 ?_
  refine my_bei (v := nI (ln + 1)) (nI_1 ln) ?_
  refine va_put (D := G.1) (ci := 7) (v := .int (nI (ln + 1))) (ty := .int) (C := RX8) (T := TX8) (N := 4) hx hb hts inlX8 tyX8 tyX8_ok nmX8 hown hG.1 hP (wl_D hg f_1) hS k (wl_at (by omega) htx) rfl 2 (by decide) (hts (.fieldLink RX8 18 "SwornLists$Text" "length" "I") w_253) (fun _ h9 => h9) rfl (by decide +kernel) rfl rfl (Nat.le_of_ble_eq_true rfl) dX8_put_29 (fun H locs hP _ hS => ?_)
  obtain ⟨f_2, hP, e_2, o_2⟩ := b_put (by omega) hP
  have htx : f_2 k = eO 7 [.ref (g (k + 1)), .ref (g (k + 2)), .int (nI (ln + 1)), .int (nI sc)] := e_2
  replace hsx : f_2 (k + 1) = eI G 50 (upd sg (Int32.toNatClampNeg (nI ln)) v) := (o_2 (k + 1) (by omega)).trans hsx
  refine lv_aload_n hx hb dX8_put_32 rfl (lv_at hl 0 rfl) ?_
  refine va_get (D := G.1) (ci := 7) (v := .int (nI (ln + 1))) (C := RX8) (T := TX8) (N := 4) hx hb hts inlX8 hown hG.1 hP k (wl_at (by omega) htx) rfl 2 (by decide) (hts (.fieldLink RX8 18 "SwornLists$Text" "length" "I") w_253) (fun _ h9 => h9) rfl dX8_put_33 ?_
  exact W.iret (v := nI (ln + 1)) hx hb hr (fun t ht hW => ⟨⟨_, f_2, rfl, (⟨rfl, htx, hsx, fun j hj => ((o_2 j (by omega))).trans (o_1 j (by omega))⟩), by rw [ht]; exact hP⟩, hS.F ht⟩) hS.2.2 dX8_put_36
set_option maxHeartbeats 4000000 in
set_option maxRecDepth 100000 in
theorem t_putF (l : Launch) (G : gW) (g : Nat → Nat) (hg : gOK g) (f : Nat → va_E) (k : Nat) (ln : Nat) (sc : Nat) (v : Int32) (htx : f k = eO 7 [.ref (g (k + 1)), .ref (g (k + 2)), .int (nI ln), .int (nI sc)]) (hk3 : k + 2 < 333) (hln : ln ≤ 50) (hsc : sc ≤ 50) (hlt : ¬ ln < 50) : Met l yX8_put (wsT yX8_put cX8_put 2 (some .int)) ({ frames := 0, cells := 0, slots := 0, locals := 0 }) (bP G g f [.ref (g k), .int v]) (rQi (fun z9 => z9 = (-4))) 0 0 fr0 := by
  refine Met.ofW (cc := cX8_put) (maxL := 2) (ret := (some .int)) (by decide) rfl ?_
  intro p e s m args below meth c s₁ B hml hv
  obtain ⟨rfl, hP, hG⟩ := hv
  have hx := B.exec
  have hb := B.bytes
  have hr := B.returns
  have hts := my_hts (atoms_spec (ws := wsT yX8_put cX8_put 2 (some .int)) B.pre)
  have hown : s.vm.findClass RX8 = some m.cls := findClass_of_methodNamed B.named
  have hlocks := B.notSynchronized
  have hl := lv_entry ([.ref (g k), .int v]) (n := 2) (Nat.le_of_ble_eq_true rfl)
  rw [lg_entry_eq]
  generalize (lg_sl ([.ref (g k), .int v]) ++ List.replicate (2 - (lg_sl ([.ref (g k), .int v])).length) Slot.unset).toArray = ls at hl ⊢
  have hl : lv_has ls 2 [(0, .ref (g k)), (1, .int v)] := hl
  refine lv_aload_n hx hb dX8_put_0 rfl (lv_at hl 0 rfl) ?_
  refine va_get (D := G.1) (ci := 7) (v := .int (nI ln)) (C := RX8) (T := TX8) (N := 4) hx hb hts inlX8 hown hG.1 hP k (wl_at (by omega) htx) rfl 2 (by decide) (hts (.fieldLink RX8 18 "SwornLists$Text" "length" "I") w_253) (fun _ h9 => h9) rfl dX8_put_1 ?_
  refine lv_bipush (v := 50) hx hb dX8_put_4 (by decide) ?_
  refine lv_icmp_lt (tgt := 12) hx hb dX8_put_6 (by decide) (fun c_6 => absurd c_6 (fun z => hlt ((nI_ltI (b := 50) (by omega) (by decide)).mp z))) (fun c_6 => ?_)
  refine lv_bipush (v := (-4)) hx hb dX8_put_9 (by decide) ?_
  exact W.iret (v := (-4)) hx hb hr (fun t ht hW => ⟨_, rfl, (rfl), ht⟩) (fun _ h => absurd h List.not_mem_nil) dX8_put_11
set_option maxHeartbeats 4000000 in
set_option maxRecDepth 100000 in
theorem t_clear (l : Launch) (G : gW) (g : Nat → Nat) (hg : gOK g) (f : Nat → va_E) (k : Nat) (ln : Nat) (sc : Nat) (htx : f k = eO 7 [.ref (g (k + 1)), .ref (g (k + 2)), .int (nI ln), .int (nI sc)]) (hk3 : k + 2 < 333) (hln : ln ≤ 50) (hsc : sc ≤ 50) : Met l yX8_clear (wsT yX8_clear cX8_clear 2 (some .int)) ({ frames := 0, cells := 0, slots := 0, locals := 0 }) (bP G g f [.ref (g k)]) (bQi G g (fun (z9 : Int32) (f' : Nat → va_E) => z9 = nI ln ∧ f' k = eO 7 [.ref (g (k + 1)), .ref (g (k + 2)), .int (nI 0), .int (nI sc)] ∧ ∀ j, j ≠ k → f' j = f j)) 0 0 (gA g) := by
  refine Met.ofW (cc := cX8_clear) (maxL := 2) (ret := (some .int)) (by decide) rfl ?_
  intro p e s m args below meth c s₁ B hml hv
  obtain ⟨rfl, hP, hG⟩ := hv
  have hx := B.exec
  have hb := B.bytes
  have hr := B.returns
  have hts := my_hts (atoms_spec (ws := wsT yX8_clear cX8_clear 2 (some .int)) B.pre)
  have hown : s.vm.findClass RX8 = some m.cls := findClass_of_methodNamed B.named
  have hlocks := B.notSynchronized
  have hS : va_S (gA g) s.heap s.heap [] := va_S.rf
  have hl := lv_entry ([.ref (g k)]) (n := 2) (Nat.le_of_ble_eq_true rfl)
  rw [lg_entry_eq]
  generalize (lg_sl ([.ref (g k)]) ++ List.replicate (2 - (lg_sl ([.ref (g k)])).length) Slot.unset).toArray = ls at hl ⊢
  have hl : lv_has ls 2 [(0, .ref (g k))] := hl
  refine lv_aload_n hx hb dX8_clear_0 rfl (lv_at hl 0 rfl) ?_
  refine va_get (D := G.1) (ci := 7) (v := .int (nI ln)) (C := RX8) (T := TX8) (N := 4) hx hb hts inlX8 hown hG.1 hP k (wl_at (by omega) htx) rfl 2 (by decide) (hts (.fieldLink RX8 18 "SwornLists$Text" "length" "I") w_253) (fun _ h9 => h9) rfl dX8_clear_1 ?_
  refine lv_istore_n (lv' := [(1, .int (nI ln)), (0, .ref (g k))]) hx hb dX8_clear_4 rfl hl (by decide) rfl (fun ls hl => ?_)
  refine lv_aload_n hx hb dX8_clear_5 rfl (lv_at hl 1 rfl) ?_
  refine lv_iconst (v := 0) hx hb dX8_clear_6 (by decide) ?_
  refine va_put (D := G.1) (ci := 7) (v := .int 0) (ty := .int) (C := RX8) (T := TX8) (N := 4) hx hb hts inlX8 tyX8 tyX8_ok nmX8 hown hG.1 hP (wl_D hg f) hS k (wl_at (by omega) htx) rfl 2 (by decide) (hts (.fieldLink RX8 18 "SwornLists$Text" "length" "I") w_253) (fun _ h9 => h9) rfl (by decide +kernel) rfl rfl (Nat.le_of_ble_eq_true rfl) dX8_clear_7 (fun H locs hP _ hS => ?_)
  obtain ⟨f_1, hP, e_1, o_1⟩ := b_put (by omega) hP
  have htx : f_1 k = eO 7 [.ref (g (k + 1)), .ref (g (k + 2)), .int 0, .int (nI sc)] := e_1
  refine lv_iload_n hx hb dX8_clear_10 rfl (lv_at hl 0 rfl) ?_
  exact W.iret (v := nI ln) hx hb hr (fun t ht hW => ⟨⟨_, f_1, rfl, (⟨rfl, htx, fun j hj => (o_1 j (by omega))⟩), by rw [ht]; exact hP⟩, hS.F ht⟩) hS.2.2 dX8_clear_11
set_option maxHeartbeats 4000000 in
set_option maxRecDepth 100000 in
theorem t_forget (l : Launch) (G : gW) (g : Nat → Nat) (hg : gOK g) (f : Nat → va_E) (k : Nat) (ln : Nat) (sc : Nat) (htx : f k = eO 7 [.ref (g (k + 1)), .ref (g (k + 2)), .int (nI ln), .int (nI sc)]) (hk3 : k + 2 < 333) (hln : ln ≤ 50) (hsc : sc ≤ 50) : Met l yX8_forgetSteps (wsT yX8_forgetSteps cX8_forgetSteps 1 none) ({ frames := 0, cells := 0, slots := 0, locals := 0 }) (bP G g f [.ref (g k)]) (bQv G g (fun (f' : Nat → va_E) => f' k = eO 7 [.ref (g (k + 1)), .ref (g (k + 2)), .int (nI ln), .int (nI 0)] ∧ ∀ j, j ≠ k → f' j = f j)) 0 0 (gA g) := by
  refine Met.ofW (cc := cX8_forgetSteps) (maxL := 1) (ret := none) (by decide) rfl ?_
  intro p e s m args below meth c s₁ B hml hv
  obtain ⟨rfl, hP, hG⟩ := hv
  have hx := B.exec
  have hb := B.bytes
  have hr := B.returns
  have hts := my_hts (atoms_spec (ws := wsT yX8_forgetSteps cX8_forgetSteps 1 none) B.pre)
  have hown : s.vm.findClass RX8 = some m.cls := findClass_of_methodNamed B.named
  have hlocks := B.notSynchronized
  have hS : va_S (gA g) s.heap s.heap [] := va_S.rf
  have hl := lv_entry ([.ref (g k)]) (n := 1) (Nat.le_of_ble_eq_true rfl)
  rw [lg_entry_eq]
  generalize (lg_sl ([.ref (g k)]) ++ List.replicate (1 - (lg_sl ([.ref (g k)])).length) Slot.unset).toArray = ls at hl ⊢
  have hl : lv_has ls 1 [(0, .ref (g k))] := hl
  refine lv_aload_n hx hb dX8_forgetSteps_0 rfl (lv_at hl 0 rfl) ?_
  refine lv_iconst (v := 0) hx hb dX8_forgetSteps_1 (by decide) ?_
  refine va_put (D := G.1) (ci := 7) (v := .int 0) (ty := .int) (C := RX8) (T := TX8) (N := 4) hx hb hts inlX8 tyX8 tyX8_ok nmX8 hown hG.1 hP (wl_D hg f) hS k (wl_at (by omega) htx) rfl 3 (by decide) (hts (.fieldLink RX8 22 "SwornLists$Text" "stepCount" "I") w_293) (fun _ h9 => h9) rfl (by decide +kernel) rfl rfl (Nat.le_of_ble_eq_true rfl) dX8_forgetSteps_2 (fun H locs hP _ hS => ?_)
  obtain ⟨f_1, hP, e_1, o_1⟩ := b_put (by omega) hP
  have htx : f_1 k = eO 7 [.ref (g (k + 1)), .ref (g (k + 2)), .int (nI ln), .int 0] := e_1
  exact W.vret hx hb hr (fun t ht hW => ⟨⟨f_1, rfl, (⟨htx, fun j hj => (o_1 j (by omega))⟩), by rw [ht]; exact hP⟩, hS.F ht⟩) hS.2.2 dX8_forgetSteps_5
set_option maxHeartbeats 4000000 in
set_option maxRecDepth 100000 in
theorem t_fold (l : Launch) (G : gW) (g : Nat → Nat) (hg : gOK g) (f : Nat → va_E) (k : Nat) (ln : Nat) (sc : Nat) (sg : Nat → Int32) (h : Int64) (htx : f k = eO 7 [.ref (g (k + 1)), .ref (g (k + 2)), .int (nI ln), .int (nI sc)]) (hsx : f (k + 1) = eI G 50 sg) (hk3 : k + 2 < 333) (hln : ln ≤ 50) (hsc : sc ≤ 50) : Met l yX8_fold (wsT yX8_fold cX8_fold 4 (some .long)) ({ frames := 0, cells := 0, slots := 0, locals := 0 }) (bP G g f [.ref (g k), .long h]) (rQl (fun z9 => True)) 0 0 fr0 := by
  refine Met.ofW (cc := cX8_fold) (maxL := 4) (ret := (some .long)) (by decide) rfl ?_
  intro p e s m args below meth c s₁ B hml hv
  obtain ⟨rfl, hP, hG⟩ := hv
  have hx := B.exec
  have hb := B.bytes
  have hr := B.returns
  have hts := my_hts (atoms_spec (ws := wsT yX8_fold cX8_fold 4 (some .long)) B.pre)
  have hown : s.vm.findClass RX8 = some m.cls := findClass_of_methodNamed B.named
  have hlocks := B.notSynchronized
  have hl := lv_entry ([.ref (g k), .long h]) (n := 4) (Nat.le_of_ble_eq_true rfl)
  rw [lg_entry_eq]
  generalize (lg_sl ([.ref (g k), .long h]) ++ List.replicate (4 - (lg_sl ([.ref (g k), .long h])).length) Slot.unset).toArray = ls at hl ⊢
  have hl : lv_has ls 4 [(0, .ref (g k)), (1, .long h)] := hl
  refine lv_ldc2 (v := 31) hx hb hown (hts (.constantLong RX8 31 (31)) w_964) dX8_fold_0 ?_
  refine lv_lload_n hx hb dX8_fold_3 rfl (lv_at hl 1 rfl) ?_
  refine lv_lmul hx hb dX8_fold_4 ?_
  refine lv_aload_n hx hb dX8_fold_5 rfl (lv_at hl 0 rfl) ?_
  refine va_get (D := G.1) (ci := 7) (v := .int (nI ln)) (C := RX8) (T := TX8) (N := 4) hx hb hts inlX8 hown hG.1 hP k (wl_at (by omega) htx) rfl 2 (by decide) (hts (.fieldLink RX8 18 "SwornLists$Text" "length" "I") w_253) (fun _ h9 => h9) rfl dX8_fold_6 ?_
  refine lv_i2l hx hb dX8_fold_9 rfl ?_
  refine lv_ladd hx hb dX8_fold_10 ?_
  refine lv_lstore_n (lv' := [(1, .long ((31 * h) + (Int32.toInt64 (nI ln)))), (0, .ref (g k))]) hx hb dX8_fold_11 rfl hl (by decide) rfl (fun ls hl => ?_)
  refine lv_iconst (v := 0) hx hb dX8_fold_12 (by decide) ?_
  refine lv_istore_n (lv' := [(3, .int 0), (1, .long ((31 * h) + (Int32.toInt64 (nI ln)))), (0, .ref (g k))]) hx hb dX8_fold_13 rfl hl (by decide) rfl (fun ls hl => ?_)
  have key1 : ∀ (n9 : Nat) (u : Int64) (i : Nat) (ls : Array Slot), (i ≤ ln) → ln - i < n9 → lv_has ls 4 [(0, .ref (g k)), (1, .long u), (3, .int (nI i))] → W p l e (headSpec (wsT yX8_fold cX8_fold 4 (some .long)) ({ frames := 0, cells := 0, slots := 0, locals := 0 })).room s m ([.ref (g k), .long h] : List Value).toArray below meth c s.heap [] 0 0 (MQ below (rQl (fun z9 => True)) ([.ref (g k), .long h] : List Value).toArray s 0 0 fr0) (F0 m 14 ls []) := by
    intro n9
    induction n9 with
    | zero => intro u i ls hi hn9; exact absurd hn9 (Nat.not_lt_zero _)
    | succ n9 ih =>
      intro u i ls hi hn9 hl
      refine lv_iload_n hx hb dX8_fold_14 rfl (lv_at hl 2 rfl) ?_
      refine lv_aload_n hx hb dX8_fold_15 rfl (lv_at hl 0 rfl) ?_
      refine va_get (D := G.1) (ci := 7) (v := .int (nI ln)) (C := RX8) (T := TX8) (N := 4) hx hb hts inlX8 hown hG.1 hP k (wl_at (by omega) htx) rfl 2 (by decide) (hts (.fieldLink RX8 18 "SwornLists$Text" "length" "I") w_253) (fun _ h9 => h9) rfl dX8_fold_16 ?_
      refine lv_icmp_ge (tgt := 42) hx hb dX8_fold_19 (by decide) (fun c_19 => ?_) (fun c_19 => ?_)
      · refine lv_lload_n hx hb dX8_fold_42 rfl (lv_at hl 1 rfl) ?_
        exact W.lret (v := u) hx hb hr (fun t ht hW => ⟨_, rfl, (trivial), ht⟩) (fun _ h => absurd h List.not_mem_nil) dX8_fold_43
      · have hi9 : i < ln := Nat.not_le.mp (fun z => c_19 (nI_le z (by omega)))
        refine lv_ldc2 (v := 31) hx hb hown (hts (.constantLong RX8 31 (31)) w_964) dX8_fold_22 ?_
        refine lv_lload_n hx hb dX8_fold_25 rfl (lv_at hl 1 rfl) ?_
        refine lv_lmul hx hb dX8_fold_26 ?_
        refine lv_aload_n hx hb dX8_fold_27 rfl (lv_at hl 0 rfl) ?_
        refine va_get (D := G.1) (ci := 7) (v := .ref (g (k + 1))) (C := RX8) (T := TX8) (N := 4) hx hb hts inlX8 hown hG.1 hP k (wl_at (by omega) htx) rfl 0 (by decide) (hts (.fieldLink RX8 9 "SwornLists$Text" "signs" "[I") w_86) (fun _ h9 => h9) rfl dX8_fold_28 ?_
        refine lv_iload_n hx hb dX8_fold_31 rfl (lv_at hl 2 rfl) ?_
        refine va_iald hx hb hG.1 hP (k + 1) 0 (wl_at (by omega) hsx) rfl (vp_in_nI (by omega) (by decide)) dX8_fold_32 ?_
        refine lv_i2l hx hb dX8_fold_33 rfl ?_
        refine lv_ladd hx hb dX8_fold_34 ?_
        refine lv_lstore_n (lv' := [(1, .long ((31 * u) + (Int32.toInt64 (sg (Int32.toNatClampNeg (nI i)))))), (0, .ref (g k)), (3, .int (nI i))]) hx hb dX8_fold_35 rfl hl (by decide) rfl (fun ls hl => ?_)
        refine lv_iinc (v := nI (i + 1)) (lv' := [(3, .int (nI (i + 1))), (1, .long ((31 * u) + (Int32.toInt64 (sg (Int32.toNatClampNeg (nI i)))))), (0, .ref (g k))]) hx hb dX8_fold_36 hl (k := 2) rfl (nI_1 i) (by decide) rfl (fun ls hl => ?_)
        refine lv_goto (tgt := 14) hx hb dX8_fold_39 (by decide) ?_
        exact ih ((31 * u) + (Int32.toInt64 (sg (Int32.toNatClampNeg (nI i))))) (i + 1) _ (hi9) (by omega) (lv_sub hl [2, 1, 0] rfl)
  exact key1 (ln + 1) ((31 * h) + (Int32.toInt64 (nI ln))) 0 _ (Nat.zero_le _) (by omega) (lv_sub hl [2, 1, 0] rfl)
set_option maxHeartbeats 4000000 in
set_option maxRecDepth 100000 in
theorem t_copy (l : Launch) (G : gW) (g : Nat → Nat) (hg : gOK g) (f : Nat → va_E) (k : Nat) (ln : Nat) (sc : Nat) (sg : Nat → Int32) (sp : Nat → Int32) (k2 : Nat) (ln2 : Nat) (sc2 : Nat) (sg2 : Nat → Int32) (sp2 : Nat → Int32) (htx : f k = eO 7 [.ref (g (k + 1)), .ref (g (k + 2)), .int (nI ln), .int (nI sc)]) (hsx : f (k + 1) = eI G 50 sg) (hpx : f (k + 2) = eI G 50 sp) (htx2 : f k2 = eO 7 [.ref (g (k2 + 1)), .ref (g (k2 + 2)), .int (nI ln2), .int (nI sc2)]) (hsx2 : f (k2 + 1) = eI G 50 sg2) (hpx2 : f (k2 + 2) = eI G 50 sp2) (hk3 : k + 2 < 333) (hln : ln ≤ 50) (hsc : sc ≤ 50) (hk23 : k2 + 2 < 333) (hne : k + 2 < k2 ∨ k2 + 2 < k) : Met l yX8_copy (wsT yX8_copy cX8_copy 2 none) ({ frames := 1, cells := 0, slots := 0, locals := 18 }) (bP G g f [.ref (g k), .ref (g k2)]) (bQv G g (fun (f' : Nat → va_E) => ∃ s9 : Nat → Int32, ∃ p9 : Nat → Int32, f' k = eO 7 [.ref (g (k + 1)), .ref (g (k + 2)), .int (nI ln2), .int (nI sc2)] ∧ f' (k + 1) = eI G 50 s9 ∧ f' (k + 2) = eI G 50 p9 ∧ (∀ i, i < 50 → s9 i = sg2 i ∧ p9 i = sp2 i) ∧ ∀ j, (j ≠ k ∧ j ≠ k + 1 ∧ j ≠ k + 2) → f' j = f j)) 0 0 (gA g) := by
  refine Met.ofW (cc := cX8_copy) (maxL := 2) (ret := none) (by decide) rfl ?_
  intro p e s m args below meth c s₁ B hml hv
  obtain ⟨rfl, hP, hG⟩ := hv
  have hx := B.exec
  have hb := B.bytes
  have hr := B.returns
  have hts := my_hts (atoms_spec (ws := wsT yX8_copy cX8_copy 2 none) B.pre)
  have hown : s.vm.findClass RX8 = some m.cls := findClass_of_methodNamed B.named
  have hlocks := B.notSynchronized
  have hS : va_S (gA g) s.heap s.heap [] := va_S.rf
  have hl := lv_entry ([.ref (g k), .ref (g k2)]) (n := 2) (Nat.le_of_ble_eq_true rfl)
  rw [lg_entry_eq]
  generalize (lg_sl ([.ref (g k), .ref (g k2)]) ++ List.replicate (2 - (lg_sl ([.ref (g k), .ref (g k2)])).length) Slot.unset).toArray = ls at hl ⊢
  have hl : lv_has ls 2 [(0, .ref (g k)), (1, .ref (g k2))] := hl
  refine lv_aload_n hx hb dX8_copy_0 rfl (lv_at hl 0 rfl) ?_
  refine lv_aload_n hx hb dX8_copy_1 rfl (lv_at hl 1 rfl) ?_
  refine va_get (D := G.1) (ci := 7) (v := .int (nI ln2)) (C := RX8) (T := TX8) (N := 4) hx hb hts inlX8 hown hG.1 hP k2 (wl_at (by omega) htx2) rfl 2 (by decide) (hts (.fieldLink RX8 18 "SwornLists$Text" "length" "I") w_253) (fun _ h9 => h9) rfl dX8_copy_2 ?_
  refine va_put (D := G.1) (ci := 7) (v := .int (nI ln2)) (ty := .int) (C := RX8) (T := TX8) (N := 4) hx hb hts inlX8 tyX8 tyX8_ok nmX8 hown hG.1 hP (wl_D hg f) hS k (wl_at (by omega) htx) rfl 2 (by decide) (hts (.fieldLink RX8 18 "SwornLists$Text" "length" "I") w_253) (fun _ h9 => h9) rfl (by decide +kernel) rfl rfl (Nat.le_of_ble_eq_true rfl) dX8_copy_5 (fun H locs hP _ hS => ?_)
  obtain ⟨f_1, hP, e_1, o_1⟩ := b_put (by omega) hP
  have htx : f_1 k = eO 7 [.ref (g (k + 1)), .ref (g (k + 2)), .int (nI ln2), .int (nI sc)] := e_1
  replace hsx : f_1 (k + 1) = eI G 50 sg := (o_1 (k + 1) (by omega)).trans hsx
  replace hpx : f_1 (k + 2) = eI G 50 sp := (o_1 (k + 2) (by omega)).trans hpx
  replace htx2 : f_1 k2 = eO 7 [.ref (g (k2 + 1)), .ref (g (k2 + 2)), .int (nI ln2), .int (nI sc2)] := (o_1 k2 (by omega)).trans htx2
  replace hsx2 : f_1 (k2 + 1) = eI G 50 sg2 := (o_1 (k2 + 1) (by omega)).trans hsx2
  replace hpx2 : f_1 (k2 + 2) = eI G 50 sp2 := (o_1 (k2 + 2) (by omega)).trans hpx2
  refine lv_aload_n hx hb dX8_copy_8 rfl (lv_at hl 0 rfl) ?_
  refine lv_aload_n hx hb dX8_copy_9 rfl (lv_at hl 1 rfl) ?_
  refine va_get (D := G.1) (ci := 7) (v := .int (nI sc2)) (C := RX8) (T := TX8) (N := 4) hx hb hts inlX8 hown hG.1 hP k2 (wl_at (by omega) htx2) rfl 3 (by decide) (hts (.fieldLink RX8 22 "SwornLists$Text" "stepCount" "I") w_293) (fun _ h9 => h9) rfl dX8_copy_10 ?_
  refine va_put (D := G.1) (ci := 7) (v := .int (nI sc2)) (ty := .int) (C := RX8) (T := TX8) (N := 4) hx hb hts inlX8 tyX8 tyX8_ok nmX8 hown hG.1 hP (wl_D hg f_1) hS k (wl_at (by omega) htx) rfl 3 (by decide) (hts (.fieldLink RX8 22 "SwornLists$Text" "stepCount" "I") w_293) (fun _ h9 => h9) rfl (by decide +kernel) rfl rfl (Nat.le_of_ble_eq_true rfl) dX8_copy_13 (fun H locs hP _ hS => ?_)
  obtain ⟨f_2, hP, e_2, o_2⟩ := b_put (by omega) hP
  have htx : f_2 k = eO 7 [.ref (g (k + 1)), .ref (g (k + 2)), .int (nI ln2), .int (nI sc2)] := e_2
  replace hsx : f_2 (k + 1) = eI G 50 sg := (o_2 (k + 1) (by omega)).trans hsx
  replace hpx : f_2 (k + 2) = eI G 50 sp := (o_2 (k + 2) (by omega)).trans hpx
  replace htx2 : f_2 k2 = eO 7 [.ref (g (k2 + 1)), .ref (g (k2 + 2)), .int (nI ln2), .int (nI sc2)] := (o_2 k2 (by omega)).trans htx2
  replace hsx2 : f_2 (k2 + 1) = eI G 50 sg2 := (o_2 (k2 + 1) (by omega)).trans hsx2
  replace hpx2 : f_2 (k2 + 2) = eI G 50 sp2 := (o_2 (k2 + 2) (by omega)).trans hpx2
  refine lv_aload_n hx hb dX8_copy_16 rfl (lv_at hl 1 rfl) ?_
  refine va_get (D := G.1) (ci := 7) (v := .ref (g (k2 + 1))) (C := RX8) (T := TX8) (N := 4) hx hb hts inlX8 hown hG.1 hP k2 (wl_at (by omega) htx2) rfl 0 (by decide) (hts (.fieldLink RX8 9 "SwornLists$Text" "signs" "[I") w_86) (fun _ h9 => h9) rfl dX8_copy_17 ?_
  refine lv_iconst (v := 0) hx hb dX8_copy_20 (by decide) ?_
  refine lv_aload_n hx hb dX8_copy_21 rfl (lv_at hl 0 rfl) ?_
  refine va_get (D := G.1) (ci := 7) (v := .ref (g (k + 1))) (C := RX8) (T := TX8) (N := 4) hx hb hts inlX8 hown hG.1 hP k (wl_at (by omega) htx) rfl 0 (by decide) (hts (.fieldLink RX8 9 "SwornLists$Text" "signs" "[I") w_86) (fun _ h9 => h9) rfl dX8_copy_22 ?_
  refine lv_iconst (v := 0) hx hb dX8_copy_25 (by decide) ?_
  refine lv_bipush (v := 50) hx hb dX8_copy_26 (by decide) ?_
  refine va_copyi hx hb (by rw [hml]; exact hl.1.symm) hown (hts (.methodLink RX8 25 arraycopyName) w_598) (hts (.native arraycopyName) w_599) (hts (.static arraycopyName) w_600) (hts (.initialized "java/lang/System") w_601) hG.1 hP (wl_D hg f_2) hS (k2 + 1) (k + 1) 0 0 (wl_at (by omega) hsx2) (wl_at (by omega) hsx) rfl rfl rfl (by decide) (by decide) (by decide) (by decide) (by decide) (fun _ _ => rfl) (Nat.le_of_ble_eq_true rfl) (Nat.le_of_ble_eq_true rfl) dX8_copy_28 (fun H locs hP _ hS => ?_)
  obtain ⟨f_3, hP, e_3, o_3⟩ := b_put (by omega) hP
  have hsx : f_3 (k + 1) = eI G 50 (va_cpy sg2 sg (Int32.toNatClampNeg 0) (Int32.toNatClampNeg 0) (Int32.toNatClampNeg 50)) := e_3
  replace htx : f_3 k = eO 7 [.ref (g (k + 1)), .ref (g (k + 2)), .int (nI ln2), .int (nI sc2)] := (o_3 k (by omega)).trans htx
  replace hpx : f_3 (k + 2) = eI G 50 sp := (o_3 (k + 2) (by omega)).trans hpx
  replace htx2 : f_3 k2 = eO 7 [.ref (g (k2 + 1)), .ref (g (k2 + 2)), .int (nI ln2), .int (nI sc2)] := (o_3 k2 (by omega)).trans htx2
  replace hsx2 : f_3 (k2 + 1) = eI G 50 sg2 := (o_3 (k2 + 1) (by omega)).trans hsx2
  replace hpx2 : f_3 (k2 + 2) = eI G 50 sp2 := (o_3 (k2 + 2) (by omega)).trans hpx2
  refine lv_aload_n hx hb dX8_copy_31 rfl (lv_at hl 1 rfl) ?_
  refine va_get (D := G.1) (ci := 7) (v := .ref (g (k2 + 2))) (C := RX8) (T := TX8) (N := 4) hx hb hts inlX8 hown hG.1 hP k2 (wl_at (by omega) htx2) rfl 1 (by decide) (hts (.fieldLink RX8 15 "SwornLists$Text" "steps" "[I") w_87) (fun _ h9 => h9) rfl dX8_copy_32 ?_
  refine lv_iconst (v := 0) hx hb dX8_copy_35 (by decide) ?_
  refine lv_aload_n hx hb dX8_copy_36 rfl (lv_at hl 0 rfl) ?_
  refine va_get (D := G.1) (ci := 7) (v := .ref (g (k + 2))) (C := RX8) (T := TX8) (N := 4) hx hb hts inlX8 hown hG.1 hP k (wl_at (by omega) htx) rfl 1 (by decide) (hts (.fieldLink RX8 15 "SwornLists$Text" "steps" "[I") w_87) (fun _ h9 => h9) rfl dX8_copy_37 ?_
  refine lv_iconst (v := 0) hx hb dX8_copy_40 (by decide) ?_
  refine lv_bipush (v := 50) hx hb dX8_copy_41 (by decide) ?_
  refine va_copyi hx hb (by rw [hml]; exact hl.1.symm) hown (hts (.methodLink RX8 25 arraycopyName) w_598) (hts (.native arraycopyName) w_599) (hts (.static arraycopyName) w_600) (hts (.initialized "java/lang/System") w_601) hG.1 hP (wl_D hg f_3) hS (k2 + 2) (k + 2) 0 0 (wl_at (by omega) hpx2) (wl_at (by omega) hpx) rfl rfl rfl (by decide) (by decide) (by decide) (by decide) (by decide) (fun _ _ => rfl) (Nat.le_of_ble_eq_true rfl) (Nat.le_of_ble_eq_true rfl) dX8_copy_43 (fun H locs hP _ hS => ?_)
  obtain ⟨f_4, hP, e_4, o_4⟩ := b_put (by omega) hP
  have hpx : f_4 (k + 2) = eI G 50 (va_cpy sp2 sp (Int32.toNatClampNeg 0) (Int32.toNatClampNeg 0) (Int32.toNatClampNeg 50)) := e_4
  replace htx : f_4 k = eO 7 [.ref (g (k + 1)), .ref (g (k + 2)), .int (nI ln2), .int (nI sc2)] := (o_4 k (by omega)).trans htx
  replace hsx : f_4 (k + 1) = eI G 50 (va_cpy sg2 sg (Int32.toNatClampNeg 0) (Int32.toNatClampNeg 0) (Int32.toNatClampNeg 50)) := (o_4 (k + 1) (by omega)).trans hsx
  replace htx2 : f_4 k2 = eO 7 [.ref (g (k2 + 1)), .ref (g (k2 + 2)), .int (nI ln2), .int (nI sc2)] := (o_4 k2 (by omega)).trans htx2
  replace hsx2 : f_4 (k2 + 1) = eI G 50 sg2 := (o_4 (k2 + 1) (by omega)).trans hsx2
  replace hpx2 : f_4 (k2 + 2) = eI G 50 sp2 := (o_4 (k2 + 2) (by omega)).trans hpx2
  exact W.vret hx hb hr (fun t ht hW => ⟨⟨f_4, rfl, (⟨_, _, htx, hsx, hpx, fun i hi => ⟨cpy_all (N := 50) (by decide) i hi, cpy_all (N := 50) (by decide) i hi⟩, fun j hj => ((((o_4 j (by omega))).trans (o_3 j (by omega))).trans (o_2 j (by omega))).trans (o_1 j (by omega))⟩), by rw [ht]; exact hP⟩, hS.F ht⟩) hS.2.2 dX8_copy_46


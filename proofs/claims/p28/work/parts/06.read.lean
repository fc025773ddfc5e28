theorem ok_X7_rank : okS yX7_rank cX7_rank 1 (some .int) 1 := ⟨⟨w_338, w_337, ⟨by decide +kernel, by decide +kernel, by decide +kernel⟩⟩, trivial, w_336, trivial⟩
theorem ok_X7_turned : okS yX7_turned cX7_turned 3 (some .long) 2 := ⟨⟨w_457, w_337, ⟨by decide +kernel, by decide +kernel, by decide +kernel⟩⟩, trivial, w_456, trivial⟩
theorem ok_X7_joined : okS yX7_joined cX7_joined 5 (some .long) 3 := ⟨⟨w_463, w_337, ⟨by decide +kernel, by decide +kernel, by decide +kernel⟩⟩, trivial, w_462, trivial⟩
theorem ok_X7_truth : okS yX7_truth cX7_truth 1 (some .long) 1 := ⟨⟨w_460, w_337, ⟨by decide +kernel, by decide +kernel, by decide +kernel⟩⟩, trivial, w_459, trivial⟩
theorem ok_X4_isDigit : okS yX4_isDigit cX4_isDigit 1 (some .boolean) 1 := ⟨⟨w_304, w_23, ⟨by decide +kernel, by decide +kernel, by decide +kernel⟩⟩, trivial, w_303, trivial⟩
theorem ok_X4_digitsEnd : okS yX4_digitsEnd cX4_digitsEnd 3 (some .int) 2 := ⟨⟨w_307, w_23, ⟨by decide +kernel, by decide +kernel, by decide +kernel⟩⟩, trivial, w_306, trivial⟩
theorem ok_X4_numberIn : okS yX4_numberIn cX4_numberIn 5 (some .int) 3 := ⟨⟨w_310, w_23, ⟨by decide +kernel, by decide +kernel, by decide +kernel⟩⟩, trivial, w_309, trivial⟩
theorem ok_X4_startsUnit : okV yX4_startsUnit cX4_startsUnit 3 (some .boolean) 2 := ⟨⟨w_318, w_23, ⟨by decide +kernel, by decide +kernel, by decide +kernel⟩⟩, trivial, w_316, w_317⟩
theorem ok_X4_goesOn : okV yX4_goesOn cX4_goesOn 5 (some .boolean) 2 := ⟨⟨w_326, w_23, ⟨by decide +kernel, by decide +kernel, by decide +kernel⟩⟩, trivial, w_324, w_325⟩
theorem ok_X4_closes : okV yX4_closes cX4_closes 2 (some .boolean) 1 := ⟨⟨w_330, w_23, ⟨by decide +kernel, by decide +kernel, by decide +kernel⟩⟩, trivial, w_328, w_329⟩
theorem ok_X4_hold : okV yX4_hold cX4_hold 2 none 1 := ⟨⟨w_322, w_23, ⟨by decide +kernel, by decide +kernel, by decide +kernel⟩⟩, trivial, w_320, w_321⟩
theorem ok_X4_release : okV yX4_release cX4_release 3 none 2 := ⟨⟨w_334, w_23, ⟨by decide +kernel, by decide +kernel, by decide +kernel⟩⟩, trivial, w_332, w_333⟩
theorem ok_X4_read : okV yX4_read cX4_read 5 (some .int) 1 := ⟨⟨w_281, w_23, ⟨by decide +kernel, by decide +kernel, by decide +kernel⟩⟩, trivial, w_279, w_280⟩
set_option maxHeartbeats 4000000 in
set_option maxRecDepth 100000 in
theorem g_isDigit (l : Launch) (G : gW) (g : Nat → Nat) (hg : gOK g) (f : Nat → va_E) (n : Int32)   : Met l yX4_isDigit (wsT yX4_isDigit cX4_isDigit 1 (some .boolean)) ({ frames := 0, cells := 0, slots := 0, locals := 0 }) (bP G g f [.int n]) (rQi (fun z9 => z9 = b2 (inB 48 n 57 = true))) 0 0 fr0 := by
  refine Met.ofW (cc := cX4_isDigit) (maxL := 1) (ret := (some .boolean)) (by decide) rfl ?_
  intro p e s m args below meth c s₁ B hml hv
  obtain ⟨rfl, hP, hG⟩ := hv
  have hx := B.exec
  have hb := B.bytes
  have hr := B.returns
  have hts := my_hts (atoms_spec (ws := wsT yX4_isDigit cX4_isDigit 1 (some .boolean)) B.pre)
  have hown : s.vm.findClass RX4 = some m.cls := findClass_of_methodNamed B.named
  have hlocks := B.notSynchronized
  have hl := lv_entry ([.int n]) (n := 1) (Nat.le_of_ble_eq_true rfl)
  rw [lg_entry_eq]
  generalize (lg_sl ([.int n]) ++ List.replicate (1 - (lg_sl ([.int n])).length) Slot.unset).toArray = ls at hl ⊢
  have hl : lv_has ls 1 [(0, .int n)] := hl
  refine lv_iload_n hx hb dX4_isDigit_0 rfl (lv_at hl 0 rfl) ?_
  refine lv_bipush (v := 48) hx hb dX4_isDigit_1 (by decide) ?_
  refine lv_icmp_lt (tgt := 16) hx hb dX4_isDigit_3 (by decide) (fun c_3 => ?_) (fun c_3 => ?_)
  · refine lv_iconst (v := 0) hx hb dX4_isDigit_16 (by decide) ?_
    exact W.zret (v := 0) hx hb hr (rfl) (fun t ht hW => ⟨_, rfl, ((b2_f (inB_lo c_3)).symm), ht⟩) (fun _ h => absurd h List.not_mem_nil) dX4_isDigit_17
  · refine lv_iload_n hx hb dX4_isDigit_6 rfl (lv_at hl 0 rfl) ?_
    refine lv_bipush (v := 57) hx hb dX4_isDigit_7 (by decide) ?_
    refine lv_icmp_gt (tgt := 16) hx hb dX4_isDigit_9 (by decide) (fun c_9 => ?_) (fun c_9 => ?_)
    · refine lv_iconst (v := 0) hx hb dX4_isDigit_16 (by decide) ?_
      exact W.zret (v := 0) hx hb hr (rfl) (fun t ht hW => ⟨_, rfl, ((b2_f (inB_hi c_9)).symm), ht⟩) (fun _ h => absurd h List.not_mem_nil) dX4_isDigit_17
    · refine lv_iconst (v := 1) hx hb dX4_isDigit_12 (by decide) ?_
      refine lv_goto (tgt := 17) hx hb dX4_isDigit_13 (by decide) ?_
      exact W.zret (v := 1) hx hb hr (rfl) (fun t ht hW => ⟨_, rfl, ((b2_t (inB_t c_3 c_9)).symm), ht⟩) (fun _ h => absurd h List.not_mem_nil) dX4_isDigit_17

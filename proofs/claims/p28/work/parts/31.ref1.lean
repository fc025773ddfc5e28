theorem ok_X11_in : okS yX11_in cX11_in 6 (some .boolean) 3 := ⟨⟨w_164, w_5, ⟨by decide +kernel, by decide +kernel, by decide +kernel⟩⟩, trivial, w_163, trivial⟩
theorem ok_X11_is : okV yX11_is cX11_is 3 (some .boolean) 2 := ⟨⟨w_189, w_5, ⟨by decide +kernel, by decide +kernel, by decide +kernel⟩⟩, trivial, w_187, w_188⟩
theorem ok_X11_one : okV yX11_one cX11_one 2 (some .int) 1 := ⟨⟨w_168, w_5, ⟨by decide +kernel, by decide +kernel, by decide +kernel⟩⟩, trivial, w_166, w_167⟩
theorem ok_X11_sizeOf : okS yX11_sizeOf cX11_sizeOf 3 (some .int) 1 := ⟨⟨w_586, w_5, ⟨by decide +kernel, by decide +kernel, by decide +kernel⟩⟩, trivial, w_585, trivial⟩
theorem ok_X11_people : okV yX11_people cX11_people 1 (some .int) 0 := ⟨⟨w_216, w_5, ⟨by decide +kernel, by decide +kernel, by decide +kernel⟩⟩, trivial, w_214, w_215⟩
theorem ok_X11_isDay : okS yX11_isDay cX11_isDay 1 (some .boolean) 1 := ⟨⟨w_192, w_5, ⟨by decide +kernel, by decide +kernel, by decide +kernel⟩⟩, trivial, w_191, trivial⟩
theorem ok_X11_isText : okS yX11_isText cX11_isText 1 (some .boolean) 1 := ⟨⟨w_261, w_5, ⟨by decide +kernel, by decide +kernel, by decide +kernel⟩⟩, trivial, w_260, trivial⟩
theorem ok_X11_emits : okV yX11_emits cX11_emits 3 none 2 := ⟨⟨w_363, w_5, ⟨by decide +kernel, by decide +kernel, by decide +kernel⟩⟩, trivial, w_361, w_362⟩
theorem ok_X11_holds : okS yX11_holds cX11_holds 1 (some .int) 1 := ⟨⟨w_359, w_5, ⟨by decide +kernel, by decide +kernel, by decide +kernel⟩⟩, trivial, w_358, trivial⟩
theorem ok_X11_settles : okV yX11_settles cX11_settles 2 none 1 := ⟨⟨w_356, w_5, ⟨by decide +kernel, by decide +kernel, by decide +kernel⟩⟩, trivial, w_354, w_355⟩
theorem ok_X11_waitsWith : okV yX11_waitsWith cX11_waitsWith 2 none 1 := ⟨⟨w_374, w_5, ⟨by decide +kernel, by decide +kernel, by decide +kernel⟩⟩, trivial, w_372, w_373⟩
theorem ok_X11_nameOf : okS yX11_nameOf cX11_nameOf 1 (some .int) 1 := ⟨⟨w_377, w_5, ⟨by decide +kernel, by decide +kernel, by decide +kernel⟩⟩, trivial, w_376, trivial⟩
theorem ok_X11_signOf : okS yX11_signOf cX11_signOf 1 (some .int) 1 := ⟨⟨w_366, w_5, ⟨by decide +kernel, by decide +kernel, by decide +kernel⟩⟩, trivial, w_365, trivial⟩
theorem ok_X11_goesOn : okV yX11_goesOn cX11_goesOn 3 (some .boolean) 1 := ⟨⟨w_370, w_5, ⟨by decide +kernel, by decide +kernel, by decide +kernel⟩⟩, trivial, w_368, w_369⟩
theorem ok_X11_reads : okV yX11_reads cX11_reads 9 (some .int) 1 := ⟨⟨w_348, w_5, ⟨by decide +kernel, by decide +kernel, by decide +kernel⟩⟩, trivial, w_346, w_347⟩
set_option maxHeartbeats 4000000 in
set_option maxRecDepth 100000 in
theorem r_in (l : Launch) (G : gW) (g : Nat → Nat) (hg : gOK g) (f : Nat → va_E) (n : Int32) (a : Int32) (b : Int32)   : Met l yX11_in (wsT yX11_in cX11_in 6 (some .boolean)) ({ frames := 0, cells := 0, slots := 0, locals := 0 }) (bP G g f [.long (Int32.toInt64 n), .long (Int32.toInt64 a), .long (Int32.toInt64 b)]) (rQi (fun z9 => z9 = b2 (inB a n b = true))) 0 0 fr0 := by
  refine Met.ofW (cc := cX11_in) (maxL := 6) (ret := (some .boolean)) (by decide) rfl ?_
  intro p e s m args below meth c s₁ B hml hv
  obtain ⟨rfl, hP, hG⟩ := hv
  have hx := B.exec
  have hb := B.bytes
  have hr := B.returns
  have hts := my_hts (atoms_spec (ws := wsT yX11_in cX11_in 6 (some .boolean)) B.pre)
  have hown : s.vm.findClass RX11 = some m.cls := findClass_of_methodNamed B.named
  have hlocks := B.notSynchronized
  have hl := lv_entry ([.long (Int32.toInt64 n), .long (Int32.toInt64 a), .long (Int32.toInt64 b)]) (n := 6) (Nat.le_of_ble_eq_true rfl)
  rw [lg_entry_eq]
  generalize (lg_sl ([.long (Int32.toInt64 n), .long (Int32.toInt64 a), .long (Int32.toInt64 b)]) ++ List.replicate (6 - (lg_sl ([.long (Int32.toInt64 n), .long (Int32.toInt64 a), .long (Int32.toInt64 b)])).length) Slot.unset).toArray = ls at hl ⊢
  have hl : lv_has ls 6 [(0, .long (Int32.toInt64 n)), (2, .long (Int32.toInt64 a)), (4, .long (Int32.toInt64 b))] := hl
  refine lv_lload_n hx hb dX11_in_0 rfl (lv_at hl 0 rfl) ?_
  refine lv_lload_n hx hb dX11_in_1 rfl (lv_at hl 1 rfl) ?_
  refine W.lcmp hx hb dX11_in_2 ?_
  refine lv_if_lt (tgt := 17) hx hb dX11_in_3 (by decide) (fun c_3 => ?_) (fun c_3 => ?_)
  · refine lv_iconst (v := 0) hx hb dX11_in_17 (by decide) ?_
    exact W.zret (v := 0) hx hb hr (rfl) (fun t ht hW => ⟨_, rfl, ((b2_f (inB_lo (i64_lt.mp ((lg_cmp_lt _ _).mp c_3)))).symm), ht⟩) (fun _ h => absurd h List.not_mem_nil) dX11_in_18
  · refine lv_lload_n hx hb dX11_in_6 rfl (lv_at hl 0 rfl) ?_
    refine lv_lload hx hb dX11_in_7 (lv_at hl 2 rfl) ?_
    refine W.lcmp hx hb dX11_in_9 ?_
    refine lv_if_gt (tgt := 17) hx hb dX11_in_10 (by decide) (fun c_10 => ?_) (fun c_10 => ?_)
    · refine lv_iconst (v := 0) hx hb dX11_in_17 (by decide) ?_
      exact W.zret (v := 0) hx hb hr (rfl) (fun t ht hW => ⟨_, rfl, ((b2_f (inB_hi (i64_lt.mp ((lg_cmp_gt _ _).mp c_10)))).symm), ht⟩) (fun _ h => absurd h List.not_mem_nil) dX11_in_18
    · refine lv_iconst (v := 1) hx hb dX11_in_13 (by decide) ?_
      refine lv_goto (tgt := 18) hx hb dX11_in_14 (by decide) ?_
      exact W.zret (v := 1) hx hb hr (rfl) (fun t ht hW => ⟨_, rfl, ((b2_t (inB_t (fun z => c_3 ((lg_cmp_lt _ _).mpr (i64_lt.mpr z))) (fun z => c_10 ((lg_cmp_gt _ _).mpr (i64_lt.mpr z))))).symm), ht⟩) (fun _ h => absurd h List.not_mem_nil) dX11_in_18
set_option maxHeartbeats 4000000 in
set_option maxRecDepth 100000 in
theorem r_is (l : Launch) (G : gW) (g : Nat → Nat) (hg : gOK g) (f : Nat → va_E) (ab2 : Int64) (be2 : Int64) (sn : Int32) (wn : Int32) (sa : Int32) (ly : Int32) (rdy : Int32) (fd : Int32) (ss : Nat → Int32) (k : Nat) (mm : Nat) (n : Int32) (hmo : f 315 = eO 10 [.ref (g 316), .ref (g 317), .ref (g 318), .long ab2, .long be2, .int sn, .ref (g 319), .ref (g 320), .int wn, .ref (g 321), .ref (g 322), .int sa, .int ly, .int rdy, .int fd, .ref (g 323), .ref (g 324), .ref (g 325), .ref (g 326), .ref (g 327), .ref (g 328), .ref (g 329), .ref (g 330), .ref (g 331), .ref (g 332)]) (hss_ : f 316 = eI G 2246 ss) (hk : k < 2246) (hm : ss k = nI mm) (hm2 : mm ≤ 40) : Met l yX11_is (wsT yX11_is cX11_is 3 (some .boolean)) ({ frames := 1, cells := 0, slots := 0, locals := 25 }) (bP G g f [.ref (g 315), .int (nI k), .int n]) (rQi (fun z9 => z9 = b2 (inN n mm = true))) 0 0 fr0 := by
  refine Met.ofW (cc := cX11_is) (maxL := 3) (ret := (some .boolean)) (by decide) rfl ?_
  intro p e s m args below meth c s₁ B hml hv
  obtain ⟨rfl, hP, hG⟩ := hv
  have hx := B.exec
  have hb := B.bytes
  have hr := B.returns
  have hts := my_hts (atoms_spec (ws := wsT yX11_is cX11_is 3 (some .boolean)) B.pre)
  have hown : s.vm.findClass RX11 = some m.cls := findClass_of_methodNamed B.named
  have hlocks := B.notSynchronized
  have hl := lv_entry ([.ref (g 315), .int (nI k), .int n]) (n := 3) (Nat.le_of_ble_eq_true rfl)
  rw [lg_entry_eq]
  generalize (lg_sl ([.ref (g 315), .int (nI k), .int n]) ++ List.replicate (3 - (lg_sl ([.ref (g 315), .int (nI k), .int n])).length) Slot.unset).toArray = ls at hl ⊢
  have hl : lv_has ls 3 [(0, .ref (g 315)), (1, .int (nI k)), (2, .int n)] := hl
  refine lv_iload_n hx hb dX11_is_0 rfl (lv_at hl 2 rfl) ?_
  refine lv_i2l hx hb dX11_is_1 rfl ?_
  refine lv_lconst (v := 0) hx hb dX11_is_2 (by decide) ?_
  refine my_bel (v := Int32.toInt64 0) (by decide) ?_
  refine lv_aload_n hx hb dX11_is_3 rfl (lv_at hl 0 rfl) ?_
  refine va_get (D := G.1) (ci := 10) (v := .ref (g 316)) (C := RX11) (T := TX11) (N := 25) hx hb hts inlX11 hown hG.1 hP 315 (wl_at (by decide) hmo) rfl 0 (by decide) (hts (.fieldLink RX11 7 "SwornListsModel" "st" "[I") w_112) (fun _ h9 => h9) rfl dX11_is_4 ?_
  refine lv_iload_n hx hb dX11_is_7 rfl (lv_at hl 1 rfl) ?_
  refine va_iald hx hb hG.1 hP 316 0 (wl_at (by decide) hss_) rfl (vp_in_nI (by omega) (by decide)) dX11_is_8 ?_
  refine my_bei (v := ss k) (congrArg ss (nI_clamp (n := k) (by omega))) ?_
  refine my_bei (v := nI mm) (hm) ?_
  refine lv_iconst (v := 1) hx hb dX11_is_9 (by decide) ?_
  refine lv_isub hx hb dX11_is_10 ?_
  refine lv_i2l hx hb dX11_is_11 rfl ?_
  refine rd_calli (va_runS (As := [.long (Int32.toInt64 n), .long (Int32.toInt64 0), .long (Int32.toInt64 ((nI mm) - 1))]) (rest := []) ⟨hx, hb, hml, hown, hts⟩ (r_in l G g hg f n 0 ((nI mm) - 1)  ) (my_cwS hts ok_X11_in w_162 rfl rfl ⟨Nat.le_of_ble_eq_true rfl, Nat.le_of_ble_eq_true rfl⟩) ⟨bP.blind, fun U hU hW => ⟨rfl, by rw [hU]; exact hP, kG.warm hW hG⟩⟩ rfl rfl hl.1 rfl (lv_room (Nat.le_of_ble_eq_true rfl)) dX11_is_12 ⟨Nat.le_of_ble_eq_true rfl, Nat.le_of_ble_eq_true rfl⟩) (fun r hr9 => ?_)
  subst hr9
  exact W.zret (v := b2 (inB 0 n ((nI mm) - 1) = true)) hx hb hr (b2_nar) (fun t ht hW => ⟨_, rfl, (by rw [is_b (by omega)]), ht⟩) (fun _ h => absurd h List.not_mem_nil) dX11_is_15
set_option maxHeartbeats 4000000 in
set_option maxRecDepth 100000 in
theorem r_one (l : Launch) (G : gW) (g : Nat → Nat) (hg : gOK g) (f : Nat → va_E) (ab2 : Int64) (be2 : Int64) (sn : Int32) (wn : Int32) (sa : Int32) (ly : Int32) (rdy : Int32) (fd : Int32) (ss : Nat → Int32) (k : Nat) (mm : Nat) (hmo : f 315 = eO 10 [.ref (g 316), .ref (g 317), .ref (g 318), .long ab2, .long be2, .int sn, .ref (g 319), .ref (g 320), .int wn, .ref (g 321), .ref (g 322), .int sa, .int ly, .int rdy, .int fd, .ref (g 323), .ref (g 324), .ref (g 325), .ref (g 326), .ref (g 327), .ref (g 328), .ref (g 329), .ref (g 330), .ref (g 331), .ref (g 332)]) (hss_ : f 316 = eI G 2246 ss) (hk : k < 2246) (hm : ss k = nI mm) (hm2 : mm ≤ 40) : Met l yX11_one (wsT yX11_one cX11_one 2 (some .int)) ({ frames := 0, cells := 0, slots := 0, locals := 0 }) (bP G g f [.ref (g 315), .int (nI k)]) (bQi G g (fun (z9 : Int32) (f' : Nat → va_E) => z9 = nI mm ∧ f' 315 = eO 10 [.ref (g 316), .ref (g 317), .ref (g 318), .long ab2, .long be2, .int sn, .ref (g 319), .ref (g 320), .int wn, .ref (g 321), .ref (g 322), .int sa, .int ly, .int 0, .int fd, .ref (g 323), .ref (g 324), .ref (g 325), .ref (g 326), .ref (g 327), .ref (g 328), .ref (g 329), .ref (g 330), .ref (g 331), .ref (g 332)] ∧ f' 316 = eI G 2246 (upd ss k (nI (mm + 1))) ∧ ∀ j, (j ≠ 315 ∧ j ≠ 316) → f' j = f j)) 0 0 (gA g) := by
  refine Met.ofW (cc := cX11_one) (maxL := 2) (ret := (some .int)) (by decide) rfl ?_
  intro p e s m args below meth c s₁ B hml hv
  obtain ⟨rfl, hP, hG⟩ := hv
  have hx := B.exec
  have hb := B.bytes
  have hr := B.returns
  have hts := my_hts (atoms_spec (ws := wsT yX11_one cX11_one 2 (some .int)) B.pre)
  have hown : s.vm.findClass RX11 = some m.cls := findClass_of_methodNamed B.named
  have hlocks := B.notSynchronized
  have hS : va_S (gA g) s.heap s.heap [] := va_S.rf
  have hl := lv_entry ([.ref (g 315), .int (nI k)]) (n := 2) (Nat.le_of_ble_eq_true rfl)
  rw [lg_entry_eq]
  generalize (lg_sl ([.ref (g 315), .int (nI k)]) ++ List.replicate (2 - (lg_sl ([.ref (g 315), .int (nI k)])).length) Slot.unset).toArray = ls at hl ⊢
  have hl : lv_has ls 2 [(0, .ref (g 315)), (1, .int (nI k))] := hl
  refine lv_aload_n hx hb dX11_one_0 rfl (lv_at hl 0 rfl) ?_
  refine va_get (D := G.1) (ci := 10) (v := .ref (g 316)) (C := RX11) (T := TX11) (N := 25) hx hb hts inlX11 hown hG.1 hP 315 (wl_at (by decide) hmo) rfl 0 (by decide) (hts (.fieldLink RX11 7 "SwornListsModel" "st" "[I") w_112) (fun _ h9 => h9) rfl dX11_one_1 ?_
  refine lv_iload_n hx hb dX11_one_4 rfl (lv_at hl 1 rfl) ?_
  refine lv_dup2_11 hx hb dX11_one_5 rfl rfl ?_
  refine va_iald hx hb hG.1 hP 316 0 (wl_at (by decide) hss_) rfl (vp_in_nI (by omega) (by decide)) dX11_one_6 ?_
  refine my_bei (v := ss k) (congrArg ss (nI_clamp (n := k) (by omega))) ?_
  refine my_bei (v := nI mm) (hm) ?_
  refine lv_iconst (v := 1) hx hb dX11_one_7 (by decide) ?_
  refine lv_iadd hx hb dX11_one_8 ?_
  refine my_bei (v := nI (mm + 1)) (nI_add mm 1) ?_
  refine va_iast hx hb hG.1 hP (wl_D hg f) hS 316 0 (wl_at (by decide) hss_) rfl (vp_in_nI (by omega) (by decide)) dX11_one_9 (fun H locs hP _ hS => ?_)
  have hP := (congrArg (fun z9 => va_P G.1 vwCl ((wl g f).set 316 (g 316, eI G 2246 ((upd ss z9 (nI (mm + 1)))))) H) (show Int32.toNatClampNeg (nI k) = k from nI_clamp (by omega))).mp hP
  obtain ⟨f_1, hP, e_1, o_1⟩ := b_put (by decide) hP
  have hss_ : f_1 316 = eI G 2246 (upd ss k (nI (mm + 1))) := e_1
  refine lv_aload_n hx hb dX11_one_10 rfl (lv_at hl 0 rfl) ?_
  refine lv_iconst (v := 0) hx hb dX11_one_11 (by decide) ?_
  replace hmo := ((o_1 315 (by decide))).trans hmo
  refine va_put (D := G.1) (ci := 10) (v := .int 0) (ty := .boolean) (C := RX11) (T := TX11) (N := 25) hx hb hts inlX11 tyX11 tyX11_ok nmX11 hown hG.1 hP (wl_D hg f_1) hS 315 (wl_at (by decide) hmo) rfl 13 (by decide) (hts (.fieldLink RX11 71 "SwornListsModel" "isReady" "Z") w_169) (fun _ h9 => h9) rfl (by decide +kernel) rfl rfl (Nat.le_of_ble_eq_true rfl) dX11_one_12 (fun H locs hP _ hS => ?_)
  obtain ⟨f_2, hP, e_2, o_2⟩ := b_put (by decide) hP
  have hmo : f_2 315 = eO 10 [.ref (g 316), .ref (g 317), .ref (g 318), .long ab2, .long be2, .int sn, .ref (g 319), .ref (g 320), .int wn, .ref (g 321), .ref (g 322), .int sa, .int ly, .int 0, .int fd, .ref (g 323), .ref (g 324), .ref (g 325), .ref (g 326), .ref (g 327), .ref (g 328), .ref (g 329), .ref (g 330), .ref (g 331), .ref (g 332)] := e_2
  refine lv_aload_n hx hb dX11_one_15 rfl (lv_at hl 0 rfl) ?_
  refine va_get (D := G.1) (ci := 10) (v := .ref (g 316)) (C := RX11) (T := TX11) (N := 25) hx hb hts inlX11 hown hG.1 hP 315 (wl_at (by decide) hmo) rfl 0 (by decide) (hts (.fieldLink RX11 7 "SwornListsModel" "st" "[I") w_112) (fun _ h9 => h9) rfl dX11_one_16 ?_
  refine lv_iload_n hx hb dX11_one_19 rfl (lv_at hl 1 rfl) ?_
  replace hss_ := ((o_2 316 (by decide))).trans hss_
  refine va_iald hx hb hG.1 hP 316 0 (wl_at (by decide) hss_) rfl (vp_in_nI (by omega) (by decide)) dX11_one_20 ?_
  refine my_bei (v := (upd ss k (nI (mm + 1))) k) (congrArg (upd ss k (nI (mm + 1))) (nI_clamp (n := k) (by omega))) ?_
  refine my_bei (v := nI (mm + 1)) (pk_us) ?_
  refine lv_iconst (v := 1) hx hb dX11_one_21 (by decide) ?_
  refine lv_isub hx hb dX11_one_22 ?_
  refine my_bei (v := nI mm) (nI_pred mm) ?_
  exact W.iret (v := nI mm) hx hb hr (fun t ht hW => ⟨⟨_, f_2, rfl, (⟨rfl, hmo, hss_, fun j hj => ((o_2 j (by omega))).trans (o_1 j (by omega))⟩), by rw [ht]; exact hP⟩, hS.F ht⟩) hS.2.2 dX11_one_23
set_option maxHeartbeats 4000000 in
set_option maxRecDepth 100000 in
theorem r_people (l : Launch) (G : gW) (g : Nat → Nat) (hg : gOK g) (f : Nat → va_E) (ab2 : Int64) (be2 : Int64) (sn : Int32) (wn : Int32) (sa : Int32) (ly : Int32) (rdy : Int32) (fd : Int32) (ss : Nat → Int32) (np : Nat) (hmo : f 315 = eO 10 [.ref (g 316), .ref (g 317), .ref (g 318), .long ab2, .long be2, .int sn, .ref (g 319), .ref (g 320), .int wn, .ref (g 321), .ref (g 322), .int sa, .int ly, .int rdy, .int fd, .ref (g 323), .ref (g 324), .ref (g 325), .ref (g 326), .ref (g 327), .ref (g 328), .ref (g 329), .ref (g 330), .ref (g 331), .ref (g 332)]) (hss_ : f 316 = eI G 2246 ss) (h0 : ss 0 = nI np) : Met l yX11_people (wsT yX11_people cX11_people 1 (some .int)) ({ frames := 0, cells := 0, slots := 0, locals := 0 }) (bP G g f [.ref (g 315)]) (rQi (fun z9 => z9 = (1 <<< (nI np &&& 31)) - 1)) 0 0 fr0 := by
  refine Met.ofW (cc := cX11_people) (maxL := 1) (ret := (some .int)) (by decide) rfl ?_
  intro p e s m args below meth c s₁ B hml hv
  obtain ⟨rfl, hP, hG⟩ := hv
  have hx := B.exec
  have hb := B.bytes
  have hr := B.returns
  have hts := my_hts (atoms_spec (ws := wsT yX11_people cX11_people 1 (some .int)) B.pre)
  have hown : s.vm.findClass RX11 = some m.cls := findClass_of_methodNamed B.named
  have hlocks := B.notSynchronized
  have hl := lv_entry ([.ref (g 315)]) (n := 1) (Nat.le_of_ble_eq_true rfl)
  rw [lg_entry_eq]
  generalize (lg_sl ([.ref (g 315)]) ++ List.replicate (1 - (lg_sl ([.ref (g 315)])).length) Slot.unset).toArray = ls at hl ⊢
  have hl : lv_has ls 1 [(0, .ref (g 315))] := hl
  refine lv_iconst (v := 1) hx hb dX11_people_0 (by decide) ?_
  refine lv_aload_n hx hb dX11_people_1 rfl (lv_at hl 0 rfl) ?_
  refine va_get (D := G.1) (ci := 10) (v := .ref (g 316)) (C := RX11) (T := TX11) (N := 25) hx hb hts inlX11 hown hG.1 hP 315 (wl_at (by decide) hmo) rfl 0 (by decide) (hts (.fieldLink RX11 7 "SwornListsModel" "st" "[I") w_112) (fun _ h9 => h9) rfl dX11_people_2 ?_
  refine lv_iconst (v := 0) hx hb dX11_people_5 (by decide) ?_
  refine va_iald hx hb hG.1 hP 316 0 (wl_at (by decide) hss_) rfl (by unfold vp_in; decide) dX11_people_6 ?_
  refine my_bei (v := ss 0) (rfl) ?_
  refine my_bei (v := nI np) (h0) ?_
  refine lv_ishl hx hb dX11_people_7 ?_
  refine lv_iconst (v := 1) hx hb dX11_people_8 (by decide) ?_
  refine lv_isub hx hb dX11_people_9 ?_
  exact W.iret (v := (1 <<< ((nI np) &&& 31)) - 1) hx hb hr (fun t ht hW => ⟨_, rfl, (rfl), ht⟩) (fun _ h => absurd h List.not_mem_nil) dX11_people_10
set_option maxHeartbeats 4000000 in
set_option maxRecDepth 100000 in
theorem r_isDay (l : Launch) (G : gW) (g : Nat → Nat) (hg : gOK g) (f : Nat → va_E) (n : Int32)   : Met l yX11_isDay (wsT yX11_isDay cX11_isDay 1 (some .boolean)) ({ frames := 1, cells := 0, slots := 0, locals := 25 }) (bP G g f [.int n]) (rQi (fun z9 => z9 = b2 (inB 0 n 9999 = true))) 0 0 fr0 := by
  refine Met.ofW (cc := cX11_isDay) (maxL := 1) (ret := (some .boolean)) (by decide) rfl ?_
  intro p e s m args below meth c s₁ B hml hv
  obtain ⟨rfl, hP, hG⟩ := hv
  have hx := B.exec
  have hb := B.bytes
  have hr := B.returns
  have hts := my_hts (atoms_spec (ws := wsT yX11_isDay cX11_isDay 1 (some .boolean)) B.pre)
  have hown : s.vm.findClass RX11 = some m.cls := findClass_of_methodNamed B.named
  have hlocks := B.notSynchronized
  have hl := lv_entry ([.int n]) (n := 1) (Nat.le_of_ble_eq_true rfl)
  rw [lg_entry_eq]
  generalize (lg_sl ([.int n]) ++ List.replicate (1 - (lg_sl ([.int n])).length) Slot.unset).toArray = ls at hl ⊢
  have hl : lv_has ls 1 [(0, .int n)] := hl
  refine lv_iload_n hx hb dX11_isDay_0 rfl (lv_at hl 0 rfl) ?_
  refine lv_i2l hx hb dX11_isDay_1 rfl ?_
  refine lv_lconst (v := 0) hx hb dX11_isDay_2 (by decide) ?_
  refine my_bel (v := Int32.toInt64 0) (by decide) ?_
  refine lv_ldc2 (v := 9999) hx hb hown (hts (.constantLong RX11 75 (9999)) w_193) dX11_isDay_3 ?_
  refine my_bel (v := Int32.toInt64 9999) (by decide) ?_
  refine rd_calli (va_runS (As := [.long (Int32.toInt64 n), .long (Int32.toInt64 0), .long (Int32.toInt64 9999)]) (rest := []) ⟨hx, hb, hml, hown, hts⟩ (r_in l G g hg f n 0 9999  ) (my_cwS hts ok_X11_in w_162 rfl rfl ⟨Nat.le_of_ble_eq_true rfl, Nat.le_of_ble_eq_true rfl⟩) ⟨bP.blind, fun U hU hW => ⟨rfl, by rw [hU]; exact hP, kG.warm hW hG⟩⟩ rfl rfl hl.1 rfl (lv_room (Nat.le_of_ble_eq_true rfl)) dX11_isDay_6 ⟨Nat.le_of_ble_eq_true rfl, Nat.le_of_ble_eq_true rfl⟩) (fun r hr9 => ?_)
  subst hr9
  exact W.zret (v := b2 (inB 0 n 9999 = true)) hx hb hr (b2_nar) (fun t ht hW => ⟨_, rfl, (rfl), ht⟩) (fun _ h => absurd h List.not_mem_nil) dX11_isDay_9
set_option maxHeartbeats 4000000 in
set_option maxRecDepth 100000 in
theorem r_isText (l : Launch) (G : gW) (g : Nat → Nat) (hg : gOK g) (f : Nat → va_E) (n : Int32)   : Met l yX11_isText (wsT yX11_isText cX11_isText 1 (some .boolean)) ({ frames := 1, cells := 0, slots := 0, locals := 25 }) (bP G g f [.int n]) (rQi (fun z9 => z9 = b2 (inB 0 n 3 = true))) 0 0 fr0 := by
  refine Met.ofW (cc := cX11_isText) (maxL := 1) (ret := (some .boolean)) (by decide) rfl ?_
  intro p e s m args below meth c s₁ B hml hv
  obtain ⟨rfl, hP, hG⟩ := hv
  have hx := B.exec
  have hb := B.bytes
  have hr := B.returns
  have hts := my_hts (atoms_spec (ws := wsT yX11_isText cX11_isText 1 (some .boolean)) B.pre)
  have hown : s.vm.findClass RX11 = some m.cls := findClass_of_methodNamed B.named
  have hlocks := B.notSynchronized
  have hl := lv_entry ([.int n]) (n := 1) (Nat.le_of_ble_eq_true rfl)
  rw [lg_entry_eq]
  generalize (lg_sl ([.int n]) ++ List.replicate (1 - (lg_sl ([.int n])).length) Slot.unset).toArray = ls at hl ⊢
  have hl : lv_has ls 1 [(0, .int n)] := hl
  refine lv_iload_n hx hb dX11_isText_0 rfl (lv_at hl 0 rfl) ?_
  refine lv_i2l hx hb dX11_isText_1 rfl ?_
  refine lv_lconst (v := 0) hx hb dX11_isText_2 (by decide) ?_
  refine my_bel (v := Int32.toInt64 0) (by decide) ?_
  refine lv_ldc2 (v := 3) hx hb hown (hts (.constantLong RX11 77 (3)) w_159) dX11_isText_3 ?_
  refine my_bel (v := Int32.toInt64 3) (by decide) ?_
  refine rd_calli (va_runS (As := [.long (Int32.toInt64 n), .long (Int32.toInt64 0), .long (Int32.toInt64 3)]) (rest := []) ⟨hx, hb, hml, hown, hts⟩ (r_in l G g hg f n 0 3  ) (my_cwS hts ok_X11_in w_162 rfl rfl ⟨Nat.le_of_ble_eq_true rfl, Nat.le_of_ble_eq_true rfl⟩) ⟨bP.blind, fun U hU hW => ⟨rfl, by rw [hU]; exact hP, kG.warm hW hG⟩⟩ rfl rfl hl.1 rfl (lv_room (Nat.le_of_ble_eq_true rfl)) dX11_isText_6 ⟨Nat.le_of_ble_eq_true rfl, Nat.le_of_ble_eq_true rfl⟩) (fun r hr9 => ?_)
  subst hr9
  exact W.zret (v := b2 (inB 0 n 3 = true)) hx hb hr (b2_nar) (fun t ht hW => ⟨_, rfl, (rfl), ht⟩) (fun _ h => absurd h List.not_mem_nil) dX11_isText_9
set_option maxHeartbeats 4000000 in
set_option maxRecDepth 100000 in
theorem r_holds (l : Launch) (G : gW) (g : Nat → Nat) (hg : gOK g) (f : Nat → va_E) (n : Int32)   : Met l yX11_holds (wsT yX11_holds cX11_holds 1 (some .int)) ({ frames := 0, cells := 0, slots := 0, locals := 0 }) (bP G g f [.int n]) (rQi (fun z9 => z9 = hol n)) 0 0 fr0 := by
  refine Met.ofW (cc := cX11_holds) (maxL := 1) (ret := (some .int)) (by decide) rfl ?_
  intro p e s m args below meth c s₁ B hml hv
  obtain ⟨rfl, hP, hG⟩ := hv
  have hx := B.exec
  have hb := B.bytes
  have hr := B.returns
  have hts := my_hts (atoms_spec (ws := wsT yX11_holds cX11_holds 1 (some .int)) B.pre)
  have hown : s.vm.findClass RX11 = some m.cls := findClass_of_methodNamed B.named
  have hlocks := B.notSynchronized
  have hl := lv_entry ([.int n]) (n := 1) (Nat.le_of_ble_eq_true rfl)
  rw [lg_entry_eq]
  generalize (lg_sl ([.int n]) ++ List.replicate (1 - (lg_sl ([.int n])).length) Slot.unset).toArray = ls at hl ⊢
  have hl : lv_has ls 1 [(0, .int n)] := hl
  refine lv_iload_n hx hb dX11_holds_0 rfl (lv_at hl 0 rfl) ?_
  by_cases e_2 : n = 2
  · refine my_bei e_2 ?_
    refine lv_tableIn (off := 59) (tgt := 60) hx hb dX11_holds_1 (by decide) (by decide) (by decide) (by decide) ?_
    refine lv_bipush (v := 6) hx hb dX11_holds_60 (by decide) ?_
    exact W.iret (v := 6) hx hb hr (fun t ht hW => ⟨_, rfl, (by rw [e_2]; decide), ht⟩) (fun _ h => absurd h List.not_mem_nil) dX11_holds_62
  by_cases e_3 : n = 3
  · refine my_bei e_3 ?_
    refine lv_tableIn (off := 62) (tgt := 63) hx hb dX11_holds_1 (by decide) (by decide) (by decide) (by decide) ?_
    refine lv_bipush (v := 6) hx hb dX11_holds_63 (by decide) ?_
    exact W.iret (v := 6) hx hb hr (fun t ht hW => ⟨_, rfl, (by rw [e_3]; decide), ht⟩) (fun _ h => absurd h List.not_mem_nil) dX11_holds_65
  by_cases e_4 : n = 4
  · refine my_bei e_4 ?_
    refine lv_tableIn (off := 65) (tgt := 66) hx hb dX11_holds_1 (by decide) (by decide) (by decide) (by decide) ?_
    refine lv_iconst (v := 5) hx hb dX11_holds_66 (by decide) ?_
    exact W.iret (v := 5) hx hb hr (fun t ht hW => ⟨_, rfl, (by rw [e_4]; decide), ht⟩) (fun _ h => absurd h List.not_mem_nil) dX11_holds_67
  by_cases e_5 : n = 5
  · refine my_bei e_5 ?_
    refine lv_tableIn (off := 67) (tgt := 68) hx hb dX11_holds_1 (by decide) (by decide) (by decide) (by decide) ?_
    refine lv_iconst (v := 5) hx hb dX11_holds_68 (by decide) ?_
    exact W.iret (v := 5) hx hb hr (fun t ht hW => ⟨_, rfl, (by rw [e_5]; decide), ht⟩) (fun _ h => absurd h List.not_mem_nil) dX11_holds_69
  by_cases e_6 : n = 6
  · refine my_bei e_6 ?_
    refine lv_tableIn (off := 69) (tgt := 70) hx hb dX11_holds_1 (by decide) (by decide) (by decide) (by decide) ?_
    refine lv_iconst (v := 4) hx hb dX11_holds_70 (by decide) ?_
    exact W.iret (v := 4) hx hb hr (fun t ht hW => ⟨_, rfl, (by rw [e_6]; decide), ht⟩) (fun _ h => absurd h List.not_mem_nil) dX11_holds_71
  by_cases e_7 : n = 7
  · refine my_bei e_7 ?_
    refine lv_tableIn (off := 71) (tgt := 72) hx hb dX11_holds_1 (by decide) (by decide) (by decide) (by decide) ?_
    refine lv_iconst (v := 4) hx hb dX11_holds_72 (by decide) ?_
    exact W.iret (v := 4) hx hb hr (fun t ht hW => ⟨_, rfl, (by rw [e_7]; decide), ht⟩) (fun _ h => absurd h List.not_mem_nil) dX11_holds_73
  by_cases e_8 : n = 8
  · refine my_bei e_8 ?_
    refine lv_tableIn (off := 73) (tgt := 74) hx hb dX11_holds_1 (by decide) (by decide) (by decide) (by decide) ?_
    refine lv_iconst (v := 3) hx hb dX11_holds_74 (by decide) ?_
    exact W.iret (v := 3) hx hb hr (fun t ht hW => ⟨_, rfl, (by rw [e_8]; decide), ht⟩) (fun _ h => absurd h List.not_mem_nil) dX11_holds_75
  by_cases e_9 : n = 9
  · refine my_bei e_9 ?_
    refine lv_tableIn (off := 75) (tgt := 76) hx hb dX11_holds_1 (by decide) (by decide) (by decide) (by decide) ?_
    refine lv_iconst (v := 3) hx hb dX11_holds_76 (by decide) ?_
    exact W.iret (v := 3) hx hb hr (fun t ht hW => ⟨_, rfl, (by rw [e_9]; decide), ht⟩) (fun _ h => absurd h List.not_mem_nil) dX11_holds_77
  by_cases e_10 : n = 10
  · refine my_bei e_10 ?_
    refine lv_tableIn (off := 77) (tgt := 78) hx hb dX11_holds_1 (by decide) (by decide) (by decide) (by decide) ?_
    refine lv_iconst (v := 3) hx hb dX11_holds_78 (by decide) ?_
    exact W.iret (v := 3) hx hb hr (fun t ht hW => ⟨_, rfl, (by rw [e_10]; decide), ht⟩) (fun _ h => absurd h List.not_mem_nil) dX11_holds_79
  by_cases e_11 : n = 11
  · refine my_bei e_11 ?_
    refine lv_tableIn (off := 79) (tgt := 80) hx hb dX11_holds_1 (by decide) (by decide) (by decide) (by decide) ?_
    refine lv_iconst (v := 2) hx hb dX11_holds_80 (by decide) ?_
    exact W.iret (v := 2) hx hb hr (fun t ht hW => ⟨_, rfl, (by rw [e_11]; decide), ht⟩) (fun _ h => absurd h List.not_mem_nil) dX11_holds_81
  by_cases e_12 : n = 12
  · refine my_bei e_12 ?_
    refine lv_tableIn (off := 81) (tgt := 82) hx hb dX11_holds_1 (by decide) (by decide) (by decide) (by decide) ?_
    refine lv_iconst (v := 1) hx hb dX11_holds_82 (by decide) ?_
    exact W.iret (v := 1) hx hb hr (fun t ht hW => ⟨_, rfl, (by rw [e_12]; decide), ht⟩) (fun _ h => absurd h List.not_mem_nil) dX11_holds_83
  have n_2 : n.toInt ≠ 2 := fun z => e_2 (Int32.toInt_inj.mp (z.trans (by decide)))
  have n_3 : n.toInt ≠ 3 := fun z => e_3 (Int32.toInt_inj.mp (z.trans (by decide)))
  have n_4 : n.toInt ≠ 4 := fun z => e_4 (Int32.toInt_inj.mp (z.trans (by decide)))
  have n_5 : n.toInt ≠ 5 := fun z => e_5 (Int32.toInt_inj.mp (z.trans (by decide)))
  have n_6 : n.toInt ≠ 6 := fun z => e_6 (Int32.toInt_inj.mp (z.trans (by decide)))
  have n_7 : n.toInt ≠ 7 := fun z => e_7 (Int32.toInt_inj.mp (z.trans (by decide)))
  have n_8 : n.toInt ≠ 8 := fun z => e_8 (Int32.toInt_inj.mp (z.trans (by decide)))
  have n_9 : n.toInt ≠ 9 := fun z => e_9 (Int32.toInt_inj.mp (z.trans (by decide)))
  have n_10 : n.toInt ≠ 10 := fun z => e_10 (Int32.toInt_inj.mp (z.trans (by decide)))
  have n_11 : n.toInt ≠ 11 := fun z => e_11 (Int32.toInt_inj.mp (z.trans (by decide)))
  have n_12 : n.toInt ≠ 12 := fun z => e_12 (Int32.toInt_inj.mp (z.trans (by decide)))
  refine lv_tableOut (tgt := 84) hx hb dX11_holds_1 (by omega) (by decide) ?_
  refine lv_iconst (v := 0) hx hb dX11_holds_84 (by decide) ?_
  exact W.iret (v := 0) hx hb hr (fun t ht hW => ⟨_, rfl, (by unfold hol; rw [if_neg e_2, if_neg e_3, if_neg e_4, if_neg e_5, if_neg e_6, if_neg e_7, if_neg e_8, if_neg e_9, if_neg e_10, if_neg e_11, if_neg e_12]), ht⟩) (fun _ h => absurd h List.not_mem_nil) dX11_holds_85
set_option maxHeartbeats 4000000 in
set_option maxRecDepth 100000 in
theorem r_nameOf (l : Launch) (G : gW) (g : Nat → Nat) (hg : gOK g) (f : Nat → va_E) (n : Int32)   : Met l yX11_nameOf (wsT yX11_nameOf cX11_nameOf 1 (some .int)) ({ frames := 0, cells := 0, slots := 0, locals := 0 }) (bP G g f [.int n]) (rQi (fun z9 => z9 = nam n)) 0 0 fr0 := by
  refine Met.ofW (cc := cX11_nameOf) (maxL := 1) (ret := (some .int)) (by decide) rfl ?_
  intro p e s m args below meth c s₁ B hml hv
  obtain ⟨rfl, hP, hG⟩ := hv
  have hx := B.exec
  have hb := B.bytes
  have hr := B.returns
  have hts := my_hts (atoms_spec (ws := wsT yX11_nameOf cX11_nameOf 1 (some .int)) B.pre)
  have hown : s.vm.findClass RX11 = some m.cls := findClass_of_methodNamed B.named
  have hlocks := B.notSynchronized
  have hl := lv_entry ([.int n]) (n := 1) (Nat.le_of_ble_eq_true rfl)
  rw [lg_entry_eq]
  generalize (lg_sl ([.int n]) ++ List.replicate (1 - (lg_sl ([.int n])).length) Slot.unset).toArray = ls at hl ⊢
  have hl : lv_has ls 1 [(0, .int n)] := hl
  refine lv_iload_n hx hb dX11_nameOf_0 rfl (lv_at hl 0 rfl) ?_
  by_cases e_97 : n = 97
  · refine my_bei e_97 ?_
    refine lv_lookup (off := 59) (tgt := 60) hx hb dX11_nameOf_1 (by decide) (by decide) (by decide) ?_
    refine lv_iconst (v := 0) hx hb dX11_nameOf_60 (by decide) ?_
    exact W.iret (v := 0) hx hb hr (fun t ht hW => ⟨_, rfl, (by rw [e_97]; decide), ht⟩) (fun _ h => absurd h List.not_mem_nil) dX11_nameOf_61
  by_cases e_108 : n = 108
  · refine my_bei e_108 ?_
    refine lv_lookup (off := 61) (tgt := 62) hx hb dX11_nameOf_1 (by decide) (by decide) (by decide) ?_
    refine lv_iconst (v := 1) hx hb dX11_nameOf_62 (by decide) ?_
    exact W.iret (v := 1) hx hb hr (fun t ht hW => ⟨_, rfl, (by rw [e_108]; decide), ht⟩) (fun _ h => absurd h List.not_mem_nil) dX11_nameOf_63
  by_cases e_112 : n = 112
  · refine my_bei e_112 ?_
    refine lv_lookup (off := 65) (tgt := 66) hx hb dX11_nameOf_1 (by decide) (by decide) (by decide) ?_
    refine lv_iconst (v := 3) hx hb dX11_nameOf_66 (by decide) ?_
    exact W.iret (v := 3) hx hb hr (fun t ht hW => ⟨_, rfl, (by rw [e_112]; decide), ht⟩) (fun _ h => absurd h List.not_mem_nil) dX11_nameOf_67
  by_cases e_115 : n = 115
  · refine my_bei e_115 ?_
    refine lv_lookup (off := 67) (tgt := 68) hx hb dX11_nameOf_1 (by decide) (by decide) (by decide) ?_
    refine lv_iconst (v := 4) hx hb dX11_nameOf_68 (by decide) ?_
    exact W.iret (v := 4) hx hb hr (fun t ht hW => ⟨_, rfl, (by rw [e_115]; decide), ht⟩) (fun _ h => absurd h List.not_mem_nil) dX11_nameOf_69
  by_cases e_116 : n = 116
  · refine my_bei e_116 ?_
    refine lv_lookup (off := 63) (tgt := 64) hx hb dX11_nameOf_1 (by decide) (by decide) (by decide) ?_
    refine lv_iconst (v := 2) hx hb dX11_nameOf_64 (by decide) ?_
    exact W.iret (v := 2) hx hb hr (fun t ht hW => ⟨_, rfl, (by rw [e_116]; decide), ht⟩) (fun _ h => absurd h List.not_mem_nil) dX11_nameOf_65
  by_cases e_121 : n = 121
  · refine my_bei e_121 ?_
    refine lv_lookup (off := 69) (tgt := 70) hx hb dX11_nameOf_1 (by decide) (by decide) (by decide) ?_
    refine lv_iconst (v := 5) hx hb dX11_nameOf_70 (by decide) ?_
    exact W.iret (v := 5) hx hb hr (fun t ht hW => ⟨_, rfl, (by rw [e_121]; decide), ht⟩) (fun _ h => absurd h List.not_mem_nil) dX11_nameOf_71
  refine lv_lookup (off := 71) (tgt := 72) hx hb dX11_nameOf_1 (by decide) (by show Op.lookupswitch.offset [(97, 59), (108, 61), (112, 65), (115, 67), (116, 63), (121, 69)] 71 _ = 71; rw [lv_osw (a := 97) e_97 (by decide), lv_osw (a := 108) e_108 (by decide), lv_osw (a := 112) e_112 (by decide), lv_osw (a := 115) e_115 (by decide), lv_osw (a := 116) e_116 (by decide), lv_osw (a := 121) e_121 (by decide)]; rfl) (by decide) ?_
  refine lv_iconst (v := (-1)) hx hb dX11_nameOf_72 (by decide) ?_
  exact W.iret (v := (-1)) hx hb hr (fun t ht hW => ⟨_, rfl, (by unfold nam; rw [if_neg e_97, if_neg e_108, if_neg e_112, if_neg e_115, if_neg e_116, if_neg e_121]), ht⟩) (fun _ h => absurd h List.not_mem_nil) dX11_nameOf_73
set_option maxHeartbeats 4000000 in
set_option maxRecDepth 100000 in
theorem r_signOf (l : Launch) (G : gW) (g : Nat → Nat) (hg : gOK g) (f : Nat → va_E) (n : Int32)   : Met l yX11_signOf (wsT yX11_signOf cX11_signOf 1 (some .int)) ({ frames := 0, cells := 0, slots := 0, locals := 0 }) (bP G g f [.int n]) (rQi (fun z9 => z9 = sgn n)) 0 0 fr0 := by
  refine Met.ofW (cc := cX11_signOf) (maxL := 1) (ret := (some .int)) (by decide) rfl ?_
  intro p e s m args below meth c s₁ B hml hv
  obtain ⟨rfl, hP, hG⟩ := hv
  have hx := B.exec
  have hb := B.bytes
  have hr := B.returns
  have hts := my_hts (atoms_spec (ws := wsT yX11_signOf cX11_signOf 1 (some .int)) B.pre)
  have hown : s.vm.findClass RX11 = some m.cls := findClass_of_methodNamed B.named
  have hlocks := B.notSynchronized
  have hl := lv_entry ([.int n]) (n := 1) (Nat.le_of_ble_eq_true rfl)
  rw [lg_entry_eq]
  generalize (lg_sl ([.int n]) ++ List.replicate (1 - (lg_sl ([.int n])).length) Slot.unset).toArray = ls at hl ⊢
  have hl : lv_has ls 1 [(0, .int n)] := hl
  refine lv_iload_n hx hb dX11_signOf_0 rfl (lv_at hl 0 rfl) ?_
  by_cases e_38 : n = 38
  · refine my_bei e_38 ?_
    refine lv_lookup (off := 102) (tgt := 103) hx hb dX11_signOf_1 (by decide) (by decide) (by decide) ?_
    refine lv_bipush (v := 11) hx hb dX11_signOf_103 (by decide) ?_
    exact W.iret (v := 11) hx hb hr (fun t ht hW => ⟨_, rfl, (by rw [e_38]; decide), ht⟩) (fun _ h => absurd h List.not_mem_nil) dX11_signOf_105
  by_cases e_42 : n = 42
  · refine my_bei e_42 ?_
    refine lv_lookup (off := 83) (tgt := 84) hx hb dX11_signOf_1 (by decide) (by decide) (by decide) ?_
    refine lv_iconst (v := 4) hx hb dX11_signOf_84 (by decide) ?_
    exact W.iret (v := 4) hx hb hr (fun t ht hW => ⟨_, rfl, (by rw [e_42]; decide), ht⟩) (fun _ h => absurd h List.not_mem_nil) dX11_signOf_85
  by_cases e_43 : n = 43
  · refine my_bei e_43 ?_
    refine lv_lookup (off := 87) (tgt := 88) hx hb dX11_signOf_1 (by decide) (by decide) (by decide) ?_
    refine lv_bipush (v := 6) hx hb dX11_signOf_88 (by decide) ?_
    exact W.iret (v := 6) hx hb hr (fun t ht hW => ⟨_, rfl, (by rw [e_43]; decide), ht⟩) (fun _ h => absurd h List.not_mem_nil) dX11_signOf_90
  by_cases e_45 : n = 45
  · refine my_bei e_45 ?_
    refine lv_lookup (off := 90) (tgt := 91) hx hb dX11_signOf_1 (by decide) (by decide) (by decide) ?_
    refine lv_bipush (v := 7) hx hb dX11_signOf_91 (by decide) ?_
    exact W.iret (v := 7) hx hb hr (fun t ht hW => ⟨_, rfl, (by rw [e_45]; decide), ht⟩) (fun _ h => absurd h List.not_mem_nil) dX11_signOf_93
  by_cases e_47 : n = 47
  · refine my_bei e_47 ?_
    refine lv_lookup (off := 85) (tgt := 86) hx hb dX11_signOf_1 (by decide) (by decide) (by decide) ?_
    refine lv_iconst (v := 5) hx hb dX11_signOf_86 (by decide) ?_
    exact W.iret (v := 5) hx hb hr (fun t ht hW => ⟨_, rfl, (by rw [e_47]; decide), ht⟩) (fun _ h => absurd h List.not_mem_nil) dX11_signOf_87
  by_cases e_60 : n = 60
  · refine my_bei e_60 ?_
    refine lv_lookup (off := 93) (tgt := 94) hx hb dX11_signOf_1 (by decide) (by decide) (by decide) ?_
    refine lv_bipush (v := 8) hx hb dX11_signOf_94 (by decide) ?_
    exact W.iret (v := 8) hx hb hr (fun t ht hW => ⟨_, rfl, (by rw [e_60]; decide), ht⟩) (fun _ h => absurd h List.not_mem_nil) dX11_signOf_96
  by_cases e_61 : n = 61
  · refine my_bei e_61 ?_
    refine lv_lookup (off := 99) (tgt := 100) hx hb dX11_signOf_1 (by decide) (by decide) (by decide) ?_
    refine lv_bipush (v := 10) hx hb dX11_signOf_100 (by decide) ?_
    exact W.iret (v := 10) hx hb hr (fun t ht hW => ⟨_, rfl, (by rw [e_61]; decide), ht⟩) (fun _ h => absurd h List.not_mem_nil) dX11_signOf_102
  by_cases e_62 : n = 62
  · refine my_bei e_62 ?_
    refine lv_lookup (off := 96) (tgt := 97) hx hb dX11_signOf_1 (by decide) (by decide) (by decide) ?_
    refine lv_bipush (v := 9) hx hb dX11_signOf_97 (by decide) ?_
    exact W.iret (v := 9) hx hb hr (fun t ht hW => ⟨_, rfl, (by rw [e_62]; decide), ht⟩) (fun _ h => absurd h List.not_mem_nil) dX11_signOf_99
  by_cases e_124 : n = 124
  · refine my_bei e_124 ?_
    refine lv_lookup (off := 105) (tgt := 106) hx hb dX11_signOf_1 (by decide) (by decide) (by decide) ?_
    refine lv_bipush (v := 12) hx hb dX11_signOf_106 (by decide) ?_
    exact W.iret (v := 12) hx hb hr (fun t ht hW => ⟨_, rfl, (by rw [e_124]; decide), ht⟩) (fun _ h => absurd h List.not_mem_nil) dX11_signOf_108
  refine lv_lookup (off := 108) (tgt := 109) hx hb dX11_signOf_1 (by decide) (by show Op.lookupswitch.offset [(38, 102), (42, 83), (43, 87), (45, 90), (47, 85), (60, 93), (61, 99), (62, 96), (124, 105)] 108 _ = 108; rw [lv_osw (a := 38) e_38 (by decide), lv_osw (a := 42) e_42 (by decide), lv_osw (a := 43) e_43 (by decide), lv_osw (a := 45) e_45 (by decide), lv_osw (a := 47) e_47 (by decide), lv_osw (a := 60) e_60 (by decide), lv_osw (a := 61) e_61 (by decide), lv_osw (a := 62) e_62 (by decide), lv_osw (a := 124) e_124 (by decide)]; rfl) (by decide) ?_
  refine lv_iconst (v := (-1)) hx hb dX11_signOf_109 (by decide) ?_
  exact W.iret (v := (-1)) hx hb hr (fun t ht hW => ⟨_, rfl, (by unfold sgn; rw [if_neg e_38, if_neg e_42, if_neg e_43, if_neg e_45, if_neg e_47, if_neg e_60, if_neg e_61, if_neg e_62, if_neg e_124]), ht⟩) (fun _ h => absurd h List.not_mem_nil) dX11_signOf_110
set_option maxHeartbeats 4000000 in
set_option maxRecDepth 100000 in
theorem r_emits (l : Launch) (G : gW) (g : Nat → Nat) (hg : gOK g) (f : Nat → va_E) (ab2 : Int64) (be2 : Int64) (sn : Nat) (wn : Nat) (sa : Int32) (ly : Int32) (rdy : Int32) (fd : Int32) (sp : Nat → Int32) (wi : Nat → Int32) (n : Int32) (q : Int32) (hmo : f 315 = eO 10 [.ref (g 316), .ref (g 317), .ref (g 318), .long ab2, .long be2, .int (nI sn), .ref (g 319), .ref (g 320), .int (nI wn), .ref (g 321), .ref (g 322), .int sa, .int ly, .int rdy, .int fd, .ref (g 323), .ref (g 324), .ref (g 325), .ref (g 326), .ref (g 327), .ref (g 328), .ref (g 329), .ref (g 330), .ref (g 331), .ref (g 332)]) (hsp_ : f 319 = eI G 70 sp) (hwi_ : f 320 = eI G 70 wi) (hsn : sn < 70) : Met l yX11_emits (wsT yX11_emits cX11_emits 3 none) ({ frames := 0, cells := 0, slots := 0, locals := 0 }) (bP G g f [.ref (g 315), .int n, .int q]) (bQv G g (fun (f' : Nat → va_E) => f' 315 = eO 10 [.ref (g 316), .ref (g 317), .ref (g 318), .long ab2, .long be2, .int (nI (sn + 1)), .ref (g 319), .ref (g 320), .int (nI wn), .ref (g 321), .ref (g 322), .int sa, .int ly, .int rdy, .int fd, .ref (g 323), .ref (g 324), .ref (g 325), .ref (g 326), .ref (g 327), .ref (g 328), .ref (g 329), .ref (g 330), .ref (g 331), .ref (g 332)] ∧ f' 319 = eI G 70 (upd sp sn n) ∧ f' 320 = eI G 70 (upd wi sn q) ∧ ∀ j, (j ≠ 315 ∧ j ≠ 319 ∧ j ≠ 320) → f' j = f j)) 0 0 (gA g) := by
  refine Met.ofW (cc := cX11_emits) (maxL := 3) (ret := none) (by decide) rfl ?_
  intro p e s m args below meth c s₁ B hml hv
  obtain ⟨rfl, hP, hG⟩ := hv
  have hx := B.exec
  have hb := B.bytes
  have hr := B.returns
  have hts := my_hts (atoms_spec (ws := wsT yX11_emits cX11_emits 3 none) B.pre)
  have hown : s.vm.findClass RX11 = some m.cls := findClass_of_methodNamed B.named
  have hlocks := B.notSynchronized
  have hS : va_S (gA g) s.heap s.heap [] := va_S.rf
  have hl := lv_entry ([.ref (g 315), .int n, .int q]) (n := 3) (Nat.le_of_ble_eq_true rfl)
  rw [lg_entry_eq]
  generalize (lg_sl ([.ref (g 315), .int n, .int q]) ++ List.replicate (3 - (lg_sl ([.ref (g 315), .int n, .int q])).length) Slot.unset).toArray = ls at hl ⊢
  have hl : lv_has ls 3 [(0, .ref (g 315)), (1, .int n), (2, .int q)] := hl
  refine lv_aload_n hx hb dX11_emits_0 rfl (lv_at hl 0 rfl) ?_
  refine va_get (D := G.1) (ci := 10) (v := .ref (g 319)) (C := RX11) (T := TX11) (N := 25) hx hb hts inlX11 hown hG.1 hP 315 (wl_at (by decide) hmo) rfl 6 (by decide) (hts (.fieldLink RX11 20 "SwornListsModel" "step" "[I") w_115) (fun _ h9 => h9) rfl dX11_emits_1 ?_
  refine lv_aload_n hx hb dX11_emits_4 rfl (lv_at hl 0 rfl) ?_
  refine va_get (D := G.1) (ci := 10) (v := .int (nI sn)) (C := RX11) (T := TX11) (N := 25) hx hb hts inlX11 hown hG.1 hP 315 (wl_at (by decide) hmo) rfl 5 (by decide) (hts (.fieldLink RX11 106 "SwornListsModel" "steps" "I") w_349) (fun _ h9 => h9) rfl dX11_emits_5 ?_
  refine lv_iload_n hx hb dX11_emits_8 rfl (lv_at hl 1 rfl) ?_
  refine va_iast hx hb hG.1 hP (wl_D hg f) hS 319 0 (wl_at (by decide) hsp_) rfl (vp_in_nI (by omega) (by decide)) dX11_emits_9 (fun H locs hP _ hS => ?_)
  have hP := (congrArg (fun z9 => va_P G.1 vwCl ((wl g f).set 319 (g 319, eI G 70 ((upd sp z9 n)))) H) (show Int32.toNatClampNeg (nI sn) = sn from nI_clamp (by omega))).mp hP
  obtain ⟨f_1, hP, e_1, o_1⟩ := b_put (by decide) hP
  have hsp_ : f_1 319 = eI G 70 (upd sp sn n) := e_1
  refine lv_aload_n hx hb dX11_emits_10 rfl (lv_at hl 0 rfl) ?_
  replace hmo := ((o_1 315 (by decide))).trans hmo
  refine va_get (D := G.1) (ci := 10) (v := .ref (g 320)) (C := RX11) (T := TX11) (N := 25) hx hb hts inlX11 hown hG.1 hP 315 (wl_at (by decide) hmo) rfl 7 (by decide) (hts (.fieldLink RX11 23 "SwornListsModel" "with" "[I") w_116) (fun _ h9 => h9) rfl dX11_emits_11 ?_
  refine lv_aload_n hx hb dX11_emits_14 rfl (lv_at hl 0 rfl) ?_
  refine va_get (D := G.1) (ci := 10) (v := .int (nI sn)) (C := RX11) (T := TX11) (N := 25) hx hb hts inlX11 hown hG.1 hP 315 (wl_at (by decide) hmo) rfl 5 (by decide) (hts (.fieldLink RX11 106 "SwornListsModel" "steps" "I") w_349) (fun _ h9 => h9) rfl dX11_emits_15 ?_
  refine lv_iload_n hx hb dX11_emits_18 rfl (lv_at hl 2 rfl) ?_
  replace hwi_ := ((o_1 320 (by decide))).trans hwi_
  refine va_iast hx hb hG.1 hP (wl_D hg f_1) hS 320 0 (wl_at (by decide) hwi_) rfl (vp_in_nI (by omega) (by decide)) dX11_emits_19 (fun H locs hP _ hS => ?_)
  have hP := (congrArg (fun z9 => va_P G.1 vwCl ((wl g f_1).set 320 (g 320, eI G 70 ((upd wi z9 q)))) H) (show Int32.toNatClampNeg (nI sn) = sn from nI_clamp (by omega))).mp hP
  obtain ⟨f_2, hP, e_2, o_2⟩ := b_put (by decide) hP
  have hwi_ : f_2 320 = eI G 70 (upd wi sn q) := e_2
  refine lv_aload_n hx hb dX11_emits_20 rfl (lv_at hl 0 rfl) ?_
  refine lv_dup hx hb dX11_emits_21 rfl ?_
  replace hmo := ((o_2 315 (by decide))).trans hmo
  refine va_get (D := G.1) (ci := 10) (v := .int (nI sn)) (C := RX11) (T := TX11) (N := 25) hx hb hts inlX11 hown hG.1 hP 315 (wl_at (by decide) hmo) rfl 5 (by decide) (hts (.fieldLink RX11 106 "SwornListsModel" "steps" "I") w_349) (fun _ h9 => h9) rfl dX11_emits_22 ?_
  refine lv_iconst (v := 1) hx hb dX11_emits_25 (by decide) ?_
  refine lv_iadd hx hb dX11_emits_26 ?_
  refine my_bei (v := nI (sn + 1)) (nI_add sn 1) ?_
  refine va_put (D := G.1) (ci := 10) (v := .int (nI (sn + 1))) (ty := .int) (C := RX11) (T := TX11) (N := 25) hx hb hts inlX11 tyX11 tyX11_ok nmX11 hown hG.1 hP (wl_D hg f_2) hS 315 (wl_at (by decide) hmo) rfl 5 (by decide) (hts (.fieldLink RX11 106 "SwornListsModel" "steps" "I") w_349) (fun _ h9 => h9) rfl (by decide +kernel) rfl rfl (Nat.le_of_ble_eq_true rfl) dX11_emits_27 (fun H locs hP _ hS => ?_)
  obtain ⟨f_3, hP, e_3, o_3⟩ := b_put (by decide) hP
  have hmo : f_3 315 = eO 10 [.ref (g 316), .ref (g 317), .ref (g 318), .long ab2, .long be2, .int (nI (sn + 1)), .ref (g 319), .ref (g 320), .int (nI wn), .ref (g 321), .ref (g 322), .int sa, .int ly, .int rdy, .int fd, .ref (g 323), .ref (g 324), .ref (g 325), .ref (g 326), .ref (g 327), .ref (g 328), .ref (g 329), .ref (g 330), .ref (g 331), .ref (g 332)] := e_3
  replace hsp_ := ((o_3 319 (by decide)).trans ((o_2 319 (by decide)))).trans hsp_
  replace hwi_ := ((o_3 320 (by decide))).trans hwi_
  exact W.vret hx hb hr (fun t ht hW => ⟨⟨f_3, rfl, (⟨hmo, hsp_, hwi_, fun j hj => (((o_3 j (by omega))).trans (o_2 j (by omega))).trans (o_1 j (by omega))⟩), by rw [ht]; exact hP⟩, hS.F ht⟩) hS.2.2 dX11_emits_30
set_option maxHeartbeats 4000000 in
set_option maxRecDepth 100000 in
theorem r_waitsWith (l : Launch) (G : gW) (g : Nat → Nat) (hg : gOK g) (f : Nat → va_E) (ab2 : Int64) (be2 : Int64) (sn : Nat) (wn : Nat) (sa : Int32) (ly : Int32) (rdy : Int32) (fd : Int32) (wa : Nat → Int32) (n : Int32) (hmo : f 315 = eO 10 [.ref (g 316), .ref (g 317), .ref (g 318), .long ab2, .long be2, .int (nI sn), .ref (g 319), .ref (g 320), .int (nI wn), .ref (g 321), .ref (g 322), .int sa, .int ly, .int rdy, .int fd, .ref (g 323), .ref (g 324), .ref (g 325), .ref (g 326), .ref (g 327), .ref (g 328), .ref (g 329), .ref (g 330), .ref (g 331), .ref (g 332)]) (hwa_ : f 321 = eI G 70 wa) (hwn : wn < 70) : Met l yX11_waitsWith (wsT yX11_waitsWith cX11_waitsWith 2 none) ({ frames := 0, cells := 0, slots := 0, locals := 0 }) (bP G g f [.ref (g 315), .int n]) (bQv G g (fun (f' : Nat → va_E) => f' 315 = eO 10 [.ref (g 316), .ref (g 317), .ref (g 318), .long ab2, .long be2, .int (nI sn), .ref (g 319), .ref (g 320), .int (nI (wn + 1)), .ref (g 321), .ref (g 322), .int sa, .int ly, .int rdy, .int fd, .ref (g 323), .ref (g 324), .ref (g 325), .ref (g 326), .ref (g 327), .ref (g 328), .ref (g 329), .ref (g 330), .ref (g 331), .ref (g 332)] ∧ f' 321 = eI G 70 (upd wa wn n) ∧ ∀ j, (j ≠ 315 ∧ j ≠ 321) → f' j = f j)) 0 0 (gA g) := by
  refine Met.ofW (cc := cX11_waitsWith) (maxL := 2) (ret := none) (by decide) rfl ?_
  intro p e s m args below meth c s₁ B hml hv
  obtain ⟨rfl, hP, hG⟩ := hv
  have hx := B.exec
  have hb := B.bytes
  have hr := B.returns
  have hts := my_hts (atoms_spec (ws := wsT yX11_waitsWith cX11_waitsWith 2 none) B.pre)
  have hown : s.vm.findClass RX11 = some m.cls := findClass_of_methodNamed B.named
  have hlocks := B.notSynchronized
  have hS : va_S (gA g) s.heap s.heap [] := va_S.rf
  have hl := lv_entry ([.ref (g 315), .int n]) (n := 2) (Nat.le_of_ble_eq_true rfl)
  rw [lg_entry_eq]
  generalize (lg_sl ([.ref (g 315), .int n]) ++ List.replicate (2 - (lg_sl ([.ref (g 315), .int n])).length) Slot.unset).toArray = ls at hl ⊢
  have hl : lv_has ls 2 [(0, .ref (g 315)), (1, .int n)] := hl
  refine lv_aload_n hx hb dX11_waitsWith_0 rfl (lv_at hl 0 rfl) ?_
  refine va_get (D := G.1) (ci := 10) (v := .ref (g 321)) (C := RX11) (T := TX11) (N := 25) hx hb hts inlX11 hown hG.1 hP 315 (wl_at (by decide) hmo) rfl 9 (by decide) (hts (.fieldLink RX11 26 "SwornListsModel" "waits" "[I") w_117) (fun _ h9 => h9) rfl dX11_waitsWith_1 ?_
  refine lv_aload_n hx hb dX11_waitsWith_4 rfl (lv_at hl 0 rfl) ?_
  refine va_get (D := G.1) (ci := 10) (v := .int (nI wn)) (C := RX11) (T := TX11) (N := 25) hx hb hts inlX11 hown hG.1 hP 315 (wl_at (by decide) hmo) rfl 8 (by decide) (hts (.fieldLink RX11 110 "SwornListsModel" "waiting" "I") w_350) (fun _ h9 => h9) rfl dX11_waitsWith_5 ?_
  refine lv_iload_n hx hb dX11_waitsWith_8 rfl (lv_at hl 1 rfl) ?_
  refine va_iast hx hb hG.1 hP (wl_D hg f) hS 321 0 (wl_at (by decide) hwa_) rfl (vp_in_nI (by omega) (by decide)) dX11_waitsWith_9 (fun H locs hP _ hS => ?_)
  have hP := (congrArg (fun z9 => va_P G.1 vwCl ((wl g f).set 321 (g 321, eI G 70 ((upd wa z9 n)))) H) (show Int32.toNatClampNeg (nI wn) = wn from nI_clamp (by omega))).mp hP
  obtain ⟨f_1, hP, e_1, o_1⟩ := b_put (by decide) hP
  have hwa_ : f_1 321 = eI G 70 (upd wa wn n) := e_1
  refine lv_aload_n hx hb dX11_waitsWith_10 rfl (lv_at hl 0 rfl) ?_
  refine lv_dup hx hb dX11_waitsWith_11 rfl ?_
  replace hmo := ((o_1 315 (by decide))).trans hmo
  refine va_get (D := G.1) (ci := 10) (v := .int (nI wn)) (C := RX11) (T := TX11) (N := 25) hx hb hts inlX11 hown hG.1 hP 315 (wl_at (by decide) hmo) rfl 8 (by decide) (hts (.fieldLink RX11 110 "SwornListsModel" "waiting" "I") w_350) (fun _ h9 => h9) rfl dX11_waitsWith_12 ?_
  refine lv_iconst (v := 1) hx hb dX11_waitsWith_15 (by decide) ?_
  refine lv_iadd hx hb dX11_waitsWith_16 ?_
  refine my_bei (v := nI (wn + 1)) (nI_add wn 1) ?_
  refine va_put (D := G.1) (ci := 10) (v := .int (nI (wn + 1))) (ty := .int) (C := RX11) (T := TX11) (N := 25) hx hb hts inlX11 tyX11 tyX11_ok nmX11 hown hG.1 hP (wl_D hg f_1) hS 315 (wl_at (by decide) hmo) rfl 8 (by decide) (hts (.fieldLink RX11 110 "SwornListsModel" "waiting" "I") w_350) (fun _ h9 => h9) rfl (by decide +kernel) rfl rfl (Nat.le_of_ble_eq_true rfl) dX11_waitsWith_17 (fun H locs hP _ hS => ?_)
  obtain ⟨f_2, hP, e_2, o_2⟩ := b_put (by decide) hP
  have hmo : f_2 315 = eO 10 [.ref (g 316), .ref (g 317), .ref (g 318), .long ab2, .long be2, .int (nI sn), .ref (g 319), .ref (g 320), .int (nI (wn + 1)), .ref (g 321), .ref (g 322), .int sa, .int ly, .int rdy, .int fd, .ref (g 323), .ref (g 324), .ref (g 325), .ref (g 326), .ref (g 327), .ref (g 328), .ref (g 329), .ref (g 330), .ref (g 331), .ref (g 332)] := e_2
  replace hwa_ := ((o_2 321 (by decide))).trans hwa_
  exact W.vret hx hb hr (fun t ht hW => ⟨⟨f_2, rfl, (⟨hmo, hwa_, fun j hj => ((o_2 j (by omega))).trans (o_1 j (by omega))⟩), by rw [ht]; exact hP⟩, hS.F ht⟩) hS.2.2 dX11_waitsWith_20


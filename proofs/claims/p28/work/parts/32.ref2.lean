set_option maxHeartbeats 4000000 in
set_option maxRecDepth 100000 in
theorem r_settles (l : Launch) (G : gW) (g : Nat → Nat) (hg : gOK g) (f : Nat → va_E) (ab2 : Int64) (be2 : Int64) (sn : Nat) (wn : Nat) (sa : Int32) (ly : Int32) (rdy : Int32) (fd : Int32) (sp : Nat → Int32) (wi : Nat → Int32) (wa : Nat → Int32) (r : Int32) (hmo : f 315 = eO 10 [.ref (g 316), .ref (g 317), .ref (g 318), .long ab2, .long be2, .int (nI sn), .ref (g 319), .ref (g 320), .int (nI wn), .ref (g 321), .ref (g 322), .int sa, .int ly, .int rdy, .int fd, .ref (g 323), .ref (g 324), .ref (g 325), .ref (g 326), .ref (g 327), .ref (g 328), .ref (g 329), .ref (g 330), .ref (g 331), .ref (g 332)]) (hsp_ : f 319 = eI G 70 sp) (hwi_ : f 320 = eI G 70 wi) (hwa_ : f 321 = eI G 70 wa) (hb70 : sn + wn ≤ 70) (hr1 : 1 ≤ r) : Met l yX11_settles (wsT yX11_settles cX11_settles 2 none) ({ frames := 1, cells := 0, slots := 0, locals := 22 }) (bP G g f [.ref (g 315), .int r]) (bQv G g (fun (f' : Nat → va_E) => ∃ sn9 : Nat, ∃ wn9 : Nat, ∃ sp9 : Nat → Int32, ∃ wi9 : Nat → Int32, f' 315 = eO 10 [.ref (g 316), .ref (g 317), .ref (g 318), .long ab2, .long be2, .int (nI sn9), .ref (g 319), .ref (g 320), .int (nI wn9), .ref (g 321), .ref (g 322), .int sa, .int ly, .int rdy, .int fd, .ref (g 323), .ref (g 324), .ref (g 325), .ref (g 326), .ref (g 327), .ref (g 328), .ref (g 329), .ref (g 330), .ref (g 331), .ref (g 332)] ∧ f' 319 = eI G 70 sp9 ∧ f' 320 = eI G 70 wi9 ∧ (wn9 ≤ wn) ∧ (sn9 + wn9 = sn + wn) ∧ (stk wa wn9 = pop r (stk wa wn)) ∧ (dep sp sn = some (nb (stk wa wn) + 1) → dep sp9 sn9 = some (nb (stk wa wn9) + 1)) ∧ ∀ j, (j ≠ 315 ∧ j ≠ 319 ∧ j ≠ 320) → f' j = f j)) 0 0 (gA g) := by
  refine Met.ofW (cc := cX11_settles) (maxL := 2) (ret := none) (by decide) rfl ?_
  intro p e s m args below meth c s₁ B hml hv
  obtain ⟨rfl, hP, hG⟩ := hv
  have hx := B.exec
  have hb := B.bytes
  have hr := B.returns
  have hts := my_hts (atoms_spec (ws := wsT yX11_settles cX11_settles 2 none) B.pre)
  have hown : s.vm.findClass RX11 = some m.cls := findClass_of_methodNamed B.named
  have hlocks := B.notSynchronized
  have hS : va_S (gA g) s.heap s.heap [] := va_S.rf
  have hl := lv_entry ([.ref (g 315), .int r]) (n := 2) (Nat.le_of_ble_eq_true rfl)
  rw [lg_entry_eq]
  generalize (lg_sl ([.ref (g 315), .int r]) ++ List.replicate (2 - (lg_sl ([.ref (g 315), .int r])).length) Slot.unset).toArray = ls at hl ⊢
  have hl : lv_has ls 2 [(0, .ref (g 315)), (1, .int r)] := hl
  have key1 : ∀ (n9_1 : Nat) (sn1 : Nat) (wn1 : Nat) (sp1 : Nat → Int32) (wi1 : Nat → Int32) (f_1 : Nat → va_E) (H : Heap) (locs : List Loc) (ls : Array Slot), (wn1 ≤ wn) → (sn1 + wn1 = sn + wn) → (pop r (stk wa wn1) = pop r (stk wa wn)) → (dep sp sn = some (nb (stk wa wn) + 1) → dep sp1 sn1 = some (nb (stk wa wn1) + 1)) → wn1 < n9_1 → f_1 315 = eO 10 [.ref (g 316), .ref (g 317), .ref (g 318), .long ab2, .long be2, .int (nI sn1), .ref (g 319), .ref (g 320), .int (nI wn1), .ref (g 321), .ref (g 322), .int sa, .int ly, .int rdy, .int fd, .ref (g 323), .ref (g 324), .ref (g 325), .ref (g 326), .ref (g 327), .ref (g 328), .ref (g 329), .ref (g 330), .ref (g 331), .ref (g 332)] → f_1 319 = eI G 70 sp1 → f_1 320 = eI G 70 wi1 → f_1 321 = eI G 70 wa → (∀ j, (j ≠ 315 ∧ j ≠ 319 ∧ j ≠ 320) → f_1 j = f j) → va_P G.1 vwCl (wl g f_1) H → va_S (gA g) s.heap H locs → lv_has ls 2 [(0, .ref (g 315)), (1, .int r)] → W p l e (headSpec (wsT yX11_settles cX11_settles 2 none) ({ frames := 1, cells := 0, slots := 0, locals := 22 })).room s m ([.ref (g 315), .int r] : List Value).toArray below meth c H locs 0 0 (MQ below (bQv G g (fun (f' : Nat → va_E) => ∃ sn9 : Nat, ∃ wn9 : Nat, ∃ sp9 : Nat → Int32, ∃ wi9 : Nat → Int32, f' 315 = eO 10 [.ref (g 316), .ref (g 317), .ref (g 318), .long ab2, .long be2, .int (nI sn9), .ref (g 319), .ref (g 320), .int (nI wn9), .ref (g 321), .ref (g 322), .int sa, .int ly, .int rdy, .int fd, .ref (g 323), .ref (g 324), .ref (g 325), .ref (g 326), .ref (g 327), .ref (g 328), .ref (g 329), .ref (g 330), .ref (g 331), .ref (g 332)] ∧ f' 319 = eI G 70 sp9 ∧ f' 320 = eI G 70 wi9 ∧ (wn9 ≤ wn) ∧ (sn9 + wn9 = sn + wn) ∧ (stk wa wn9 = pop r (stk wa wn)) ∧ (dep sp sn = some (nb (stk wa wn) + 1) → dep sp9 sn9 = some (nb (stk wa wn9) + 1)) ∧ ∀ j, (j ≠ 315 ∧ j ≠ 319 ∧ j ≠ 320) → f' j = f j)) ([.ref (g 315), .int r] : List Value).toArray s 0 0 (gA g)) (F0 m 0 ls []) := by
    intro n9_1
    induction n9_1 with
    | zero => intro sn1 wn1 sp1 wi1 f_1 H locs ls h1 h2 h3 h4 hn9_1; exact absurd hn9_1 (Nat.not_lt_zero _)
    | succ n9_1 ih_1 =>
      intro sn1 wn1 sp1 wi1 f_1 H locs ls h1 h2 h3 h4 hn9_1 hmo hsp_ hwi_ hwa_ o_1 hP hS hl
      refine lv_aload_n hx hb dX11_settles_0 rfl (lv_at hl 0 rfl) ?_
      refine va_get (D := G.1) (ci := 10) (v := .int (nI wn1)) (C := RX11) (T := TX11) (N := 25) hx hb hts inlX11 hown hG.1 hP 315 (wl_at (by decide) hmo) rfl 8 (by decide) (hts (.fieldLink RX11 110 "SwornListsModel" "waiting" "I") w_350) (fun _ h9 => h9) rfl dX11_settles_1 ?_
      refine lv_if_le (tgt := 52) hx hb dX11_settles_4 (by decide) (fun c_4 => ?_) (fun c_4 => ?_)
      · have k_4 : wn1 ≤ 0 := (nI_leI (a := wn1) (b := 0) (by omega) (by omega)).mp c_4
        exact W.vret hx hb hr (fun t ht hW => ⟨⟨f_1, rfl, (⟨sn1, wn1, sp1, wi1, hmo, hsp_, hwi_, h1, h2, (pop_0 (by omega)).symm.trans h3, h4, fun j hj => (o_1 j (by omega))⟩), by rw [ht]; exact hP⟩, hS.F ht⟩) hS.2.2 dX11_settles_52
      · have k_4 : ¬ wn1 ≤ 0 := fun z9 => c_4 ((nI_leI (a := wn1) (b := 0) (by omega) (by omega)).mpr z9)
        refine lv_aload_n hx hb dX11_settles_7 rfl (lv_at hl 0 rfl) ?_
        refine va_get (D := G.1) (ci := 10) (v := .ref (g 321)) (C := RX11) (T := TX11) (N := 25) hx hb hts inlX11 hown hG.1 hP 315 (wl_at (by decide) hmo) rfl 9 (by decide) (hts (.fieldLink RX11 26 "SwornListsModel" "waits" "[I") w_117) (fun _ h9 => h9) rfl dX11_settles_8 ?_
        refine lv_aload_n hx hb dX11_settles_11 rfl (lv_at hl 0 rfl) ?_
        refine va_get (D := G.1) (ci := 10) (v := .int (nI wn1)) (C := RX11) (T := TX11) (N := 25) hx hb hts inlX11 hown hG.1 hP 315 (wl_at (by decide) hmo) rfl 8 (by decide) (hts (.fieldLink RX11 110 "SwornListsModel" "waiting" "I") w_350) (fun _ h9 => h9) rfl dX11_settles_12 ?_
        refine lv_iconst (v := 1) hx hb dX11_settles_15 (by decide) ?_
        refine lv_isub hx hb dX11_settles_16 ?_
        refine my_bei (v := nI (wn1 - 1)) (pk_sub (a := wn1) (b := 1) (by omega)) ?_
        refine va_iald hx hb hG.1 hP 321 0 (wl_at (by decide) hwa_) rfl (vp_in_nI (by omega) (by decide)) dX11_settles_17 ?_
        refine my_bei (v := wa (wn1 - 1)) (congrArg wa (nI_clamp (n := wn1 - 1) (by omega))) ?_
        refine rd_calli (va_runS (As := [.int (wa (wn1 - 1))]) (rest := []) ⟨hx, hb, hml, hown, hts⟩ (r_holds l G g hg f_1 (wa (wn1 - 1))  ) (my_cwS hts ok_X11_holds w_357 rfl rfl ⟨Nat.le_of_ble_eq_true rfl, Nat.le_of_ble_eq_true rfl⟩) ⟨bP.blind, fun U hU hW => ⟨rfl, by rw [hU]; exact hP, kG.warm hW hG⟩⟩ rfl rfl hl.1 rfl (lv_room (Nat.le_of_ble_eq_true rfl)) dX11_settles_18 ⟨Nat.le_of_ble_eq_true rfl, Nat.le_of_ble_eq_true rfl⟩) (fun r hr9 => ?_)
        subst hr9
        refine lv_iload_n hx hb dX11_settles_21 rfl (lv_at hl 1 rfl) ?_
        refine lv_icmp_lt (tgt := 52) hx hb dX11_settles_22 (by decide) (fun c_22 => ?_) (fun c_22 => ?_)
        · exact W.vret hx hb hr (fun t ht hW => ⟨⟨f_1, rfl, (⟨sn1, wn1, sp1, wi1, hmo, hsp_, hwi_, h1, h2, (pop_st (by omega) c_22).symm.trans h3, h4, fun j hj => (o_1 j (by omega))⟩), by rw [ht]; exact hP⟩, hS.F ht⟩) hS.2.2 dX11_settles_52
        · refine lv_aload_n hx hb dX11_settles_25 rfl (lv_at hl 0 rfl) ?_
          refine lv_dup hx hb dX11_settles_26 rfl ?_
          refine va_get (D := G.1) (ci := 10) (v := .int (nI wn1)) (C := RX11) (T := TX11) (N := 25) hx hb hts inlX11 hown hG.1 hP 315 (wl_at (by decide) hmo) rfl 8 (by decide) (hts (.fieldLink RX11 110 "SwornListsModel" "waiting" "I") w_350) (fun _ h9 => h9) rfl dX11_settles_27 ?_
          refine lv_iconst (v := 1) hx hb dX11_settles_30 (by decide) ?_
          refine lv_isub hx hb dX11_settles_31 ?_
          refine my_bei (v := nI (wn1 - 1)) (pk_sub (a := wn1) (b := 1) (by omega)) ?_
          refine va_put (D := G.1) (ci := 10) (v := .int (nI (wn1 - 1))) (ty := .int) (C := RX11) (T := TX11) (N := 25) hx hb hts inlX11 tyX11 tyX11_ok nmX11 hown hG.1 hP (wl_D hg f_1) hS 315 (wl_at (by decide) hmo) rfl 8 (by decide) (hts (.fieldLink RX11 110 "SwornListsModel" "waiting" "I") w_350) (fun _ h9 => h9) rfl (by decide +kernel) rfl rfl (Nat.le_of_ble_eq_true rfl) dX11_settles_32 (fun H locs hP _ hS => ?_)
          obtain ⟨f_2, hP, e_2, o_2⟩ := b_put (by decide) hP
          have hmo : f_2 315 = eO 10 [.ref (g 316), .ref (g 317), .ref (g 318), .long ab2, .long be2, .int (nI sn1), .ref (g 319), .ref (g 320), .int (nI (wn1 - 1)), .ref (g 321), .ref (g 322), .int sa, .int ly, .int rdy, .int fd, .ref (g 323), .ref (g 324), .ref (g 325), .ref (g 326), .ref (g 327), .ref (g 328), .ref (g 329), .ref (g 330), .ref (g 331), .ref (g 332)] := e_2
          refine lv_aload_n hx hb dX11_settles_35 rfl (lv_at hl 0 rfl) ?_
          refine lv_aload_n hx hb dX11_settles_36 rfl (lv_at hl 0 rfl) ?_
          refine va_get (D := G.1) (ci := 10) (v := .ref (g 321)) (C := RX11) (T := TX11) (N := 25) hx hb hts inlX11 hown hG.1 hP 315 (wl_at (by decide) hmo) rfl 9 (by decide) (hts (.fieldLink RX11 26 "SwornListsModel" "waits" "[I") w_117) (fun _ h9 => h9) rfl dX11_settles_37 ?_
          refine lv_aload_n hx hb dX11_settles_40 rfl (lv_at hl 0 rfl) ?_
          refine va_get (D := G.1) (ci := 10) (v := .int (nI (wn1 - 1))) (C := RX11) (T := TX11) (N := 25) hx hb hts inlX11 hown hG.1 hP 315 (wl_at (by decide) hmo) rfl 8 (by decide) (hts (.fieldLink RX11 110 "SwornListsModel" "waiting" "I") w_350) (fun _ h9 => h9) rfl dX11_settles_41 ?_
          replace hwa_ := ((o_2 321 (by decide))).trans hwa_
          refine va_iald hx hb hG.1 hP 321 0 (wl_at (by decide) hwa_) rfl (vp_in_nI (by omega) (by decide)) dX11_settles_44 ?_
          refine my_bei (v := wa (wn1 - 1)) (congrArg wa (nI_clamp (n := wn1 - 1) (by omega))) ?_
          refine lv_iconst (v := 0) hx hb dX11_settles_45 (by decide) ?_
          replace hsp_ := ((o_2 319 (by decide))).trans hsp_
          replace hwi_ := ((o_2 320 (by decide))).trans hwi_
          refine b_callv (va_runV (As := [.int (wa (wn1 - 1)), .int 0]) (rest := []) ⟨hx, hb, hml, hown, hts⟩ (r_emits l G g hg f_2 ab2 be2 sn1 (wn1 - 1) sa ly rdy fd sp1 wi1 (wa (wn1 - 1)) 0 hmo hsp_ hwi_ (by first | assumption | omega | decide)) (my_cwV hts ok_X11_emits w_360 rfl rfl ⟨Nat.le_of_ble_eq_true rfl, Nat.le_of_ble_eq_true rfl⟩) ⟨bP.blind, va_recv hG.1 hP (ci := 10) (q0 := 315) rfl (wl_at (by decide) hmo), fun U hU hW => ⟨rfl, by rw [hU]; exact hP, kG.warm hW hG⟩⟩ rfl rfl hl.1 rfl (lv_room (Nat.le_of_ble_eq_true rfl)) dX11_settles_46 ⟨Nat.le_of_ble_eq_true rfl, Nat.le_of_ble_eq_true rfl⟩) hS (fun f_3 H locs hq9 hP hS => ?_)
          obtain ⟨hq_3_0, hq_3_1, hq_3_2, o_3⟩ := hq9
          have hmo : f_3 315 = eO 10 [.ref (g 316), .ref (g 317), .ref (g 318), .long ab2, .long be2, .int (nI (sn1 + 1)), .ref (g 319), .ref (g 320), .int (nI (wn1 - 1)), .ref (g 321), .ref (g 322), .int sa, .int ly, .int rdy, .int fd, .ref (g 323), .ref (g 324), .ref (g 325), .ref (g 326), .ref (g 327), .ref (g 328), .ref (g 329), .ref (g 330), .ref (g 331), .ref (g 332)] := hq_3_0
          have hsp_ : f_3 319 = eI G 70 (upd sp1 sn1 (wa (wn1 - 1))) := hq_3_1
          have hwi_ : f_3 320 = eI G 70 (upd wi1 sn1 0) := hq_3_2
          refine lv_goto (tgt := 0) hx hb dX11_settles_49 (by decide) ?_
          replace hwa_ := ((o_3 321 (by first | decide | omega))).trans hwa_
          exact ih_1 (sn1 + 1) (wn1 - 1) (upd sp1 sn1 (wa (wn1 - 1))) (upd wi1 sn1 0) f_3 _ _ _ (by omega) (by omega) ((pop_go (by omega) c_22).symm.trans h3) (fun z => dep_w (h4 z) (by omega) hr1 c_22) (by omega) (hmo) (hsp_) (hwi_) (hwa_) (fun j hj => (((o_3 j (by omega))).trans (o_2 j (by omega))).trans (o_1 j (by omega))) hP hS (lv_sub hl [0, 1] rfl)
  exact key1 (wn + 1) sn wn sp wi f _ _ _ (Nat.le_refl _) (rfl) (rfl) (fun z => z) (by omega) (hmo) (hsp_) (hwi_) (hwa_) (fun j _ => rfl) hP hS (lv_sub hl [0, 1] rfl)
set_option maxHeartbeats 4000000 in
set_option maxRecDepth 100000 in
theorem r_goesOn (l : Launch) (G : gW) (g : Nat → Nat) (hg : gOK g) (f : Nat → va_E) (ab2 : Int64) (be2 : Int64) (sn : Nat) (wn : Nat) (sa : Int32) (ly : Int32) (rdy : Int32) (fd : Int32) (sp : Nat → Int32) (wi : Nat → Int32) (wa : Nat → Int32) (q : Int32) (hmo : f 315 = eO 10 [.ref (g 316), .ref (g 317), .ref (g 318), .long ab2, .long be2, .int (nI sn), .ref (g 319), .ref (g 320), .int (nI wn), .ref (g 321), .ref (g 322), .int sa, .int ly, .int rdy, .int fd, .ref (g 323), .ref (g 324), .ref (g 325), .ref (g 326), .ref (g 327), .ref (g 328), .ref (g 329), .ref (g 330), .ref (g 331), .ref (g 332)]) (hsp_ : f 319 = eI G 70 sp) (hwi_ : f 320 = eI G 70 wi) (hwa_ : f 321 = eI G 70 wa) (hb70 : sn + wn ≤ 69) (hq1 : 1 ≤ hol q) (hq13 : ¬ q = 13) (hq2 : ¬ q = 2) (hq3 : ¬ q = 3) (hdep : dep sp sn = some (nb (stk wa wn) + 1)) : Met l yX11_goesOn (wsT yX11_goesOn cX11_goesOn 3 (some .boolean)) ({ frames := 2, cells := 0, slots := 0, locals := 43 }) (bP G g f [.ref (g 315), .int q]) (bQi G g (fun (z9 : Int32) (f' : Nat → va_E) => ∃ sn9 : Nat, ∃ wn9 : Nat, ∃ sp9 : Nat → Int32, ∃ wi9 : Nat → Int32, ∃ wa9 : Nat → Int32, ∃ bz : Bool, z9 = b2 (bz = true) ∧ f' 315 = eO 10 [.ref (g 316), .ref (g 317), .ref (g 318), .long ab2, .long be2, .int (nI sn9), .ref (g 319), .ref (g 320), .int (nI wn9), .ref (g 321), .ref (g 322), .int sa, .int ly, .int rdy, .int fd, .ref (g 323), .ref (g 324), .ref (g 325), .ref (g 326), .ref (g 327), .ref (g 328), .ref (g 329), .ref (g 330), .ref (g 331), .ref (g 332)] ∧ f' 319 = eI G 70 sp9 ∧ f' 320 = eI G 70 wi9 ∧ f' 321 = eI G 70 wa9 ∧ (sn9 + wn9 ≤ sn + wn + 1) ∧ (bz = true → gOn q (stk wa wn) = some (stk wa9 wn9) ∧ dep sp9 sn9 = some (nb (stk wa9 wn9))) ∧ (bz = false → gOn q (stk wa wn) = none) ∧ ∀ j, (j ≠ 315 ∧ j ≠ 319 ∧ j ≠ 320 ∧ j ≠ 321) → f' j = f j)) 0 0 (gA g) := by
  refine Met.ofW (cc := cX11_goesOn) (maxL := 3) (ret := (some .boolean)) (by decide) rfl ?_
  intro p e s m args below meth c s₁ B hml hv
  obtain ⟨rfl, hP, hG⟩ := hv
  have hx := B.exec
  have hb := B.bytes
  have hr := B.returns
  have hts := my_hts (atoms_spec (ws := wsT yX11_goesOn cX11_goesOn 3 (some .boolean)) B.pre)
  have hown : s.vm.findClass RX11 = some m.cls := findClass_of_methodNamed B.named
  have hlocks := B.notSynchronized
  have hS : va_S (gA g) s.heap s.heap [] := va_S.rf
  have hl := lv_entry ([.ref (g 315), .int q]) (n := 3) (Nat.le_of_ble_eq_true rfl)
  rw [lg_entry_eq]
  generalize (lg_sl ([.ref (g 315), .int q]) ++ List.replicate (3 - (lg_sl ([.ref (g 315), .int q])).length) Slot.unset).toArray = ls at hl ⊢
  have hl : lv_has ls 3 [(0, .ref (g 315)), (1, .int q)] := hl
  refine lv_iload_n hx hb dX11_goesOn_0 rfl (lv_at hl 1 rfl) ?_
  refine rd_calli (va_runS (As := [.int q]) (rest := []) ⟨hx, hb, hml, hown, hts⟩ (r_holds l G g hg f q  ) (my_cwS hts ok_X11_holds w_357 rfl rfl ⟨Nat.le_of_ble_eq_true rfl, Nat.le_of_ble_eq_true rfl⟩) ⟨bP.blind, fun U hU hW => ⟨rfl, by rw [hU]; exact hP, kG.warm hW hG⟩⟩ rfl rfl hl.1 rfl (lv_room (Nat.le_of_ble_eq_true rfl)) dX11_goesOn_1 ⟨Nat.le_of_ble_eq_true rfl, Nat.le_of_ble_eq_true rfl⟩) (fun r hr9 => ?_)
  subst hr9
  refine lv_istore_n (lv' := [(2, .int (hol q)), (0, .ref (g 315)), (1, .int q)]) hx hb dX11_goesOn_4 rfl hl (by decide) rfl (fun ls hl => ?_)
  refine lv_iload_n hx hb dX11_goesOn_5 rfl (lv_at hl 0 rfl) ?_
  refine lv_iconst (v := 3) hx hb dX11_goesOn_6 (by decide) ?_
  refine lv_icmp_ne (tgt := 42) hx hb dX11_goesOn_7 (by decide) (fun c_7 => ?_) (fun c_7 => ?_)
  · refine lv_aload_n hx hb dX11_goesOn_42 rfl (lv_at hl 1 rfl) ?_
    refine lv_iload_n hx hb dX11_goesOn_43 rfl (lv_at hl 0 rfl) ?_
    refine b_callv (va_runV (As := [.int (hol q)]) (rest := []) ⟨hx, hb, hml, hown, hts⟩ (r_settles l G g hg f ab2 be2 sn wn sa ly rdy fd sp wi wa (hol q) hmo hsp_ hwi_ hwa_ (by first | assumption | omega | decide) (by first | assumption | omega | decide)) (my_cwV hts ok_X11_settles w_353 rfl rfl ⟨Nat.le_of_ble_eq_true rfl, Nat.le_of_ble_eq_true rfl⟩) ⟨bP.blind, va_recv hG.1 hP (ci := 10) (q0 := 315) rfl (wl_at (by decide) hmo), fun U hU hW => ⟨rfl, by rw [hU]; exact hP, kG.warm hW hG⟩⟩ rfl rfl hl.1 rfl (lv_room (Nat.le_of_ble_eq_true rfl)) dX11_goesOn_44 ⟨Nat.le_of_ble_eq_true rfl, Nat.le_of_ble_eq_true rfl⟩) hS (fun f_1 H locs hq9 hP hS => ?_)
    obtain ⟨sn91, wn92, sp93, wi94, hq_1_0, hq_1_1, hq_1_2, hx_1_0, hx_1_1, hx_1_2, hx_1_3, o_1⟩ := hq9
    have hmo : f_1 315 = eO 10 [.ref (g 316), .ref (g 317), .ref (g 318), .long ab2, .long be2, .int (nI sn91), .ref (g 319), .ref (g 320), .int (nI wn92), .ref (g 321), .ref (g 322), .int sa, .int ly, .int rdy, .int fd, .ref (g 323), .ref (g 324), .ref (g 325), .ref (g 326), .ref (g 327), .ref (g 328), .ref (g 329), .ref (g 330), .ref (g 331), .ref (g 332)] := hq_1_0
    have hsp_ : f_1 319 = eI G 70 sp93 := hq_1_1
    have hwi_ : f_1 320 = eI G 70 wi94 := hq_1_2
    refine lv_aload_n hx hb dX11_goesOn_47 rfl (lv_at hl 1 rfl) ?_
    refine lv_iload_n hx hb dX11_goesOn_48 rfl (lv_at hl 2 rfl) ?_
    replace hwa_ := ((o_1 321 (by first | decide | omega))).trans hwa_
    refine b_callv (va_runV (As := [.int q]) (rest := []) ⟨hx, hb, hml, hown, hts⟩ (r_waitsWith l G g hg f_1 ab2 be2 sn91 wn92 sa ly rdy fd wa q hmo hwa_ (by first | assumption | omega | decide)) (my_cwV hts ok_X11_waitsWith w_371 rfl rfl ⟨Nat.le_of_ble_eq_true rfl, Nat.le_of_ble_eq_true rfl⟩) ⟨bP.blind, va_recv hG.1 hP (ci := 10) (q0 := 315) rfl (wl_at (by decide) hmo), fun U hU hW => ⟨rfl, by rw [hU]; exact hP, kG.warm hW hG⟩⟩ rfl rfl hl.1 rfl (lv_room (Nat.le_of_ble_eq_true rfl)) dX11_goesOn_49 ⟨Nat.le_of_ble_eq_true rfl, Nat.le_of_ble_eq_true rfl⟩) hS (fun f_2 H locs hq9 hP hS => ?_)
    obtain ⟨hq_2_0, hq_2_1, o_2⟩ := hq9
    have hmo : f_2 315 = eO 10 [.ref (g 316), .ref (g 317), .ref (g 318), .long ab2, .long be2, .int (nI sn91), .ref (g 319), .ref (g 320), .int (nI (wn92 + 1)), .ref (g 321), .ref (g 322), .int sa, .int ly, .int rdy, .int fd, .ref (g 323), .ref (g 324), .ref (g 325), .ref (g 326), .ref (g 327), .ref (g 328), .ref (g 329), .ref (g 330), .ref (g 331), .ref (g 332)] := hq_2_0
    have hwa_ : f_2 321 = eI G 70 (upd wa wn92 q) := hq_2_1
    refine lv_iconst (v := 1) hx hb dX11_goesOn_52 (by decide) ?_
    replace hsp_ := ((o_2 319 (by first | decide | omega))).trans hsp_
    replace hwi_ := ((o_2 320 (by first | decide | omega))).trans hwi_
    exact W.zret (v := 1) hx hb hr (rfl) (fun t ht hW => ⟨⟨_, f_2, rfl, (⟨sn91, (wn92 + 1), sp93, wi94, (upd wa wn92 q), true, (b2_t rfl).symm, hmo, hsp_, hwi_, hwa_, by omega, fun _ => ⟨by unfold gOn; rw [if_neg c_7, stk_p, hx_1_2], by rw [stk_p, nb_b hq13 hq2 hq3]; exact hx_1_3 hdep⟩, fun z => Bool.noConfusion z, fun j hj => ((o_2 j (by omega))).trans (o_1 j (by omega))⟩), by rw [ht]; exact hP⟩, hS.F ht⟩) hS.2.2 dX11_goesOn_53
  · refine lv_aload_n hx hb dX11_goesOn_10 rfl (lv_at hl 1 rfl) ?_
    refine lv_iconst (v := 4) hx hb dX11_goesOn_11 (by decide) ?_
    refine b_callv (va_runV (As := [.int 4]) (rest := []) ⟨hx, hb, hml, hown, hts⟩ (r_settles l G g hg f ab2 be2 sn wn sa ly rdy fd sp wi wa 4 hmo hsp_ hwi_ hwa_ (by first | assumption | omega | decide) (by decide)) (my_cwV hts ok_X11_settles w_353 rfl rfl ⟨Nat.le_of_ble_eq_true rfl, Nat.le_of_ble_eq_true rfl⟩) ⟨bP.blind, va_recv hG.1 hP (ci := 10) (q0 := 315) rfl (wl_at (by decide) hmo), fun U hU hW => ⟨rfl, by rw [hU]; exact hP, kG.warm hW hG⟩⟩ rfl rfl hl.1 rfl (lv_room (Nat.le_of_ble_eq_true rfl)) dX11_goesOn_12 ⟨Nat.le_of_ble_eq_true rfl, Nat.le_of_ble_eq_true rfl⟩) hS (fun f_3 H locs hq9 hP hS => ?_)
    obtain ⟨sn95, wn96, sp97, wi98, hq_3_0, hq_3_1, hq_3_2, hx_3_0, hx_3_1, hx_3_2, hx_3_3, o_3⟩ := hq9
    have hmo : f_3 315 = eO 10 [.ref (g 316), .ref (g 317), .ref (g 318), .long ab2, .long be2, .int (nI sn95), .ref (g 319), .ref (g 320), .int (nI wn96), .ref (g 321), .ref (g 322), .int sa, .int ly, .int rdy, .int fd, .ref (g 323), .ref (g 324), .ref (g 325), .ref (g 326), .ref (g 327), .ref (g 328), .ref (g 329), .ref (g 330), .ref (g 331), .ref (g 332)] := hq_3_0
    have hsp_ : f_3 319 = eI G 70 sp97 := hq_3_1
    have hwi_ : f_3 320 = eI G 70 wi98 := hq_3_2
    refine lv_aload_n hx hb dX11_goesOn_15 rfl (lv_at hl 1 rfl) ?_
    refine va_get (D := G.1) (ci := 10) (v := .int (nI wn96)) (C := RX11) (T := TX11) (N := 25) hx hb hts inlX11 hown hG.1 hP 315 (wl_at (by decide) hmo) rfl 8 (by decide) (hts (.fieldLink RX11 110 "SwornListsModel" "waiting" "I") w_350) (fun _ h9 => h9) rfl dX11_goesOn_16 ?_
    refine lv_if_le (tgt := 42) hx hb dX11_goesOn_19 (by decide) (fun c_19 => ?_) (fun c_19 => ?_)
    · have k_19 : wn96 ≤ 0 := (nI_leI (a := wn96) (b := 0) (by omega) (by omega)).mp c_19
      refine lv_aload_n hx hb dX11_goesOn_42 rfl (lv_at hl 1 rfl) ?_
      refine lv_iload_n hx hb dX11_goesOn_43 rfl (lv_at hl 0 rfl) ?_
      replace hwa_ := ((o_3 321 (by first | decide | omega))).trans hwa_
      refine b_callv (va_runV (As := [.int (hol q)]) (rest := []) ⟨hx, hb, hml, hown, hts⟩ (r_settles l G g hg f_3 ab2 be2 sn95 wn96 sa ly rdy fd sp97 wi98 wa (hol q) hmo hsp_ hwi_ hwa_ (by first | assumption | omega | decide) (by first | assumption | omega | decide)) (my_cwV hts ok_X11_settles w_353 rfl rfl ⟨Nat.le_of_ble_eq_true rfl, Nat.le_of_ble_eq_true rfl⟩) ⟨bP.blind, va_recv hG.1 hP (ci := 10) (q0 := 315) rfl (wl_at (by decide) hmo), fun U hU hW => ⟨rfl, by rw [hU]; exact hP, kG.warm hW hG⟩⟩ rfl rfl hl.1 rfl (lv_room (Nat.le_of_ble_eq_true rfl)) dX11_goesOn_44 ⟨Nat.le_of_ble_eq_true rfl, Nat.le_of_ble_eq_true rfl⟩) hS (fun f_4 H locs hq9 hP hS => ?_)
      obtain ⟨sn99, wn910, sp911, wi912, hq_4_0, hq_4_1, hq_4_2, hx_4_0, hx_4_1, hx_4_2, hx_4_3, o_4⟩ := hq9
      have hmo : f_4 315 = eO 10 [.ref (g 316), .ref (g 317), .ref (g 318), .long ab2, .long be2, .int (nI sn99), .ref (g 319), .ref (g 320), .int (nI wn910), .ref (g 321), .ref (g 322), .int sa, .int ly, .int rdy, .int fd, .ref (g 323), .ref (g 324), .ref (g 325), .ref (g 326), .ref (g 327), .ref (g 328), .ref (g 329), .ref (g 330), .ref (g 331), .ref (g 332)] := hq_4_0
      have hsp_ : f_4 319 = eI G 70 sp911 := hq_4_1
      have hwi_ : f_4 320 = eI G 70 wi912 := hq_4_2
      refine lv_aload_n hx hb dX11_goesOn_47 rfl (lv_at hl 1 rfl) ?_
      refine lv_iload_n hx hb dX11_goesOn_48 rfl (lv_at hl 2 rfl) ?_
      replace hwa_ := ((o_4 321 (by first | decide | omega))).trans hwa_
      refine b_callv (va_runV (As := [.int q]) (rest := []) ⟨hx, hb, hml, hown, hts⟩ (r_waitsWith l G g hg f_4 ab2 be2 sn99 wn910 sa ly rdy fd wa q hmo hwa_ (by first | assumption | omega | decide)) (my_cwV hts ok_X11_waitsWith w_371 rfl rfl ⟨Nat.le_of_ble_eq_true rfl, Nat.le_of_ble_eq_true rfl⟩) ⟨bP.blind, va_recv hG.1 hP (ci := 10) (q0 := 315) rfl (wl_at (by decide) hmo), fun U hU hW => ⟨rfl, by rw [hU]; exact hP, kG.warm hW hG⟩⟩ rfl rfl hl.1 rfl (lv_room (Nat.le_of_ble_eq_true rfl)) dX11_goesOn_49 ⟨Nat.le_of_ble_eq_true rfl, Nat.le_of_ble_eq_true rfl⟩) hS (fun f_5 H locs hq9 hP hS => ?_)
      obtain ⟨hq_5_0, hq_5_1, o_5⟩ := hq9
      have hmo : f_5 315 = eO 10 [.ref (g 316), .ref (g 317), .ref (g 318), .long ab2, .long be2, .int (nI sn99), .ref (g 319), .ref (g 320), .int (nI (wn910 + 1)), .ref (g 321), .ref (g 322), .int sa, .int ly, .int rdy, .int fd, .ref (g 323), .ref (g 324), .ref (g 325), .ref (g 326), .ref (g 327), .ref (g 328), .ref (g 329), .ref (g 330), .ref (g 331), .ref (g 332)] := hq_5_0
      have hwa_ : f_5 321 = eI G 70 (upd wa wn910 q) := hq_5_1
      refine lv_iconst (v := 1) hx hb dX11_goesOn_52 (by decide) ?_
      replace hsp_ := ((o_5 319 (by first | decide | omega))).trans hsp_
      replace hwi_ := ((o_5 320 (by first | decide | omega))).trans hwi_
      exact W.zret (v := 1) hx hb hr (rfl) (fun t ht hW => ⟨⟨_, f_5, rfl, (⟨sn99, (wn910 + 1), sp911, wi912, (upd wa wn910 q), true, (b2_t rfl).symm, hmo, hsp_, hwi_, hwa_, by omega, fun _ => ⟨by unfold gOn; rw [if_pos c_7, if_neg (by rw [← hx_3_2]; exact gB_f (fun z => absurd z (by omega))), ← hx_3_2, stk_p, hx_4_2, c_7], by rw [stk_p, nb_b hq13 hq2 hq3]; exact hx_4_3 (hx_3_3 hdep)⟩, fun z => Bool.noConfusion z, fun j hj => (((o_5 j (by omega))).trans (o_4 j (by omega))).trans (o_3 j (by omega))⟩), by rw [ht]; exact hP⟩, hS.F ht⟩) hS.2.2 dX11_goesOn_53
    · have k_19 : ¬ wn96 ≤ 0 := fun z9 => c_19 ((nI_leI (a := wn96) (b := 0) (by omega) (by omega)).mpr z9)
      refine lv_aload_n hx hb dX11_goesOn_22 rfl (lv_at hl 1 rfl) ?_
      refine va_get (D := G.1) (ci := 10) (v := .ref (g 321)) (C := RX11) (T := TX11) (N := 25) hx hb hts inlX11 hown hG.1 hP 315 (wl_at (by decide) hmo) rfl 9 (by decide) (hts (.fieldLink RX11 26 "SwornListsModel" "waits" "[I") w_117) (fun _ h9 => h9) rfl dX11_goesOn_23 ?_
      refine lv_aload_n hx hb dX11_goesOn_26 rfl (lv_at hl 1 rfl) ?_
      refine va_get (D := G.1) (ci := 10) (v := .int (nI wn96)) (C := RX11) (T := TX11) (N := 25) hx hb hts inlX11 hown hG.1 hP 315 (wl_at (by decide) hmo) rfl 8 (by decide) (hts (.fieldLink RX11 110 "SwornListsModel" "waiting" "I") w_350) (fun _ h9 => h9) rfl dX11_goesOn_27 ?_
      refine lv_iconst (v := 1) hx hb dX11_goesOn_30 (by decide) ?_
      refine lv_isub hx hb dX11_goesOn_31 ?_
      refine my_bei (v := nI (wn96 - 1)) (pk_sub (a := wn96) (b := 1) (by omega)) ?_
      replace hwa_ := ((o_3 321 (by first | decide | omega))).trans hwa_
      refine va_iald hx hb hG.1 hP 321 0 (wl_at (by decide) hwa_) rfl (vp_in_nI (by omega) (by decide)) dX11_goesOn_32 ?_
      refine my_bei (v := wa (wn96 - 1)) (congrArg wa (nI_clamp (n := wn96 - 1) (by omega))) ?_
      refine rd_calli (va_runS (As := [.int (wa (wn96 - 1))]) (rest := []) ⟨hx, hb, hml, hown, hts⟩ (r_holds l G g hg f_3 (wa (wn96 - 1))  ) (my_cwS hts ok_X11_holds w_357 rfl rfl ⟨Nat.le_of_ble_eq_true rfl, Nat.le_of_ble_eq_true rfl⟩) ⟨bP.blind, fun U hU hW => ⟨rfl, by rw [hU]; exact hP, kG.warm hW hG⟩⟩ rfl rfl hl.1 rfl (lv_room (Nat.le_of_ble_eq_true rfl)) dX11_goesOn_33 ⟨Nat.le_of_ble_eq_true rfl, Nat.le_of_ble_eq_true rfl⟩) (fun r hr9 => ?_)
      subst hr9
      refine lv_iconst (v := 3) hx hb dX11_goesOn_36 (by decide) ?_
      refine lv_icmp_ne (tgt := 42) hx hb dX11_goesOn_37 (by decide) (fun c_37 => ?_) (fun c_37 => ?_)
      · refine lv_aload_n hx hb dX11_goesOn_42 rfl (lv_at hl 1 rfl) ?_
        refine lv_iload_n hx hb dX11_goesOn_43 rfl (lv_at hl 0 rfl) ?_
        refine b_callv (va_runV (As := [.int (hol q)]) (rest := []) ⟨hx, hb, hml, hown, hts⟩ (r_settles l G g hg f_3 ab2 be2 sn95 wn96 sa ly rdy fd sp97 wi98 wa (hol q) hmo hsp_ hwi_ hwa_ (by first | assumption | omega | decide) (by first | assumption | omega | decide)) (my_cwV hts ok_X11_settles w_353 rfl rfl ⟨Nat.le_of_ble_eq_true rfl, Nat.le_of_ble_eq_true rfl⟩) ⟨bP.blind, va_recv hG.1 hP (ci := 10) (q0 := 315) rfl (wl_at (by decide) hmo), fun U hU hW => ⟨rfl, by rw [hU]; exact hP, kG.warm hW hG⟩⟩ rfl rfl hl.1 rfl (lv_room (Nat.le_of_ble_eq_true rfl)) dX11_goesOn_44 ⟨Nat.le_of_ble_eq_true rfl, Nat.le_of_ble_eq_true rfl⟩) hS (fun f_6 H locs hq9 hP hS => ?_)
        obtain ⟨sn913, wn914, sp915, wi916, hq_6_0, hq_6_1, hq_6_2, hx_6_0, hx_6_1, hx_6_2, hx_6_3, o_6⟩ := hq9
        have hmo : f_6 315 = eO 10 [.ref (g 316), .ref (g 317), .ref (g 318), .long ab2, .long be2, .int (nI sn913), .ref (g 319), .ref (g 320), .int (nI wn914), .ref (g 321), .ref (g 322), .int sa, .int ly, .int rdy, .int fd, .ref (g 323), .ref (g 324), .ref (g 325), .ref (g 326), .ref (g 327), .ref (g 328), .ref (g 329), .ref (g 330), .ref (g 331), .ref (g 332)] := hq_6_0
        have hsp_ : f_6 319 = eI G 70 sp915 := hq_6_1
        have hwi_ : f_6 320 = eI G 70 wi916 := hq_6_2
        refine lv_aload_n hx hb dX11_goesOn_47 rfl (lv_at hl 1 rfl) ?_
        refine lv_iload_n hx hb dX11_goesOn_48 rfl (lv_at hl 2 rfl) ?_
        replace hwa_ := ((o_6 321 (by first | decide | omega))).trans hwa_
        refine b_callv (va_runV (As := [.int q]) (rest := []) ⟨hx, hb, hml, hown, hts⟩ (r_waitsWith l G g hg f_6 ab2 be2 sn913 wn914 sa ly rdy fd wa q hmo hwa_ (by first | assumption | omega | decide)) (my_cwV hts ok_X11_waitsWith w_371 rfl rfl ⟨Nat.le_of_ble_eq_true rfl, Nat.le_of_ble_eq_true rfl⟩) ⟨bP.blind, va_recv hG.1 hP (ci := 10) (q0 := 315) rfl (wl_at (by decide) hmo), fun U hU hW => ⟨rfl, by rw [hU]; exact hP, kG.warm hW hG⟩⟩ rfl rfl hl.1 rfl (lv_room (Nat.le_of_ble_eq_true rfl)) dX11_goesOn_49 ⟨Nat.le_of_ble_eq_true rfl, Nat.le_of_ble_eq_true rfl⟩) hS (fun f_7 H locs hq9 hP hS => ?_)
        obtain ⟨hq_7_0, hq_7_1, o_7⟩ := hq9
        have hmo : f_7 315 = eO 10 [.ref (g 316), .ref (g 317), .ref (g 318), .long ab2, .long be2, .int (nI sn913), .ref (g 319), .ref (g 320), .int (nI (wn914 + 1)), .ref (g 321), .ref (g 322), .int sa, .int ly, .int rdy, .int fd, .ref (g 323), .ref (g 324), .ref (g 325), .ref (g 326), .ref (g 327), .ref (g 328), .ref (g 329), .ref (g 330), .ref (g 331), .ref (g 332)] := hq_7_0
        have hwa_ : f_7 321 = eI G 70 (upd wa wn914 q) := hq_7_1
        refine lv_iconst (v := 1) hx hb dX11_goesOn_52 (by decide) ?_
        replace hsp_ := ((o_7 319 (by first | decide | omega))).trans hsp_
        replace hwi_ := ((o_7 320 (by first | decide | omega))).trans hwi_
        exact W.zret (v := 1) hx hb hr (rfl) (fun t ht hW => ⟨⟨_, f_7, rfl, (⟨sn913, (wn914 + 1), sp915, wi916, (upd wa wn914 q), true, (b2_t rfl).symm, hmo, hsp_, hwi_, hwa_, by omega, fun _ => ⟨by unfold gOn; rw [if_pos c_7, if_neg (by rw [← hx_3_2]; exact gB_f (fun _ => c_37)), ← hx_3_2, stk_p, hx_6_2, c_7], by rw [stk_p, nb_b hq13 hq2 hq3]; exact hx_6_3 (hx_3_3 hdep)⟩, fun z => Bool.noConfusion z, fun j hj => (((o_7 j (by omega))).trans (o_6 j (by omega))).trans (o_3 j (by omega))⟩), by rw [ht]; exact hP⟩, hS.F ht⟩) hS.2.2 dX11_goesOn_53
      · refine lv_iconst (v := 0) hx hb dX11_goesOn_40 (by decide) ?_
        exact W.zret (v := 0) hx hb hr (rfl) (fun t ht hW => ⟨⟨_, f_3, rfl, (⟨sn95, wn96, sp97, wi98, wa, false, (b2_f (by decide)).symm, hmo, hsp_, hwi_, hwa_, by omega, fun z => Bool.noConfusion z, fun _ => by unfold gOn; rw [if_pos c_7, if_pos (by rw [← hx_3_2]; exact gB_t (by omega) c_37)], fun j hj => (o_3 j (by omega))⟩), by rw [ht]; exact hP⟩, hS.F ht⟩) hS.2.2 dX11_goesOn_41


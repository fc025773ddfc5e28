theorem dn_new {dn dn9 : Nat → Int32} {to d : Nat} (h : ∀ k, k < 11 → ∃ d, d ≤ 24 ∧ dn k = nI d) (h1 : dn9 to = nI d) (h2 : d ≤ 24) (h3 : ∀ k, k ≠ to → dn9 k = dn k) : ∀ k, k < 11 → ∃ d, d ≤ 24 ∧ dn9 k = nI d := by
  intro k hk
  by_cases e : k = to
  · rw [e]; exact ⟨d, h2, h1⟩
  · rw [h3 k e]; exact h k hk
set_option maxHeartbeats 4000000 in
set_option maxRecDepth 100000 in
theorem r_triesN (l : Launch) (G : gW) (g : Nat → Nat) (hg : gOK g) (f : Nat → va_E) (ab2 : Int64) (be2 : Int64) (sn : Int32) (wn : Int32) (sa : Int32) (ly : Int32) (rdy : Int32) (fd : Nat) (ss : Nat → Int32) (np : Nat) (nf : Nat) (nr : Nat) (na : Nat) (nt : Nat) (sp : Nat → Int32) (wi : Nat → Int32) (wa : Nat → Int32) (va : Nat → Int64) (bo : Nat → Int32) (ju : Nat → Int32) (dr : Nat → Int32) (dn : Nat → Int32) (sl : Nat → Int32) (ax : Nat → Int32) (lf : Nat → Int32) (t : Nat) (to : Nat) (hmo : f 315 = eO 10 [.ref (g 316), .ref (g 317), .ref (g 318), .long ab2, .long be2, .int sn, .ref (g 319), .ref (g 320), .int wn, .ref (g 321), .ref (g 322), .int sa, .int ly, .int rdy, .int (nI fd), .ref (g 323), .ref (g 324), .ref (g 325), .ref (g 326), .ref (g 327), .ref (g 328), .ref (g 329), .ref (g 330), .ref (g 331), .ref (g 332)]) (hss_ : f 316 = eI G 2246 ss) (hsp_ : f 319 = eI G 70 sp) (hwi_ : f 320 = eI G 70 wi) (hwa_ : f 321 = eI G 70 wa) (hva_ : f 322 = eJ G 70 va) (hbo_ : f 323 = eI G 11 bo) (hju_ : f 324 = eI G 11 ju) (hdr_ : f 325 = eI G 264 dr) (hdn_ : f 326 = eI G 11 dn) (hsl_ : f 327 = eI G 330 sl) (hax_ : f 328 = eI G 44 ax) (hlf_ : f 329 = eI G 30 lf) (hst : stOK ss np nf nr na nt) (hfo : fd ≤ 10) (ht0 : t < nt) (hto : to < 11) (hdn : ∀ k, k < 11 → ∃ d, d ≤ 24 ∧ dn k = nI d) : Met l yX11_tries (wsT yX11_tries cX11_tries 13 none) ({ frames := 5, cells := 0, slots := 0, locals := 120 }) (bP G g f [.ref (g 315), .int (nI t), .int (nI to), .int (-1), .int (-1)]) (bQv G g (fun (f' : Nat → va_E) => ∃ sn9 : Int32, ∃ wn9 : Int32, ∃ sa9 : Int32, ∃ ly9 : Int32, ∃ sp9 : Nat → Int32, ∃ wi9 : Nat → Int32, ∃ wa9 : Nat → Int32, ∃ va9 : Nat → Int64, ∃ bo9 : Nat → Int32, ∃ ju9 : Nat → Int32, ∃ dr9 : Nat → Int32, ∃ dn9 : Nat → Int32, ∃ sl9 : Nat → Int32, ∃ ax9 : Nat → Int32, ∃ lf9 : Nat → Int32, f' 315 = eO 10 [.ref (g 316), .ref (g 317), .ref (g 318), .long ab2, .long be2, .int sn9, .ref (g 319), .ref (g 320), .int wn9, .ref (g 321), .ref (g 322), .int sa9, .int ly9, .int rdy, .int (nI fd), .ref (g 323), .ref (g 324), .ref (g 325), .ref (g 326), .ref (g 327), .ref (g 328), .ref (g 329), .ref (g 330), .ref (g 331), .ref (g 332)] ∧ f' 319 = eI G 70 sp9 ∧ f' 320 = eI G 70 wi9 ∧ f' 321 = eI G 70 wa9 ∧ f' 322 = eJ G 70 va9 ∧ f' 323 = eI G 11 bo9 ∧ f' 324 = eI G 11 ju9 ∧ f' 325 = eI G 264 dr9 ∧ f' 326 = eI G 11 dn9 ∧ f' 327 = eI G 330 sl9 ∧ f' 328 = eI G 44 ax9 ∧ f' 329 = eI G 30 lf9 ∧ (∀ k, k < 11 → ∃ d, d ≤ 24 ∧ dn9 k = nI d) ∧ ∀ j, (j < 315 ∨ (316 ≤ j ∧ j ≤ 318) ∨ 330 ≤ j) → f' j = f j)) 0 0 (gA g) := by
  refine Met.ofW (cc := cX11_tries) (maxL := 13) (ret := none) (by decide) rfl ?_
  intro p e s m args below meth c s₁ B hml hv
  obtain ⟨rfl, hP, hG⟩ := hv
  have hx := B.exec
  have hb := B.bytes
  have hr := B.returns
  have hts := my_hts (atoms_spec (ws := wsT yX11_tries cX11_tries 13 none) B.pre)
  have hown : s.vm.findClass RX11 = some m.cls := findClass_of_methodNamed B.named
  have hlocks := B.notSynchronized
  have hS : va_S (gA g) s.heap s.heap [] := va_S.rf
  have hl := lv_entry ([.ref (g 315), .int (nI t), .int (nI to), .int (-1), .int (-1)]) (n := 13) (Nat.le_of_ble_eq_true rfl)
  rw [lg_entry_eq]
  generalize (lg_sl ([.ref (g 315), .int (nI t), .int (nI to), .int (-1), .int (-1)]) ++ List.replicate (13 - (lg_sl ([.ref (g 315), .int (nI t), .int (nI to), .int (-1), .int (-1)])).length) Slot.unset).toArray = ls at hl ⊢
  have hl : lv_has ls 13 [(0, .ref (g 315)), (1, .int (nI t)), (2, .int (nI to)), (3, .int (-1)), (4, .int (-1))] := hl
  have hc0 := hst.c0
  have hc1 := hst.c1
  have hc2 := hst.c2
  have hc3 := hst.c3
  have hc4 := hst.c4
  obtain ⟨⟨q4, hq4, hs4⟩, sq, hsq, hss⟩ := hst.tr t ht0
  refine lv_aload_n hx hb dX11_tries_0 rfl (lv_at hl 0 rfl) ?_
  refine lv_iload_n hx hb dX11_tries_1 rfl (lv_at hl 1 rfl) ?_
  refine lv_iconst (v := 0) hx hb dX11_tries_2 (by decide) ?_
  refine rd_calli (va_runV (As := [.int (nI t), .int 0]) (rest := []) ⟨hx, hb, hml, hown, hts⟩ (r_ofTrial l G g hg f ab2 be2 sn wn sa ly rdy (nI fd) ss t 0 hmo hss_ (by first | assumption | omega | decide)) (my_cwV hts ok_X11_ofTrial w_532 rfl rfl ⟨Nat.le_of_ble_eq_true rfl, Nat.le_of_ble_eq_true rfl⟩) ⟨bP.blind, va_recv hG.1 hP (ci := 10) (q0 := 315) rfl (wl_at (by decide) hmo), fun U hU hW => ⟨rfl, by rw [hU]; exact hP, kG.warm hW hG⟩⟩ rfl rfl hl.1 rfl (lv_room (Nat.le_of_ble_eq_true rfl)) dX11_tries_3 ⟨Nat.le_of_ble_eq_true rfl, Nat.le_of_ble_eq_true rfl⟩) (fun r hr9 => ?_)
  subst hr9
  refine my_bei (v := ss (10 * t + 1546)) (congrArg ss (show 10 * t + 0 + 1546 = 10 * t + 1546 by omega)) ?_
  refine lv_istore (lv' := [(5, .int (ss (10 * t + 1546))), (0, .ref (g 315)), (1, .int (nI t)), (2, .int (nI to)), (3, .int (-1)), (4, .int (-1))]) hx hb dX11_tries_6 hl (by decide) rfl (fun ls hl => ?_)
  refine lv_aload_n hx hb dX11_tries_8 rfl (lv_at hl 1 rfl) ?_
  refine lv_iconst (v := 0) hx hb dX11_tries_9 (by decide) ?_
  refine lv_iload hx hb dX11_tries_10 (lv_at hl 0 rfl) ?_
  refine lv_iload hx hb dX11_tries_12 (lv_at hl 5 rfl) ?_
  refine lv_if_ne (tgt := 21) hx hb dX11_tries_14 (by decide) (fun c_14 => ?_) (fun c_14 => absurd c_14 (by decide))
  refine lv_iconst (v := (-1)) hx hb dX11_tries_21 (by decide) ?_
  refine b_calli (va_runV (As := [.int 0, .int (ss (10 * t + 1546)), .int (-1)]) (rest := []) ⟨hx, hb, hml, hown, hts⟩ (r_whomN l G g hg f ab2 be2 sn wn sa ly rdy fd ss np nf nr na nt sp wi wa va ju 0 (ss (10 * t + 1546)) hmo hss_ hsp_ hwi_ hwa_ hva_ hju_ (by first | assumption | omega | decide) (by first | assumption | omega | decide)) (my_cwV hts ok_X11_whom w_536 rfl rfl ⟨Nat.le_of_ble_eq_true rfl, Nat.le_of_ble_eq_true rfl⟩) ⟨bP.blind, va_recv hG.1 hP (ci := 10) (q0 := 315) rfl (wl_at (by decide) hmo), fun U hU hW => ⟨rfl, by rw [hU]; exact hP, kG.warm hW hG⟩⟩ rfl rfl hl.1 rfl (lv_room (Nat.le_of_ble_eq_true rfl)) dX11_tries_22 ⟨Nat.le_of_ble_eq_true rfl, Nat.le_of_ble_eq_true rfl⟩) hS (fun v1 f_1 H locs hq9 hP hS => ?_)
  obtain ⟨sn92, wn93, sa94, ly95, sp96, wi97, wa98, va99, hq_1_0, hq_1_1, hq_1_2, hq_1_3, hq_1_4, o_1⟩ := hq9
  have hmo : f_1 315 = eO 10 [.ref (g 316), .ref (g 317), .ref (g 318), .long ab2, .long be2, .int sn92, .ref (g 319), .ref (g 320), .int wn93, .ref (g 321), .ref (g 322), .int sa94, .int ly95, .int rdy, .int (nI fd), .ref (g 323), .ref (g 324), .ref (g 325), .ref (g 326), .ref (g 327), .ref (g 328), .ref (g 329), .ref (g 330), .ref (g 331), .ref (g 332)] := hq_1_0
  have hsp_ : f_1 319 = eI G 70 sp96 := hq_1_1
  have hwi_ : f_1 320 = eI G 70 wi97 := hq_1_2
  have hwa_ : f_1 321 = eI G 70 wa98 := hq_1_3
  have hva_ : f_1 322 = eJ G 70 va99 := hq_1_4
  refine lv_istore (lv' := [(6, .int v1), (5, .int (ss (10 * t + 1546))), (0, .ref (g 315)), (1, .int (nI t)), (2, .int (nI to)), (3, .int (-1)), (4, .int (-1))]) hx hb dX11_tries_25 hl (by decide) rfl (fun ls hl => ?_)
  refine lv_aload_n hx hb dX11_tries_27 rfl (lv_at hl 2 rfl) ?_
  refine lv_iconst (v := 1) hx hb dX11_tries_28 (by decide) ?_
  refine lv_iload hx hb dX11_tries_29 (lv_at hl 1 rfl) ?_
  refine lv_iload hx hb dX11_tries_31 (lv_at hl 6 rfl) ?_
  refine lv_iconst (v := 1) hx hb dX11_tries_33 (by decide) ?_
  refine lv_icmp_ne (tgt := 41) hx hb dX11_tries_34 (by decide) (fun c_34 => ?_) (fun c_34 => absurd c_34 (by decide))
  refine lv_iconst (v := (-1)) hx hb dX11_tries_41 (by decide) ?_
  replace hss_ := ((o_1 316 (by first | decide | omega))).trans hss_
  replace hju_ := ((o_1 324 (by first | decide | omega))).trans hju_
  refine b_calli (va_runV (As := [.int 1, .int (ss (10 * t + 1546)), .int (-1)]) (rest := []) ⟨hx, hb, hml, hown, hts⟩ (r_whomN l G g hg f_1 ab2 be2 sn92 wn93 sa94 ly95 rdy fd ss np nf nr na nt sp96 wi97 wa98 va99 ju 1 (ss (10 * t + 1546)) hmo hss_ hsp_ hwi_ hwa_ hva_ hju_ (by first | assumption | omega | decide) (by first | assumption | omega | decide)) (my_cwV hts ok_X11_whom w_536 rfl rfl ⟨Nat.le_of_ble_eq_true rfl, Nat.le_of_ble_eq_true rfl⟩) ⟨bP.blind, va_recv hG.1 hP (ci := 10) (q0 := 315) rfl (wl_at (by decide) hmo), fun U hU hW => ⟨rfl, by rw [hU]; exact hP, kG.warm hW hG⟩⟩ rfl rfl hl.1 rfl (lv_room (Nat.le_of_ble_eq_true rfl)) dX11_tries_42 ⟨Nat.le_of_ble_eq_true rfl, Nat.le_of_ble_eq_true rfl⟩) hS (fun v10 f_2 H locs hq9 hP hS => ?_)
  obtain ⟨sn911, wn912, sa913, ly914, sp915, wi916, wa917, va918, hq_2_0, hq_2_1, hq_2_2, hq_2_3, hq_2_4, o_2⟩ := hq9
  have hmo : f_2 315 = eO 10 [.ref (g 316), .ref (g 317), .ref (g 318), .long ab2, .long be2, .int sn911, .ref (g 319), .ref (g 320), .int wn912, .ref (g 321), .ref (g 322), .int sa913, .int ly914, .int rdy, .int (nI fd), .ref (g 323), .ref (g 324), .ref (g 325), .ref (g 326), .ref (g 327), .ref (g 328), .ref (g 329), .ref (g 330), .ref (g 331), .ref (g 332)] := hq_2_0
  have hsp_ : f_2 319 = eI G 70 sp915 := hq_2_1
  have hwi_ : f_2 320 = eI G 70 wi916 := hq_2_2
  have hwa_ : f_2 321 = eI G 70 wa917 := hq_2_3
  have hva_ : f_2 322 = eJ G 70 va918 := hq_2_4
  refine lv_istore (lv' := [(7, .int v10), (6, .int v1), (5, .int (ss (10 * t + 1546))), (0, .ref (g 315)), (1, .int (nI t)), (2, .int (nI to)), (3, .int (-1)), (4, .int (-1))]) hx hb dX11_tries_45 hl (by decide) rfl (fun ls hl => ?_)
  refine lv_aload_n hx hb dX11_tries_47 rfl (lv_at hl 3 rfl) ?_
  refine lv_iload_n hx hb dX11_tries_48 rfl (lv_at hl 4 rfl) ?_
  refine lv_iload hx hb dX11_tries_49 (lv_at hl 2 rfl) ?_
  replace hss_ := ((o_2 316 (by first | decide | omega))).trans hss_
  refine rd_calli (va_runV (As := [.int (nI t), .int (ss (10 * t + 1546))]) (rest := []) ⟨hx, hb, hml, hown, hts⟩ (r_kinOf l G g hg f_2 ab2 be2 sn911 wn912 sa913 ly914 rdy (nI fd) ss np nf nr na nt t (ss (10 * t + 1546)) hmo hss_ (by first | assumption | omega | decide) (by first | assumption | omega | decide)) (my_cwV hts ok_X11_kinOf w_562 rfl rfl ⟨Nat.le_of_ble_eq_true rfl, Nat.le_of_ble_eq_true rfl⟩) ⟨bP.blind, va_recv hG.1 hP (ci := 10) (q0 := 315) rfl (wl_at (by decide) hmo), fun U hU hW => ⟨rfl, by rw [hU]; exact hP, kG.warm hW hG⟩⟩ rfl rfl hl.1 rfl (lv_room (Nat.le_of_ble_eq_true rfl)) dX11_tries_51 ⟨Nat.le_of_ble_eq_true rfl, Nat.le_of_ble_eq_true rfl⟩) (fun v19 _ => ?_)
  refine lv_aload_n hx hb dX11_tries_54 rfl (lv_at hl 3 rfl) ?_
  refine lv_iload_n hx hb dX11_tries_55 rfl (lv_at hl 4 rfl) ?_
  replace hju_ := ((o_2 324 (by first | decide | omega))).trans hju_
  refine rd_calli (va_runV (As := [.int (nI t)]) (rest := [.int v19]) ⟨hx, hb, hml, hown, hts⟩ (r_sitting l G g hg f_2 ab2 be2 sn911 wn912 sa913 ly914 rdy (nI fd) ss ju t hmo hss_ hju_ (by first | assumption | omega | decide)) (my_cwV hts ok_X11_sitting w_566 rfl rfl ⟨Nat.le_of_ble_eq_true rfl, Nat.le_of_ble_eq_true rfl⟩) ⟨bP.blind, va_recv hG.1 hP (ci := 10) (q0 := 315) rfl (wl_at (by decide) hmo), fun U hU hW => ⟨rfl, by rw [hU]; exact hP, kG.warm hW hG⟩⟩ rfl rfl hl.1 rfl (lv_room (Nat.le_of_ble_eq_true rfl)) dX11_tries_56 ⟨Nat.le_of_ble_eq_true rfl, Nat.le_of_ble_eq_true rfl⟩) (fun v20 _ => ?_)
  refine lv_ior hx hb dX11_tries_59 ?_
  refine lv_istore (lv' := [(8, .int (v19 ||| v20)), (7, .int v10), (6, .int v1), (5, .int (ss (10 * t + 1546))), (0, .ref (g 315)), (1, .int (nI t)), (2, .int (nI to)), (3, .int (-1)), (4, .int (-1))]) hx hb dX11_tries_60 hl (by decide) rfl (fun ls hl => ?_)
  refine lv_aload_n hx hb dX11_tries_62 rfl (lv_at hl 4 rfl) ?_
  refine lv_iload hx hb dX11_tries_63 (lv_at hl 3 rfl) ?_
  refine rd_calli (va_runV (As := [.int (ss (10 * t + 1546))]) (rest := []) ⟨hx, hb, hml, hown, hts⟩ (r_theRoll l G g hg f_2 ab2 be2 sn911 wn912 sa913 ly914 rdy (nI fd) ss np nf nr na nt (ss (10 * t + 1546)) hmo hss_ (by first | assumption | omega | decide)) (my_cwV hts ok_X11_theRoll w_234 rfl rfl ⟨Nat.le_of_ble_eq_true rfl, Nat.le_of_ble_eq_true rfl⟩) ⟨bP.blind, va_recv hG.1 hP (ci := 10) (q0 := 315) rfl (wl_at (by decide) hmo), fun U hU hW => ⟨rfl, by rw [hU]; exact hP, kG.warm hW hG⟩⟩ rfl rfl hl.1 rfl (lv_room (Nat.le_of_ble_eq_true rfl)) dX11_tries_65 ⟨Nat.le_of_ble_eq_true rfl, Nat.le_of_ble_eq_true rfl⟩) (fun v21 _ => ?_)
  refine lv_iload hx hb dX11_tries_68 (lv_at hl 2 rfl) ?_
  refine lv_iand hx hb dX11_tries_70 ?_
  refine lv_iload hx hb dX11_tries_71 (lv_at hl 1 rfl) ?_
  refine lv_iconst (v := (-1)) hx hb dX11_tries_73 (by decide) ?_
  refine lv_ixor hx hb dX11_tries_74 ?_
  refine lv_iand hx hb dX11_tries_75 ?_
  refine lv_iload hx hb dX11_tries_76 (lv_at hl 0 rfl) ?_
  refine lv_iconst (v := (-1)) hx hb dX11_tries_78 (by decide) ?_
  refine lv_ixor hx hb dX11_tries_79 ?_
  refine lv_iand hx hb dX11_tries_80 ?_
  refine lv_istore (lv' := [(9, .int (((v21 &&& v1) &&& (v10 ^^^ (-1))) &&& ((v19 ||| v20) ^^^ (-1)))), (8, .int (v19 ||| v20)), (7, .int v10), (6, .int v1), (5, .int (ss (10 * t + 1546))), (0, .ref (g 315)), (1, .int (nI t)), (2, .int (nI to)), (3, .int (-1)), (4, .int (-1))]) hx hb dX11_tries_81 hl (by decide) rfl (fun ls hl => ?_)
  refine lv_iconst (v := 0) hx hb dX11_tries_83 (by decide) ?_
  refine lv_istore (lv' := [(10, .int 0), (9, .int (((v21 &&& v1) &&& (v10 ^^^ (-1))) &&& ((v19 ||| v20) ^^^ (-1)))), (8, .int (v19 ||| v20)), (7, .int v10), (6, .int v1), (5, .int (ss (10 * t + 1546))), (0, .ref (g 315)), (1, .int (nI t)), (2, .int (nI to)), (3, .int (-1)), (4, .int (-1))]) hx hb dX11_tries_84 hl (by decide) rfl (fun ls hl => ?_)
  replace hbo_ := ((o_2 323 (by first | decide | omega)).trans ((o_1 323 (by first | decide | omega)))).trans hbo_
  replace hdr_ := ((o_2 325 (by first | decide | omega)).trans ((o_1 325 (by first | decide | omega)))).trans hdr_
  replace hdn_ := ((o_2 326 (by first | decide | omega)).trans ((o_1 326 (by first | decide | omega)))).trans hdn_
  replace hsl_ := ((o_2 327 (by first | decide | omega)).trans ((o_1 327 (by first | decide | omega)))).trans hsl_
  replace hax_ := ((o_2 328 (by first | decide | omega)).trans ((o_1 328 (by first | decide | omega)))).trans hax_
  replace hlf_ := ((o_2 329 (by first | decide | omega)).trans ((o_1 329 (by first | decide | omega)))).trans hlf_
  have key22 : ∀ (n9_22 : Nat) (i : Nat) (u : Int32) (f_3 : Nat → va_E) (H : Heap) (locs : List Loc) (ls : Array Slot), (i ≤ np) → np - i < n9_22 → f_3 315 = eO 10 [.ref (g 316), .ref (g 317), .ref (g 318), .long ab2, .long be2, .int sn911, .ref (g 319), .ref (g 320), .int wn912, .ref (g 321), .ref (g 322), .int sa913, .int ly914, .int rdy, .int (nI fd), .ref (g 323), .ref (g 324), .ref (g 325), .ref (g 326), .ref (g 327), .ref (g 328), .ref (g 329), .ref (g 330), .ref (g 331), .ref (g 332)] → f_3 316 = eI G 2246 ss → f_3 319 = eI G 70 sp915 → f_3 320 = eI G 70 wi916 → f_3 321 = eI G 70 wa917 → f_3 322 = eJ G 70 va918 → f_3 323 = eI G 11 bo → f_3 324 = eI G 11 ju → f_3 325 = eI G 264 dr → f_3 326 = eI G 11 dn → f_3 327 = eI G 330 sl → f_3 328 = eI G 44 ax → f_3 329 = eI G 30 lf → (∀ j, (j < 333 ∨ 333 ≤ j) → f_3 j = f_2 j) → va_P G.1 vwCl (wl g f_3) H → va_S (gA g) s.heap H locs → lv_has ls 13 [(0, .ref (g 315)), (1, .int (nI t)), (2, .int (nI to)), (6, .int v1), (8, .int (v19 ||| v20)), (9, .int u), (10, .int (nI i))] → W p l e (headSpec (wsT yX11_tries cX11_tries 13 none) ({ frames := 5, cells := 0, slots := 0, locals := 120 })).room s m ([.ref (g 315), .int (nI t), .int (nI to), .int (-1), .int (-1)] : List Value).toArray below meth c H locs 0 0 (MQ below (bQv G g (fun (f' : Nat → va_E) => ∃ sn9 : Int32, ∃ wn9 : Int32, ∃ sa9 : Int32, ∃ ly9 : Int32, ∃ sp9 : Nat → Int32, ∃ wi9 : Nat → Int32, ∃ wa9 : Nat → Int32, ∃ va9 : Nat → Int64, ∃ bo9 : Nat → Int32, ∃ ju9 : Nat → Int32, ∃ dr9 : Nat → Int32, ∃ dn9 : Nat → Int32, ∃ sl9 : Nat → Int32, ∃ ax9 : Nat → Int32, ∃ lf9 : Nat → Int32, f' 315 = eO 10 [.ref (g 316), .ref (g 317), .ref (g 318), .long ab2, .long be2, .int sn9, .ref (g 319), .ref (g 320), .int wn9, .ref (g 321), .ref (g 322), .int sa9, .int ly9, .int rdy, .int (nI fd), .ref (g 323), .ref (g 324), .ref (g 325), .ref (g 326), .ref (g 327), .ref (g 328), .ref (g 329), .ref (g 330), .ref (g 331), .ref (g 332)] ∧ f' 319 = eI G 70 sp9 ∧ f' 320 = eI G 70 wi9 ∧ f' 321 = eI G 70 wa9 ∧ f' 322 = eJ G 70 va9 ∧ f' 323 = eI G 11 bo9 ∧ f' 324 = eI G 11 ju9 ∧ f' 325 = eI G 264 dr9 ∧ f' 326 = eI G 11 dn9 ∧ f' 327 = eI G 330 sl9 ∧ f' 328 = eI G 44 ax9 ∧ f' 329 = eI G 30 lf9 ∧ (∀ k, k < 11 → ∃ d, d ≤ 24 ∧ dn9 k = nI d) ∧ ∀ j, (j < 315 ∨ (316 ≤ j ∧ j ≤ 318) ∨ 330 ≤ j) → f' j = f j)) ([.ref (g 315), .int (nI t), .int (nI to), .int (-1), .int (-1)] : List Value).toArray s 0 0 (gA g)) (F0 m 86 ls []) := by
    intro n9_22
    induction n9_22 with
    | zero => intro i u f_3 H locs ls hi hn9_22; exact absurd hn9_22 (Nat.not_lt_zero _)
    | succ n9_22 ih_22 =>
      intro i u f_3 H locs ls hi hn9_22 hmo hss_ hsp_ hwi_ hwa_ hva_ hbo_ hju_ hdr_ hdn_ hsl_ hax_ hlf_ o_3 hP hS hl
      refine lv_iload hx hb dX11_tries_86 (lv_at hl 6 rfl) ?_
      refine lv_aload_n hx hb dX11_tries_88 rfl (lv_at hl 0 rfl) ?_
      refine va_get (D := G.1) (ci := 10) (v := .ref (g 316)) (C := RX11) (T := TX11) (N := 25) hx hb hts inlX11 hown hG.1 hP 315 (wl_at (by decide) hmo) rfl 0 (by decide) (hts (.fieldLink RX11 7 "SwornListsModel" "st" "[I") w_112) (fun _ h9 => h9) rfl dX11_tries_89 ?_
      refine lv_iconst (v := 0) hx hb dX11_tries_92 (by decide) ?_
      refine va_iald hx hb hG.1 hP 316 0 (wl_at (by decide) hss_) rfl (by unfold vp_in; decide) dX11_tries_93 ?_
      refine my_bei (v := ss 0) (rfl) ?_
      refine my_bei (v := nI np) (hst.h0) ?_
      refine lv_icmp_ge (tgt := 163) hx hb dX11_tries_94 (by decide) (fun c_94 => ?_) (fun c_94 => ?_)
      · have k_94 : np ≤ i := (nI_leI (a := np) (b := i) (by omega) (by omega)).mp c_94
        refine lv_aload_n hx hb dX11_tries_163 rfl (lv_at hl 0 rfl) ?_
        refine va_get (D := G.1) (ci := 10) (v := .ref (g 323)) (C := RX11) (T := TX11) (N := 25) hx hb hts inlX11 hown hG.1 hP 315 (wl_at (by decide) hmo) rfl 15 (by decide) (hts (.fieldLink RX11 33 "SwornListsModel" "boxes" "[I") w_119) (fun _ h9 => h9) rfl dX11_tries_164 ?_
        refine lv_iload_n hx hb dX11_tries_167 rfl (lv_at hl 2 rfl) ?_
        refine lv_iload hx hb dX11_tries_168 (lv_at hl 5 rfl) ?_
        refine va_iast hx hb hG.1 hP (wl_D hg f_3) hS 323 0 (wl_at (by decide) hbo_) rfl (vp_in_nI (by omega) (by decide)) dX11_tries_170 (fun H locs hP _ hS => ?_)
        have hP := (congrArg (fun z9 => va_P G.1 vwCl ((wl g f_3).set 323 (g 323, eI G 11 ((upd bo z9 u)))) H) (show Int32.toNatClampNeg (nI to) = to from nI_clamp (by omega))).mp hP
        obtain ⟨f_4, hP, e_4, o_4⟩ := b_put (by decide) hP
        have hbo_ : f_4 323 = eI G 11 (upd bo to u) := e_4
        refine lv_aload_n hx hb dX11_tries_171 rfl (lv_at hl 0 rfl) ?_
        refine lv_iload_n hx hb dX11_tries_172 rfl (lv_at hl 1 rfl) ?_
        refine lv_iload_n hx hb dX11_tries_173 rfl (lv_at hl 2 rfl) ?_
        replace hmo := ((o_4 315 (by decide))).trans hmo
        replace hss_ := ((o_4 316 (by decide))).trans hss_
        replace hdr_ := ((o_4 325 (by decide))).trans hdr_
        replace hdn_ := ((o_4 326 (by decide))).trans hdn_
        replace hax_ := ((o_4 328 (by decide))).trans hax_
        replace hlf_ := ((o_4 329 (by decide))).trans hlf_
        refine b_callv (va_runV (As := [.int (nI t), .int (nI to)]) (rest := []) ⟨hx, hb, hml, hown, hts⟩ (r_draws l G g hg f_4 ab2 be2 sn911 wn912 sa913 ly914 rdy (nI fd) ss np nf nr na nt (upd bo to u) dr dn ax lf t to hmo hss_ hbo_ hdr_ hdn_ hax_ hlf_ (by first | assumption | omega | decide) (by first | assumption | omega | decide) (by first | assumption | omega | decide)) (my_cwV hts ok_X11_draws w_570 rfl rfl ⟨Nat.le_of_ble_eq_true rfl, Nat.le_of_ble_eq_true rfl⟩) ⟨bP.blind, va_recv hG.1 hP (ci := 10) (q0 := 315) rfl (wl_at (by decide) hmo), fun U hU hW => ⟨rfl, by rw [hU]; exact hP, kG.warm hW hG⟩⟩ rfl rfl hl.1 rfl (lv_room (Nat.le_of_ble_eq_true rfl)) dX11_tries_174 ⟨Nat.le_of_ble_eq_true rfl, Nat.le_of_ble_eq_true rfl⟩) hS (fun f_5 H locs hq9 hP hS => ?_)
        obtain ⟨dr923, dn924, ax925, lf926, d927, hq_5_0, hq_5_1, hq_5_2, hq_5_3, hx_5_0, hx_5_1, hx_5_2, hx_5_3, o_5⟩ := hq9
        have hdr_ : f_5 325 = eI G 264 dr923 := hq_5_0
        have hdn_ : f_5 326 = eI G 11 dn924 := hq_5_1
        have hax_ : f_5 328 = eI G 44 ax925 := hq_5_2
        have hlf_ : f_5 329 = eI G 30 lf926 := hq_5_3
        refine lv_iconst (v := 0) hx hb dX11_tries_177 (by decide) ?_
        refine lv_istore (lv' := [(10, .int 0), (0, .ref (g 315)), (1, .int (nI t)), (2, .int (nI to)), (6, .int v1), (8, .int (v19 ||| v20)), (9, .int u)]) hx hb dX11_tries_178 hl (by decide) rfl (fun ls hl => ?_)
        replace hmo := ((o_5 315 (by first | decide | omega))).trans hmo
        replace hss_ := ((o_5 316 (by first | decide | omega))).trans hss_
        replace hsp_ := ((o_5 319 (by first | decide | omega)).trans ((o_4 319 (by decide)))).trans hsp_
        replace hwi_ := ((o_5 320 (by first | decide | omega)).trans ((o_4 320 (by decide)))).trans hwi_
        replace hwa_ := ((o_5 321 (by first | decide | omega)).trans ((o_4 321 (by decide)))).trans hwa_
        replace hva_ := ((o_5 322 (by first | decide | omega)).trans ((o_4 322 (by decide)))).trans hva_
        replace hbo_ := ((o_5 323 (by first | decide | omega))).trans hbo_
        replace hju_ := ((o_5 324 (by first | decide | omega)).trans ((o_4 324 (by decide)))).trans hju_
        replace hsl_ := ((o_5 327 (by first | decide | omega)).trans ((o_4 327 (by decide)))).trans hsl_
        have key28 : ∀ (n9_28 : Nat) (i2 : Nat) (sl2 : Nat → Int32) (f_6 : Nat → va_E) (H : Heap) (locs : List Loc) (ls : Array Slot), (i2 ≤ 30) → 30 - i2 < n9_28 → f_6 315 = eO 10 [.ref (g 316), .ref (g 317), .ref (g 318), .long ab2, .long be2, .int sn911, .ref (g 319), .ref (g 320), .int wn912, .ref (g 321), .ref (g 322), .int sa913, .int ly914, .int rdy, .int (nI fd), .ref (g 323), .ref (g 324), .ref (g 325), .ref (g 326), .ref (g 327), .ref (g 328), .ref (g 329), .ref (g 330), .ref (g 331), .ref (g 332)] → f_6 316 = eI G 2246 ss → f_6 319 = eI G 70 sp915 → f_6 320 = eI G 70 wi916 → f_6 321 = eI G 70 wa917 → f_6 322 = eJ G 70 va918 → f_6 323 = eI G 11 (upd bo to u) → f_6 324 = eI G 11 ju → f_6 325 = eI G 264 dr923 → f_6 326 = eI G 11 dn924 → f_6 327 = eI G 330 sl2 → f_6 328 = eI G 44 ax925 → f_6 329 = eI G 30 lf926 → (∀ j, j ≠ 327 → f_6 j = f_5 j) → va_P G.1 vwCl (wl g f_6) H → va_S (gA g) s.heap H locs → lv_has ls 13 [(0, .ref (g 315)), (1, .int (nI t)), (2, .int (nI to)), (6, .int v1), (8, .int (v19 ||| v20)), (9, .int u), (10, .int (nI i2))] → W p l e (headSpec (wsT yX11_tries cX11_tries 13 none) ({ frames := 5, cells := 0, slots := 0, locals := 120 })).room s m ([.ref (g 315), .int (nI t), .int (nI to), .int (-1), .int (-1)] : List Value).toArray below meth c H locs 0 0 (MQ below (bQv G g (fun (f' : Nat → va_E) => ∃ sn9 : Int32, ∃ wn9 : Int32, ∃ sa9 : Int32, ∃ ly9 : Int32, ∃ sp9 : Nat → Int32, ∃ wi9 : Nat → Int32, ∃ wa9 : Nat → Int32, ∃ va9 : Nat → Int64, ∃ bo9 : Nat → Int32, ∃ ju9 : Nat → Int32, ∃ dr9 : Nat → Int32, ∃ dn9 : Nat → Int32, ∃ sl9 : Nat → Int32, ∃ ax9 : Nat → Int32, ∃ lf9 : Nat → Int32, f' 315 = eO 10 [.ref (g 316), .ref (g 317), .ref (g 318), .long ab2, .long be2, .int sn9, .ref (g 319), .ref (g 320), .int wn9, .ref (g 321), .ref (g 322), .int sa9, .int ly9, .int rdy, .int (nI fd), .ref (g 323), .ref (g 324), .ref (g 325), .ref (g 326), .ref (g 327), .ref (g 328), .ref (g 329), .ref (g 330), .ref (g 331), .ref (g 332)] ∧ f' 319 = eI G 70 sp9 ∧ f' 320 = eI G 70 wi9 ∧ f' 321 = eI G 70 wa9 ∧ f' 322 = eJ G 70 va9 ∧ f' 323 = eI G 11 bo9 ∧ f' 324 = eI G 11 ju9 ∧ f' 325 = eI G 264 dr9 ∧ f' 326 = eI G 11 dn9 ∧ f' 327 = eI G 330 sl9 ∧ f' 328 = eI G 44 ax9 ∧ f' 329 = eI G 30 lf9 ∧ (∀ k, k < 11 → ∃ d, d ≤ 24 ∧ dn9 k = nI d) ∧ ∀ j, (j < 315 ∨ (316 ≤ j ∧ j ≤ 318) ∨ 330 ≤ j) → f' j = f j)) ([.ref (g 315), .int (nI t), .int (nI to), .int (-1), .int (-1)] : List Value).toArray s 0 0 (gA g)) (F0 m 180 ls []) := by
          intro n9_28
          induction n9_28 with
          | zero => intro i2 sl2 f_6 H locs ls hi2 hn9_28; exact absurd hn9_28 (Nat.not_lt_zero _)
          | succ n9_28 ih_28 =>
            intro i2 sl2 f_6 H locs ls hi2 hn9_28 hmo hss_ hsp_ hwi_ hwa_ hva_ hbo_ hju_ hdr_ hdn_ hsl_ hax_ hlf_ o_6 hP hS hl
            refine lv_iload hx hb dX11_tries_180 (lv_at hl 6 rfl) ?_
            refine lv_bipush (v := 30) hx hb dX11_tries_182 (by decide) ?_
            refine lv_icmp_ge (tgt := 212) hx hb dX11_tries_184 (by decide) (fun c_184 => ?_) (fun c_184 => ?_)
            · have k_184 : 30 ≤ i2 := (nI_leI (a := 30) (b := i2) (by omega) (by omega)).mp c_184
              refine lv_iconst (v := 0) hx hb dX11_tries_212 (by decide) ?_
              refine lv_istore (lv' := [(10, .int 0), (0, .ref (g 315)), (1, .int (nI t)), (2, .int (nI to)), (6, .int v1), (8, .int (v19 ||| v20)), (9, .int u)]) hx hb dX11_tries_213 hl (by decide) rfl (fun ls hl => ?_)
              have hd24 := hx_5_1
              have key29 : ∀ (n9_29 : Nat) (i3 : Nat) (sl3 : Nat → Int32) (f_7 : Nat → va_E) (H : Heap) (locs : List Loc) (ls : Array Slot), (i3 ≤ d927) → d927 - i3 < n9_29 → f_7 315 = eO 10 [.ref (g 316), .ref (g 317), .ref (g 318), .long ab2, .long be2, .int sn911, .ref (g 319), .ref (g 320), .int wn912, .ref (g 321), .ref (g 322), .int sa913, .int ly914, .int rdy, .int (nI fd), .ref (g 323), .ref (g 324), .ref (g 325), .ref (g 326), .ref (g 327), .ref (g 328), .ref (g 329), .ref (g 330), .ref (g 331), .ref (g 332)] → f_7 316 = eI G 2246 ss → f_7 319 = eI G 70 sp915 → f_7 320 = eI G 70 wi916 → f_7 321 = eI G 70 wa917 → f_7 322 = eJ G 70 va918 → f_7 323 = eI G 11 (upd bo to u) → f_7 324 = eI G 11 ju → f_7 325 = eI G 264 dr923 → f_7 326 = eI G 11 dn924 → f_7 327 = eI G 330 sl3 → f_7 328 = eI G 44 ax925 → f_7 329 = eI G 30 lf926 → (∀ j, j ≠ 327 → f_7 j = f_6 j) → va_P G.1 vwCl (wl g f_7) H → va_S (gA g) s.heap H locs → lv_has ls 13 [(0, .ref (g 315)), (1, .int (nI t)), (2, .int (nI to)), (6, .int v1), (8, .int (v19 ||| v20)), (9, .int u), (10, .int (nI i3))] → W p l e (headSpec (wsT yX11_tries cX11_tries 13 none) ({ frames := 5, cells := 0, slots := 0, locals := 120 })).room s m ([.ref (g 315), .int (nI t), .int (nI to), .int (-1), .int (-1)] : List Value).toArray below meth c H locs 0 0 (MQ below (bQv G g (fun (f' : Nat → va_E) => ∃ sn9 : Int32, ∃ wn9 : Int32, ∃ sa9 : Int32, ∃ ly9 : Int32, ∃ sp9 : Nat → Int32, ∃ wi9 : Nat → Int32, ∃ wa9 : Nat → Int32, ∃ va9 : Nat → Int64, ∃ bo9 : Nat → Int32, ∃ ju9 : Nat → Int32, ∃ dr9 : Nat → Int32, ∃ dn9 : Nat → Int32, ∃ sl9 : Nat → Int32, ∃ ax9 : Nat → Int32, ∃ lf9 : Nat → Int32, f' 315 = eO 10 [.ref (g 316), .ref (g 317), .ref (g 318), .long ab2, .long be2, .int sn9, .ref (g 319), .ref (g 320), .int wn9, .ref (g 321), .ref (g 322), .int sa9, .int ly9, .int rdy, .int (nI fd), .ref (g 323), .ref (g 324), .ref (g 325), .ref (g 326), .ref (g 327), .ref (g 328), .ref (g 329), .ref (g 330), .ref (g 331), .ref (g 332)] ∧ f' 319 = eI G 70 sp9 ∧ f' 320 = eI G 70 wi9 ∧ f' 321 = eI G 70 wa9 ∧ f' 322 = eJ G 70 va9 ∧ f' 323 = eI G 11 bo9 ∧ f' 324 = eI G 11 ju9 ∧ f' 325 = eI G 264 dr9 ∧ f' 326 = eI G 11 dn9 ∧ f' 327 = eI G 330 sl9 ∧ f' 328 = eI G 44 ax9 ∧ f' 329 = eI G 30 lf9 ∧ (∀ k, k < 11 → ∃ d, d ≤ 24 ∧ dn9 k = nI d) ∧ ∀ j, (j < 315 ∨ (316 ≤ j ∧ j ≤ 318) ∨ 330 ≤ j) → f' j = f j)) ([.ref (g 315), .int (nI t), .int (nI to), .int (-1), .int (-1)] : List Value).toArray s 0 0 (gA g)) (F0 m 215 ls []) := by
                intro n9_29
                induction n9_29 with
                | zero => intro i3 sl3 f_7 H locs ls hi3 hn9_29; exact absurd hn9_29 (Nat.not_lt_zero _)
                | succ n9_29 ih_29 =>
                  intro i3 sl3 f_7 H locs ls hi3 hn9_29 hmo hss_ hsp_ hwi_ hwa_ hva_ hbo_ hju_ hdr_ hdn_ hsl_ hax_ hlf_ o_7 hP hS hl
                  have hd24 := hx_5_1
                  refine lv_iload hx hb dX11_tries_215 (lv_at hl 6 rfl) ?_
                  refine lv_aload_n hx hb dX11_tries_217 rfl (lv_at hl 0 rfl) ?_
                  refine va_get (D := G.1) (ci := 10) (v := .ref (g 326)) (C := RX11) (T := TX11) (N := 25) hx hb hts inlX11 hown hG.1 hP 315 (wl_at (by decide) hmo) rfl 18 (by decide) (hts (.fieldLink RX11 42 "SwornListsModel" "drews" "[I") w_122) (fun _ h9 => h9) rfl dX11_tries_218 ?_
                  refine lv_iload_n hx hb dX11_tries_221 rfl (lv_at hl 2 rfl) ?_
                  refine va_iald hx hb hG.1 hP 326 0 (wl_at (by decide) hdn_) rfl (vp_in_nI (by omega) (by decide)) dX11_tries_222 ?_
                  refine my_bei (v := dn924 to) (congrArg dn924 (nI_clamp (n := to) (by omega))) ?_
                  refine my_bei (v := nI d927) (hx_5_0) ?_
                  refine lv_icmp_ge (tgt := 280) hx hb dX11_tries_223 (by decide) (fun c_223 => ?_) (fun c_223 => ?_)
                  · have k_223 : d927 ≤ i3 := (nI_leI (a := d927) (b := i3) (by omega) (by omega)).mp c_223
                    refine lv_aload_n hx hb dX11_tries_280 rfl (lv_at hl 0 rfl) ?_
                    refine va_get (D := G.1) (ci := 10) (v := .ref (g 328)) (C := RX11) (T := TX11) (N := 25) hx hb hts inlX11 hown hG.1 hP 315 (wl_at (by decide) hmo) rfl 20 (by decide) (hts (.fieldLink RX11 48 "SwornListsModel" "abouts" "[I") w_124) (fun _ h9 => h9) rfl dX11_tries_281 ?_
                    refine lv_iconst (v := 4) hx hb dX11_tries_284 (by decide) ?_
                    refine lv_iload_n hx hb dX11_tries_285 rfl (lv_at hl 2 rfl) ?_
                    refine lv_imul hx hb dX11_tries_286 ?_
                    refine my_bei (v := nI (4 * to)) (pk_mul 4 to) ?_
                    refine lv_iconst (v := 0) hx hb dX11_tries_287 (by decide) ?_
                    refine va_iast hx hb hG.1 hP (wl_D hg f_7) hS 328 0 (wl_at (by decide) hax_) rfl (vp_in_nI (by omega) (by decide)) dX11_tries_288 (fun H locs hP _ hS => ?_)
                    have hP := (congrArg (fun z9 => va_P G.1 vwCl ((wl g f_7).set 328 (g 328, eI G 44 ((upd ax925 z9 0)))) H) (show Int32.toNatClampNeg (nI (4 * to)) = 4 * to from nI_clamp (by omega))).mp hP
                    obtain ⟨f_8, hP, e_8, o_8⟩ := b_put (by decide) hP
                    have hax_ : f_8 328 = eI G 44 (upd ax925 (4 * to) 0) := e_8
                    refine lv_aload_n hx hb dX11_tries_289 rfl (lv_at hl 0 rfl) ?_
                    replace hmo := ((o_8 315 (by decide))).trans hmo
                    refine va_get (D := G.1) (ci := 10) (v := .ref (g 328)) (C := RX11) (T := TX11) (N := 25) hx hb hts inlX11 hown hG.1 hP 315 (wl_at (by decide) hmo) rfl 20 (by decide) (hts (.fieldLink RX11 48 "SwornListsModel" "abouts" "[I") w_124) (fun _ h9 => h9) rfl dX11_tries_290 ?_
                    refine lv_iconst (v := 4) hx hb dX11_tries_293 (by decide) ?_
                    refine lv_iload_n hx hb dX11_tries_294 rfl (lv_at hl 2 rfl) ?_
                    refine lv_imul hx hb dX11_tries_295 ?_
                    refine my_bei (v := nI (4 * to)) (pk_mul 4 to) ?_
                    refine lv_iconst (v := 1) hx hb dX11_tries_296 (by decide) ?_
                    refine lv_iadd hx hb dX11_tries_297 ?_
                    refine my_bei (v := nI (4 * to + 1)) ((nI_add (4 * to) 1).trans (congrArg nI (show (4 * to) + 1 = 4 * to + 1 by omega))) ?_
                    refine lv_iconst (v := 0) hx hb dX11_tries_298 (by decide) ?_
                    refine va_iast hx hb hG.1 hP (wl_D hg f_8) hS 328 0 (wl_at (by decide) hax_) rfl (vp_in_nI (by omega) (by decide)) dX11_tries_299 (fun H locs hP _ hS => ?_)
                    have hP := (congrArg (fun z9 => va_P G.1 vwCl ((wl g f_8).set 328 (g 328, eI G 44 ((upd (upd ax925 (4 * to) 0) z9 0)))) H) (show Int32.toNatClampNeg (nI (4 * to + 1)) = 4 * to + 1 from nI_clamp (by omega))).mp hP
                    obtain ⟨f_9, hP, e_9, o_9⟩ := b_put (by decide) hP
                    have hax_ : f_9 328 = eI G 44 (upd (upd ax925 (4 * to) 0) (4 * to + 1) 0) := e_9
                    refine lv_aload_n hx hb dX11_tries_300 rfl (lv_at hl 0 rfl) ?_
                    replace hmo := ((o_9 315 (by decide))).trans hmo
                    refine va_get (D := G.1) (ci := 10) (v := .ref (g 328)) (C := RX11) (T := TX11) (N := 25) hx hb hts inlX11 hown hG.1 hP 315 (wl_at (by decide) hmo) rfl 20 (by decide) (hts (.fieldLink RX11 48 "SwornListsModel" "abouts" "[I") w_124) (fun _ h9 => h9) rfl dX11_tries_301 ?_
                    refine lv_iconst (v := 4) hx hb dX11_tries_304 (by decide) ?_
                    refine lv_iload_n hx hb dX11_tries_305 rfl (lv_at hl 2 rfl) ?_
                    refine lv_imul hx hb dX11_tries_306 ?_
                    refine my_bei (v := nI (4 * to)) (pk_mul 4 to) ?_
                    refine lv_iconst (v := 2) hx hb dX11_tries_307 (by decide) ?_
                    refine lv_iadd hx hb dX11_tries_308 ?_
                    refine my_bei (v := nI (4 * to + 2)) ((nI_add (4 * to) 2).trans (congrArg nI (show (4 * to) + 2 = 4 * to + 2 by omega))) ?_
                    refine lv_iconst (v := 0) hx hb dX11_tries_309 (by decide) ?_
                    refine va_iast hx hb hG.1 hP (wl_D hg f_9) hS 328 0 (wl_at (by decide) hax_) rfl (vp_in_nI (by omega) (by decide)) dX11_tries_310 (fun H locs hP _ hS => ?_)
                    have hP := (congrArg (fun z9 => va_P G.1 vwCl ((wl g f_9).set 328 (g 328, eI G 44 ((upd (upd (upd ax925 (4 * to) 0) (4 * to + 1) 0) z9 0)))) H) (show Int32.toNatClampNeg (nI (4 * to + 2)) = 4 * to + 2 from nI_clamp (by omega))).mp hP
                    obtain ⟨f_10, hP, e_10, o_10⟩ := b_put (by decide) hP
                    have hax_ : f_10 328 = eI G 44 (upd (upd (upd ax925 (4 * to) 0) (4 * to + 1) 0) (4 * to + 2) 0) := e_10
                    refine lv_iconst (v := 0) hx hb dX11_tries_311 (by decide) ?_
                    refine lv_istore (lv' := [(10, .int 0), (0, .ref (g 315)), (1, .int (nI t)), (2, .int (nI to)), (6, .int v1), (8, .int (v19 ||| v20)), (9, .int u)]) hx hb dX11_tries_312 hl (by decide) rfl (fun ls hl => ?_)
                    refine lv_iconst (v := 0) hx hb dX11_tries_314 (by decide) ?_
                    refine lv_istore (lv' := [(11, .int 0), (10, .int 0), (0, .ref (g 315)), (1, .int (nI t)), (2, .int (nI to)), (6, .int v1), (8, .int (v19 ||| v20)), (9, .int u)]) hx hb dX11_tries_315 hl (by decide) rfl (fun ls hl => ?_)
                    replace hmo := ((o_10 315 (by decide))).trans hmo
                    replace hss_ := ((o_10 316 (by decide)).trans ((o_9 316 (by decide)).trans ((o_8 316 (by decide))))).trans hss_
                    replace hsp_ := ((o_10 319 (by decide)).trans ((o_9 319 (by decide)).trans ((o_8 319 (by decide))))).trans hsp_
                    replace hwi_ := ((o_10 320 (by decide)).trans ((o_9 320 (by decide)).trans ((o_8 320 (by decide))))).trans hwi_
                    replace hwa_ := ((o_10 321 (by decide)).trans ((o_9 321 (by decide)).trans ((o_8 321 (by decide))))).trans hwa_
                    replace hva_ := ((o_10 322 (by decide)).trans ((o_9 322 (by decide)).trans ((o_8 322 (by decide))))).trans hva_
                    replace hbo_ := ((o_10 323 (by decide)).trans ((o_9 323 (by decide)).trans ((o_8 323 (by decide))))).trans hbo_
                    replace hju_ := ((o_10 324 (by decide)).trans ((o_9 324 (by decide)).trans ((o_8 324 (by decide))))).trans hju_
                    replace hdr_ := ((o_10 325 (by decide)).trans ((o_9 325 (by decide)).trans ((o_8 325 (by decide))))).trans hdr_
                    replace hdn_ := ((o_10 326 (by decide)).trans ((o_9 326 (by decide)).trans ((o_8 326 (by decide))))).trans hdn_
                    replace hsl_ := ((o_10 327 (by decide)).trans ((o_9 327 (by decide)).trans ((o_8 327 (by decide))))).trans hsl_
                    replace hlf_ := ((o_10 329 (by decide)).trans ((o_9 329 (by decide)).trans ((o_8 329 (by decide))))).trans hlf_
                    have key30 : ∀ (n9_30 : Nat) (th : Nat) (sd : Nat) (a0 : Nat) (a1 : Nat) (sl4 : Nat → Int32) (ax4 : Nat → Int32) (f_11 : Nat → va_E) (H : Heap) (locs : List Loc) (ls : Array Slot), (th ≤ 2) → (sd < 2) → (a0 ≤ q4) → (a1 ≤ q4) → (ax4 (4 * to + 1) = nI a0) → (ax4 (4 * to + 2) = nI a1) → 3 * (2 * q4 - a0 - a1) + (2 - th) < n9_30 → f_11 315 = eO 10 [.ref (g 316), .ref (g 317), .ref (g 318), .long ab2, .long be2, .int sn911, .ref (g 319), .ref (g 320), .int wn912, .ref (g 321), .ref (g 322), .int sa913, .int ly914, .int rdy, .int (nI fd), .ref (g 323), .ref (g 324), .ref (g 325), .ref (g 326), .ref (g 327), .ref (g 328), .ref (g 329), .ref (g 330), .ref (g 331), .ref (g 332)] → f_11 316 = eI G 2246 ss → f_11 319 = eI G 70 sp915 → f_11 320 = eI G 70 wi916 → f_11 321 = eI G 70 wa917 → f_11 322 = eJ G 70 va918 → f_11 323 = eI G 11 (upd bo to u) → f_11 324 = eI G 11 ju → f_11 325 = eI G 264 dr923 → f_11 326 = eI G 11 dn924 → f_11 327 = eI G 330 sl4 → f_11 328 = eI G 44 ax4 → f_11 329 = eI G 30 lf926 → (∀ j, (j ≠ 327 ∧ j ≠ 328) → f_11 j = f_10 j) → va_P G.1 vwCl (wl g f_11) H → va_S (gA g) s.heap H locs → lv_has ls 13 [(0, .ref (g 315)), (1, .int (nI t)), (2, .int (nI to)), (6, .int v1), (8, .int (v19 ||| v20)), (9, .int u), (10, .int (nI th)), (11, .int (nI sd))] → W p l e (headSpec (wsT yX11_tries cX11_tries 13 none) ({ frames := 5, cells := 0, slots := 0, locals := 120 })).room s m ([.ref (g 315), .int (nI t), .int (nI to), .int (-1), .int (-1)] : List Value).toArray below meth c H locs 0 0 (MQ below (bQv G g (fun (f' : Nat → va_E) => ∃ sn9 : Int32, ∃ wn9 : Int32, ∃ sa9 : Int32, ∃ ly9 : Int32, ∃ sp9 : Nat → Int32, ∃ wi9 : Nat → Int32, ∃ wa9 : Nat → Int32, ∃ va9 : Nat → Int64, ∃ bo9 : Nat → Int32, ∃ ju9 : Nat → Int32, ∃ dr9 : Nat → Int32, ∃ dn9 : Nat → Int32, ∃ sl9 : Nat → Int32, ∃ ax9 : Nat → Int32, ∃ lf9 : Nat → Int32, f' 315 = eO 10 [.ref (g 316), .ref (g 317), .ref (g 318), .long ab2, .long be2, .int sn9, .ref (g 319), .ref (g 320), .int wn9, .ref (g 321), .ref (g 322), .int sa9, .int ly9, .int rdy, .int (nI fd), .ref (g 323), .ref (g 324), .ref (g 325), .ref (g 326), .ref (g 327), .ref (g 328), .ref (g 329), .ref (g 330), .ref (g 331), .ref (g 332)] ∧ f' 319 = eI G 70 sp9 ∧ f' 320 = eI G 70 wi9 ∧ f' 321 = eI G 70 wa9 ∧ f' 322 = eJ G 70 va9 ∧ f' 323 = eI G 11 bo9 ∧ f' 324 = eI G 11 ju9 ∧ f' 325 = eI G 264 dr9 ∧ f' 326 = eI G 11 dn9 ∧ f' 327 = eI G 330 sl9 ∧ f' 328 = eI G 44 ax9 ∧ f' 329 = eI G 30 lf9 ∧ (∀ k, k < 11 → ∃ d, d ≤ 24 ∧ dn9 k = nI d) ∧ ∀ j, (j < 315 ∨ (316 ≤ j ∧ j ≤ 318) ∨ 330 ≤ j) → f' j = f j)) ([.ref (g 315), .int (nI t), .int (nI to), .int (-1), .int (-1)] : List Value).toArray s 0 0 (gA g)) (F0 m 317 ls []) := by
                      intro n9_30
                      induction n9_30 with
                      | zero => intro th sd a0 a1 sl4 ax4 f_11 H locs ls hth hsd hq0 hq1 ha0 ha1 hn9_30; exact absurd hn9_30 (Nat.not_lt_zero _)
                      | succ n9_30 ih_30 =>
                        intro th sd a0 a1 sl4 ax4 f_11 H locs ls hth hsd hq0 hq1 ha0 ha1 hn9_30 hmo hss_ hsp_ hwi_ hwa_ hva_ hbo_ hju_ hdr_ hdn_ hsl_ hax_ hlf_ o_11 hP hS hl
                        refine lv_iload hx hb dX11_tries_317 (lv_at hl 6 rfl) ?_
                        refine lv_iconst (v := 2) hx hb dX11_tries_319 (by decide) ?_
                        refine lv_icmp_ge (tgt := 397) hx hb dX11_tries_320 (by decide) (fun c_320 => ?_) (fun c_320 => ?_)
                        · have k_320 : 2 ≤ th := (nI_leI (a := 2) (b := th) (by omega) (by omega)).mp c_320
                          refine lv_aload_n hx hb dX11_tries_397 rfl (lv_at hl 0 rfl) ?_
                          refine lv_iload_n hx hb dX11_tries_398 rfl (lv_at hl 1 rfl) ?_
                          refine lv_iload_n hx hb dX11_tries_399 rfl (lv_at hl 2 rfl) ?_
                          refine lv_iload hx hb dX11_tries_400 (lv_at hl 3 rfl) ?_
                          refine lv_iload hx hb dX11_tries_402 (lv_at hl 5 rfl) ?_
                          refine lv_iconst (v := (-1)) hx hb dX11_tries_404 (by decide) ?_
                          refine lv_ixor hx hb dX11_tries_405 ?_
                          refine lv_iand hx hb dX11_tries_406 ?_
                          refine lv_iload hx hb dX11_tries_407 (lv_at hl 4 rfl) ?_
                          refine lv_iconst (v := (-1)) hx hb dX11_tries_409 (by decide) ?_
                          refine lv_ixor hx hb dX11_tries_410 ?_
                          refine lv_iand hx hb dX11_tries_411 ?_
                          refine b_callv (va_runV (As := [.int (nI t), .int (nI to), .int ((v1 &&& (u ^^^ (-1))) &&& ((v19 ||| v20) ^^^ (-1)))]) (rest := []) ⟨hx, hb, hml, hown, hts⟩ (r_seats l G g hg f_11 ab2 be2 sn911 wn912 sa913 ly914 rdy (nI fd) ss ju dr923 dn924 sl4 ax4 t to d927 ((v1 &&& (u ^^^ (-1))) &&& ((v19 ||| v20) ^^^ (-1))) hmo hss_ hju_ hdr_ hdn_ hsl_ hax_ (by first | assumption | omega | decide) (by first | assumption | omega | decide) (hx_5_0) (by first | assumption | omega | decide) (hx_5_3)) (my_cwV hts ok_X11_seats w_580 rfl rfl ⟨Nat.le_of_ble_eq_true rfl, Nat.le_of_ble_eq_true rfl⟩) ⟨bP.blind, va_recv hG.1 hP (ci := 10) (q0 := 315) rfl (wl_at (by decide) hmo), fun U hU hW => ⟨rfl, by rw [hU]; exact hP, kG.warm hW hG⟩⟩ rfl rfl hl.1 rfl (lv_room (Nat.le_of_ble_eq_true rfl)) dX11_tries_412 ⟨Nat.le_of_ble_eq_true rfl, Nat.le_of_ble_eq_true rfl⟩) hS (fun f_12 H locs hq9 hP hS => ?_)
                          obtain ⟨ju931, sl932, ax933, hq_12_0, hq_12_1, hq_12_2, o_12⟩ := hq9
                          have hju_ : f_12 324 = eI G 11 ju931 := hq_12_0
                          have hsl_ : f_12 327 = eI G 330 sl932 := hq_12_1
                          have hax_ : f_12 328 = eI G 44 ax933 := hq_12_2
                          replace hmo := ((o_12 315 (by first | decide | omega))).trans hmo
                          replace hsp_ := ((o_12 319 (by first | decide | omega))).trans hsp_
                          replace hwi_ := ((o_12 320 (by first | decide | omega))).trans hwi_
                          replace hwa_ := ((o_12 321 (by first | decide | omega))).trans hwa_
                          replace hva_ := ((o_12 322 (by first | decide | omega))).trans hva_
                          replace hbo_ := ((o_12 323 (by first | decide | omega))).trans hbo_
                          replace hdr_ := ((o_12 325 (by first | decide | omega))).trans hdr_
                          replace hdn_ := ((o_12 326 (by first | decide | omega))).trans hdn_
                          replace hlf_ := ((o_12 329 (by first | decide | omega))).trans hlf_
                          exact W.vret hx hb hr (fun t ht hW => ⟨⟨f_12, rfl, (⟨sn911, wn912, sa913, ly914, sp915, wi916, wa917, va918, (upd bo to u), ju931, dr923, dn924, sl932, ax933, lf926, hmo, hsp_, hwi_, hwa_, hva_, hbo_, hju_, hdr_, hdn_, hsl_, hax_, hlf_, dn_new hdn hx_5_0 hx_5_1 hx_5_2, fun j hj => ((((((((((((o_12 j (by omega))).trans (o_11 j (by omega))).trans (o_10 j (by omega))).trans (o_9 j (by omega))).trans (o_8 j (by omega))).trans (o_7 j (by omega))).trans (o_6 j (by omega))).trans (o_5 j (by omega))).trans (o_4 j (by omega))).trans (o_3 j (by omega))).trans (o_2 j (by omega))).trans (o_1 j (by omega))⟩), by rw [ht]; exact hP⟩, hS.F ht⟩) hS.2.2 dX11_tries_415
                        · have k_320 : ¬ 2 ≤ th := fun z9 => c_320 ((nI_leI (a := 2) (b := th) (by omega) (by omega)).mpr z9)
                          rcases (show sd = 0 ∨ sd = 1 by omega) with rfl | rfl
                          · refine lv_aload_n hx hb dX11_tries_323 rfl (lv_at hl 0 rfl) ?_
                            refine lv_iload_n hx hb dX11_tries_324 rfl (lv_at hl 1 rfl) ?_
                            refine lv_iload_n hx hb dX11_tries_325 rfl (lv_at hl 2 rfl) ?_
                            refine lv_iload hx hb dX11_tries_326 (lv_at hl 7 rfl) ?_
                            refine rd_calli (va_runV (As := [.int (nI t), .int (nI to), .int 0]) (rest := []) ⟨hx, hb, hml, hown, hts⟩ (r_strikes l G g hg f_11 ab2 be2 sn911 wn912 sa913 ly914 rdy (nI fd) ss np nf nr na nt dr923 dn924 sl4 ax4 t to 0 a0 d927 q4 hmo hss_ hdr_ hdn_ hsl_ hax_ (by first | assumption | omega | decide) (by first | assumption | omega | decide) (by first | assumption | omega | decide) (by first | assumption | omega | decide) (by first | assumption | omega | decide) (by rw [show 0 + 4 * to + 1 = 4 * to + 1 by omega]; exact ha0) (hx_5_0) (by first | assumption | omega | decide) (hx_5_3) (by first | assumption | omega | decide) (hs4)) (my_cwV hts ok_X11_strikes w_576 rfl rfl ⟨Nat.le_of_ble_eq_true rfl, Nat.le_of_ble_eq_true rfl⟩) ⟨bP.blind, va_recv hG.1 hP (ci := 10) (q0 := 315) rfl (wl_at (by decide) hmo), fun U hU hW => ⟨rfl, by rw [hU]; exact hP, kG.warm hW hG⟩⟩ rfl rfl hl.1 rfl (lv_room (Nat.le_of_ble_eq_true rfl)) dX11_tries_328 ⟨Nat.le_of_ble_eq_true rfl, Nat.le_of_ble_eq_true rfl⟩) (fun r hr9 => ?_)
                            obtain ⟨o934, rfl, hx_13_0, hx_13_1⟩ := hr9
                            refine lv_istore (lv' := [(12, .int (fo o934)), (0, .ref (g 315)), (1, .int (nI t)), (2, .int (nI to)), (6, .int v1), (8, .int (v19 ||| v20)), (9, .int u), (10, .int (nI th)), (11, .int 0)]) hx hb dX11_tries_331 hl (by decide) rfl (fun ls hl => ?_)
                            refine lv_iload hx hb dX11_tries_333 (lv_at hl 0 rfl) ?_
                            refine lv_iconst (v := (-1)) hx hb dX11_tries_335 (by decide) ?_
                            refine lv_icmp_ne (tgt := 346) hx hb dX11_tries_336 (by decide) (fun c_336 => ?_) (fun c_336 => ?_)
                            · refine lv_iconst (v := 0) hx hb dX11_tries_346 (by decide) ?_
                              refine lv_istore (lv' := [(10, .int 0), (12, .int (fo o934)), (0, .ref (g 315)), (1, .int (nI t)), (2, .int (nI to)), (6, .int v1), (8, .int (v19 ||| v20)), (9, .int u), (11, .int 0)]) hx hb dX11_tries_347 hl (by decide) rfl (fun ls hl => ?_)
                              refine lv_iload hx hb dX11_tries_349 (lv_at hl 1 rfl) ?_
                              refine lv_iconst (v := (-1)) hx hb dX11_tries_351 (by decide) ?_
                              refine lv_icmp_eq (tgt := 388) hx hb dX11_tries_352 (by decide) (fun c_352 => absurd c_352 (c_336)) (fun c_352 => ?_)
                              obtain ⟨z5, rfl⟩ : ∃ b, o934 = some b := by
                                cases o934 with
                                | none => exact absurd rfl c_336
                                | some z => exact ⟨z, rfl⟩
                              have hz5 := hx_13_0 z5 rfl
                              have hlt5 : a0 ≠ q4 := fun z => by cases hx_13_1 z
                              refine lv_aload_n hx hb dX11_tries_355 rfl (lv_at hl 2 rfl) ?_
                              refine va_get (D := G.1) (ci := 10) (v := .ref (g 327)) (C := RX11) (T := TX11) (N := 25) hx hb hts inlX11 hown hG.1 hP 315 (wl_at (by decide) hmo) rfl 19 (by decide) (hts (.fieldLink RX11 45 "SwornListsModel" "slips" "[I") w_123) (fun _ h9 => h9) rfl dX11_tries_356 ?_
                              refine lv_bipush (v := 30) hx hb dX11_tries_359 (by decide) ?_
                              refine lv_iload_n hx hb dX11_tries_361 rfl (lv_at hl 4 rfl) ?_
                              refine lv_imul hx hb dX11_tries_362 ?_
                              refine my_bei (v := nI (30 * to)) (pk_mul 30 to) ?_
                              refine lv_iload hx hb dX11_tries_363 (lv_at hl 1 rfl) ?_
                              refine lv_iadd hx hb dX11_tries_365 ?_
                              refine my_bei (v := nI (30 * to + z5)) ((nI_add (30 * to) z5).trans (congrArg nI (show (30 * to) + z5 = 30 * to + z5 by omega))) ?_
                              refine lv_iconst (v := 3) hx hb dX11_tries_366 (by decide) ?_
                              refine lv_iload hx hb dX11_tries_367 (lv_at hl 8 rfl) ?_
                              refine lv_iadd hx hb dX11_tries_369 ?_
                              refine my_bei (v := 3) (by decide) ?_
                              refine va_iast hx hb hG.1 hP (wl_D hg f_11) hS 327 0 (wl_at (by decide) hsl_) rfl (vp_in_nI (by omega) (by decide)) dX11_tries_370 (fun H locs hP _ hS => ?_)
                              have hP := (congrArg (fun z9 => va_P G.1 vwCl ((wl g f_11).set 327 (g 327, eI G 330 ((upd sl4 z9 3)))) H) (show Int32.toNatClampNeg (nI (30 * to + z5)) = 30 * to + z5 from nI_clamp (by omega))).mp hP
                              obtain ⟨f_14, hP, e_14, o_14⟩ := b_put (by decide) hP
                              have hsl_ : f_14 327 = eI G 330 (upd sl4 (30 * to + z5) 3) := e_14
                              refine lv_aload_n hx hb dX11_tries_371 rfl (lv_at hl 2 rfl) ?_
                              replace hmo := ((o_14 315 (by decide))).trans hmo
                              refine va_get (D := G.1) (ci := 10) (v := .ref (g 328)) (C := RX11) (T := TX11) (N := 25) hx hb hts inlX11 hown hG.1 hP 315 (wl_at (by decide) hmo) rfl 20 (by decide) (hts (.fieldLink RX11 48 "SwornListsModel" "abouts" "[I") w_124) (fun _ h9 => h9) rfl dX11_tries_372 ?_
                              refine lv_iconst (v := 4) hx hb dX11_tries_375 (by decide) ?_
                              refine lv_iload_n hx hb dX11_tries_376 rfl (lv_at hl 4 rfl) ?_
                              refine lv_imul hx hb dX11_tries_377 ?_
                              refine my_bei (v := nI (4 * to)) (pk_mul 4 to) ?_
                              refine lv_iconst (v := 1) hx hb dX11_tries_378 (by decide) ?_
                              refine lv_iadd hx hb dX11_tries_379 ?_
                              refine my_bei (v := nI (4 * to + 1)) ((nI_add (4 * to) 1).trans (congrArg nI (show (4 * to) + 1 = 4 * to + 1 by omega))) ?_
                              refine lv_iload hx hb dX11_tries_380 (lv_at hl 8 rfl) ?_
                              refine lv_iadd hx hb dX11_tries_382 ?_
                              refine my_bei (v := nI (4 * to + 1)) ((nI_add (4 * to + 1) 0).trans (congrArg nI (show (4 * to + 1) + 0 = 4 * to + 1 by omega))) ?_
                              refine lv_dup2_11 hx hb dX11_tries_383 rfl rfl ?_
                              replace hax_ := ((o_14 328 (by decide))).trans hax_
                              refine va_iald hx hb hG.1 hP 328 0 (wl_at (by decide) hax_) rfl (vp_in_nI (by omega) (by decide)) dX11_tries_384 ?_
                              refine my_bei (v := ax4 (4 * to + 1)) (congrArg ax4 (nI_clamp (n := 4 * to + 1) (by omega))) ?_
                              refine my_bei (v := nI a0) (ha0) ?_
                              refine lv_iconst (v := 1) hx hb dX11_tries_385 (by decide) ?_
                              refine lv_iadd hx hb dX11_tries_386 ?_
                              refine my_bei (v := nI (a0 + 1)) (nI_add a0 1) ?_
                              refine va_iast hx hb hG.1 hP (wl_D hg f_14) hS 328 0 (wl_at (by decide) hax_) rfl (vp_in_nI (by omega) (by decide)) dX11_tries_387 (fun H locs hP _ hS => ?_)
                              have hP := (congrArg (fun z9 => va_P G.1 vwCl ((wl g f_14).set 328 (g 328, eI G 44 ((upd ax4 z9 (nI (a0 + 1)))))) H) (show Int32.toNatClampNeg (nI (4 * to + 1)) = 4 * to + 1 from nI_clamp (by omega))).mp hP
                              obtain ⟨f_15, hP, e_15, o_15⟩ := b_put (by decide) hP
                              have hax_ : f_15 328 = eI G 44 (upd ax4 (4 * to + 1) (nI (a0 + 1))) := e_15
                              refine lv_iconst (v := 1) hx hb dX11_tries_388 (by decide) ?_
                              refine lv_iload hx hb dX11_tries_389 (lv_at hl 8 rfl) ?_
                              refine lv_isub hx hb dX11_tries_391 ?_
                              refine my_bei (v := 1) (by decide) ?_
                              refine lv_istore (lv' := [(11, .int 1), (10, .int 0), (12, .int (nI z5)), (0, .ref (g 315)), (1, .int (nI t)), (2, .int (nI to)), (6, .int v1), (8, .int (v19 ||| v20)), (9, .int u)]) hx hb dX11_tries_392 hl (by decide) rfl (fun ls hl => ?_)
                              refine lv_goto (tgt := 317) hx hb dX11_tries_394 (by decide) ?_
                              replace hmo := ((o_15 315 (by decide))).trans hmo
                              replace hss_ := ((o_15 316 (by decide)).trans ((o_14 316 (by decide)))).trans hss_
                              replace hsp_ := ((o_15 319 (by decide)).trans ((o_14 319 (by decide)))).trans hsp_
                              replace hwi_ := ((o_15 320 (by decide)).trans ((o_14 320 (by decide)))).trans hwi_
                              replace hwa_ := ((o_15 321 (by decide)).trans ((o_14 321 (by decide)))).trans hwa_
                              replace hva_ := ((o_15 322 (by decide)).trans ((o_14 322 (by decide)))).trans hva_
                              replace hbo_ := ((o_15 323 (by decide)).trans ((o_14 323 (by decide)))).trans hbo_
                              replace hju_ := ((o_15 324 (by decide)).trans ((o_14 324 (by decide)))).trans hju_
                              replace hdr_ := ((o_15 325 (by decide)).trans ((o_14 325 (by decide)))).trans hdr_
                              replace hdn_ := ((o_15 326 (by decide)).trans ((o_14 326 (by decide)))).trans hdn_
                              replace hsl_ := ((o_15 327 (by decide))).trans hsl_
                              replace hlf_ := ((o_15 329 (by decide)).trans ((o_14 329 (by decide)))).trans hlf_
                              exact ih_30 0 1 (a0 + 1) a1 (upd sl4 (30 * to + z5) 3) (upd ax4 (4 * to + 1) (nI (a0 + 1))) f_15 _ _ _ (by omega) (by omega) (by omega) (by omega) (pk_us) ((pk_un (by omega)).trans ha1) (by omega) (hmo) (hss_) (hsp_) (hwi_) (hwa_) (hva_) (hbo_) (hju_) (hdr_) (hdn_) (hsl_) (hax_) (hlf_) (fun j hj => (((o_15 j (by omega))).trans (o_14 j (by omega))).trans (o_11 j (by omega))) hP hS (lv_sub hl [3, 4, 5, 6, 7, 8, 1, 0] rfl)
                            · refine lv_iload hx hb dX11_tries_339 (lv_at hl 7 rfl) ?_
                              refine lv_iconst (v := 1) hx hb dX11_tries_341 (by decide) ?_
                              refine lv_iadd hx hb dX11_tries_342 ?_
                              refine my_bei (v := nI (th + 1)) (nI_add th 1) ?_
                              refine lv_goto (tgt := 347) hx hb dX11_tries_343 (by decide) ?_
                              refine lv_istore (lv' := [(10, .int (nI (th + 1))), (12, .int (fo o934)), (0, .ref (g 315)), (1, .int (nI t)), (2, .int (nI to)), (6, .int v1), (8, .int (v19 ||| v20)), (9, .int u), (11, .int 0)]) hx hb dX11_tries_347 hl (by decide) rfl (fun ls hl => ?_)
                              refine lv_iload hx hb dX11_tries_349 (lv_at hl 1 rfl) ?_
                              refine lv_iconst (v := (-1)) hx hb dX11_tries_351 (by decide) ?_
                              refine lv_icmp_eq (tgt := 388) hx hb dX11_tries_352 (by decide) (fun c_352 => ?_) (fun c_352 => absurd (c_336) c_352)
                              refine lv_iconst (v := 1) hx hb dX11_tries_388 (by decide) ?_
                              refine lv_iload hx hb dX11_tries_389 (lv_at hl 8 rfl) ?_
                              refine lv_isub hx hb dX11_tries_391 ?_
                              refine my_bei (v := 1) (by decide) ?_
                              refine lv_istore (lv' := [(11, .int 1), (10, .int (nI (th + 1))), (12, .int (fo o934)), (0, .ref (g 315)), (1, .int (nI t)), (2, .int (nI to)), (6, .int v1), (8, .int (v19 ||| v20)), (9, .int u)]) hx hb dX11_tries_392 hl (by decide) rfl (fun ls hl => ?_)
                              refine lv_goto (tgt := 317) hx hb dX11_tries_394 (by decide) ?_
                              exact ih_30 (th + 1) 1 a0 a1 sl4 ax4 f_11 _ _ _ (by omega) (by omega) (by omega) (by omega) (ha0) (ha1) (by omega) (hmo) (hss_) (hsp_) (hwi_) (hwa_) (hva_) (hbo_) (hju_) (hdr_) (hdn_) (hsl_) (hax_) (hlf_) (fun j hj => (o_11 j (by omega))) hP hS (lv_sub hl [3, 4, 5, 6, 7, 8, 1, 0] rfl)
                          · refine lv_aload_n hx hb dX11_tries_323 rfl (lv_at hl 0 rfl) ?_
                            refine lv_iload_n hx hb dX11_tries_324 rfl (lv_at hl 1 rfl) ?_
                            refine lv_iload_n hx hb dX11_tries_325 rfl (lv_at hl 2 rfl) ?_
                            refine lv_iload hx hb dX11_tries_326 (lv_at hl 7 rfl) ?_
                            refine rd_calli (va_runV (As := [.int (nI t), .int (nI to), .int 1]) (rest := []) ⟨hx, hb, hml, hown, hts⟩ (r_strikes l G g hg f_11 ab2 be2 sn911 wn912 sa913 ly914 rdy (nI fd) ss np nf nr na nt dr923 dn924 sl4 ax4 t to 1 a1 d927 q4 hmo hss_ hdr_ hdn_ hsl_ hax_ (by first | assumption | omega | decide) (by first | assumption | omega | decide) (by first | assumption | omega | decide) (by first | assumption | omega | decide) (by first | assumption | omega | decide) (by rw [show 1 + 4 * to + 1 = 4 * to + 2 by omega]; exact ha1) (hx_5_0) (by first | assumption | omega | decide) (hx_5_3) (by first | assumption | omega | decide) (hs4)) (my_cwV hts ok_X11_strikes w_576 rfl rfl ⟨Nat.le_of_ble_eq_true rfl, Nat.le_of_ble_eq_true rfl⟩) ⟨bP.blind, va_recv hG.1 hP (ci := 10) (q0 := 315) rfl (wl_at (by decide) hmo), fun U hU hW => ⟨rfl, by rw [hU]; exact hP, kG.warm hW hG⟩⟩ rfl rfl hl.1 rfl (lv_room (Nat.le_of_ble_eq_true rfl)) dX11_tries_328 ⟨Nat.le_of_ble_eq_true rfl, Nat.le_of_ble_eq_true rfl⟩) (fun r hr9 => ?_)
                            obtain ⟨o935, rfl, hx_16_0, hx_16_1⟩ := hr9
                            refine lv_istore (lv' := [(12, .int (fo o935)), (0, .ref (g 315)), (1, .int (nI t)), (2, .int (nI to)), (6, .int v1), (8, .int (v19 ||| v20)), (9, .int u), (10, .int (nI th)), (11, .int 1)]) hx hb dX11_tries_331 hl (by decide) rfl (fun ls hl => ?_)
                            refine lv_iload hx hb dX11_tries_333 (lv_at hl 0 rfl) ?_
                            refine lv_iconst (v := (-1)) hx hb dX11_tries_335 (by decide) ?_
                            refine lv_icmp_ne (tgt := 346) hx hb dX11_tries_336 (by decide) (fun c_336 => ?_) (fun c_336 => ?_)
                            · refine lv_iconst (v := 0) hx hb dX11_tries_346 (by decide) ?_
                              refine lv_istore (lv' := [(10, .int 0), (12, .int (fo o935)), (0, .ref (g 315)), (1, .int (nI t)), (2, .int (nI to)), (6, .int v1), (8, .int (v19 ||| v20)), (9, .int u), (11, .int 1)]) hx hb dX11_tries_347 hl (by decide) rfl (fun ls hl => ?_)
                              refine lv_iload hx hb dX11_tries_349 (lv_at hl 1 rfl) ?_
                              refine lv_iconst (v := (-1)) hx hb dX11_tries_351 (by decide) ?_
                              refine lv_icmp_eq (tgt := 388) hx hb dX11_tries_352 (by decide) (fun c_352 => absurd c_352 (c_336)) (fun c_352 => ?_)
                              obtain ⟨z5, rfl⟩ : ∃ b, o935 = some b := by
                                cases o935 with
                                | none => exact absurd rfl c_336
                                | some z => exact ⟨z, rfl⟩
                              have hz5 := hx_16_0 z5 rfl
                              have hlt5 : a1 ≠ q4 := fun z => by cases hx_16_1 z
                              refine lv_aload_n hx hb dX11_tries_355 rfl (lv_at hl 2 rfl) ?_
                              refine va_get (D := G.1) (ci := 10) (v := .ref (g 327)) (C := RX11) (T := TX11) (N := 25) hx hb hts inlX11 hown hG.1 hP 315 (wl_at (by decide) hmo) rfl 19 (by decide) (hts (.fieldLink RX11 45 "SwornListsModel" "slips" "[I") w_123) (fun _ h9 => h9) rfl dX11_tries_356 ?_
                              refine lv_bipush (v := 30) hx hb dX11_tries_359 (by decide) ?_
                              refine lv_iload_n hx hb dX11_tries_361 rfl (lv_at hl 4 rfl) ?_
                              refine lv_imul hx hb dX11_tries_362 ?_
                              refine my_bei (v := nI (30 * to)) (pk_mul 30 to) ?_
                              refine lv_iload hx hb dX11_tries_363 (lv_at hl 1 rfl) ?_
                              refine lv_iadd hx hb dX11_tries_365 ?_
                              refine my_bei (v := nI (30 * to + z5)) ((nI_add (30 * to) z5).trans (congrArg nI (show (30 * to) + z5 = 30 * to + z5 by omega))) ?_
                              refine lv_iconst (v := 3) hx hb dX11_tries_366 (by decide) ?_
                              refine lv_iload hx hb dX11_tries_367 (lv_at hl 8 rfl) ?_
                              refine lv_iadd hx hb dX11_tries_369 ?_
                              refine my_bei (v := 4) (by decide) ?_
                              refine va_iast hx hb hG.1 hP (wl_D hg f_11) hS 327 0 (wl_at (by decide) hsl_) rfl (vp_in_nI (by omega) (by decide)) dX11_tries_370 (fun H locs hP _ hS => ?_)
                              have hP := (congrArg (fun z9 => va_P G.1 vwCl ((wl g f_11).set 327 (g 327, eI G 330 ((upd sl4 z9 4)))) H) (show Int32.toNatClampNeg (nI (30 * to + z5)) = 30 * to + z5 from nI_clamp (by omega))).mp hP
                              obtain ⟨f_17, hP, e_17, o_17⟩ := b_put (by decide) hP
                              have hsl_ : f_17 327 = eI G 330 (upd sl4 (30 * to + z5) 4) := e_17
                              refine lv_aload_n hx hb dX11_tries_371 rfl (lv_at hl 2 rfl) ?_
                              replace hmo := ((o_17 315 (by decide))).trans hmo
                              refine va_get (D := G.1) (ci := 10) (v := .ref (g 328)) (C := RX11) (T := TX11) (N := 25) hx hb hts inlX11 hown hG.1 hP 315 (wl_at (by decide) hmo) rfl 20 (by decide) (hts (.fieldLink RX11 48 "SwornListsModel" "abouts" "[I") w_124) (fun _ h9 => h9) rfl dX11_tries_372 ?_
                              refine lv_iconst (v := 4) hx hb dX11_tries_375 (by decide) ?_
                              refine lv_iload_n hx hb dX11_tries_376 rfl (lv_at hl 4 rfl) ?_
                              refine lv_imul hx hb dX11_tries_377 ?_
                              refine my_bei (v := nI (4 * to)) (pk_mul 4 to) ?_
                              refine lv_iconst (v := 1) hx hb dX11_tries_378 (by decide) ?_
                              refine lv_iadd hx hb dX11_tries_379 ?_
                              refine my_bei (v := nI (4 * to + 1)) ((nI_add (4 * to) 1).trans (congrArg nI (show (4 * to) + 1 = 4 * to + 1 by omega))) ?_
                              refine lv_iload hx hb dX11_tries_380 (lv_at hl 8 rfl) ?_
                              refine lv_iadd hx hb dX11_tries_382 ?_
                              refine my_bei (v := nI (4 * to + 2)) ((nI_add (4 * to + 1) 1).trans (congrArg nI (show (4 * to + 1) + 1 = 4 * to + 2 by omega))) ?_
                              refine lv_dup2_11 hx hb dX11_tries_383 rfl rfl ?_
                              replace hax_ := ((o_17 328 (by decide))).trans hax_
                              refine va_iald hx hb hG.1 hP 328 0 (wl_at (by decide) hax_) rfl (vp_in_nI (by omega) (by decide)) dX11_tries_384 ?_
                              refine my_bei (v := ax4 (4 * to + 2)) (congrArg ax4 (nI_clamp (n := 4 * to + 2) (by omega))) ?_
                              refine my_bei (v := nI a1) (ha1) ?_
                              refine lv_iconst (v := 1) hx hb dX11_tries_385 (by decide) ?_
                              refine lv_iadd hx hb dX11_tries_386 ?_
                              refine my_bei (v := nI (a1 + 1)) (nI_add a1 1) ?_
                              refine va_iast hx hb hG.1 hP (wl_D hg f_17) hS 328 0 (wl_at (by decide) hax_) rfl (vp_in_nI (by omega) (by decide)) dX11_tries_387 (fun H locs hP _ hS => ?_)
                              have hP := (congrArg (fun z9 => va_P G.1 vwCl ((wl g f_17).set 328 (g 328, eI G 44 ((upd ax4 z9 (nI (a1 + 1)))))) H) (show Int32.toNatClampNeg (nI (4 * to + 2)) = 4 * to + 2 from nI_clamp (by omega))).mp hP
                              obtain ⟨f_18, hP, e_18, o_18⟩ := b_put (by decide) hP
                              have hax_ : f_18 328 = eI G 44 (upd ax4 (4 * to + 2) (nI (a1 + 1))) := e_18
                              refine lv_iconst (v := 1) hx hb dX11_tries_388 (by decide) ?_
                              refine lv_iload hx hb dX11_tries_389 (lv_at hl 8 rfl) ?_
                              refine lv_isub hx hb dX11_tries_391 ?_
                              refine my_bei (v := 0) (by decide) ?_
                              refine lv_istore (lv' := [(11, .int 0), (10, .int 0), (12, .int (nI z5)), (0, .ref (g 315)), (1, .int (nI t)), (2, .int (nI to)), (6, .int v1), (8, .int (v19 ||| v20)), (9, .int u)]) hx hb dX11_tries_392 hl (by decide) rfl (fun ls hl => ?_)
                              refine lv_goto (tgt := 317) hx hb dX11_tries_394 (by decide) ?_
                              replace hmo := ((o_18 315 (by decide))).trans hmo
                              replace hss_ := ((o_18 316 (by decide)).trans ((o_17 316 (by decide)))).trans hss_
                              replace hsp_ := ((o_18 319 (by decide)).trans ((o_17 319 (by decide)))).trans hsp_
                              replace hwi_ := ((o_18 320 (by decide)).trans ((o_17 320 (by decide)))).trans hwi_
                              replace hwa_ := ((o_18 321 (by decide)).trans ((o_17 321 (by decide)))).trans hwa_
                              replace hva_ := ((o_18 322 (by decide)).trans ((o_17 322 (by decide)))).trans hva_
                              replace hbo_ := ((o_18 323 (by decide)).trans ((o_17 323 (by decide)))).trans hbo_
                              replace hju_ := ((o_18 324 (by decide)).trans ((o_17 324 (by decide)))).trans hju_
                              replace hdr_ := ((o_18 325 (by decide)).trans ((o_17 325 (by decide)))).trans hdr_
                              replace hdn_ := ((o_18 326 (by decide)).trans ((o_17 326 (by decide)))).trans hdn_
                              replace hsl_ := ((o_18 327 (by decide))).trans hsl_
                              replace hlf_ := ((o_18 329 (by decide)).trans ((o_17 329 (by decide)))).trans hlf_
                              exact ih_30 0 0 a0 (a1 + 1) (upd sl4 (30 * to + z5) 4) (upd ax4 (4 * to + 2) (nI (a1 + 1))) f_18 _ _ _ (by omega) (by omega) (by omega) (by omega) ((pk_un (by omega)).trans ha0) (pk_us) (by omega) (hmo) (hss_) (hsp_) (hwi_) (hwa_) (hva_) (hbo_) (hju_) (hdr_) (hdn_) (hsl_) (hax_) (hlf_) (fun j hj => (((o_18 j (by omega))).trans (o_17 j (by omega))).trans (o_11 j (by omega))) hP hS (lv_sub hl [3, 4, 5, 6, 7, 8, 1, 0] rfl)
                            · refine lv_iload hx hb dX11_tries_339 (lv_at hl 7 rfl) ?_
                              refine lv_iconst (v := 1) hx hb dX11_tries_341 (by decide) ?_
                              refine lv_iadd hx hb dX11_tries_342 ?_
                              refine my_bei (v := nI (th + 1)) (nI_add th 1) ?_
                              refine lv_goto (tgt := 347) hx hb dX11_tries_343 (by decide) ?_
                              refine lv_istore (lv' := [(10, .int (nI (th + 1))), (12, .int (fo o935)), (0, .ref (g 315)), (1, .int (nI t)), (2, .int (nI to)), (6, .int v1), (8, .int (v19 ||| v20)), (9, .int u), (11, .int 1)]) hx hb dX11_tries_347 hl (by decide) rfl (fun ls hl => ?_)
                              refine lv_iload hx hb dX11_tries_349 (lv_at hl 1 rfl) ?_
                              refine lv_iconst (v := (-1)) hx hb dX11_tries_351 (by decide) ?_
                              refine lv_icmp_eq (tgt := 388) hx hb dX11_tries_352 (by decide) (fun c_352 => ?_) (fun c_352 => absurd (c_336) c_352)
                              refine lv_iconst (v := 1) hx hb dX11_tries_388 (by decide) ?_
                              refine lv_iload hx hb dX11_tries_389 (lv_at hl 8 rfl) ?_
                              refine lv_isub hx hb dX11_tries_391 ?_
                              refine my_bei (v := 0) (by decide) ?_
                              refine lv_istore (lv' := [(11, .int 0), (10, .int (nI (th + 1))), (12, .int (fo o935)), (0, .ref (g 315)), (1, .int (nI t)), (2, .int (nI to)), (6, .int v1), (8, .int (v19 ||| v20)), (9, .int u)]) hx hb dX11_tries_392 hl (by decide) rfl (fun ls hl => ?_)
                              refine lv_goto (tgt := 317) hx hb dX11_tries_394 (by decide) ?_
                              exact ih_30 (th + 1) 0 a0 a1 sl4 ax4 f_11 _ _ _ (by omega) (by omega) (by omega) (by omega) (ha0) (ha1) (by omega) (hmo) (hss_) (hsp_) (hwi_) (hwa_) (hva_) (hbo_) (hju_) (hdr_) (hdn_) (hsl_) (hax_) (hlf_) (fun j hj => (o_11 j (by omega))) hP hS (lv_sub hl [3, 4, 5, 6, 7, 8, 1, 0] rfl)
                    exact key30 ((3 * (2 * q4) + 2) + 1) 0 0 0 0 sl3 (upd (upd (upd ax925 (4 * to) 0) (4 * to + 1) 0) (4 * to + 2) 0) f_10 _ _ _ (Nat.zero_le _) (by omega) (Nat.zero_le _) (Nat.zero_le _) ((pk_un (by omega)).trans pk_us) (pk_us) (by omega) (hmo) (hss_) (hsp_) (hwi_) (hwa_) (hva_) (hbo_) (hju_) (hdr_) (hdn_) (hsl_) (hax_) (hlf_) (fun j _ => rfl) hP hS (lv_sub hl [2, 3, 4, 5, 6, 7, 1, 0] rfl)
                  · have k_223 : ¬ d927 ≤ i3 := fun z9 => c_223 ((nI_leI (a := d927) (b := i3) (by omega) (by omega)).mpr z9)
                    refine lv_aload_n hx hb dX11_tries_226 rfl (lv_at hl 0 rfl) ?_
                    refine va_get (D := G.1) (ci := 10) (v := .ref (g 325)) (C := RX11) (T := TX11) (N := 25) hx hb hts inlX11 hown hG.1 hP 315 (wl_at (by decide) hmo) rfl 17 (by decide) (hts (.fieldLink RX11 39 "SwornListsModel" "drew" "[I") w_121) (fun _ h9 => h9) rfl dX11_tries_227 ?_
                    refine lv_bipush (v := 24) hx hb dX11_tries_230 (by decide) ?_
                    refine lv_iload_n hx hb dX11_tries_232 rfl (lv_at hl 2 rfl) ?_
                    refine lv_imul hx hb dX11_tries_233 ?_
                    refine my_bei (v := nI (24 * to)) (pk_mul 24 to) ?_
                    refine lv_iload hx hb dX11_tries_234 (lv_at hl 6 rfl) ?_
                    refine lv_iadd hx hb dX11_tries_236 ?_
                    refine my_bei (v := nI (i3 + 24 * to)) ((nI_add (24 * to) i3).trans (congrArg nI (show (24 * to) + i3 = i3 + 24 * to by omega))) ?_
                    obtain ⟨z1, hz1, ez1⟩ := hx_5_3 i3 (by omega)
                    refine va_iald hx hb hG.1 hP 325 0 (wl_at (by decide) hdr_) rfl (vp_in_nI (by omega) (by decide)) dX11_tries_237 ?_
                    refine my_bei (v := dr923 (i3 + 24 * to)) (congrArg dr923 (nI_clamp (n := i3 + 24 * to) (by omega))) ?_
                    refine my_bei (v := nI z1) (ez1) ?_
                    refine lv_istore (lv' := [(11, .int (nI z1)), (0, .ref (g 315)), (1, .int (nI t)), (2, .int (nI to)), (6, .int v1), (8, .int (v19 ||| v20)), (9, .int u), (10, .int (nI i3))]) hx hb dX11_tries_238 hl (by decide) rfl (fun ls hl => ?_)
                    refine lv_aload_n hx hb dX11_tries_240 rfl (lv_at hl 1 rfl) ?_
                    refine va_get (D := G.1) (ci := 10) (v := .ref (g 327)) (C := RX11) (T := TX11) (N := 25) hx hb hts inlX11 hown hG.1 hP 315 (wl_at (by decide) hmo) rfl 19 (by decide) (hts (.fieldLink RX11 45 "SwornListsModel" "slips" "[I") w_123) (fun _ h9 => h9) rfl dX11_tries_241 ?_
                    refine lv_bipush (v := 30) hx hb dX11_tries_244 (by decide) ?_
                    refine lv_iload_n hx hb dX11_tries_246 rfl (lv_at hl 3 rfl) ?_
                    refine lv_imul hx hb dX11_tries_247 ?_
                    refine my_bei (v := nI (30 * to)) (pk_mul 30 to) ?_
                    refine lv_iload hx hb dX11_tries_248 (lv_at hl 0 rfl) ?_
                    refine lv_iadd hx hb dX11_tries_250 ?_
                    refine my_bei (v := nI (30 * to + z1)) ((nI_add (30 * to) z1).trans (congrArg nI (show (30 * to) + z1 = 30 * to + z1 by omega))) ?_
                    refine lv_aload_n hx hb dX11_tries_251 rfl (lv_at hl 1 rfl) ?_
                    refine lv_iload_n hx hb dX11_tries_252 rfl (lv_at hl 2 rfl) ?_
                    refine lv_bipush (v := 9) hx hb dX11_tries_253 (by decide) ?_
                    refine rd_calli (va_runV (As := [.int (nI t), .int 9]) (rest := [.int (nI (30 * to + z1)), .ref (g 327)]) ⟨hx, hb, hml, hown, hts⟩ (r_ofTrial l G g hg f_7 ab2 be2 sn911 wn912 sa913 ly914 rdy (nI fd) ss t 9 hmo hss_ (by first | assumption | omega | decide)) (my_cwV hts ok_X11_ofTrial w_532 rfl rfl ⟨Nat.le_of_ble_eq_true rfl, Nat.le_of_ble_eq_true rfl⟩) ⟨bP.blind, va_recv hG.1 hP (ci := 10) (q0 := 315) rfl (wl_at (by decide) hmo), fun U hU hW => ⟨rfl, by rw [hU]; exact hP, kG.warm hW hG⟩⟩ rfl rfl hl.1 rfl (lv_room (Nat.le_of_ble_eq_true rfl)) dX11_tries_255 ⟨Nat.le_of_ble_eq_true rfl, Nat.le_of_ble_eq_true rfl⟩) (fun r hr9 => ?_)
                    subst hr9
                    refine my_bei (v := ss (10 * t + 1555)) (congrArg ss (show 10 * t + 9 + 1546 = 10 * t + 1555 by omega)) ?_
                    refine lv_iload hx hb dX11_tries_258 (lv_at hl 0 rfl) ?_
                    refine lv_ishr hx hb dX11_tries_260 ?_
                    refine lv_iconst (v := 1) hx hb dX11_tries_261 (by decide) ?_
                    refine lv_iand hx hb dX11_tries_262 ?_
                    refine lv_iconst (v := 1) hx hb dX11_tries_263 (by decide) ?_
                    refine lv_icmp_ne (tgt := 271) hx hb dX11_tries_264 (by decide) (fun c_264 => ?_) (fun c_264 => ?_)
                    · refine lv_bipush (v := 6) hx hb dX11_tries_271 (by decide) ?_
                      refine va_iast hx hb hG.1 hP (wl_D hg f_7) hS 327 0 (wl_at (by decide) hsl_) rfl (vp_in_nI (by omega) (by decide)) dX11_tries_273 (fun H locs hP _ hS => ?_)
                      have hP := (congrArg (fun z9 => va_P G.1 vwCl ((wl g f_7).set 327 (g 327, eI G 330 ((upd sl3 z9 6)))) H) (show Int32.toNatClampNeg (nI (30 * to + z1)) = 30 * to + z1 from nI_clamp (by omega))).mp hP
                      obtain ⟨f_19, hP, e_19, o_19⟩ := b_put (by decide) hP
                      have hsl_ : f_19 327 = eI G 330 (upd sl3 (30 * to + z1) 6) := e_19
                      refine lv_iinc (v := nI (i3 + 1)) (lv' := [(10, .int (nI (i3 + 1))), (11, .int (nI z1)), (0, .ref (g 315)), (1, .int (nI t)), (2, .int (nI to)), (6, .int v1), (8, .int (v19 ||| v20)), (9, .int u)]) hx hb dX11_tries_274 hl (k := 7) rfl (nI_add i3 1) (by decide) rfl (fun ls hl => ?_)
                      refine lv_goto (tgt := 215) hx hb dX11_tries_277 (by decide) ?_
                      replace hmo := ((o_19 315 (by decide))).trans hmo
                      replace hss_ := ((o_19 316 (by decide))).trans hss_
                      replace hsp_ := ((o_19 319 (by decide))).trans hsp_
                      replace hwi_ := ((o_19 320 (by decide))).trans hwi_
                      replace hwa_ := ((o_19 321 (by decide))).trans hwa_
                      replace hva_ := ((o_19 322 (by decide))).trans hva_
                      replace hbo_ := ((o_19 323 (by decide))).trans hbo_
                      replace hju_ := ((o_19 324 (by decide))).trans hju_
                      replace hdr_ := ((o_19 325 (by decide))).trans hdr_
                      replace hdn_ := ((o_19 326 (by decide))).trans hdn_
                      replace hax_ := ((o_19 328 (by decide))).trans hax_
                      replace hlf_ := ((o_19 329 (by decide))).trans hlf_
                      exact ih_29 (i3 + 1) (upd sl3 (30 * to + z1) 6) f_19 _ _ _ (by omega) (by omega) (hmo) (hss_) (hsp_) (hwi_) (hwa_) (hva_) (hbo_) (hju_) (hdr_) (hdn_) (hsl_) (hax_) (hlf_) (fun j hj => ((o_19 j (by omega))).trans (o_7 j (by omega))) hP hS (lv_sub hl [2, 3, 4, 5, 6, 7, 0] rfl)
                    · refine lv_iconst (v := 2) hx hb dX11_tries_267 (by decide) ?_
                      refine lv_goto (tgt := 273) hx hb dX11_tries_268 (by decide) ?_
                      refine va_iast hx hb hG.1 hP (wl_D hg f_7) hS 327 0 (wl_at (by decide) hsl_) rfl (vp_in_nI (by omega) (by decide)) dX11_tries_273 (fun H locs hP _ hS => ?_)
                      have hP := (congrArg (fun z9 => va_P G.1 vwCl ((wl g f_7).set 327 (g 327, eI G 330 ((upd sl3 z9 2)))) H) (show Int32.toNatClampNeg (nI (30 * to + z1)) = 30 * to + z1 from nI_clamp (by omega))).mp hP
                      obtain ⟨f_20, hP, e_20, o_20⟩ := b_put (by decide) hP
                      have hsl_ : f_20 327 = eI G 330 (upd sl3 (30 * to + z1) 2) := e_20
                      refine lv_iinc (v := nI (i3 + 1)) (lv' := [(10, .int (nI (i3 + 1))), (11, .int (nI z1)), (0, .ref (g 315)), (1, .int (nI t)), (2, .int (nI to)), (6, .int v1), (8, .int (v19 ||| v20)), (9, .int u)]) hx hb dX11_tries_274 hl (k := 7) rfl (nI_add i3 1) (by decide) rfl (fun ls hl => ?_)
                      refine lv_goto (tgt := 215) hx hb dX11_tries_277 (by decide) ?_
                      replace hmo := ((o_20 315 (by decide))).trans hmo
                      replace hss_ := ((o_20 316 (by decide))).trans hss_
                      replace hsp_ := ((o_20 319 (by decide))).trans hsp_
                      replace hwi_ := ((o_20 320 (by decide))).trans hwi_
                      replace hwa_ := ((o_20 321 (by decide))).trans hwa_
                      replace hva_ := ((o_20 322 (by decide))).trans hva_
                      replace hbo_ := ((o_20 323 (by decide))).trans hbo_
                      replace hju_ := ((o_20 324 (by decide))).trans hju_
                      replace hdr_ := ((o_20 325 (by decide))).trans hdr_
                      replace hdn_ := ((o_20 326 (by decide))).trans hdn_
                      replace hax_ := ((o_20 328 (by decide))).trans hax_
                      replace hlf_ := ((o_20 329 (by decide))).trans hlf_
                      exact ih_29 (i3 + 1) (upd sl3 (30 * to + z1) 2) f_20 _ _ _ (by omega) (by omega) (hmo) (hss_) (hsp_) (hwi_) (hwa_) (hva_) (hbo_) (hju_) (hdr_) (hdn_) (hsl_) (hax_) (hlf_) (fun j hj => ((o_20 j (by omega))).trans (o_7 j (by omega))) hP hS (lv_sub hl [2, 3, 4, 5, 6, 7, 0] rfl)
              exact key29 (d927 + 1) 0 sl2 f_6 _ _ _ (Nat.zero_le _) (by omega) (hmo) (hss_) (hsp_) (hwi_) (hwa_) (hva_) (hbo_) (hju_) (hdr_) (hdn_) (hsl_) (hax_) (hlf_) (fun j _ => rfl) hP hS (lv_sub hl [1, 2, 3, 4, 5, 6, 0] rfl)
            · have k_184 : ¬ 30 ≤ i2 := fun z9 => c_184 ((nI_leI (a := 30) (b := i2) (by omega) (by omega)).mpr z9)
              refine lv_aload_n hx hb dX11_tries_187 rfl (lv_at hl 0 rfl) ?_
              refine va_get (D := G.1) (ci := 10) (v := .ref (g 327)) (C := RX11) (T := TX11) (N := 25) hx hb hts inlX11 hown hG.1 hP 315 (wl_at (by decide) hmo) rfl 19 (by decide) (hts (.fieldLink RX11 45 "SwornListsModel" "slips" "[I") w_123) (fun _ h9 => h9) rfl dX11_tries_188 ?_
              refine lv_bipush (v := 30) hx hb dX11_tries_191 (by decide) ?_
              refine lv_iload_n hx hb dX11_tries_193 rfl (lv_at hl 2 rfl) ?_
              refine lv_imul hx hb dX11_tries_194 ?_
              refine my_bei (v := nI (30 * to)) (pk_mul 30 to) ?_
              refine lv_iload hx hb dX11_tries_195 (lv_at hl 6 rfl) ?_
              refine lv_iadd hx hb dX11_tries_197 ?_
              refine my_bei (v := nI (i2 + 30 * to)) ((nI_add (30 * to) i2).trans (congrArg nI (show (30 * to) + i2 = i2 + 30 * to by omega))) ?_
              refine lv_iload hx hb dX11_tries_198 (lv_at hl 5 rfl) ?_
              refine lv_iload hx hb dX11_tries_200 (lv_at hl 6 rfl) ?_
              refine lv_ishr hx hb dX11_tries_202 ?_
              refine lv_iconst (v := 1) hx hb dX11_tries_203 (by decide) ?_
              refine lv_iand hx hb dX11_tries_204 ?_
              refine va_iast hx hb hG.1 hP (wl_D hg f_6) hS 327 0 (wl_at (by decide) hsl_) rfl (vp_in_nI (by omega) (by decide)) dX11_tries_205 (fun H locs hP _ hS => ?_)
              have hP := (congrArg (fun z9 => va_P G.1 vwCl ((wl g f_6).set 327 (g 327, eI G 330 ((upd sl2 z9 ((u >>> ((nI i2) &&& 31)) &&& 1))))) H) (show Int32.toNatClampNeg (nI (i2 + 30 * to)) = i2 + 30 * to from nI_clamp (by omega))).mp hP
              obtain ⟨f_21, hP, e_21, o_21⟩ := b_put (by decide) hP
              have hsl_ : f_21 327 = eI G 330 (upd sl2 (i2 + 30 * to) ((u >>> ((nI i2) &&& 31)) &&& 1)) := e_21
              refine lv_iinc (v := nI (i2 + 1)) (lv' := [(10, .int (nI (i2 + 1))), (0, .ref (g 315)), (1, .int (nI t)), (2, .int (nI to)), (6, .int v1), (8, .int (v19 ||| v20)), (9, .int u)]) hx hb dX11_tries_206 hl (k := 6) rfl (nI_add i2 1) (by decide) rfl (fun ls hl => ?_)
              refine lv_goto (tgt := 180) hx hb dX11_tries_209 (by decide) ?_
              replace hmo := ((o_21 315 (by decide))).trans hmo
              replace hss_ := ((o_21 316 (by decide))).trans hss_
              replace hsp_ := ((o_21 319 (by decide))).trans hsp_
              replace hwi_ := ((o_21 320 (by decide))).trans hwi_
              replace hwa_ := ((o_21 321 (by decide))).trans hwa_
              replace hva_ := ((o_21 322 (by decide))).trans hva_
              replace hbo_ := ((o_21 323 (by decide))).trans hbo_
              replace hju_ := ((o_21 324 (by decide))).trans hju_
              replace hdr_ := ((o_21 325 (by decide))).trans hdr_
              replace hdn_ := ((o_21 326 (by decide))).trans hdn_
              replace hax_ := ((o_21 328 (by decide))).trans hax_
              replace hlf_ := ((o_21 329 (by decide))).trans hlf_
              exact ih_28 (i2 + 1) (upd sl2 (i2 + 30 * to) ((u >>> ((nI i2) &&& 31)) &&& 1)) f_21 _ _ _ (by omega) (by omega) (hmo) (hss_) (hsp_) (hwi_) (hwa_) (hva_) (hbo_) (hju_) (hdr_) (hdn_) (hsl_) (hax_) (hlf_) (fun j hj => ((o_21 j (by omega))).trans (o_6 j (by omega))) hP hS (lv_sub hl [1, 2, 3, 4, 5, 6, 0] rfl)
        exact key28 (30 + 1) 0 sl f_5 _ _ _ (Nat.zero_le _) (by omega) (hmo) (hss_) (hsp_) (hwi_) (hwa_) (hva_) (hbo_) (hju_) (hdr_) (hdn_) (hsl_) (hax_) (hlf_) (fun j _ => rfl) hP hS (lv_sub hl [1, 2, 3, 4, 5, 6, 0] rfl)
      · have k_94 : ¬ np ≤ i := fun z9 => c_94 ((nI_leI (a := np) (b := i) (by omega) (by omega)).mpr z9)
        refine lv_aload_n hx hb dX11_tries_97 rfl (lv_at hl 0 rfl) ?_
        refine lv_iload_n hx hb dX11_tries_98 rfl (lv_at hl 1 rfl) ?_
        refine lv_iconst (v := 5) hx hb dX11_tries_99 (by decide) ?_
        refine rd_calli (va_runV (As := [.int (nI t), .int 5]) (rest := []) ⟨hx, hb, hml, hown, hts⟩ (r_ofTrial l G g hg f_3 ab2 be2 sn911 wn912 sa913 ly914 rdy (nI fd) ss t 5 hmo hss_ (by first | assumption | omega | decide)) (my_cwV hts ok_X11_ofTrial w_532 rfl rfl ⟨Nat.le_of_ble_eq_true rfl, Nat.le_of_ble_eq_true rfl⟩) ⟨bP.blind, va_recv hG.1 hP (ci := 10) (q0 := 315) rfl (wl_at (by decide) hmo), fun U hU hW => ⟨rfl, by rw [hU]; exact hP, kG.warm hW hG⟩⟩ rfl rfl hl.1 rfl (lv_room (Nat.le_of_ble_eq_true rfl)) dX11_tries_100 ⟨Nat.le_of_ble_eq_true rfl, Nat.le_of_ble_eq_true rfl⟩) (fun r hr9 => ?_)
        subst hr9
        refine my_bei (v := ss (10 * t + 1551)) (congrArg ss (show 10 * t + 5 + 1546 = 10 * t + 1551 by omega)) ?_
        refine lv_iconst (v := (-1)) hx hb dX11_tries_103 (by decide) ?_
        refine lv_icmp_eq (tgt := 134) hx hb dX11_tries_104 (by decide) (fun c_104 => ?_) (fun c_104 => ?_)
        · refine lv_iconst (v := 0) hx hb dX11_tries_134 (by decide) ?_
          refine lv_istore (lv' := [(11, .int 0), (0, .ref (g 315)), (1, .int (nI t)), (2, .int (nI to)), (6, .int v1), (8, .int (v19 ||| v20)), (9, .int u), (10, .int (nI i))]) hx hb dX11_tries_135 hl (by decide) rfl (fun ls hl => ?_)
          refine lv_iload hx hb dX11_tries_137 (lv_at hl 6 rfl) ?_
          refine lv_iload hx hb dX11_tries_139 (lv_at hl 0 rfl) ?_
          refine lv_if_eq (tgt := 153) hx hb dX11_tries_141 (by decide) (fun c_141 => ?_) (fun c_141 => absurd (by decide) c_141)
          refine lv_iconst (v := (-1)) hx hb dX11_tries_153 (by decide) ?_
          refine lv_iand hx hb dX11_tries_154 ?_
          refine lv_istore (lv' := [(9, .int (u &&& (-1))), (11, .int 0), (0, .ref (g 315)), (1, .int (nI t)), (2, .int (nI to)), (6, .int v1), (8, .int (v19 ||| v20)), (10, .int (nI i))]) hx hb dX11_tries_155 hl (by decide) rfl (fun ls hl => ?_)
          refine lv_iinc (v := nI (i + 1)) (lv' := [(10, .int (nI (i + 1))), (9, .int (u &&& (-1))), (11, .int 0), (0, .ref (g 315)), (1, .int (nI t)), (2, .int (nI to)), (6, .int v1), (8, .int (v19 ||| v20))]) hx hb dX11_tries_157 hl (k := 7) rfl (nI_add i 1) (by decide) rfl (fun ls hl => ?_)
          refine lv_goto (tgt := 86) hx hb dX11_tries_160 (by decide) ?_
          exact ih_22 (i + 1) (u &&& (-1)) f_3 _ _ _ (by omega) (by omega) (hmo) (hss_) (hsp_) (hwi_) (hwa_) (hva_) (hbo_) (hju_) (hdr_) (hdn_) (hsl_) (hax_) (hlf_) (fun j hj => (o_3 j (by omega))) hP hS (lv_sub hl [3, 4, 5, 6, 7, 1, 0] rfl)
        · refine lv_aload_n hx hb dX11_tries_107 rfl (lv_at hl 0 rfl) ?_
          refine va_get (D := G.1) (ci := 10) (v := .ref (g 316)) (C := RX11) (T := TX11) (N := 25) hx hb hts inlX11 hown hG.1 hP 315 (wl_at (by decide) hmo) rfl 0 (by decide) (hts (.fieldLink RX11 7 "SwornListsModel" "st" "[I") w_112) (fun _ h9 => h9) rfl dX11_tries_108 ?_
          refine lv_bipush (v := 10) hx hb dX11_tries_111 (by decide) ?_
          refine lv_iconst (v := 4) hx hb dX11_tries_113 (by decide) ?_
          refine lv_iload hx hb dX11_tries_114 (lv_at hl 6 rfl) ?_
          refine lv_imul hx hb dX11_tries_116 ?_
          refine my_bei (v := nI (4 * i)) (pk_mul 4 i) ?_
          refine lv_iadd hx hb dX11_tries_117 ?_
          refine my_bei (v := nI (4 * i + 10)) ((nI_add 10 (4 * i)).trans (congrArg nI (show 10 + (4 * i) = 4 * i + 10 by omega))) ?_
          refine lv_iconst (v := 1) hx hb dX11_tries_118 (by decide) ?_
          refine lv_iadd hx hb dX11_tries_119 ?_
          refine my_bei (v := nI (4 * i + 11)) ((nI_add (4 * i + 10) 1).trans (congrArg nI (show (4 * i + 10) + 1 = 4 * i + 11 by omega))) ?_
          refine va_iald hx hb hG.1 hP 316 0 (wl_at (by decide) hss_) rfl (vp_in_nI (by omega) (by decide)) dX11_tries_120 ?_
          refine my_bei (v := ss (4 * i + 11)) (congrArg ss (nI_clamp (n := 4 * i + 11) (by omega))) ?_
          refine lv_aload_n hx hb dX11_tries_121 rfl (lv_at hl 0 rfl) ?_
          refine lv_iload_n hx hb dX11_tries_122 rfl (lv_at hl 1 rfl) ?_
          refine lv_iconst (v := 5) hx hb dX11_tries_123 (by decide) ?_
          refine rd_calli (va_runV (As := [.int (nI t), .int 5]) (rest := [.int (ss (4 * i + 11))]) ⟨hx, hb, hml, hown, hts⟩ (r_ofTrial l G g hg f_3 ab2 be2 sn911 wn912 sa913 ly914 rdy (nI fd) ss t 5 hmo hss_ (by first | assumption | omega | decide)) (my_cwV hts ok_X11_ofTrial w_532 rfl rfl ⟨Nat.le_of_ble_eq_true rfl, Nat.le_of_ble_eq_true rfl⟩) ⟨bP.blind, va_recv hG.1 hP (ci := 10) (q0 := 315) rfl (wl_at (by decide) hmo), fun U hU hW => ⟨rfl, by rw [hU]; exact hP, kG.warm hW hG⟩⟩ rfl rfl hl.1 rfl (lv_room (Nat.le_of_ble_eq_true rfl)) dX11_tries_124 ⟨Nat.le_of_ble_eq_true rfl, Nat.le_of_ble_eq_true rfl⟩) (fun r hr9 => ?_)
          subst hr9
          refine my_bei (v := ss (10 * t + 1551)) (congrArg ss (show 10 * t + 5 + 1546 = 10 * t + 1551 by omega)) ?_
          refine lv_icmp_eq (tgt := 134) hx hb dX11_tries_127 (by decide) (fun c_127 => ?_) (fun c_127 => ?_)
          · refine lv_iconst (v := 0) hx hb dX11_tries_134 (by decide) ?_
            refine lv_istore (lv' := [(11, .int 0), (0, .ref (g 315)), (1, .int (nI t)), (2, .int (nI to)), (6, .int v1), (8, .int (v19 ||| v20)), (9, .int u), (10, .int (nI i))]) hx hb dX11_tries_135 hl (by decide) rfl (fun ls hl => ?_)
            refine lv_iload hx hb dX11_tries_137 (lv_at hl 6 rfl) ?_
            refine lv_iload hx hb dX11_tries_139 (lv_at hl 0 rfl) ?_
            refine lv_if_eq (tgt := 153) hx hb dX11_tries_141 (by decide) (fun c_141 => ?_) (fun c_141 => absurd (by decide) c_141)
            refine lv_iconst (v := (-1)) hx hb dX11_tries_153 (by decide) ?_
            refine lv_iand hx hb dX11_tries_154 ?_
            refine lv_istore (lv' := [(9, .int (u &&& (-1))), (11, .int 0), (0, .ref (g 315)), (1, .int (nI t)), (2, .int (nI to)), (6, .int v1), (8, .int (v19 ||| v20)), (10, .int (nI i))]) hx hb dX11_tries_155 hl (by decide) rfl (fun ls hl => ?_)
            refine lv_iinc (v := nI (i + 1)) (lv' := [(10, .int (nI (i + 1))), (9, .int (u &&& (-1))), (11, .int 0), (0, .ref (g 315)), (1, .int (nI t)), (2, .int (nI to)), (6, .int v1), (8, .int (v19 ||| v20))]) hx hb dX11_tries_157 hl (k := 7) rfl (nI_add i 1) (by decide) rfl (fun ls hl => ?_)
            refine lv_goto (tgt := 86) hx hb dX11_tries_160 (by decide) ?_
            exact ih_22 (i + 1) (u &&& (-1)) f_3 _ _ _ (by omega) (by omega) (hmo) (hss_) (hsp_) (hwi_) (hwa_) (hva_) (hbo_) (hju_) (hdr_) (hdn_) (hsl_) (hax_) (hlf_) (fun j hj => (o_3 j (by omega))) hP hS (lv_sub hl [3, 4, 5, 6, 7, 1, 0] rfl)
          · refine lv_iconst (v := 1) hx hb dX11_tries_130 (by decide) ?_
            refine lv_goto (tgt := 135) hx hb dX11_tries_131 (by decide) ?_
            refine lv_istore (lv' := [(11, .int 1), (0, .ref (g 315)), (1, .int (nI t)), (2, .int (nI to)), (6, .int v1), (8, .int (v19 ||| v20)), (9, .int u), (10, .int (nI i))]) hx hb dX11_tries_135 hl (by decide) rfl (fun ls hl => ?_)
            refine lv_iload hx hb dX11_tries_137 (lv_at hl 6 rfl) ?_
            refine lv_iload hx hb dX11_tries_139 (lv_at hl 0 rfl) ?_
            refine lv_if_eq (tgt := 153) hx hb dX11_tries_141 (by decide) (fun c_141 => absurd c_141 (by decide)) (fun c_141 => ?_)
            refine lv_iconst (v := 1) hx hb dX11_tries_144 (by decide) ?_
            refine lv_iload hx hb dX11_tries_145 (lv_at hl 7 rfl) ?_
            refine lv_ishl hx hb dX11_tries_147 ?_
            refine lv_iconst (v := (-1)) hx hb dX11_tries_148 (by decide) ?_
            refine lv_ixor hx hb dX11_tries_149 ?_
            refine lv_goto (tgt := 154) hx hb dX11_tries_150 (by decide) ?_
            refine lv_iand hx hb dX11_tries_154 ?_
            refine lv_istore (lv' := [(9, .int (u &&& ((1 <<< ((nI i) &&& 31)) ^^^ (-1)))), (11, .int 1), (0, .ref (g 315)), (1, .int (nI t)), (2, .int (nI to)), (6, .int v1), (8, .int (v19 ||| v20)), (10, .int (nI i))]) hx hb dX11_tries_155 hl (by decide) rfl (fun ls hl => ?_)
            refine lv_iinc (v := nI (i + 1)) (lv' := [(10, .int (nI (i + 1))), (9, .int (u &&& ((1 <<< ((nI i) &&& 31)) ^^^ (-1)))), (11, .int 1), (0, .ref (g 315)), (1, .int (nI t)), (2, .int (nI to)), (6, .int v1), (8, .int (v19 ||| v20))]) hx hb dX11_tries_157 hl (k := 7) rfl (nI_add i 1) (by decide) rfl (fun ls hl => ?_)
            refine lv_goto (tgt := 86) hx hb dX11_tries_160 (by decide) ?_
            exact ih_22 (i + 1) (u &&& ((1 <<< ((nI i) &&& 31)) ^^^ (-1))) f_3 _ _ _ (by omega) (by omega) (hmo) (hss_) (hsp_) (hwi_) (hwa_) (hva_) (hbo_) (hju_) (hdr_) (hdn_) (hsl_) (hax_) (hlf_) (fun j hj => (o_3 j (by omega))) hP hS (lv_sub hl [3, 4, 5, 6, 7, 1, 0] rfl)
  exact key22 (np + 1) 0 (((v21 &&& v1) &&& (v10 ^^^ (-1))) &&& ((v19 ||| v20) ^^^ (-1))) f_2 _ _ _ (Nat.zero_le _) (by omega) (hmo) (hss_) (hsp_) (hwi_) (hwa_) (hva_) (hbo_) (hju_) (hdr_) (hdn_) (hsl_) (hax_) (hlf_) (fun j _ => rfl) hP hS (lv_sub hl [6, 7, 8, 4, 2, 1, 0] rfl)
set_option maxHeartbeats 4000000 in
set_option maxRecDepth 100000 in
theorem r_triesT (l : Launch) (G : gW) (g : Nat → Nat) (hg : gOK g) (f : Nat → va_E) (ab2 : Int64) (be2 : Int64) (sn : Int32) (wn : Int32) (sa : Int32) (ly : Int32) (rdy : Int32) (fd : Nat) (ss : Nat → Int32) (np : Nat) (nf : Nat) (nr : Nat) (na : Nat) (nt : Nat) (sp : Nat → Int32) (wi : Nat → Int32) (wa : Nat → Int32) (va : Nat → Int64) (bo : Nat → Int32) (ju : Nat → Int32) (dr : Nat → Int32) (dn : Nat → Int32) (sl : Nat → Int32) (ax : Nat → Int32) (lf : Nat → Int32) (t : Nat) (to : Nat) (sb : Int32) (xt : Nat) (l9 : Nat) (hmo : f 315 = eO 10 [.ref (g 316), .ref (g 317), .ref (g 318), .long ab2, .long be2, .int sn, .ref (g 319), .ref (g 320), .int wn, .ref (g 321), .ref (g 322), .int sa, .int ly, .int rdy, .int (nI fd), .ref (g 323), .ref (g 324), .ref (g 325), .ref (g 326), .ref (g 327), .ref (g 328), .ref (g 329), .ref (g 330), .ref (g 331), .ref (g 332)]) (hss_ : f 316 = eI G 2246 ss) (hsp_ : f 319 = eI G 70 sp) (hwi_ : f 320 = eI G 70 wi) (hwa_ : f 321 = eI G 70 wa) (hva_ : f 322 = eJ G 70 va) (hbo_ : f 323 = eI G 11 bo) (hju_ : f 324 = eI G 11 ju) (hdr_ : f 325 = eI G 264 dr) (hdn_ : f 326 = eI G 11 dn) (hsl_ : f 327 = eI G 330 sl) (hax_ : f 328 = eI G 44 ax) (hlf_ : f 329 = eI G 30 lf) (hst : stOK ss np nf nr na nt) (hfo : fd ≤ 10) (ht0 : t < nt) (hto : to < 11) (hdn : ∀ k, k < 11 → ∃ d, d ≤ 24 ∧ dn k = nI d) (hxt : xt < 4) (hl8 : ss (51 * xt + 262) = nI l9) (hl9 : l9 ≤ 50) (hl7 : rdA l9 (fun k => ss (51 * xt + 262 + k + 1)) = -1) : Met l yX11_tries (wsT yX11_tries cX11_tries 13 none) ({ frames := 5, cells := 0, slots := 0, locals := 120 }) (bP G g f [.ref (g 315), .int (nI t), .int (nI to), .int (nI xt), .int sb]) (bQv G g (fun (f' : Nat → va_E) => ∃ sn9 : Int32, ∃ wn9 : Int32, ∃ sa9 : Int32, ∃ ly9 : Int32, ∃ sp9 : Nat → Int32, ∃ wi9 : Nat → Int32, ∃ wa9 : Nat → Int32, ∃ va9 : Nat → Int64, ∃ bo9 : Nat → Int32, ∃ ju9 : Nat → Int32, ∃ dr9 : Nat → Int32, ∃ dn9 : Nat → Int32, ∃ sl9 : Nat → Int32, ∃ ax9 : Nat → Int32, ∃ lf9 : Nat → Int32, f' 315 = eO 10 [.ref (g 316), .ref (g 317), .ref (g 318), .long ab2, .long be2, .int sn9, .ref (g 319), .ref (g 320), .int wn9, .ref (g 321), .ref (g 322), .int sa9, .int ly9, .int rdy, .int (nI fd), .ref (g 323), .ref (g 324), .ref (g 325), .ref (g 326), .ref (g 327), .ref (g 328), .ref (g 329), .ref (g 330), .ref (g 331), .ref (g 332)] ∧ f' 319 = eI G 70 sp9 ∧ f' 320 = eI G 70 wi9 ∧ f' 321 = eI G 70 wa9 ∧ f' 322 = eJ G 70 va9 ∧ f' 323 = eI G 11 bo9 ∧ f' 324 = eI G 11 ju9 ∧ f' 325 = eI G 264 dr9 ∧ f' 326 = eI G 11 dn9 ∧ f' 327 = eI G 330 sl9 ∧ f' 328 = eI G 44 ax9 ∧ f' 329 = eI G 30 lf9 ∧ (∀ k, k < 11 → ∃ d, d ≤ 24 ∧ dn9 k = nI d) ∧ ∀ j, (j < 315 ∨ (316 ≤ j ∧ j ≤ 318) ∨ 330 ≤ j) → f' j = f j)) 0 0 (gA g) := by
  refine Met.ofW (cc := cX11_tries) (maxL := 13) (ret := none) (by decide) rfl ?_
  intro p e s m args below meth c s₁ B hml hv
  obtain ⟨rfl, hP, hG⟩ := hv
  have hx := B.exec
  have hb := B.bytes
  have hr := B.returns
  have hts := my_hts (atoms_spec (ws := wsT yX11_tries cX11_tries 13 none) B.pre)
  have hown : s.vm.findClass RX11 = some m.cls := findClass_of_methodNamed B.named
  have hlocks := B.notSynchronized
  have hS : va_S (gA g) s.heap s.heap [] := va_S.rf
  have hl := lv_entry ([.ref (g 315), .int (nI t), .int (nI to), .int (nI xt), .int sb]) (n := 13) (Nat.le_of_ble_eq_true rfl)
  rw [lg_entry_eq]
  generalize (lg_sl ([.ref (g 315), .int (nI t), .int (nI to), .int (nI xt), .int sb]) ++ List.replicate (13 - (lg_sl ([.ref (g 315), .int (nI t), .int (nI to), .int (nI xt), .int sb])).length) Slot.unset).toArray = ls at hl ⊢
  have hl : lv_has ls 13 [(0, .ref (g 315)), (1, .int (nI t)), (2, .int (nI to)), (3, .int (nI xt)), (4, .int sb)] := hl
  have hc0 := hst.c0
  have hc1 := hst.c1
  have hc2 := hst.c2
  have hc3 := hst.c3
  have hc4 := hst.c4
  obtain ⟨⟨q4, hq4, hs4⟩, sq, hsq, hss⟩ := hst.tr t ht0
  refine lv_aload_n hx hb dX11_tries_0 rfl (lv_at hl 0 rfl) ?_
  refine lv_iload_n hx hb dX11_tries_1 rfl (lv_at hl 1 rfl) ?_
  refine lv_iconst (v := 0) hx hb dX11_tries_2 (by decide) ?_
  refine rd_calli (va_runV (As := [.int (nI t), .int 0]) (rest := []) ⟨hx, hb, hml, hown, hts⟩ (r_ofTrial l G g hg f ab2 be2 sn wn sa ly rdy (nI fd) ss t 0 hmo hss_ (by first | assumption | omega | decide)) (my_cwV hts ok_X11_ofTrial w_532 rfl rfl ⟨Nat.le_of_ble_eq_true rfl, Nat.le_of_ble_eq_true rfl⟩) ⟨bP.blind, va_recv hG.1 hP (ci := 10) (q0 := 315) rfl (wl_at (by decide) hmo), fun U hU hW => ⟨rfl, by rw [hU]; exact hP, kG.warm hW hG⟩⟩ rfl rfl hl.1 rfl (lv_room (Nat.le_of_ble_eq_true rfl)) dX11_tries_3 ⟨Nat.le_of_ble_eq_true rfl, Nat.le_of_ble_eq_true rfl⟩) (fun r hr9 => ?_)
  subst hr9
  refine my_bei (v := ss (10 * t + 1546)) (congrArg ss (show 10 * t + 0 + 1546 = 10 * t + 1546 by omega)) ?_
  refine lv_istore (lv' := [(5, .int (ss (10 * t + 1546))), (0, .ref (g 315)), (1, .int (nI t)), (2, .int (nI to)), (3, .int (nI xt)), (4, .int sb)]) hx hb dX11_tries_6 hl (by decide) rfl (fun ls hl => ?_)
  refine lv_aload_n hx hb dX11_tries_8 rfl (lv_at hl 1 rfl) ?_
  refine lv_iconst (v := 0) hx hb dX11_tries_9 (by decide) ?_
  refine lv_iload hx hb dX11_tries_10 (lv_at hl 0 rfl) ?_
  refine lv_iload hx hb dX11_tries_12 (lv_at hl 5 rfl) ?_
  refine lv_if_ne (tgt := 21) hx hb dX11_tries_14 (by decide) (fun c_14 => ?_) (fun c_14 => ?_)
  · refine lv_iconst (v := (-1)) hx hb dX11_tries_21 (by decide) ?_
    refine b_calli (va_runV (As := [.int 0, .int (ss (10 * t + 1546)), .int (-1)]) (rest := []) ⟨hx, hb, hml, hown, hts⟩ (r_whomN l G g hg f ab2 be2 sn wn sa ly rdy fd ss np nf nr na nt sp wi wa va ju 0 (ss (10 * t + 1546)) hmo hss_ hsp_ hwi_ hwa_ hva_ hju_ (by first | assumption | omega | decide) (by first | assumption | omega | decide)) (my_cwV hts ok_X11_whom w_536 rfl rfl ⟨Nat.le_of_ble_eq_true rfl, Nat.le_of_ble_eq_true rfl⟩) ⟨bP.blind, va_recv hG.1 hP (ci := 10) (q0 := 315) rfl (wl_at (by decide) hmo), fun U hU hW => ⟨rfl, by rw [hU]; exact hP, kG.warm hW hG⟩⟩ rfl rfl hl.1 rfl (lv_room (Nat.le_of_ble_eq_true rfl)) dX11_tries_22 ⟨Nat.le_of_ble_eq_true rfl, Nat.le_of_ble_eq_true rfl⟩) hS (fun v1 f_1 H locs hq9 hP hS => ?_)
    obtain ⟨sn92, wn93, sa94, ly95, sp96, wi97, wa98, va99, hq_1_0, hq_1_1, hq_1_2, hq_1_3, hq_1_4, o_1⟩ := hq9
    have hmo : f_1 315 = eO 10 [.ref (g 316), .ref (g 317), .ref (g 318), .long ab2, .long be2, .int sn92, .ref (g 319), .ref (g 320), .int wn93, .ref (g 321), .ref (g 322), .int sa94, .int ly95, .int rdy, .int (nI fd), .ref (g 323), .ref (g 324), .ref (g 325), .ref (g 326), .ref (g 327), .ref (g 328), .ref (g 329), .ref (g 330), .ref (g 331), .ref (g 332)] := hq_1_0
    have hsp_ : f_1 319 = eI G 70 sp96 := hq_1_1
    have hwi_ : f_1 320 = eI G 70 wi97 := hq_1_2
    have hwa_ : f_1 321 = eI G 70 wa98 := hq_1_3
    have hva_ : f_1 322 = eJ G 70 va99 := hq_1_4
    refine lv_istore (lv' := [(6, .int v1), (5, .int (ss (10 * t + 1546))), (0, .ref (g 315)), (1, .int (nI t)), (2, .int (nI to)), (3, .int (nI xt)), (4, .int sb)]) hx hb dX11_tries_25 hl (by decide) rfl (fun ls hl => ?_)
    refine lv_aload_n hx hb dX11_tries_27 rfl (lv_at hl 2 rfl) ?_
    refine lv_iconst (v := 1) hx hb dX11_tries_28 (by decide) ?_
    refine lv_iload hx hb dX11_tries_29 (lv_at hl 1 rfl) ?_
    refine lv_iload hx hb dX11_tries_31 (lv_at hl 6 rfl) ?_
    refine lv_iconst (v := 1) hx hb dX11_tries_33 (by decide) ?_
    refine lv_icmp_ne (tgt := 41) hx hb dX11_tries_34 (by decide) (fun c_34 => ?_) (fun c_34 => ?_)
    · refine lv_iconst (v := (-1)) hx hb dX11_tries_41 (by decide) ?_
      replace hss_ := ((o_1 316 (by first | decide | omega))).trans hss_
      replace hju_ := ((o_1 324 (by first | decide | omega))).trans hju_
      refine b_calli (va_runV (As := [.int 1, .int (ss (10 * t + 1546)), .int (-1)]) (rest := []) ⟨hx, hb, hml, hown, hts⟩ (r_whomN l G g hg f_1 ab2 be2 sn92 wn93 sa94 ly95 rdy fd ss np nf nr na nt sp96 wi97 wa98 va99 ju 1 (ss (10 * t + 1546)) hmo hss_ hsp_ hwi_ hwa_ hva_ hju_ (by first | assumption | omega | decide) (by first | assumption | omega | decide)) (my_cwV hts ok_X11_whom w_536 rfl rfl ⟨Nat.le_of_ble_eq_true rfl, Nat.le_of_ble_eq_true rfl⟩) ⟨bP.blind, va_recv hG.1 hP (ci := 10) (q0 := 315) rfl (wl_at (by decide) hmo), fun U hU hW => ⟨rfl, by rw [hU]; exact hP, kG.warm hW hG⟩⟩ rfl rfl hl.1 rfl (lv_room (Nat.le_of_ble_eq_true rfl)) dX11_tries_42 ⟨Nat.le_of_ble_eq_true rfl, Nat.le_of_ble_eq_true rfl⟩) hS (fun v10 f_2 H locs hq9 hP hS => ?_)
      obtain ⟨sn911, wn912, sa913, ly914, sp915, wi916, wa917, va918, hq_2_0, hq_2_1, hq_2_2, hq_2_3, hq_2_4, o_2⟩ := hq9
      have hmo : f_2 315 = eO 10 [.ref (g 316), .ref (g 317), .ref (g 318), .long ab2, .long be2, .int sn911, .ref (g 319), .ref (g 320), .int wn912, .ref (g 321), .ref (g 322), .int sa913, .int ly914, .int rdy, .int (nI fd), .ref (g 323), .ref (g 324), .ref (g 325), .ref (g 326), .ref (g 327), .ref (g 328), .ref (g 329), .ref (g 330), .ref (g 331), .ref (g 332)] := hq_2_0
      have hsp_ : f_2 319 = eI G 70 sp915 := hq_2_1
      have hwi_ : f_2 320 = eI G 70 wi916 := hq_2_2
      have hwa_ : f_2 321 = eI G 70 wa917 := hq_2_3
      have hva_ : f_2 322 = eJ G 70 va918 := hq_2_4
      refine lv_istore (lv' := [(7, .int v10), (6, .int v1), (5, .int (ss (10 * t + 1546))), (0, .ref (g 315)), (1, .int (nI t)), (2, .int (nI to)), (3, .int (nI xt)), (4, .int sb)]) hx hb dX11_tries_45 hl (by decide) rfl (fun ls hl => ?_)
      refine lv_aload_n hx hb dX11_tries_47 rfl (lv_at hl 3 rfl) ?_
      refine lv_iload_n hx hb dX11_tries_48 rfl (lv_at hl 4 rfl) ?_
      refine lv_iload hx hb dX11_tries_49 (lv_at hl 2 rfl) ?_
      replace hss_ := ((o_2 316 (by first | decide | omega))).trans hss_
      refine rd_calli (va_runV (As := [.int (nI t), .int (ss (10 * t + 1546))]) (rest := []) ⟨hx, hb, hml, hown, hts⟩ (r_kinOf l G g hg f_2 ab2 be2 sn911 wn912 sa913 ly914 rdy (nI fd) ss np nf nr na nt t (ss (10 * t + 1546)) hmo hss_ (by first | assumption | omega | decide) (by first | assumption | omega | decide)) (my_cwV hts ok_X11_kinOf w_562 rfl rfl ⟨Nat.le_of_ble_eq_true rfl, Nat.le_of_ble_eq_true rfl⟩) ⟨bP.blind, va_recv hG.1 hP (ci := 10) (q0 := 315) rfl (wl_at (by decide) hmo), fun U hU hW => ⟨rfl, by rw [hU]; exact hP, kG.warm hW hG⟩⟩ rfl rfl hl.1 rfl (lv_room (Nat.le_of_ble_eq_true rfl)) dX11_tries_51 ⟨Nat.le_of_ble_eq_true rfl, Nat.le_of_ble_eq_true rfl⟩) (fun v19 _ => ?_)
      refine lv_aload_n hx hb dX11_tries_54 rfl (lv_at hl 3 rfl) ?_
      refine lv_iload_n hx hb dX11_tries_55 rfl (lv_at hl 4 rfl) ?_
      replace hju_ := ((o_2 324 (by first | decide | omega))).trans hju_
      refine rd_calli (va_runV (As := [.int (nI t)]) (rest := [.int v19]) ⟨hx, hb, hml, hown, hts⟩ (r_sitting l G g hg f_2 ab2 be2 sn911 wn912 sa913 ly914 rdy (nI fd) ss ju t hmo hss_ hju_ (by first | assumption | omega | decide)) (my_cwV hts ok_X11_sitting w_566 rfl rfl ⟨Nat.le_of_ble_eq_true rfl, Nat.le_of_ble_eq_true rfl⟩) ⟨bP.blind, va_recv hG.1 hP (ci := 10) (q0 := 315) rfl (wl_at (by decide) hmo), fun U hU hW => ⟨rfl, by rw [hU]; exact hP, kG.warm hW hG⟩⟩ rfl rfl hl.1 rfl (lv_room (Nat.le_of_ble_eq_true rfl)) dX11_tries_56 ⟨Nat.le_of_ble_eq_true rfl, Nat.le_of_ble_eq_true rfl⟩) (fun v20 _ => ?_)
      refine lv_ior hx hb dX11_tries_59 ?_
      refine lv_istore (lv' := [(8, .int (v19 ||| v20)), (7, .int v10), (6, .int v1), (5, .int (ss (10 * t + 1546))), (0, .ref (g 315)), (1, .int (nI t)), (2, .int (nI to)), (3, .int (nI xt)), (4, .int sb)]) hx hb dX11_tries_60 hl (by decide) rfl (fun ls hl => ?_)
      refine lv_aload_n hx hb dX11_tries_62 rfl (lv_at hl 4 rfl) ?_
      refine lv_iload hx hb dX11_tries_63 (lv_at hl 3 rfl) ?_
      refine rd_calli (va_runV (As := [.int (ss (10 * t + 1546))]) (rest := []) ⟨hx, hb, hml, hown, hts⟩ (r_theRoll l G g hg f_2 ab2 be2 sn911 wn912 sa913 ly914 rdy (nI fd) ss np nf nr na nt (ss (10 * t + 1546)) hmo hss_ (by first | assumption | omega | decide)) (my_cwV hts ok_X11_theRoll w_234 rfl rfl ⟨Nat.le_of_ble_eq_true rfl, Nat.le_of_ble_eq_true rfl⟩) ⟨bP.blind, va_recv hG.1 hP (ci := 10) (q0 := 315) rfl (wl_at (by decide) hmo), fun U hU hW => ⟨rfl, by rw [hU]; exact hP, kG.warm hW hG⟩⟩ rfl rfl hl.1 rfl (lv_room (Nat.le_of_ble_eq_true rfl)) dX11_tries_65 ⟨Nat.le_of_ble_eq_true rfl, Nat.le_of_ble_eq_true rfl⟩) (fun v21 _ => ?_)
      refine lv_iload hx hb dX11_tries_68 (lv_at hl 2 rfl) ?_
      refine lv_iand hx hb dX11_tries_70 ?_
      refine lv_iload hx hb dX11_tries_71 (lv_at hl 1 rfl) ?_
      refine lv_iconst (v := (-1)) hx hb dX11_tries_73 (by decide) ?_
      refine lv_ixor hx hb dX11_tries_74 ?_
      refine lv_iand hx hb dX11_tries_75 ?_
      refine lv_iload hx hb dX11_tries_76 (lv_at hl 0 rfl) ?_
      refine lv_iconst (v := (-1)) hx hb dX11_tries_78 (by decide) ?_
      refine lv_ixor hx hb dX11_tries_79 ?_
      refine lv_iand hx hb dX11_tries_80 ?_
      refine lv_istore (lv' := [(9, .int (((v21 &&& v1) &&& (v10 ^^^ (-1))) &&& ((v19 ||| v20) ^^^ (-1)))), (8, .int (v19 ||| v20)), (7, .int v10), (6, .int v1), (5, .int (ss (10 * t + 1546))), (0, .ref (g 315)), (1, .int (nI t)), (2, .int (nI to)), (3, .int (nI xt)), (4, .int sb)]) hx hb dX11_tries_81 hl (by decide) rfl (fun ls hl => ?_)
      refine lv_iconst (v := 0) hx hb dX11_tries_83 (by decide) ?_
      refine lv_istore (lv' := [(10, .int 0), (9, .int (((v21 &&& v1) &&& (v10 ^^^ (-1))) &&& ((v19 ||| v20) ^^^ (-1)))), (8, .int (v19 ||| v20)), (7, .int v10), (6, .int v1), (5, .int (ss (10 * t + 1546))), (0, .ref (g 315)), (1, .int (nI t)), (2, .int (nI to)), (3, .int (nI xt)), (4, .int sb)]) hx hb dX11_tries_84 hl (by decide) rfl (fun ls hl => ?_)
      replace hbo_ := ((o_2 323 (by first | decide | omega)).trans ((o_1 323 (by first | decide | omega)))).trans hbo_
      replace hdr_ := ((o_2 325 (by first | decide | omega)).trans ((o_1 325 (by first | decide | omega)))).trans hdr_
      replace hdn_ := ((o_2 326 (by first | decide | omega)).trans ((o_1 326 (by first | decide | omega)))).trans hdn_
      replace hsl_ := ((o_2 327 (by first | decide | omega)).trans ((o_1 327 (by first | decide | omega)))).trans hsl_
      replace hax_ := ((o_2 328 (by first | decide | omega)).trans ((o_1 328 (by first | decide | omega)))).trans hax_
      replace hlf_ := ((o_2 329 (by first | decide | omega)).trans ((o_1 329 (by first | decide | omega)))).trans hlf_
      have key22 : ∀ (n9_22 : Nat) (i : Nat) (u : Int32) (f_3 : Nat → va_E) (H : Heap) (locs : List Loc) (ls : Array Slot), (i ≤ np) → np - i < n9_22 → f_3 315 = eO 10 [.ref (g 316), .ref (g 317), .ref (g 318), .long ab2, .long be2, .int sn911, .ref (g 319), .ref (g 320), .int wn912, .ref (g 321), .ref (g 322), .int sa913, .int ly914, .int rdy, .int (nI fd), .ref (g 323), .ref (g 324), .ref (g 325), .ref (g 326), .ref (g 327), .ref (g 328), .ref (g 329), .ref (g 330), .ref (g 331), .ref (g 332)] → f_3 316 = eI G 2246 ss → f_3 319 = eI G 70 sp915 → f_3 320 = eI G 70 wi916 → f_3 321 = eI G 70 wa917 → f_3 322 = eJ G 70 va918 → f_3 323 = eI G 11 bo → f_3 324 = eI G 11 ju → f_3 325 = eI G 264 dr → f_3 326 = eI G 11 dn → f_3 327 = eI G 330 sl → f_3 328 = eI G 44 ax → f_3 329 = eI G 30 lf → (∀ j, (j < 333 ∨ 333 ≤ j) → f_3 j = f_2 j) → va_P G.1 vwCl (wl g f_3) H → va_S (gA g) s.heap H locs → lv_has ls 13 [(0, .ref (g 315)), (1, .int (nI t)), (2, .int (nI to)), (6, .int v1), (8, .int (v19 ||| v20)), (9, .int u), (10, .int (nI i))] → W p l e (headSpec (wsT yX11_tries cX11_tries 13 none) ({ frames := 5, cells := 0, slots := 0, locals := 120 })).room s m ([.ref (g 315), .int (nI t), .int (nI to), .int (nI xt), .int sb] : List Value).toArray below meth c H locs 0 0 (MQ below (bQv G g (fun (f' : Nat → va_E) => ∃ sn9 : Int32, ∃ wn9 : Int32, ∃ sa9 : Int32, ∃ ly9 : Int32, ∃ sp9 : Nat → Int32, ∃ wi9 : Nat → Int32, ∃ wa9 : Nat → Int32, ∃ va9 : Nat → Int64, ∃ bo9 : Nat → Int32, ∃ ju9 : Nat → Int32, ∃ dr9 : Nat → Int32, ∃ dn9 : Nat → Int32, ∃ sl9 : Nat → Int32, ∃ ax9 : Nat → Int32, ∃ lf9 : Nat → Int32, f' 315 = eO 10 [.ref (g 316), .ref (g 317), .ref (g 318), .long ab2, .long be2, .int sn9, .ref (g 319), .ref (g 320), .int wn9, .ref (g 321), .ref (g 322), .int sa9, .int ly9, .int rdy, .int (nI fd), .ref (g 323), .ref (g 324), .ref (g 325), .ref (g 326), .ref (g 327), .ref (g 328), .ref (g 329), .ref (g 330), .ref (g 331), .ref (g 332)] ∧ f' 319 = eI G 70 sp9 ∧ f' 320 = eI G 70 wi9 ∧ f' 321 = eI G 70 wa9 ∧ f' 322 = eJ G 70 va9 ∧ f' 323 = eI G 11 bo9 ∧ f' 324 = eI G 11 ju9 ∧ f' 325 = eI G 264 dr9 ∧ f' 326 = eI G 11 dn9 ∧ f' 327 = eI G 330 sl9 ∧ f' 328 = eI G 44 ax9 ∧ f' 329 = eI G 30 lf9 ∧ (∀ k, k < 11 → ∃ d, d ≤ 24 ∧ dn9 k = nI d) ∧ ∀ j, (j < 315 ∨ (316 ≤ j ∧ j ≤ 318) ∨ 330 ≤ j) → f' j = f j)) ([.ref (g 315), .int (nI t), .int (nI to), .int (nI xt), .int sb] : List Value).toArray s 0 0 (gA g)) (F0 m 86 ls []) := by
        intro n9_22
        induction n9_22 with
        | zero => intro i u f_3 H locs ls hi hn9_22; exact absurd hn9_22 (Nat.not_lt_zero _)
        | succ n9_22 ih_22 =>
          intro i u f_3 H locs ls hi hn9_22 hmo hss_ hsp_ hwi_ hwa_ hva_ hbo_ hju_ hdr_ hdn_ hsl_ hax_ hlf_ o_3 hP hS hl
          refine lv_iload hx hb dX11_tries_86 (lv_at hl 6 rfl) ?_
          refine lv_aload_n hx hb dX11_tries_88 rfl (lv_at hl 0 rfl) ?_
          refine va_get (D := G.1) (ci := 10) (v := .ref (g 316)) (C := RX11) (T := TX11) (N := 25) hx hb hts inlX11 hown hG.1 hP 315 (wl_at (by decide) hmo) rfl 0 (by decide) (hts (.fieldLink RX11 7 "SwornListsModel" "st" "[I") w_112) (fun _ h9 => h9) rfl dX11_tries_89 ?_
          refine lv_iconst (v := 0) hx hb dX11_tries_92 (by decide) ?_
          refine va_iald hx hb hG.1 hP 316 0 (wl_at (by decide) hss_) rfl (by unfold vp_in; decide) dX11_tries_93 ?_
          refine my_bei (v := ss 0) (rfl) ?_
          refine my_bei (v := nI np) (hst.h0) ?_
          refine lv_icmp_ge (tgt := 163) hx hb dX11_tries_94 (by decide) (fun c_94 => ?_) (fun c_94 => ?_)
          · have k_94 : np ≤ i := (nI_leI (a := np) (b := i) (by omega) (by omega)).mp c_94
            refine lv_aload_n hx hb dX11_tries_163 rfl (lv_at hl 0 rfl) ?_
            refine va_get (D := G.1) (ci := 10) (v := .ref (g 323)) (C := RX11) (T := TX11) (N := 25) hx hb hts inlX11 hown hG.1 hP 315 (wl_at (by decide) hmo) rfl 15 (by decide) (hts (.fieldLink RX11 33 "SwornListsModel" "boxes" "[I") w_119) (fun _ h9 => h9) rfl dX11_tries_164 ?_
            refine lv_iload_n hx hb dX11_tries_167 rfl (lv_at hl 2 rfl) ?_
            refine lv_iload hx hb dX11_tries_168 (lv_at hl 5 rfl) ?_
            refine va_iast hx hb hG.1 hP (wl_D hg f_3) hS 323 0 (wl_at (by decide) hbo_) rfl (vp_in_nI (by omega) (by decide)) dX11_tries_170 (fun H locs hP _ hS => ?_)
            have hP := (congrArg (fun z9 => va_P G.1 vwCl ((wl g f_3).set 323 (g 323, eI G 11 ((upd bo z9 u)))) H) (show Int32.toNatClampNeg (nI to) = to from nI_clamp (by omega))).mp hP
            obtain ⟨f_4, hP, e_4, o_4⟩ := b_put (by decide) hP
            have hbo_ : f_4 323 = eI G 11 (upd bo to u) := e_4
            refine lv_aload_n hx hb dX11_tries_171 rfl (lv_at hl 0 rfl) ?_
            refine lv_iload_n hx hb dX11_tries_172 rfl (lv_at hl 1 rfl) ?_
            refine lv_iload_n hx hb dX11_tries_173 rfl (lv_at hl 2 rfl) ?_
            replace hmo := ((o_4 315 (by decide))).trans hmo
            replace hss_ := ((o_4 316 (by decide))).trans hss_
            replace hdr_ := ((o_4 325 (by decide))).trans hdr_
            replace hdn_ := ((o_4 326 (by decide))).trans hdn_
            replace hax_ := ((o_4 328 (by decide))).trans hax_
            replace hlf_ := ((o_4 329 (by decide))).trans hlf_
            refine b_callv (va_runV (As := [.int (nI t), .int (nI to)]) (rest := []) ⟨hx, hb, hml, hown, hts⟩ (r_draws l G g hg f_4 ab2 be2 sn911 wn912 sa913 ly914 rdy (nI fd) ss np nf nr na nt (upd bo to u) dr dn ax lf t to hmo hss_ hbo_ hdr_ hdn_ hax_ hlf_ (by first | assumption | omega | decide) (by first | assumption | omega | decide) (by first | assumption | omega | decide)) (my_cwV hts ok_X11_draws w_570 rfl rfl ⟨Nat.le_of_ble_eq_true rfl, Nat.le_of_ble_eq_true rfl⟩) ⟨bP.blind, va_recv hG.1 hP (ci := 10) (q0 := 315) rfl (wl_at (by decide) hmo), fun U hU hW => ⟨rfl, by rw [hU]; exact hP, kG.warm hW hG⟩⟩ rfl rfl hl.1 rfl (lv_room (Nat.le_of_ble_eq_true rfl)) dX11_tries_174 ⟨Nat.le_of_ble_eq_true rfl, Nat.le_of_ble_eq_true rfl⟩) hS (fun f_5 H locs hq9 hP hS => ?_)
            obtain ⟨dr923, dn924, ax925, lf926, d927, hq_5_0, hq_5_1, hq_5_2, hq_5_3, hx_5_0, hx_5_1, hx_5_2, hx_5_3, o_5⟩ := hq9
            have hdr_ : f_5 325 = eI G 264 dr923 := hq_5_0
            have hdn_ : f_5 326 = eI G 11 dn924 := hq_5_1
            have hax_ : f_5 328 = eI G 44 ax925 := hq_5_2
            have hlf_ : f_5 329 = eI G 30 lf926 := hq_5_3
            refine lv_iconst (v := 0) hx hb dX11_tries_177 (by decide) ?_
            refine lv_istore (lv' := [(10, .int 0), (0, .ref (g 315)), (1, .int (nI t)), (2, .int (nI to)), (6, .int v1), (8, .int (v19 ||| v20)), (9, .int u)]) hx hb dX11_tries_178 hl (by decide) rfl (fun ls hl => ?_)
            replace hmo := ((o_5 315 (by first | decide | omega))).trans hmo
            replace hss_ := ((o_5 316 (by first | decide | omega))).trans hss_
            replace hsp_ := ((o_5 319 (by first | decide | omega)).trans ((o_4 319 (by decide)))).trans hsp_
            replace hwi_ := ((o_5 320 (by first | decide | omega)).trans ((o_4 320 (by decide)))).trans hwi_
            replace hwa_ := ((o_5 321 (by first | decide | omega)).trans ((o_4 321 (by decide)))).trans hwa_
            replace hva_ := ((o_5 322 (by first | decide | omega)).trans ((o_4 322 (by decide)))).trans hva_
            replace hbo_ := ((o_5 323 (by first | decide | omega))).trans hbo_
            replace hju_ := ((o_5 324 (by first | decide | omega)).trans ((o_4 324 (by decide)))).trans hju_
            replace hsl_ := ((o_5 327 (by first | decide | omega)).trans ((o_4 327 (by decide)))).trans hsl_
            have key28 : ∀ (n9_28 : Nat) (i2 : Nat) (sl2 : Nat → Int32) (f_6 : Nat → va_E) (H : Heap) (locs : List Loc) (ls : Array Slot), (i2 ≤ 30) → 30 - i2 < n9_28 → f_6 315 = eO 10 [.ref (g 316), .ref (g 317), .ref (g 318), .long ab2, .long be2, .int sn911, .ref (g 319), .ref (g 320), .int wn912, .ref (g 321), .ref (g 322), .int sa913, .int ly914, .int rdy, .int (nI fd), .ref (g 323), .ref (g 324), .ref (g 325), .ref (g 326), .ref (g 327), .ref (g 328), .ref (g 329), .ref (g 330), .ref (g 331), .ref (g 332)] → f_6 316 = eI G 2246 ss → f_6 319 = eI G 70 sp915 → f_6 320 = eI G 70 wi916 → f_6 321 = eI G 70 wa917 → f_6 322 = eJ G 70 va918 → f_6 323 = eI G 11 (upd bo to u) → f_6 324 = eI G 11 ju → f_6 325 = eI G 264 dr923 → f_6 326 = eI G 11 dn924 → f_6 327 = eI G 330 sl2 → f_6 328 = eI G 44 ax925 → f_6 329 = eI G 30 lf926 → (∀ j, j ≠ 327 → f_6 j = f_5 j) → va_P G.1 vwCl (wl g f_6) H → va_S (gA g) s.heap H locs → lv_has ls 13 [(0, .ref (g 315)), (1, .int (nI t)), (2, .int (nI to)), (6, .int v1), (8, .int (v19 ||| v20)), (9, .int u), (10, .int (nI i2))] → W p l e (headSpec (wsT yX11_tries cX11_tries 13 none) ({ frames := 5, cells := 0, slots := 0, locals := 120 })).room s m ([.ref (g 315), .int (nI t), .int (nI to), .int (nI xt), .int sb] : List Value).toArray below meth c H locs 0 0 (MQ below (bQv G g (fun (f' : Nat → va_E) => ∃ sn9 : Int32, ∃ wn9 : Int32, ∃ sa9 : Int32, ∃ ly9 : Int32, ∃ sp9 : Nat → Int32, ∃ wi9 : Nat → Int32, ∃ wa9 : Nat → Int32, ∃ va9 : Nat → Int64, ∃ bo9 : Nat → Int32, ∃ ju9 : Nat → Int32, ∃ dr9 : Nat → Int32, ∃ dn9 : Nat → Int32, ∃ sl9 : Nat → Int32, ∃ ax9 : Nat → Int32, ∃ lf9 : Nat → Int32, f' 315 = eO 10 [.ref (g 316), .ref (g 317), .ref (g 318), .long ab2, .long be2, .int sn9, .ref (g 319), .ref (g 320), .int wn9, .ref (g 321), .ref (g 322), .int sa9, .int ly9, .int rdy, .int (nI fd), .ref (g 323), .ref (g 324), .ref (g 325), .ref (g 326), .ref (g 327), .ref (g 328), .ref (g 329), .ref (g 330), .ref (g 331), .ref (g 332)] ∧ f' 319 = eI G 70 sp9 ∧ f' 320 = eI G 70 wi9 ∧ f' 321 = eI G 70 wa9 ∧ f' 322 = eJ G 70 va9 ∧ f' 323 = eI G 11 bo9 ∧ f' 324 = eI G 11 ju9 ∧ f' 325 = eI G 264 dr9 ∧ f' 326 = eI G 11 dn9 ∧ f' 327 = eI G 330 sl9 ∧ f' 328 = eI G 44 ax9 ∧ f' 329 = eI G 30 lf9 ∧ (∀ k, k < 11 → ∃ d, d ≤ 24 ∧ dn9 k = nI d) ∧ ∀ j, (j < 315 ∨ (316 ≤ j ∧ j ≤ 318) ∨ 330 ≤ j) → f' j = f j)) ([.ref (g 315), .int (nI t), .int (nI to), .int (nI xt), .int sb] : List Value).toArray s 0 0 (gA g)) (F0 m 180 ls []) := by
              intro n9_28
              induction n9_28 with
              | zero => intro i2 sl2 f_6 H locs ls hi2 hn9_28; exact absurd hn9_28 (Nat.not_lt_zero _)
              | succ n9_28 ih_28 =>
                intro i2 sl2 f_6 H locs ls hi2 hn9_28 hmo hss_ hsp_ hwi_ hwa_ hva_ hbo_ hju_ hdr_ hdn_ hsl_ hax_ hlf_ o_6 hP hS hl
                refine lv_iload hx hb dX11_tries_180 (lv_at hl 6 rfl) ?_
                refine lv_bipush (v := 30) hx hb dX11_tries_182 (by decide) ?_
                refine lv_icmp_ge (tgt := 212) hx hb dX11_tries_184 (by decide) (fun c_184 => ?_) (fun c_184 => ?_)
                · have k_184 : 30 ≤ i2 := (nI_leI (a := 30) (b := i2) (by omega) (by omega)).mp c_184
                  refine lv_iconst (v := 0) hx hb dX11_tries_212 (by decide) ?_
                  refine lv_istore (lv' := [(10, .int 0), (0, .ref (g 315)), (1, .int (nI t)), (2, .int (nI to)), (6, .int v1), (8, .int (v19 ||| v20)), (9, .int u)]) hx hb dX11_tries_213 hl (by decide) rfl (fun ls hl => ?_)
                  have hd24 := hx_5_1
                  have key29 : ∀ (n9_29 : Nat) (i3 : Nat) (sl3 : Nat → Int32) (f_7 : Nat → va_E) (H : Heap) (locs : List Loc) (ls : Array Slot), (i3 ≤ d927) → d927 - i3 < n9_29 → f_7 315 = eO 10 [.ref (g 316), .ref (g 317), .ref (g 318), .long ab2, .long be2, .int sn911, .ref (g 319), .ref (g 320), .int wn912, .ref (g 321), .ref (g 322), .int sa913, .int ly914, .int rdy, .int (nI fd), .ref (g 323), .ref (g 324), .ref (g 325), .ref (g 326), .ref (g 327), .ref (g 328), .ref (g 329), .ref (g 330), .ref (g 331), .ref (g 332)] → f_7 316 = eI G 2246 ss → f_7 319 = eI G 70 sp915 → f_7 320 = eI G 70 wi916 → f_7 321 = eI G 70 wa917 → f_7 322 = eJ G 70 va918 → f_7 323 = eI G 11 (upd bo to u) → f_7 324 = eI G 11 ju → f_7 325 = eI G 264 dr923 → f_7 326 = eI G 11 dn924 → f_7 327 = eI G 330 sl3 → f_7 328 = eI G 44 ax925 → f_7 329 = eI G 30 lf926 → (∀ j, j ≠ 327 → f_7 j = f_6 j) → va_P G.1 vwCl (wl g f_7) H → va_S (gA g) s.heap H locs → lv_has ls 13 [(0, .ref (g 315)), (1, .int (nI t)), (2, .int (nI to)), (6, .int v1), (8, .int (v19 ||| v20)), (9, .int u), (10, .int (nI i3))] → W p l e (headSpec (wsT yX11_tries cX11_tries 13 none) ({ frames := 5, cells := 0, slots := 0, locals := 120 })).room s m ([.ref (g 315), .int (nI t), .int (nI to), .int (nI xt), .int sb] : List Value).toArray below meth c H locs 0 0 (MQ below (bQv G g (fun (f' : Nat → va_E) => ∃ sn9 : Int32, ∃ wn9 : Int32, ∃ sa9 : Int32, ∃ ly9 : Int32, ∃ sp9 : Nat → Int32, ∃ wi9 : Nat → Int32, ∃ wa9 : Nat → Int32, ∃ va9 : Nat → Int64, ∃ bo9 : Nat → Int32, ∃ ju9 : Nat → Int32, ∃ dr9 : Nat → Int32, ∃ dn9 : Nat → Int32, ∃ sl9 : Nat → Int32, ∃ ax9 : Nat → Int32, ∃ lf9 : Nat → Int32, f' 315 = eO 10 [.ref (g 316), .ref (g 317), .ref (g 318), .long ab2, .long be2, .int sn9, .ref (g 319), .ref (g 320), .int wn9, .ref (g 321), .ref (g 322), .int sa9, .int ly9, .int rdy, .int (nI fd), .ref (g 323), .ref (g 324), .ref (g 325), .ref (g 326), .ref (g 327), .ref (g 328), .ref (g 329), .ref (g 330), .ref (g 331), .ref (g 332)] ∧ f' 319 = eI G 70 sp9 ∧ f' 320 = eI G 70 wi9 ∧ f' 321 = eI G 70 wa9 ∧ f' 322 = eJ G 70 va9 ∧ f' 323 = eI G 11 bo9 ∧ f' 324 = eI G 11 ju9 ∧ f' 325 = eI G 264 dr9 ∧ f' 326 = eI G 11 dn9 ∧ f' 327 = eI G 330 sl9 ∧ f' 328 = eI G 44 ax9 ∧ f' 329 = eI G 30 lf9 ∧ (∀ k, k < 11 → ∃ d, d ≤ 24 ∧ dn9 k = nI d) ∧ ∀ j, (j < 315 ∨ (316 ≤ j ∧ j ≤ 318) ∨ 330 ≤ j) → f' j = f j)) ([.ref (g 315), .int (nI t), .int (nI to), .int (nI xt), .int sb] : List Value).toArray s 0 0 (gA g)) (F0 m 215 ls []) := by
                    intro n9_29
                    induction n9_29 with
                    | zero => intro i3 sl3 f_7 H locs ls hi3 hn9_29; exact absurd hn9_29 (Nat.not_lt_zero _)
                    | succ n9_29 ih_29 =>
                      intro i3 sl3 f_7 H locs ls hi3 hn9_29 hmo hss_ hsp_ hwi_ hwa_ hva_ hbo_ hju_ hdr_ hdn_ hsl_ hax_ hlf_ o_7 hP hS hl
                      have hd24 := hx_5_1
                      refine lv_iload hx hb dX11_tries_215 (lv_at hl 6 rfl) ?_
                      refine lv_aload_n hx hb dX11_tries_217 rfl (lv_at hl 0 rfl) ?_
                      refine va_get (D := G.1) (ci := 10) (v := .ref (g 326)) (C := RX11) (T := TX11) (N := 25) hx hb hts inlX11 hown hG.1 hP 315 (wl_at (by decide) hmo) rfl 18 (by decide) (hts (.fieldLink RX11 42 "SwornListsModel" "drews" "[I") w_122) (fun _ h9 => h9) rfl dX11_tries_218 ?_
                      refine lv_iload_n hx hb dX11_tries_221 rfl (lv_at hl 2 rfl) ?_
                      refine va_iald hx hb hG.1 hP 326 0 (wl_at (by decide) hdn_) rfl (vp_in_nI (by omega) (by decide)) dX11_tries_222 ?_
                      refine my_bei (v := dn924 to) (congrArg dn924 (nI_clamp (n := to) (by omega))) ?_
                      refine my_bei (v := nI d927) (hx_5_0) ?_
                      refine lv_icmp_ge (tgt := 280) hx hb dX11_tries_223 (by decide) (fun c_223 => ?_) (fun c_223 => ?_)
                      · have k_223 : d927 ≤ i3 := (nI_leI (a := d927) (b := i3) (by omega) (by omega)).mp c_223
                        refine lv_aload_n hx hb dX11_tries_280 rfl (lv_at hl 0 rfl) ?_
                        refine va_get (D := G.1) (ci := 10) (v := .ref (g 328)) (C := RX11) (T := TX11) (N := 25) hx hb hts inlX11 hown hG.1 hP 315 (wl_at (by decide) hmo) rfl 20 (by decide) (hts (.fieldLink RX11 48 "SwornListsModel" "abouts" "[I") w_124) (fun _ h9 => h9) rfl dX11_tries_281 ?_
                        refine lv_iconst (v := 4) hx hb dX11_tries_284 (by decide) ?_
                        refine lv_iload_n hx hb dX11_tries_285 rfl (lv_at hl 2 rfl) ?_
                        refine lv_imul hx hb dX11_tries_286 ?_
                        refine my_bei (v := nI (4 * to)) (pk_mul 4 to) ?_
                        refine lv_iconst (v := 0) hx hb dX11_tries_287 (by decide) ?_
                        refine va_iast hx hb hG.1 hP (wl_D hg f_7) hS 328 0 (wl_at (by decide) hax_) rfl (vp_in_nI (by omega) (by decide)) dX11_tries_288 (fun H locs hP _ hS => ?_)
                        have hP := (congrArg (fun z9 => va_P G.1 vwCl ((wl g f_7).set 328 (g 328, eI G 44 ((upd ax925 z9 0)))) H) (show Int32.toNatClampNeg (nI (4 * to)) = 4 * to from nI_clamp (by omega))).mp hP
                        obtain ⟨f_8, hP, e_8, o_8⟩ := b_put (by decide) hP
                        have hax_ : f_8 328 = eI G 44 (upd ax925 (4 * to) 0) := e_8
                        refine lv_aload_n hx hb dX11_tries_289 rfl (lv_at hl 0 rfl) ?_
                        replace hmo := ((o_8 315 (by decide))).trans hmo
                        refine va_get (D := G.1) (ci := 10) (v := .ref (g 328)) (C := RX11) (T := TX11) (N := 25) hx hb hts inlX11 hown hG.1 hP 315 (wl_at (by decide) hmo) rfl 20 (by decide) (hts (.fieldLink RX11 48 "SwornListsModel" "abouts" "[I") w_124) (fun _ h9 => h9) rfl dX11_tries_290 ?_
                        refine lv_iconst (v := 4) hx hb dX11_tries_293 (by decide) ?_
                        refine lv_iload_n hx hb dX11_tries_294 rfl (lv_at hl 2 rfl) ?_
                        refine lv_imul hx hb dX11_tries_295 ?_
                        refine my_bei (v := nI (4 * to)) (pk_mul 4 to) ?_
                        refine lv_iconst (v := 1) hx hb dX11_tries_296 (by decide) ?_
                        refine lv_iadd hx hb dX11_tries_297 ?_
                        refine my_bei (v := nI (4 * to + 1)) ((nI_add (4 * to) 1).trans (congrArg nI (show (4 * to) + 1 = 4 * to + 1 by omega))) ?_
                        refine lv_iconst (v := 0) hx hb dX11_tries_298 (by decide) ?_
                        refine va_iast hx hb hG.1 hP (wl_D hg f_8) hS 328 0 (wl_at (by decide) hax_) rfl (vp_in_nI (by omega) (by decide)) dX11_tries_299 (fun H locs hP _ hS => ?_)
                        have hP := (congrArg (fun z9 => va_P G.1 vwCl ((wl g f_8).set 328 (g 328, eI G 44 ((upd (upd ax925 (4 * to) 0) z9 0)))) H) (show Int32.toNatClampNeg (nI (4 * to + 1)) = 4 * to + 1 from nI_clamp (by omega))).mp hP
                        obtain ⟨f_9, hP, e_9, o_9⟩ := b_put (by decide) hP
                        have hax_ : f_9 328 = eI G 44 (upd (upd ax925 (4 * to) 0) (4 * to + 1) 0) := e_9
                        refine lv_aload_n hx hb dX11_tries_300 rfl (lv_at hl 0 rfl) ?_
                        replace hmo := ((o_9 315 (by decide))).trans hmo
                        refine va_get (D := G.1) (ci := 10) (v := .ref (g 328)) (C := RX11) (T := TX11) (N := 25) hx hb hts inlX11 hown hG.1 hP 315 (wl_at (by decide) hmo) rfl 20 (by decide) (hts (.fieldLink RX11 48 "SwornListsModel" "abouts" "[I") w_124) (fun _ h9 => h9) rfl dX11_tries_301 ?_
                        refine lv_iconst (v := 4) hx hb dX11_tries_304 (by decide) ?_
                        refine lv_iload_n hx hb dX11_tries_305 rfl (lv_at hl 2 rfl) ?_
                        refine lv_imul hx hb dX11_tries_306 ?_
                        refine my_bei (v := nI (4 * to)) (pk_mul 4 to) ?_
                        refine lv_iconst (v := 2) hx hb dX11_tries_307 (by decide) ?_
                        refine lv_iadd hx hb dX11_tries_308 ?_
                        refine my_bei (v := nI (4 * to + 2)) ((nI_add (4 * to) 2).trans (congrArg nI (show (4 * to) + 2 = 4 * to + 2 by omega))) ?_
                        refine lv_iconst (v := 0) hx hb dX11_tries_309 (by decide) ?_
                        refine va_iast hx hb hG.1 hP (wl_D hg f_9) hS 328 0 (wl_at (by decide) hax_) rfl (vp_in_nI (by omega) (by decide)) dX11_tries_310 (fun H locs hP _ hS => ?_)
                        have hP := (congrArg (fun z9 => va_P G.1 vwCl ((wl g f_9).set 328 (g 328, eI G 44 ((upd (upd (upd ax925 (4 * to) 0) (4 * to + 1) 0) z9 0)))) H) (show Int32.toNatClampNeg (nI (4 * to + 2)) = 4 * to + 2 from nI_clamp (by omega))).mp hP
                        obtain ⟨f_10, hP, e_10, o_10⟩ := b_put (by decide) hP
                        have hax_ : f_10 328 = eI G 44 (upd (upd (upd ax925 (4 * to) 0) (4 * to + 1) 0) (4 * to + 2) 0) := e_10
                        refine lv_iconst (v := 0) hx hb dX11_tries_311 (by decide) ?_
                        refine lv_istore (lv' := [(10, .int 0), (0, .ref (g 315)), (1, .int (nI t)), (2, .int (nI to)), (6, .int v1), (8, .int (v19 ||| v20)), (9, .int u)]) hx hb dX11_tries_312 hl (by decide) rfl (fun ls hl => ?_)
                        refine lv_iconst (v := 0) hx hb dX11_tries_314 (by decide) ?_
                        refine lv_istore (lv' := [(11, .int 0), (10, .int 0), (0, .ref (g 315)), (1, .int (nI t)), (2, .int (nI to)), (6, .int v1), (8, .int (v19 ||| v20)), (9, .int u)]) hx hb dX11_tries_315 hl (by decide) rfl (fun ls hl => ?_)
                        replace hmo := ((o_10 315 (by decide))).trans hmo
                        replace hss_ := ((o_10 316 (by decide)).trans ((o_9 316 (by decide)).trans ((o_8 316 (by decide))))).trans hss_
                        replace hsp_ := ((o_10 319 (by decide)).trans ((o_9 319 (by decide)).trans ((o_8 319 (by decide))))).trans hsp_
                        replace hwi_ := ((o_10 320 (by decide)).trans ((o_9 320 (by decide)).trans ((o_8 320 (by decide))))).trans hwi_
                        replace hwa_ := ((o_10 321 (by decide)).trans ((o_9 321 (by decide)).trans ((o_8 321 (by decide))))).trans hwa_
                        replace hva_ := ((o_10 322 (by decide)).trans ((o_9 322 (by decide)).trans ((o_8 322 (by decide))))).trans hva_
                        replace hbo_ := ((o_10 323 (by decide)).trans ((o_9 323 (by decide)).trans ((o_8 323 (by decide))))).trans hbo_
                        replace hju_ := ((o_10 324 (by decide)).trans ((o_9 324 (by decide)).trans ((o_8 324 (by decide))))).trans hju_
                        replace hdr_ := ((o_10 325 (by decide)).trans ((o_9 325 (by decide)).trans ((o_8 325 (by decide))))).trans hdr_
                        replace hdn_ := ((o_10 326 (by decide)).trans ((o_9 326 (by decide)).trans ((o_8 326 (by decide))))).trans hdn_
                        replace hsl_ := ((o_10 327 (by decide)).trans ((o_9 327 (by decide)).trans ((o_8 327 (by decide))))).trans hsl_
                        replace hlf_ := ((o_10 329 (by decide)).trans ((o_9 329 (by decide)).trans ((o_8 329 (by decide))))).trans hlf_
                        have key30 : ∀ (n9_30 : Nat) (th : Nat) (sd : Nat) (a0 : Nat) (a1 : Nat) (sl4 : Nat → Int32) (ax4 : Nat → Int32) (f_11 : Nat → va_E) (H : Heap) (locs : List Loc) (ls : Array Slot), (th ≤ 2) → (sd < 2) → (a0 ≤ q4) → (a1 ≤ q4) → (ax4 (4 * to + 1) = nI a0) → (ax4 (4 * to + 2) = nI a1) → 3 * (2 * q4 - a0 - a1) + (2 - th) < n9_30 → f_11 315 = eO 10 [.ref (g 316), .ref (g 317), .ref (g 318), .long ab2, .long be2, .int sn911, .ref (g 319), .ref (g 320), .int wn912, .ref (g 321), .ref (g 322), .int sa913, .int ly914, .int rdy, .int (nI fd), .ref (g 323), .ref (g 324), .ref (g 325), .ref (g 326), .ref (g 327), .ref (g 328), .ref (g 329), .ref (g 330), .ref (g 331), .ref (g 332)] → f_11 316 = eI G 2246 ss → f_11 319 = eI G 70 sp915 → f_11 320 = eI G 70 wi916 → f_11 321 = eI G 70 wa917 → f_11 322 = eJ G 70 va918 → f_11 323 = eI G 11 (upd bo to u) → f_11 324 = eI G 11 ju → f_11 325 = eI G 264 dr923 → f_11 326 = eI G 11 dn924 → f_11 327 = eI G 330 sl4 → f_11 328 = eI G 44 ax4 → f_11 329 = eI G 30 lf926 → (∀ j, (j ≠ 327 ∧ j ≠ 328) → f_11 j = f_10 j) → va_P G.1 vwCl (wl g f_11) H → va_S (gA g) s.heap H locs → lv_has ls 13 [(0, .ref (g 315)), (1, .int (nI t)), (2, .int (nI to)), (6, .int v1), (8, .int (v19 ||| v20)), (9, .int u), (10, .int (nI th)), (11, .int (nI sd))] → W p l e (headSpec (wsT yX11_tries cX11_tries 13 none) ({ frames := 5, cells := 0, slots := 0, locals := 120 })).room s m ([.ref (g 315), .int (nI t), .int (nI to), .int (nI xt), .int sb] : List Value).toArray below meth c H locs 0 0 (MQ below (bQv G g (fun (f' : Nat → va_E) => ∃ sn9 : Int32, ∃ wn9 : Int32, ∃ sa9 : Int32, ∃ ly9 : Int32, ∃ sp9 : Nat → Int32, ∃ wi9 : Nat → Int32, ∃ wa9 : Nat → Int32, ∃ va9 : Nat → Int64, ∃ bo9 : Nat → Int32, ∃ ju9 : Nat → Int32, ∃ dr9 : Nat → Int32, ∃ dn9 : Nat → Int32, ∃ sl9 : Nat → Int32, ∃ ax9 : Nat → Int32, ∃ lf9 : Nat → Int32, f' 315 = eO 10 [.ref (g 316), .ref (g 317), .ref (g 318), .long ab2, .long be2, .int sn9, .ref (g 319), .ref (g 320), .int wn9, .ref (g 321), .ref (g 322), .int sa9, .int ly9, .int rdy, .int (nI fd), .ref (g 323), .ref (g 324), .ref (g 325), .ref (g 326), .ref (g 327), .ref (g 328), .ref (g 329), .ref (g 330), .ref (g 331), .ref (g 332)] ∧ f' 319 = eI G 70 sp9 ∧ f' 320 = eI G 70 wi9 ∧ f' 321 = eI G 70 wa9 ∧ f' 322 = eJ G 70 va9 ∧ f' 323 = eI G 11 bo9 ∧ f' 324 = eI G 11 ju9 ∧ f' 325 = eI G 264 dr9 ∧ f' 326 = eI G 11 dn9 ∧ f' 327 = eI G 330 sl9 ∧ f' 328 = eI G 44 ax9 ∧ f' 329 = eI G 30 lf9 ∧ (∀ k, k < 11 → ∃ d, d ≤ 24 ∧ dn9 k = nI d) ∧ ∀ j, (j < 315 ∨ (316 ≤ j ∧ j ≤ 318) ∨ 330 ≤ j) → f' j = f j)) ([.ref (g 315), .int (nI t), .int (nI to), .int (nI xt), .int sb] : List Value).toArray s 0 0 (gA g)) (F0 m 317 ls []) := by
                          intro n9_30
                          induction n9_30 with
                          | zero => intro th sd a0 a1 sl4 ax4 f_11 H locs ls hth hsd hq0 hq1 ha0 ha1 hn9_30; exact absurd hn9_30 (Nat.not_lt_zero _)
                          | succ n9_30 ih_30 =>
                            intro th sd a0 a1 sl4 ax4 f_11 H locs ls hth hsd hq0 hq1 ha0 ha1 hn9_30 hmo hss_ hsp_ hwi_ hwa_ hva_ hbo_ hju_ hdr_ hdn_ hsl_ hax_ hlf_ o_11 hP hS hl
                            refine lv_iload hx hb dX11_tries_317 (lv_at hl 6 rfl) ?_
                            refine lv_iconst (v := 2) hx hb dX11_tries_319 (by decide) ?_
                            refine lv_icmp_ge (tgt := 397) hx hb dX11_tries_320 (by decide) (fun c_320 => ?_) (fun c_320 => ?_)
                            · have k_320 : 2 ≤ th := (nI_leI (a := 2) (b := th) (by omega) (by omega)).mp c_320
                              refine lv_aload_n hx hb dX11_tries_397 rfl (lv_at hl 0 rfl) ?_
                              refine lv_iload_n hx hb dX11_tries_398 rfl (lv_at hl 1 rfl) ?_
                              refine lv_iload_n hx hb dX11_tries_399 rfl (lv_at hl 2 rfl) ?_
                              refine lv_iload hx hb dX11_tries_400 (lv_at hl 3 rfl) ?_
                              refine lv_iload hx hb dX11_tries_402 (lv_at hl 5 rfl) ?_
                              refine lv_iconst (v := (-1)) hx hb dX11_tries_404 (by decide) ?_
                              refine lv_ixor hx hb dX11_tries_405 ?_
                              refine lv_iand hx hb dX11_tries_406 ?_
                              refine lv_iload hx hb dX11_tries_407 (lv_at hl 4 rfl) ?_
                              refine lv_iconst (v := (-1)) hx hb dX11_tries_409 (by decide) ?_
                              refine lv_ixor hx hb dX11_tries_410 ?_
                              refine lv_iand hx hb dX11_tries_411 ?_
                              refine b_callv (va_runV (As := [.int (nI t), .int (nI to), .int ((v1 &&& (u ^^^ (-1))) &&& ((v19 ||| v20) ^^^ (-1)))]) (rest := []) ⟨hx, hb, hml, hown, hts⟩ (r_seats l G g hg f_11 ab2 be2 sn911 wn912 sa913 ly914 rdy (nI fd) ss ju dr923 dn924 sl4 ax4 t to d927 ((v1 &&& (u ^^^ (-1))) &&& ((v19 ||| v20) ^^^ (-1))) hmo hss_ hju_ hdr_ hdn_ hsl_ hax_ (by first | assumption | omega | decide) (by first | assumption | omega | decide) (hx_5_0) (by first | assumption | omega | decide) (hx_5_3)) (my_cwV hts ok_X11_seats w_580 rfl rfl ⟨Nat.le_of_ble_eq_true rfl, Nat.le_of_ble_eq_true rfl⟩) ⟨bP.blind, va_recv hG.1 hP (ci := 10) (q0 := 315) rfl (wl_at (by decide) hmo), fun U hU hW => ⟨rfl, by rw [hU]; exact hP, kG.warm hW hG⟩⟩ rfl rfl hl.1 rfl (lv_room (Nat.le_of_ble_eq_true rfl)) dX11_tries_412 ⟨Nat.le_of_ble_eq_true rfl, Nat.le_of_ble_eq_true rfl⟩) hS (fun f_12 H locs hq9 hP hS => ?_)
                              obtain ⟨ju931, sl932, ax933, hq_12_0, hq_12_1, hq_12_2, o_12⟩ := hq9
                              have hju_ : f_12 324 = eI G 11 ju931 := hq_12_0
                              have hsl_ : f_12 327 = eI G 330 sl932 := hq_12_1
                              have hax_ : f_12 328 = eI G 44 ax933 := hq_12_2
                              replace hmo := ((o_12 315 (by first | decide | omega))).trans hmo
                              replace hsp_ := ((o_12 319 (by first | decide | omega))).trans hsp_
                              replace hwi_ := ((o_12 320 (by first | decide | omega))).trans hwi_
                              replace hwa_ := ((o_12 321 (by first | decide | omega))).trans hwa_
                              replace hva_ := ((o_12 322 (by first | decide | omega))).trans hva_
                              replace hbo_ := ((o_12 323 (by first | decide | omega))).trans hbo_
                              replace hdr_ := ((o_12 325 (by first | decide | omega))).trans hdr_
                              replace hdn_ := ((o_12 326 (by first | decide | omega))).trans hdn_
                              replace hlf_ := ((o_12 329 (by first | decide | omega))).trans hlf_
                              exact W.vret hx hb hr (fun t ht hW => ⟨⟨f_12, rfl, (⟨sn911, wn912, sa913, ly914, sp915, wi916, wa917, va918, (upd bo to u), ju931, dr923, dn924, sl932, ax933, lf926, hmo, hsp_, hwi_, hwa_, hva_, hbo_, hju_, hdr_, hdn_, hsl_, hax_, hlf_, dn_new hdn hx_5_0 hx_5_1 hx_5_2, fun j hj => ((((((((((((o_12 j (by omega))).trans (o_11 j (by omega))).trans (o_10 j (by omega))).trans (o_9 j (by omega))).trans (o_8 j (by omega))).trans (o_7 j (by omega))).trans (o_6 j (by omega))).trans (o_5 j (by omega))).trans (o_4 j (by omega))).trans (o_3 j (by omega))).trans (o_2 j (by omega))).trans (o_1 j (by omega))⟩), by rw [ht]; exact hP⟩, hS.F ht⟩) hS.2.2 dX11_tries_415
                            · have k_320 : ¬ 2 ≤ th := fun z9 => c_320 ((nI_leI (a := 2) (b := th) (by omega) (by omega)).mpr z9)
                              rcases (show sd = 0 ∨ sd = 1 by omega) with rfl | rfl
                              · refine lv_aload_n hx hb dX11_tries_323 rfl (lv_at hl 0 rfl) ?_
                                refine lv_iload_n hx hb dX11_tries_324 rfl (lv_at hl 1 rfl) ?_
                                refine lv_iload_n hx hb dX11_tries_325 rfl (lv_at hl 2 rfl) ?_
                                refine lv_iload hx hb dX11_tries_326 (lv_at hl 7 rfl) ?_
                                refine rd_calli (va_runV (As := [.int (nI t), .int (nI to), .int 0]) (rest := []) ⟨hx, hb, hml, hown, hts⟩ (r_strikes l G g hg f_11 ab2 be2 sn911 wn912 sa913 ly914 rdy (nI fd) ss np nf nr na nt dr923 dn924 sl4 ax4 t to 0 a0 d927 q4 hmo hss_ hdr_ hdn_ hsl_ hax_ (by first | assumption | omega | decide) (by first | assumption | omega | decide) (by first | assumption | omega | decide) (by first | assumption | omega | decide) (by first | assumption | omega | decide) (by rw [show 0 + 4 * to + 1 = 4 * to + 1 by omega]; exact ha0) (hx_5_0) (by first | assumption | omega | decide) (hx_5_3) (by first | assumption | omega | decide) (hs4)) (my_cwV hts ok_X11_strikes w_576 rfl rfl ⟨Nat.le_of_ble_eq_true rfl, Nat.le_of_ble_eq_true rfl⟩) ⟨bP.blind, va_recv hG.1 hP (ci := 10) (q0 := 315) rfl (wl_at (by decide) hmo), fun U hU hW => ⟨rfl, by rw [hU]; exact hP, kG.warm hW hG⟩⟩ rfl rfl hl.1 rfl (lv_room (Nat.le_of_ble_eq_true rfl)) dX11_tries_328 ⟨Nat.le_of_ble_eq_true rfl, Nat.le_of_ble_eq_true rfl⟩) (fun r hr9 => ?_)
                                obtain ⟨o934, rfl, hx_13_0, hx_13_1⟩ := hr9
                                refine lv_istore (lv' := [(12, .int (fo o934)), (0, .ref (g 315)), (1, .int (nI t)), (2, .int (nI to)), (6, .int v1), (8, .int (v19 ||| v20)), (9, .int u), (10, .int (nI th)), (11, .int 0)]) hx hb dX11_tries_331 hl (by decide) rfl (fun ls hl => ?_)
                                refine lv_iload hx hb dX11_tries_333 (lv_at hl 0 rfl) ?_
                                refine lv_iconst (v := (-1)) hx hb dX11_tries_335 (by decide) ?_
                                refine lv_icmp_ne (tgt := 346) hx hb dX11_tries_336 (by decide) (fun c_336 => ?_) (fun c_336 => ?_)
                                · refine lv_iconst (v := 0) hx hb dX11_tries_346 (by decide) ?_
                                  refine lv_istore (lv' := [(10, .int 0), (12, .int (fo o934)), (0, .ref (g 315)), (1, .int (nI t)), (2, .int (nI to)), (6, .int v1), (8, .int (v19 ||| v20)), (9, .int u), (11, .int 0)]) hx hb dX11_tries_347 hl (by decide) rfl (fun ls hl => ?_)
                                  refine lv_iload hx hb dX11_tries_349 (lv_at hl 1 rfl) ?_
                                  refine lv_iconst (v := (-1)) hx hb dX11_tries_351 (by decide) ?_
                                  refine lv_icmp_eq (tgt := 388) hx hb dX11_tries_352 (by decide) (fun c_352 => absurd c_352 (c_336)) (fun c_352 => ?_)
                                  obtain ⟨z5, rfl⟩ : ∃ b, o934 = some b := by
                                    cases o934 with
                                    | none => exact absurd rfl c_336
                                    | some z => exact ⟨z, rfl⟩
                                  have hz5 := hx_13_0 z5 rfl
                                  have hlt5 : a0 ≠ q4 := fun z => by cases hx_13_1 z
                                  refine lv_aload_n hx hb dX11_tries_355 rfl (lv_at hl 2 rfl) ?_
                                  refine va_get (D := G.1) (ci := 10) (v := .ref (g 327)) (C := RX11) (T := TX11) (N := 25) hx hb hts inlX11 hown hG.1 hP 315 (wl_at (by decide) hmo) rfl 19 (by decide) (hts (.fieldLink RX11 45 "SwornListsModel" "slips" "[I") w_123) (fun _ h9 => h9) rfl dX11_tries_356 ?_
                                  refine lv_bipush (v := 30) hx hb dX11_tries_359 (by decide) ?_
                                  refine lv_iload_n hx hb dX11_tries_361 rfl (lv_at hl 4 rfl) ?_
                                  refine lv_imul hx hb dX11_tries_362 ?_
                                  refine my_bei (v := nI (30 * to)) (pk_mul 30 to) ?_
                                  refine lv_iload hx hb dX11_tries_363 (lv_at hl 1 rfl) ?_
                                  refine lv_iadd hx hb dX11_tries_365 ?_
                                  refine my_bei (v := nI (30 * to + z5)) ((nI_add (30 * to) z5).trans (congrArg nI (show (30 * to) + z5 = 30 * to + z5 by omega))) ?_
                                  refine lv_iconst (v := 3) hx hb dX11_tries_366 (by decide) ?_
                                  refine lv_iload hx hb dX11_tries_367 (lv_at hl 8 rfl) ?_
                                  refine lv_iadd hx hb dX11_tries_369 ?_
                                  refine my_bei (v := 3) (by decide) ?_
                                  refine va_iast hx hb hG.1 hP (wl_D hg f_11) hS 327 0 (wl_at (by decide) hsl_) rfl (vp_in_nI (by omega) (by decide)) dX11_tries_370 (fun H locs hP _ hS => ?_)
                                  have hP := (congrArg (fun z9 => va_P G.1 vwCl ((wl g f_11).set 327 (g 327, eI G 330 ((upd sl4 z9 3)))) H) (show Int32.toNatClampNeg (nI (30 * to + z5)) = 30 * to + z5 from nI_clamp (by omega))).mp hP
                                  obtain ⟨f_14, hP, e_14, o_14⟩ := b_put (by decide) hP
                                  have hsl_ : f_14 327 = eI G 330 (upd sl4 (30 * to + z5) 3) := e_14
                                  refine lv_aload_n hx hb dX11_tries_371 rfl (lv_at hl 2 rfl) ?_
                                  replace hmo := ((o_14 315 (by decide))).trans hmo
                                  refine va_get (D := G.1) (ci := 10) (v := .ref (g 328)) (C := RX11) (T := TX11) (N := 25) hx hb hts inlX11 hown hG.1 hP 315 (wl_at (by decide) hmo) rfl 20 (by decide) (hts (.fieldLink RX11 48 "SwornListsModel" "abouts" "[I") w_124) (fun _ h9 => h9) rfl dX11_tries_372 ?_
                                  refine lv_iconst (v := 4) hx hb dX11_tries_375 (by decide) ?_
                                  refine lv_iload_n hx hb dX11_tries_376 rfl (lv_at hl 4 rfl) ?_
                                  refine lv_imul hx hb dX11_tries_377 ?_
                                  refine my_bei (v := nI (4 * to)) (pk_mul 4 to) ?_
                                  refine lv_iconst (v := 1) hx hb dX11_tries_378 (by decide) ?_
                                  refine lv_iadd hx hb dX11_tries_379 ?_
                                  refine my_bei (v := nI (4 * to + 1)) ((nI_add (4 * to) 1).trans (congrArg nI (show (4 * to) + 1 = 4 * to + 1 by omega))) ?_
                                  refine lv_iload hx hb dX11_tries_380 (lv_at hl 8 rfl) ?_
                                  refine lv_iadd hx hb dX11_tries_382 ?_
                                  refine my_bei (v := nI (4 * to + 1)) ((nI_add (4 * to + 1) 0).trans (congrArg nI (show (4 * to + 1) + 0 = 4 * to + 1 by omega))) ?_
                                  refine lv_dup2_11 hx hb dX11_tries_383 rfl rfl ?_
                                  replace hax_ := ((o_14 328 (by decide))).trans hax_
                                  refine va_iald hx hb hG.1 hP 328 0 (wl_at (by decide) hax_) rfl (vp_in_nI (by omega) (by decide)) dX11_tries_384 ?_
                                  refine my_bei (v := ax4 (4 * to + 1)) (congrArg ax4 (nI_clamp (n := 4 * to + 1) (by omega))) ?_
                                  refine my_bei (v := nI a0) (ha0) ?_
                                  refine lv_iconst (v := 1) hx hb dX11_tries_385 (by decide) ?_
                                  refine lv_iadd hx hb dX11_tries_386 ?_
                                  refine my_bei (v := nI (a0 + 1)) (nI_add a0 1) ?_
                                  refine va_iast hx hb hG.1 hP (wl_D hg f_14) hS 328 0 (wl_at (by decide) hax_) rfl (vp_in_nI (by omega) (by decide)) dX11_tries_387 (fun H locs hP _ hS => ?_)
                                  have hP := (congrArg (fun z9 => va_P G.1 vwCl ((wl g f_14).set 328 (g 328, eI G 44 ((upd ax4 z9 (nI (a0 + 1)))))) H) (show Int32.toNatClampNeg (nI (4 * to + 1)) = 4 * to + 1 from nI_clamp (by omega))).mp hP
                                  obtain ⟨f_15, hP, e_15, o_15⟩ := b_put (by decide) hP
                                  have hax_ : f_15 328 = eI G 44 (upd ax4 (4 * to + 1) (nI (a0 + 1))) := e_15
                                  refine lv_iconst (v := 1) hx hb dX11_tries_388 (by decide) ?_
                                  refine lv_iload hx hb dX11_tries_389 (lv_at hl 8 rfl) ?_
                                  refine lv_isub hx hb dX11_tries_391 ?_
                                  refine my_bei (v := 1) (by decide) ?_
                                  refine lv_istore (lv' := [(11, .int 1), (10, .int 0), (12, .int (nI z5)), (0, .ref (g 315)), (1, .int (nI t)), (2, .int (nI to)), (6, .int v1), (8, .int (v19 ||| v20)), (9, .int u)]) hx hb dX11_tries_392 hl (by decide) rfl (fun ls hl => ?_)
                                  refine lv_goto (tgt := 317) hx hb dX11_tries_394 (by decide) ?_
                                  replace hmo := ((o_15 315 (by decide))).trans hmo
                                  replace hss_ := ((o_15 316 (by decide)).trans ((o_14 316 (by decide)))).trans hss_
                                  replace hsp_ := ((o_15 319 (by decide)).trans ((o_14 319 (by decide)))).trans hsp_
                                  replace hwi_ := ((o_15 320 (by decide)).trans ((o_14 320 (by decide)))).trans hwi_
                                  replace hwa_ := ((o_15 321 (by decide)).trans ((o_14 321 (by decide)))).trans hwa_
                                  replace hva_ := ((o_15 322 (by decide)).trans ((o_14 322 (by decide)))).trans hva_
                                  replace hbo_ := ((o_15 323 (by decide)).trans ((o_14 323 (by decide)))).trans hbo_
                                  replace hju_ := ((o_15 324 (by decide)).trans ((o_14 324 (by decide)))).trans hju_
                                  replace hdr_ := ((o_15 325 (by decide)).trans ((o_14 325 (by decide)))).trans hdr_
                                  replace hdn_ := ((o_15 326 (by decide)).trans ((o_14 326 (by decide)))).trans hdn_
                                  replace hsl_ := ((o_15 327 (by decide))).trans hsl_
                                  replace hlf_ := ((o_15 329 (by decide)).trans ((o_14 329 (by decide)))).trans hlf_
                                  exact ih_30 0 1 (a0 + 1) a1 (upd sl4 (30 * to + z5) 3) (upd ax4 (4 * to + 1) (nI (a0 + 1))) f_15 _ _ _ (by omega) (by omega) (by omega) (by omega) (pk_us) ((pk_un (by omega)).trans ha1) (by omega) (hmo) (hss_) (hsp_) (hwi_) (hwa_) (hva_) (hbo_) (hju_) (hdr_) (hdn_) (hsl_) (hax_) (hlf_) (fun j hj => (((o_15 j (by omega))).trans (o_14 j (by omega))).trans (o_11 j (by omega))) hP hS (lv_sub hl [3, 4, 5, 6, 7, 8, 1, 0] rfl)
                                · refine lv_iload hx hb dX11_tries_339 (lv_at hl 7 rfl) ?_
                                  refine lv_iconst (v := 1) hx hb dX11_tries_341 (by decide) ?_
                                  refine lv_iadd hx hb dX11_tries_342 ?_
                                  refine my_bei (v := nI (th + 1)) (nI_add th 1) ?_
                                  refine lv_goto (tgt := 347) hx hb dX11_tries_343 (by decide) ?_
                                  refine lv_istore (lv' := [(10, .int (nI (th + 1))), (12, .int (fo o934)), (0, .ref (g 315)), (1, .int (nI t)), (2, .int (nI to)), (6, .int v1), (8, .int (v19 ||| v20)), (9, .int u), (11, .int 0)]) hx hb dX11_tries_347 hl (by decide) rfl (fun ls hl => ?_)
                                  refine lv_iload hx hb dX11_tries_349 (lv_at hl 1 rfl) ?_
                                  refine lv_iconst (v := (-1)) hx hb dX11_tries_351 (by decide) ?_
                                  refine lv_icmp_eq (tgt := 388) hx hb dX11_tries_352 (by decide) (fun c_352 => ?_) (fun c_352 => absurd (c_336) c_352)
                                  refine lv_iconst (v := 1) hx hb dX11_tries_388 (by decide) ?_
                                  refine lv_iload hx hb dX11_tries_389 (lv_at hl 8 rfl) ?_
                                  refine lv_isub hx hb dX11_tries_391 ?_
                                  refine my_bei (v := 1) (by decide) ?_
                                  refine lv_istore (lv' := [(11, .int 1), (10, .int (nI (th + 1))), (12, .int (fo o934)), (0, .ref (g 315)), (1, .int (nI t)), (2, .int (nI to)), (6, .int v1), (8, .int (v19 ||| v20)), (9, .int u)]) hx hb dX11_tries_392 hl (by decide) rfl (fun ls hl => ?_)
                                  refine lv_goto (tgt := 317) hx hb dX11_tries_394 (by decide) ?_
                                  exact ih_30 (th + 1) 1 a0 a1 sl4 ax4 f_11 _ _ _ (by omega) (by omega) (by omega) (by omega) (ha0) (ha1) (by omega) (hmo) (hss_) (hsp_) (hwi_) (hwa_) (hva_) (hbo_) (hju_) (hdr_) (hdn_) (hsl_) (hax_) (hlf_) (fun j hj => (o_11 j (by omega))) hP hS (lv_sub hl [3, 4, 5, 6, 7, 8, 1, 0] rfl)
                              · refine lv_aload_n hx hb dX11_tries_323 rfl (lv_at hl 0 rfl) ?_
                                refine lv_iload_n hx hb dX11_tries_324 rfl (lv_at hl 1 rfl) ?_
                                refine lv_iload_n hx hb dX11_tries_325 rfl (lv_at hl 2 rfl) ?_
                                refine lv_iload hx hb dX11_tries_326 (lv_at hl 7 rfl) ?_
                                refine rd_calli (va_runV (As := [.int (nI t), .int (nI to), .int 1]) (rest := []) ⟨hx, hb, hml, hown, hts⟩ (r_strikes l G g hg f_11 ab2 be2 sn911 wn912 sa913 ly914 rdy (nI fd) ss np nf nr na nt dr923 dn924 sl4 ax4 t to 1 a1 d927 q4 hmo hss_ hdr_ hdn_ hsl_ hax_ (by first | assumption | omega | decide) (by first | assumption | omega | decide) (by first | assumption | omega | decide) (by first | assumption | omega | decide) (by first | assumption | omega | decide) (by rw [show 1 + 4 * to + 1 = 4 * to + 2 by omega]; exact ha1) (hx_5_0) (by first | assumption | omega | decide) (hx_5_3) (by first | assumption | omega | decide) (hs4)) (my_cwV hts ok_X11_strikes w_576 rfl rfl ⟨Nat.le_of_ble_eq_true rfl, Nat.le_of_ble_eq_true rfl⟩) ⟨bP.blind, va_recv hG.1 hP (ci := 10) (q0 := 315) rfl (wl_at (by decide) hmo), fun U hU hW => ⟨rfl, by rw [hU]; exact hP, kG.warm hW hG⟩⟩ rfl rfl hl.1 rfl (lv_room (Nat.le_of_ble_eq_true rfl)) dX11_tries_328 ⟨Nat.le_of_ble_eq_true rfl, Nat.le_of_ble_eq_true rfl⟩) (fun r hr9 => ?_)
                                obtain ⟨o935, rfl, hx_16_0, hx_16_1⟩ := hr9
                                refine lv_istore (lv' := [(12, .int (fo o935)), (0, .ref (g 315)), (1, .int (nI t)), (2, .int (nI to)), (6, .int v1), (8, .int (v19 ||| v20)), (9, .int u), (10, .int (nI th)), (11, .int 1)]) hx hb dX11_tries_331 hl (by decide) rfl (fun ls hl => ?_)
                                refine lv_iload hx hb dX11_tries_333 (lv_at hl 0 rfl) ?_
                                refine lv_iconst (v := (-1)) hx hb dX11_tries_335 (by decide) ?_
                                refine lv_icmp_ne (tgt := 346) hx hb dX11_tries_336 (by decide) (fun c_336 => ?_) (fun c_336 => ?_)
                                · refine lv_iconst (v := 0) hx hb dX11_tries_346 (by decide) ?_
                                  refine lv_istore (lv' := [(10, .int 0), (12, .int (fo o935)), (0, .ref (g 315)), (1, .int (nI t)), (2, .int (nI to)), (6, .int v1), (8, .int (v19 ||| v20)), (9, .int u), (11, .int 1)]) hx hb dX11_tries_347 hl (by decide) rfl (fun ls hl => ?_)
                                  refine lv_iload hx hb dX11_tries_349 (lv_at hl 1 rfl) ?_
                                  refine lv_iconst (v := (-1)) hx hb dX11_tries_351 (by decide) ?_
                                  refine lv_icmp_eq (tgt := 388) hx hb dX11_tries_352 (by decide) (fun c_352 => absurd c_352 (c_336)) (fun c_352 => ?_)
                                  obtain ⟨z5, rfl⟩ : ∃ b, o935 = some b := by
                                    cases o935 with
                                    | none => exact absurd rfl c_336
                                    | some z => exact ⟨z, rfl⟩
                                  have hz5 := hx_16_0 z5 rfl
                                  have hlt5 : a1 ≠ q4 := fun z => by cases hx_16_1 z
                                  refine lv_aload_n hx hb dX11_tries_355 rfl (lv_at hl 2 rfl) ?_
                                  refine va_get (D := G.1) (ci := 10) (v := .ref (g 327)) (C := RX11) (T := TX11) (N := 25) hx hb hts inlX11 hown hG.1 hP 315 (wl_at (by decide) hmo) rfl 19 (by decide) (hts (.fieldLink RX11 45 "SwornListsModel" "slips" "[I") w_123) (fun _ h9 => h9) rfl dX11_tries_356 ?_
                                  refine lv_bipush (v := 30) hx hb dX11_tries_359 (by decide) ?_
                                  refine lv_iload_n hx hb dX11_tries_361 rfl (lv_at hl 4 rfl) ?_
                                  refine lv_imul hx hb dX11_tries_362 ?_
                                  refine my_bei (v := nI (30 * to)) (pk_mul 30 to) ?_
                                  refine lv_iload hx hb dX11_tries_363 (lv_at hl 1 rfl) ?_
                                  refine lv_iadd hx hb dX11_tries_365 ?_
                                  refine my_bei (v := nI (30 * to + z5)) ((nI_add (30 * to) z5).trans (congrArg nI (show (30 * to) + z5 = 30 * to + z5 by omega))) ?_
                                  refine lv_iconst (v := 3) hx hb dX11_tries_366 (by decide) ?_
                                  refine lv_iload hx hb dX11_tries_367 (lv_at hl 8 rfl) ?_
                                  refine lv_iadd hx hb dX11_tries_369 ?_
                                  refine my_bei (v := 4) (by decide) ?_
                                  refine va_iast hx hb hG.1 hP (wl_D hg f_11) hS 327 0 (wl_at (by decide) hsl_) rfl (vp_in_nI (by omega) (by decide)) dX11_tries_370 (fun H locs hP _ hS => ?_)
                                  have hP := (congrArg (fun z9 => va_P G.1 vwCl ((wl g f_11).set 327 (g 327, eI G 330 ((upd sl4 z9 4)))) H) (show Int32.toNatClampNeg (nI (30 * to + z5)) = 30 * to + z5 from nI_clamp (by omega))).mp hP
                                  obtain ⟨f_17, hP, e_17, o_17⟩ := b_put (by decide) hP
                                  have hsl_ : f_17 327 = eI G 330 (upd sl4 (30 * to + z5) 4) := e_17
                                  refine lv_aload_n hx hb dX11_tries_371 rfl (lv_at hl 2 rfl) ?_
                                  replace hmo := ((o_17 315 (by decide))).trans hmo
                                  refine va_get (D := G.1) (ci := 10) (v := .ref (g 328)) (C := RX11) (T := TX11) (N := 25) hx hb hts inlX11 hown hG.1 hP 315 (wl_at (by decide) hmo) rfl 20 (by decide) (hts (.fieldLink RX11 48 "SwornListsModel" "abouts" "[I") w_124) (fun _ h9 => h9) rfl dX11_tries_372 ?_
                                  refine lv_iconst (v := 4) hx hb dX11_tries_375 (by decide) ?_
                                  refine lv_iload_n hx hb dX11_tries_376 rfl (lv_at hl 4 rfl) ?_
                                  refine lv_imul hx hb dX11_tries_377 ?_
                                  refine my_bei (v := nI (4 * to)) (pk_mul 4 to) ?_
                                  refine lv_iconst (v := 1) hx hb dX11_tries_378 (by decide) ?_
                                  refine lv_iadd hx hb dX11_tries_379 ?_
                                  refine my_bei (v := nI (4 * to + 1)) ((nI_add (4 * to) 1).trans (congrArg nI (show (4 * to) + 1 = 4 * to + 1 by omega))) ?_
                                  refine lv_iload hx hb dX11_tries_380 (lv_at hl 8 rfl) ?_
                                  refine lv_iadd hx hb dX11_tries_382 ?_
                                  refine my_bei (v := nI (4 * to + 2)) ((nI_add (4 * to + 1) 1).trans (congrArg nI (show (4 * to + 1) + 1 = 4 * to + 2 by omega))) ?_
                                  refine lv_dup2_11 hx hb dX11_tries_383 rfl rfl ?_
                                  replace hax_ := ((o_17 328 (by decide))).trans hax_
                                  refine va_iald hx hb hG.1 hP 328 0 (wl_at (by decide) hax_) rfl (vp_in_nI (by omega) (by decide)) dX11_tries_384 ?_
                                  refine my_bei (v := ax4 (4 * to + 2)) (congrArg ax4 (nI_clamp (n := 4 * to + 2) (by omega))) ?_
                                  refine my_bei (v := nI a1) (ha1) ?_
                                  refine lv_iconst (v := 1) hx hb dX11_tries_385 (by decide) ?_
                                  refine lv_iadd hx hb dX11_tries_386 ?_
                                  refine my_bei (v := nI (a1 + 1)) (nI_add a1 1) ?_
                                  refine va_iast hx hb hG.1 hP (wl_D hg f_17) hS 328 0 (wl_at (by decide) hax_) rfl (vp_in_nI (by omega) (by decide)) dX11_tries_387 (fun H locs hP _ hS => ?_)
                                  have hP := (congrArg (fun z9 => va_P G.1 vwCl ((wl g f_17).set 328 (g 328, eI G 44 ((upd ax4 z9 (nI (a1 + 1)))))) H) (show Int32.toNatClampNeg (nI (4 * to + 2)) = 4 * to + 2 from nI_clamp (by omega))).mp hP
                                  obtain ⟨f_18, hP, e_18, o_18⟩ := b_put (by decide) hP
                                  have hax_ : f_18 328 = eI G 44 (upd ax4 (4 * to + 2) (nI (a1 + 1))) := e_18
                                  refine lv_iconst (v := 1) hx hb dX11_tries_388 (by decide) ?_
                                  refine lv_iload hx hb dX11_tries_389 (lv_at hl 8 rfl) ?_
                                  refine lv_isub hx hb dX11_tries_391 ?_
                                  refine my_bei (v := 0) (by decide) ?_
                                  refine lv_istore (lv' := [(11, .int 0), (10, .int 0), (12, .int (nI z5)), (0, .ref (g 315)), (1, .int (nI t)), (2, .int (nI to)), (6, .int v1), (8, .int (v19 ||| v20)), (9, .int u)]) hx hb dX11_tries_392 hl (by decide) rfl (fun ls hl => ?_)
                                  refine lv_goto (tgt := 317) hx hb dX11_tries_394 (by decide) ?_
                                  replace hmo := ((o_18 315 (by decide))).trans hmo
                                  replace hss_ := ((o_18 316 (by decide)).trans ((o_17 316 (by decide)))).trans hss_
                                  replace hsp_ := ((o_18 319 (by decide)).trans ((o_17 319 (by decide)))).trans hsp_
                                  replace hwi_ := ((o_18 320 (by decide)).trans ((o_17 320 (by decide)))).trans hwi_
                                  replace hwa_ := ((o_18 321 (by decide)).trans ((o_17 321 (by decide)))).trans hwa_
                                  replace hva_ := ((o_18 322 (by decide)).trans ((o_17 322 (by decide)))).trans hva_
                                  replace hbo_ := ((o_18 323 (by decide)).trans ((o_17 323 (by decide)))).trans hbo_
                                  replace hju_ := ((o_18 324 (by decide)).trans ((o_17 324 (by decide)))).trans hju_
                                  replace hdr_ := ((o_18 325 (by decide)).trans ((o_17 325 (by decide)))).trans hdr_
                                  replace hdn_ := ((o_18 326 (by decide)).trans ((o_17 326 (by decide)))).trans hdn_
                                  replace hsl_ := ((o_18 327 (by decide))).trans hsl_
                                  replace hlf_ := ((o_18 329 (by decide)).trans ((o_17 329 (by decide)))).trans hlf_
                                  exact ih_30 0 0 a0 (a1 + 1) (upd sl4 (30 * to + z5) 4) (upd ax4 (4 * to + 2) (nI (a1 + 1))) f_18 _ _ _ (by omega) (by omega) (by omega) (by omega) ((pk_un (by omega)).trans ha0) (pk_us) (by omega) (hmo) (hss_) (hsp_) (hwi_) (hwa_) (hva_) (hbo_) (hju_) (hdr_) (hdn_) (hsl_) (hax_) (hlf_) (fun j hj => (((o_18 j (by omega))).trans (o_17 j (by omega))).trans (o_11 j (by omega))) hP hS (lv_sub hl [3, 4, 5, 6, 7, 8, 1, 0] rfl)
                                · refine lv_iload hx hb dX11_tries_339 (lv_at hl 7 rfl) ?_
                                  refine lv_iconst (v := 1) hx hb dX11_tries_341 (by decide) ?_
                                  refine lv_iadd hx hb dX11_tries_342 ?_
                                  refine my_bei (v := nI (th + 1)) (nI_add th 1) ?_
                                  refine lv_goto (tgt := 347) hx hb dX11_tries_343 (by decide) ?_
                                  refine lv_istore (lv' := [(10, .int (nI (th + 1))), (12, .int (fo o935)), (0, .ref (g 315)), (1, .int (nI t)), (2, .int (nI to)), (6, .int v1), (8, .int (v19 ||| v20)), (9, .int u), (11, .int 1)]) hx hb dX11_tries_347 hl (by decide) rfl (fun ls hl => ?_)
                                  refine lv_iload hx hb dX11_tries_349 (lv_at hl 1 rfl) ?_
                                  refine lv_iconst (v := (-1)) hx hb dX11_tries_351 (by decide) ?_
                                  refine lv_icmp_eq (tgt := 388) hx hb dX11_tries_352 (by decide) (fun c_352 => ?_) (fun c_352 => absurd (c_336) c_352)
                                  refine lv_iconst (v := 1) hx hb dX11_tries_388 (by decide) ?_
                                  refine lv_iload hx hb dX11_tries_389 (lv_at hl 8 rfl) ?_
                                  refine lv_isub hx hb dX11_tries_391 ?_
                                  refine my_bei (v := 0) (by decide) ?_
                                  refine lv_istore (lv' := [(11, .int 0), (10, .int (nI (th + 1))), (12, .int (fo o935)), (0, .ref (g 315)), (1, .int (nI t)), (2, .int (nI to)), (6, .int v1), (8, .int (v19 ||| v20)), (9, .int u)]) hx hb dX11_tries_392 hl (by decide) rfl (fun ls hl => ?_)
                                  refine lv_goto (tgt := 317) hx hb dX11_tries_394 (by decide) ?_
                                  exact ih_30 (th + 1) 0 a0 a1 sl4 ax4 f_11 _ _ _ (by omega) (by omega) (by omega) (by omega) (ha0) (ha1) (by omega) (hmo) (hss_) (hsp_) (hwi_) (hwa_) (hva_) (hbo_) (hju_) (hdr_) (hdn_) (hsl_) (hax_) (hlf_) (fun j hj => (o_11 j (by omega))) hP hS (lv_sub hl [3, 4, 5, 6, 7, 8, 1, 0] rfl)
                        exact key30 ((3 * (2 * q4) + 2) + 1) 0 0 0 0 sl3 (upd (upd (upd ax925 (4 * to) 0) (4 * to + 1) 0) (4 * to + 2) 0) f_10 _ _ _ (Nat.zero_le _) (by omega) (Nat.zero_le _) (Nat.zero_le _) ((pk_un (by omega)).trans pk_us) (pk_us) (by omega) (hmo) (hss_) (hsp_) (hwi_) (hwa_) (hva_) (hbo_) (hju_) (hdr_) (hdn_) (hsl_) (hax_) (hlf_) (fun j _ => rfl) hP hS (lv_sub hl [2, 3, 4, 5, 6, 7, 1, 0] rfl)
                      · have k_223 : ¬ d927 ≤ i3 := fun z9 => c_223 ((nI_leI (a := d927) (b := i3) (by omega) (by omega)).mpr z9)
                        refine lv_aload_n hx hb dX11_tries_226 rfl (lv_at hl 0 rfl) ?_
                        refine va_get (D := G.1) (ci := 10) (v := .ref (g 325)) (C := RX11) (T := TX11) (N := 25) hx hb hts inlX11 hown hG.1 hP 315 (wl_at (by decide) hmo) rfl 17 (by decide) (hts (.fieldLink RX11 39 "SwornListsModel" "drew" "[I") w_121) (fun _ h9 => h9) rfl dX11_tries_227 ?_
                        refine lv_bipush (v := 24) hx hb dX11_tries_230 (by decide) ?_
                        refine lv_iload_n hx hb dX11_tries_232 rfl (lv_at hl 2 rfl) ?_
                        refine lv_imul hx hb dX11_tries_233 ?_
                        refine my_bei (v := nI (24 * to)) (pk_mul 24 to) ?_
                        refine lv_iload hx hb dX11_tries_234 (lv_at hl 6 rfl) ?_
                        refine lv_iadd hx hb dX11_tries_236 ?_
                        refine my_bei (v := nI (i3 + 24 * to)) ((nI_add (24 * to) i3).trans (congrArg nI (show (24 * to) + i3 = i3 + 24 * to by omega))) ?_
                        obtain ⟨z1, hz1, ez1⟩ := hx_5_3 i3 (by omega)
                        refine va_iald hx hb hG.1 hP 325 0 (wl_at (by decide) hdr_) rfl (vp_in_nI (by omega) (by decide)) dX11_tries_237 ?_
                        refine my_bei (v := dr923 (i3 + 24 * to)) (congrArg dr923 (nI_clamp (n := i3 + 24 * to) (by omega))) ?_
                        refine my_bei (v := nI z1) (ez1) ?_
                        refine lv_istore (lv' := [(11, .int (nI z1)), (0, .ref (g 315)), (1, .int (nI t)), (2, .int (nI to)), (6, .int v1), (8, .int (v19 ||| v20)), (9, .int u), (10, .int (nI i3))]) hx hb dX11_tries_238 hl (by decide) rfl (fun ls hl => ?_)
                        refine lv_aload_n hx hb dX11_tries_240 rfl (lv_at hl 1 rfl) ?_
                        refine va_get (D := G.1) (ci := 10) (v := .ref (g 327)) (C := RX11) (T := TX11) (N := 25) hx hb hts inlX11 hown hG.1 hP 315 (wl_at (by decide) hmo) rfl 19 (by decide) (hts (.fieldLink RX11 45 "SwornListsModel" "slips" "[I") w_123) (fun _ h9 => h9) rfl dX11_tries_241 ?_
                        refine lv_bipush (v := 30) hx hb dX11_tries_244 (by decide) ?_
                        refine lv_iload_n hx hb dX11_tries_246 rfl (lv_at hl 3 rfl) ?_
                        refine lv_imul hx hb dX11_tries_247 ?_
                        refine my_bei (v := nI (30 * to)) (pk_mul 30 to) ?_
                        refine lv_iload hx hb dX11_tries_248 (lv_at hl 0 rfl) ?_
                        refine lv_iadd hx hb dX11_tries_250 ?_
                        refine my_bei (v := nI (30 * to + z1)) ((nI_add (30 * to) z1).trans (congrArg nI (show (30 * to) + z1 = 30 * to + z1 by omega))) ?_
                        refine lv_aload_n hx hb dX11_tries_251 rfl (lv_at hl 1 rfl) ?_
                        refine lv_iload_n hx hb dX11_tries_252 rfl (lv_at hl 2 rfl) ?_
                        refine lv_bipush (v := 9) hx hb dX11_tries_253 (by decide) ?_
                        refine rd_calli (va_runV (As := [.int (nI t), .int 9]) (rest := [.int (nI (30 * to + z1)), .ref (g 327)]) ⟨hx, hb, hml, hown, hts⟩ (r_ofTrial l G g hg f_7 ab2 be2 sn911 wn912 sa913 ly914 rdy (nI fd) ss t 9 hmo hss_ (by first | assumption | omega | decide)) (my_cwV hts ok_X11_ofTrial w_532 rfl rfl ⟨Nat.le_of_ble_eq_true rfl, Nat.le_of_ble_eq_true rfl⟩) ⟨bP.blind, va_recv hG.1 hP (ci := 10) (q0 := 315) rfl (wl_at (by decide) hmo), fun U hU hW => ⟨rfl, by rw [hU]; exact hP, kG.warm hW hG⟩⟩ rfl rfl hl.1 rfl (lv_room (Nat.le_of_ble_eq_true rfl)) dX11_tries_255 ⟨Nat.le_of_ble_eq_true rfl, Nat.le_of_ble_eq_true rfl⟩) (fun r hr9 => ?_)
                        subst hr9
                        refine my_bei (v := ss (10 * t + 1555)) (congrArg ss (show 10 * t + 9 + 1546 = 10 * t + 1555 by omega)) ?_
                        refine lv_iload hx hb dX11_tries_258 (lv_at hl 0 rfl) ?_
                        refine lv_ishr hx hb dX11_tries_260 ?_
                        refine lv_iconst (v := 1) hx hb dX11_tries_261 (by decide) ?_
                        refine lv_iand hx hb dX11_tries_262 ?_
                        refine lv_iconst (v := 1) hx hb dX11_tries_263 (by decide) ?_
                        refine lv_icmp_ne (tgt := 271) hx hb dX11_tries_264 (by decide) (fun c_264 => ?_) (fun c_264 => ?_)
                        · refine lv_bipush (v := 6) hx hb dX11_tries_271 (by decide) ?_
                          refine va_iast hx hb hG.1 hP (wl_D hg f_7) hS 327 0 (wl_at (by decide) hsl_) rfl (vp_in_nI (by omega) (by decide)) dX11_tries_273 (fun H locs hP _ hS => ?_)
                          have hP := (congrArg (fun z9 => va_P G.1 vwCl ((wl g f_7).set 327 (g 327, eI G 330 ((upd sl3 z9 6)))) H) (show Int32.toNatClampNeg (nI (30 * to + z1)) = 30 * to + z1 from nI_clamp (by omega))).mp hP
                          obtain ⟨f_19, hP, e_19, o_19⟩ := b_put (by decide) hP
                          have hsl_ : f_19 327 = eI G 330 (upd sl3 (30 * to + z1) 6) := e_19
                          refine lv_iinc (v := nI (i3 + 1)) (lv' := [(10, .int (nI (i3 + 1))), (11, .int (nI z1)), (0, .ref (g 315)), (1, .int (nI t)), (2, .int (nI to)), (6, .int v1), (8, .int (v19 ||| v20)), (9, .int u)]) hx hb dX11_tries_274 hl (k := 7) rfl (nI_add i3 1) (by decide) rfl (fun ls hl => ?_)
                          refine lv_goto (tgt := 215) hx hb dX11_tries_277 (by decide) ?_
                          replace hmo := ((o_19 315 (by decide))).trans hmo
                          replace hss_ := ((o_19 316 (by decide))).trans hss_
                          replace hsp_ := ((o_19 319 (by decide))).trans hsp_
                          replace hwi_ := ((o_19 320 (by decide))).trans hwi_
                          replace hwa_ := ((o_19 321 (by decide))).trans hwa_
                          replace hva_ := ((o_19 322 (by decide))).trans hva_
                          replace hbo_ := ((o_19 323 (by decide))).trans hbo_
                          replace hju_ := ((o_19 324 (by decide))).trans hju_
                          replace hdr_ := ((o_19 325 (by decide))).trans hdr_
                          replace hdn_ := ((o_19 326 (by decide))).trans hdn_
                          replace hax_ := ((o_19 328 (by decide))).trans hax_
                          replace hlf_ := ((o_19 329 (by decide))).trans hlf_
                          exact ih_29 (i3 + 1) (upd sl3 (30 * to + z1) 6) f_19 _ _ _ (by omega) (by omega) (hmo) (hss_) (hsp_) (hwi_) (hwa_) (hva_) (hbo_) (hju_) (hdr_) (hdn_) (hsl_) (hax_) (hlf_) (fun j hj => ((o_19 j (by omega))).trans (o_7 j (by omega))) hP hS (lv_sub hl [2, 3, 4, 5, 6, 7, 0] rfl)
                        · refine lv_iconst (v := 2) hx hb dX11_tries_267 (by decide) ?_
                          refine lv_goto (tgt := 273) hx hb dX11_tries_268 (by decide) ?_
                          refine va_iast hx hb hG.1 hP (wl_D hg f_7) hS 327 0 (wl_at (by decide) hsl_) rfl (vp_in_nI (by omega) (by decide)) dX11_tries_273 (fun H locs hP _ hS => ?_)
                          have hP := (congrArg (fun z9 => va_P G.1 vwCl ((wl g f_7).set 327 (g 327, eI G 330 ((upd sl3 z9 2)))) H) (show Int32.toNatClampNeg (nI (30 * to + z1)) = 30 * to + z1 from nI_clamp (by omega))).mp hP
                          obtain ⟨f_20, hP, e_20, o_20⟩ := b_put (by decide) hP
                          have hsl_ : f_20 327 = eI G 330 (upd sl3 (30 * to + z1) 2) := e_20
                          refine lv_iinc (v := nI (i3 + 1)) (lv' := [(10, .int (nI (i3 + 1))), (11, .int (nI z1)), (0, .ref (g 315)), (1, .int (nI t)), (2, .int (nI to)), (6, .int v1), (8, .int (v19 ||| v20)), (9, .int u)]) hx hb dX11_tries_274 hl (k := 7) rfl (nI_add i3 1) (by decide) rfl (fun ls hl => ?_)
                          refine lv_goto (tgt := 215) hx hb dX11_tries_277 (by decide) ?_
                          replace hmo := ((o_20 315 (by decide))).trans hmo
                          replace hss_ := ((o_20 316 (by decide))).trans hss_
                          replace hsp_ := ((o_20 319 (by decide))).trans hsp_
                          replace hwi_ := ((o_20 320 (by decide))).trans hwi_
                          replace hwa_ := ((o_20 321 (by decide))).trans hwa_
                          replace hva_ := ((o_20 322 (by decide))).trans hva_
                          replace hbo_ := ((o_20 323 (by decide))).trans hbo_
                          replace hju_ := ((o_20 324 (by decide))).trans hju_
                          replace hdr_ := ((o_20 325 (by decide))).trans hdr_
                          replace hdn_ := ((o_20 326 (by decide))).trans hdn_
                          replace hax_ := ((o_20 328 (by decide))).trans hax_
                          replace hlf_ := ((o_20 329 (by decide))).trans hlf_
                          exact ih_29 (i3 + 1) (upd sl3 (30 * to + z1) 2) f_20 _ _ _ (by omega) (by omega) (hmo) (hss_) (hsp_) (hwi_) (hwa_) (hva_) (hbo_) (hju_) (hdr_) (hdn_) (hsl_) (hax_) (hlf_) (fun j hj => ((o_20 j (by omega))).trans (o_7 j (by omega))) hP hS (lv_sub hl [2, 3, 4, 5, 6, 7, 0] rfl)
                  exact key29 (d927 + 1) 0 sl2 f_6 _ _ _ (Nat.zero_le _) (by omega) (hmo) (hss_) (hsp_) (hwi_) (hwa_) (hva_) (hbo_) (hju_) (hdr_) (hdn_) (hsl_) (hax_) (hlf_) (fun j _ => rfl) hP hS (lv_sub hl [1, 2, 3, 4, 5, 6, 0] rfl)
                · have k_184 : ¬ 30 ≤ i2 := fun z9 => c_184 ((nI_leI (a := 30) (b := i2) (by omega) (by omega)).mpr z9)
                  refine lv_aload_n hx hb dX11_tries_187 rfl (lv_at hl 0 rfl) ?_
                  refine va_get (D := G.1) (ci := 10) (v := .ref (g 327)) (C := RX11) (T := TX11) (N := 25) hx hb hts inlX11 hown hG.1 hP 315 (wl_at (by decide) hmo) rfl 19 (by decide) (hts (.fieldLink RX11 45 "SwornListsModel" "slips" "[I") w_123) (fun _ h9 => h9) rfl dX11_tries_188 ?_
                  refine lv_bipush (v := 30) hx hb dX11_tries_191 (by decide) ?_
                  refine lv_iload_n hx hb dX11_tries_193 rfl (lv_at hl 2 rfl) ?_
                  refine lv_imul hx hb dX11_tries_194 ?_
                  refine my_bei (v := nI (30 * to)) (pk_mul 30 to) ?_
                  refine lv_iload hx hb dX11_tries_195 (lv_at hl 6 rfl) ?_
                  refine lv_iadd hx hb dX11_tries_197 ?_
                  refine my_bei (v := nI (i2 + 30 * to)) ((nI_add (30 * to) i2).trans (congrArg nI (show (30 * to) + i2 = i2 + 30 * to by omega))) ?_
                  refine lv_iload hx hb dX11_tries_198 (lv_at hl 5 rfl) ?_
                  refine lv_iload hx hb dX11_tries_200 (lv_at hl 6 rfl) ?_
                  refine lv_ishr hx hb dX11_tries_202 ?_
                  refine lv_iconst (v := 1) hx hb dX11_tries_203 (by decide) ?_
                  refine lv_iand hx hb dX11_tries_204 ?_
                  refine va_iast hx hb hG.1 hP (wl_D hg f_6) hS 327 0 (wl_at (by decide) hsl_) rfl (vp_in_nI (by omega) (by decide)) dX11_tries_205 (fun H locs hP _ hS => ?_)
                  have hP := (congrArg (fun z9 => va_P G.1 vwCl ((wl g f_6).set 327 (g 327, eI G 330 ((upd sl2 z9 ((u >>> ((nI i2) &&& 31)) &&& 1))))) H) (show Int32.toNatClampNeg (nI (i2 + 30 * to)) = i2 + 30 * to from nI_clamp (by omega))).mp hP
                  obtain ⟨f_21, hP, e_21, o_21⟩ := b_put (by decide) hP
                  have hsl_ : f_21 327 = eI G 330 (upd sl2 (i2 + 30 * to) ((u >>> ((nI i2) &&& 31)) &&& 1)) := e_21
                  refine lv_iinc (v := nI (i2 + 1)) (lv' := [(10, .int (nI (i2 + 1))), (0, .ref (g 315)), (1, .int (nI t)), (2, .int (nI to)), (6, .int v1), (8, .int (v19 ||| v20)), (9, .int u)]) hx hb dX11_tries_206 hl (k := 6) rfl (nI_add i2 1) (by decide) rfl (fun ls hl => ?_)
                  refine lv_goto (tgt := 180) hx hb dX11_tries_209 (by decide) ?_
                  replace hmo := ((o_21 315 (by decide))).trans hmo
                  replace hss_ := ((o_21 316 (by decide))).trans hss_
                  replace hsp_ := ((o_21 319 (by decide))).trans hsp_
                  replace hwi_ := ((o_21 320 (by decide))).trans hwi_
                  replace hwa_ := ((o_21 321 (by decide))).trans hwa_
                  replace hva_ := ((o_21 322 (by decide))).trans hva_
                  replace hbo_ := ((o_21 323 (by decide))).trans hbo_
                  replace hju_ := ((o_21 324 (by decide))).trans hju_
                  replace hdr_ := ((o_21 325 (by decide))).trans hdr_
                  replace hdn_ := ((o_21 326 (by decide))).trans hdn_
                  replace hax_ := ((o_21 328 (by decide))).trans hax_
                  replace hlf_ := ((o_21 329 (by decide))).trans hlf_
                  exact ih_28 (i2 + 1) (upd sl2 (i2 + 30 * to) ((u >>> ((nI i2) &&& 31)) &&& 1)) f_21 _ _ _ (by omega) (by omega) (hmo) (hss_) (hsp_) (hwi_) (hwa_) (hva_) (hbo_) (hju_) (hdr_) (hdn_) (hsl_) (hax_) (hlf_) (fun j hj => ((o_21 j (by omega))).trans (o_6 j (by omega))) hP hS (lv_sub hl [1, 2, 3, 4, 5, 6, 0] rfl)
            exact key28 (30 + 1) 0 sl f_5 _ _ _ (Nat.zero_le _) (by omega) (hmo) (hss_) (hsp_) (hwi_) (hwa_) (hva_) (hbo_) (hju_) (hdr_) (hdn_) (hsl_) (hax_) (hlf_) (fun j _ => rfl) hP hS (lv_sub hl [1, 2, 3, 4, 5, 6, 0] rfl)
          · have k_94 : ¬ np ≤ i := fun z9 => c_94 ((nI_leI (a := np) (b := i) (by omega) (by omega)).mpr z9)
            refine lv_aload_n hx hb dX11_tries_97 rfl (lv_at hl 0 rfl) ?_
            refine lv_iload_n hx hb dX11_tries_98 rfl (lv_at hl 1 rfl) ?_
            refine lv_iconst (v := 5) hx hb dX11_tries_99 (by decide) ?_
            refine rd_calli (va_runV (As := [.int (nI t), .int 5]) (rest := []) ⟨hx, hb, hml, hown, hts⟩ (r_ofTrial l G g hg f_3 ab2 be2 sn911 wn912 sa913 ly914 rdy (nI fd) ss t 5 hmo hss_ (by first | assumption | omega | decide)) (my_cwV hts ok_X11_ofTrial w_532 rfl rfl ⟨Nat.le_of_ble_eq_true rfl, Nat.le_of_ble_eq_true rfl⟩) ⟨bP.blind, va_recv hG.1 hP (ci := 10) (q0 := 315) rfl (wl_at (by decide) hmo), fun U hU hW => ⟨rfl, by rw [hU]; exact hP, kG.warm hW hG⟩⟩ rfl rfl hl.1 rfl (lv_room (Nat.le_of_ble_eq_true rfl)) dX11_tries_100 ⟨Nat.le_of_ble_eq_true rfl, Nat.le_of_ble_eq_true rfl⟩) (fun r hr9 => ?_)
            subst hr9
            refine my_bei (v := ss (10 * t + 1551)) (congrArg ss (show 10 * t + 5 + 1546 = 10 * t + 1551 by omega)) ?_
            refine lv_iconst (v := (-1)) hx hb dX11_tries_103 (by decide) ?_
            refine lv_icmp_eq (tgt := 134) hx hb dX11_tries_104 (by decide) (fun c_104 => ?_) (fun c_104 => ?_)
            · refine lv_iconst (v := 0) hx hb dX11_tries_134 (by decide) ?_
              refine lv_istore (lv' := [(11, .int 0), (0, .ref (g 315)), (1, .int (nI t)), (2, .int (nI to)), (6, .int v1), (8, .int (v19 ||| v20)), (9, .int u), (10, .int (nI i))]) hx hb dX11_tries_135 hl (by decide) rfl (fun ls hl => ?_)
              refine lv_iload hx hb dX11_tries_137 (lv_at hl 6 rfl) ?_
              refine lv_iload hx hb dX11_tries_139 (lv_at hl 0 rfl) ?_
              refine lv_if_eq (tgt := 153) hx hb dX11_tries_141 (by decide) (fun c_141 => ?_) (fun c_141 => absurd (by decide) c_141)
              refine lv_iconst (v := (-1)) hx hb dX11_tries_153 (by decide) ?_
              refine lv_iand hx hb dX11_tries_154 ?_
              refine lv_istore (lv' := [(9, .int (u &&& (-1))), (11, .int 0), (0, .ref (g 315)), (1, .int (nI t)), (2, .int (nI to)), (6, .int v1), (8, .int (v19 ||| v20)), (10, .int (nI i))]) hx hb dX11_tries_155 hl (by decide) rfl (fun ls hl => ?_)
              refine lv_iinc (v := nI (i + 1)) (lv' := [(10, .int (nI (i + 1))), (9, .int (u &&& (-1))), (11, .int 0), (0, .ref (g 315)), (1, .int (nI t)), (2, .int (nI to)), (6, .int v1), (8, .int (v19 ||| v20))]) hx hb dX11_tries_157 hl (k := 7) rfl (nI_add i 1) (by decide) rfl (fun ls hl => ?_)
              refine lv_goto (tgt := 86) hx hb dX11_tries_160 (by decide) ?_
              exact ih_22 (i + 1) (u &&& (-1)) f_3 _ _ _ (by omega) (by omega) (hmo) (hss_) (hsp_) (hwi_) (hwa_) (hva_) (hbo_) (hju_) (hdr_) (hdn_) (hsl_) (hax_) (hlf_) (fun j hj => (o_3 j (by omega))) hP hS (lv_sub hl [3, 4, 5, 6, 7, 1, 0] rfl)
            · refine lv_aload_n hx hb dX11_tries_107 rfl (lv_at hl 0 rfl) ?_
              refine va_get (D := G.1) (ci := 10) (v := .ref (g 316)) (C := RX11) (T := TX11) (N := 25) hx hb hts inlX11 hown hG.1 hP 315 (wl_at (by decide) hmo) rfl 0 (by decide) (hts (.fieldLink RX11 7 "SwornListsModel" "st" "[I") w_112) (fun _ h9 => h9) rfl dX11_tries_108 ?_
              refine lv_bipush (v := 10) hx hb dX11_tries_111 (by decide) ?_
              refine lv_iconst (v := 4) hx hb dX11_tries_113 (by decide) ?_
              refine lv_iload hx hb dX11_tries_114 (lv_at hl 6 rfl) ?_
              refine lv_imul hx hb dX11_tries_116 ?_
              refine my_bei (v := nI (4 * i)) (pk_mul 4 i) ?_
              refine lv_iadd hx hb dX11_tries_117 ?_
              refine my_bei (v := nI (4 * i + 10)) ((nI_add 10 (4 * i)).trans (congrArg nI (show 10 + (4 * i) = 4 * i + 10 by omega))) ?_
              refine lv_iconst (v := 1) hx hb dX11_tries_118 (by decide) ?_
              refine lv_iadd hx hb dX11_tries_119 ?_
              refine my_bei (v := nI (4 * i + 11)) ((nI_add (4 * i + 10) 1).trans (congrArg nI (show (4 * i + 10) + 1 = 4 * i + 11 by omega))) ?_
              refine va_iald hx hb hG.1 hP 316 0 (wl_at (by decide) hss_) rfl (vp_in_nI (by omega) (by decide)) dX11_tries_120 ?_
              refine my_bei (v := ss (4 * i + 11)) (congrArg ss (nI_clamp (n := 4 * i + 11) (by omega))) ?_
              refine lv_aload_n hx hb dX11_tries_121 rfl (lv_at hl 0 rfl) ?_
              refine lv_iload_n hx hb dX11_tries_122 rfl (lv_at hl 1 rfl) ?_
              refine lv_iconst (v := 5) hx hb dX11_tries_123 (by decide) ?_
              refine rd_calli (va_runV (As := [.int (nI t), .int 5]) (rest := [.int (ss (4 * i + 11))]) ⟨hx, hb, hml, hown, hts⟩ (r_ofTrial l G g hg f_3 ab2 be2 sn911 wn912 sa913 ly914 rdy (nI fd) ss t 5 hmo hss_ (by first | assumption | omega | decide)) (my_cwV hts ok_X11_ofTrial w_532 rfl rfl ⟨Nat.le_of_ble_eq_true rfl, Nat.le_of_ble_eq_true rfl⟩) ⟨bP.blind, va_recv hG.1 hP (ci := 10) (q0 := 315) rfl (wl_at (by decide) hmo), fun U hU hW => ⟨rfl, by rw [hU]; exact hP, kG.warm hW hG⟩⟩ rfl rfl hl.1 rfl (lv_room (Nat.le_of_ble_eq_true rfl)) dX11_tries_124 ⟨Nat.le_of_ble_eq_true rfl, Nat.le_of_ble_eq_true rfl⟩) (fun r hr9 => ?_)
              subst hr9
              refine my_bei (v := ss (10 * t + 1551)) (congrArg ss (show 10 * t + 5 + 1546 = 10 * t + 1551 by omega)) ?_
              refine lv_icmp_eq (tgt := 134) hx hb dX11_tries_127 (by decide) (fun c_127 => ?_) (fun c_127 => ?_)
              · refine lv_iconst (v := 0) hx hb dX11_tries_134 (by decide) ?_
                refine lv_istore (lv' := [(11, .int 0), (0, .ref (g 315)), (1, .int (nI t)), (2, .int (nI to)), (6, .int v1), (8, .int (v19 ||| v20)), (9, .int u), (10, .int (nI i))]) hx hb dX11_tries_135 hl (by decide) rfl (fun ls hl => ?_)
                refine lv_iload hx hb dX11_tries_137 (lv_at hl 6 rfl) ?_
                refine lv_iload hx hb dX11_tries_139 (lv_at hl 0 rfl) ?_
                refine lv_if_eq (tgt := 153) hx hb dX11_tries_141 (by decide) (fun c_141 => ?_) (fun c_141 => absurd (by decide) c_141)
                refine lv_iconst (v := (-1)) hx hb dX11_tries_153 (by decide) ?_
                refine lv_iand hx hb dX11_tries_154 ?_
                refine lv_istore (lv' := [(9, .int (u &&& (-1))), (11, .int 0), (0, .ref (g 315)), (1, .int (nI t)), (2, .int (nI to)), (6, .int v1), (8, .int (v19 ||| v20)), (10, .int (nI i))]) hx hb dX11_tries_155 hl (by decide) rfl (fun ls hl => ?_)
                refine lv_iinc (v := nI (i + 1)) (lv' := [(10, .int (nI (i + 1))), (9, .int (u &&& (-1))), (11, .int 0), (0, .ref (g 315)), (1, .int (nI t)), (2, .int (nI to)), (6, .int v1), (8, .int (v19 ||| v20))]) hx hb dX11_tries_157 hl (k := 7) rfl (nI_add i 1) (by decide) rfl (fun ls hl => ?_)
                refine lv_goto (tgt := 86) hx hb dX11_tries_160 (by decide) ?_
                exact ih_22 (i + 1) (u &&& (-1)) f_3 _ _ _ (by omega) (by omega) (hmo) (hss_) (hsp_) (hwi_) (hwa_) (hva_) (hbo_) (hju_) (hdr_) (hdn_) (hsl_) (hax_) (hlf_) (fun j hj => (o_3 j (by omega))) hP hS (lv_sub hl [3, 4, 5, 6, 7, 1, 0] rfl)
              · refine lv_iconst (v := 1) hx hb dX11_tries_130 (by decide) ?_
                refine lv_goto (tgt := 135) hx hb dX11_tries_131 (by decide) ?_
                refine lv_istore (lv' := [(11, .int 1), (0, .ref (g 315)), (1, .int (nI t)), (2, .int (nI to)), (6, .int v1), (8, .int (v19 ||| v20)), (9, .int u), (10, .int (nI i))]) hx hb dX11_tries_135 hl (by decide) rfl (fun ls hl => ?_)
                refine lv_iload hx hb dX11_tries_137 (lv_at hl 6 rfl) ?_
                refine lv_iload hx hb dX11_tries_139 (lv_at hl 0 rfl) ?_
                refine lv_if_eq (tgt := 153) hx hb dX11_tries_141 (by decide) (fun c_141 => absurd c_141 (by decide)) (fun c_141 => ?_)
                refine lv_iconst (v := 1) hx hb dX11_tries_144 (by decide) ?_
                refine lv_iload hx hb dX11_tries_145 (lv_at hl 7 rfl) ?_
                refine lv_ishl hx hb dX11_tries_147 ?_
                refine lv_iconst (v := (-1)) hx hb dX11_tries_148 (by decide) ?_
                refine lv_ixor hx hb dX11_tries_149 ?_
                refine lv_goto (tgt := 154) hx hb dX11_tries_150 (by decide) ?_
                refine lv_iand hx hb dX11_tries_154 ?_
                refine lv_istore (lv' := [(9, .int (u &&& ((1 <<< ((nI i) &&& 31)) ^^^ (-1)))), (11, .int 1), (0, .ref (g 315)), (1, .int (nI t)), (2, .int (nI to)), (6, .int v1), (8, .int (v19 ||| v20)), (10, .int (nI i))]) hx hb dX11_tries_155 hl (by decide) rfl (fun ls hl => ?_)
                refine lv_iinc (v := nI (i + 1)) (lv' := [(10, .int (nI (i + 1))), (9, .int (u &&& ((1 <<< ((nI i) &&& 31)) ^^^ (-1)))), (11, .int 1), (0, .ref (g 315)), (1, .int (nI t)), (2, .int (nI to)), (6, .int v1), (8, .int (v19 ||| v20))]) hx hb dX11_tries_157 hl (k := 7) rfl (nI_add i 1) (by decide) rfl (fun ls hl => ?_)
                refine lv_goto (tgt := 86) hx hb dX11_tries_160 (by decide) ?_
                exact ih_22 (i + 1) (u &&& ((1 <<< ((nI i) &&& 31)) ^^^ (-1))) f_3 _ _ _ (by omega) (by omega) (hmo) (hss_) (hsp_) (hwi_) (hwa_) (hva_) (hbo_) (hju_) (hdr_) (hdn_) (hsl_) (hax_) (hlf_) (fun j hj => (o_3 j (by omega))) hP hS (lv_sub hl [3, 4, 5, 6, 7, 1, 0] rfl)
      exact key22 (np + 1) 0 (((v21 &&& v1) &&& (v10 ^^^ (-1))) &&& ((v19 ||| v20) ^^^ (-1))) f_2 _ _ _ (Nat.zero_le _) (by omega) (hmo) (hss_) (hsp_) (hwi_) (hwa_) (hva_) (hbo_) (hju_) (hdr_) (hdn_) (hsl_) (hax_) (hlf_) (fun j _ => rfl) hP hS (lv_sub hl [6, 7, 8, 4, 2, 1, 0] rfl)
    · refine lv_iload_n hx hb dX11_tries_37 rfl (lv_at hl 5 rfl) ?_
      refine lv_goto (tgt := 42) hx hb dX11_tries_38 (by decide) ?_
      replace hss_ := ((o_1 316 (by first | decide | omega))).trans hss_
      replace hju_ := ((o_1 324 (by first | decide | omega))).trans hju_
      refine b_calli (va_runV (As := [.int 1, .int (ss (10 * t + 1546)), .int (nI xt)]) (rest := []) ⟨hx, hb, hml, hown, hts⟩ (r_whomT l G g hg f_1 ab2 be2 sn92 wn93 sa94 ly95 rdy fd ss np nf nr na nt sp96 wi97 wa98 va99 ju 1 (ss (10 * t + 1546)) xt l9 hmo hss_ hsp_ hwi_ hwa_ hva_ hju_ (by first | assumption | omega | decide) (by first | assumption | omega | decide) (by first | assumption | omega | decide) (by first | assumption | omega | decide) (by first | assumption | omega | decide) (by first | assumption | omega | decide)) (my_cwV hts ok_X11_whom w_536 rfl rfl ⟨Nat.le_of_ble_eq_true rfl, Nat.le_of_ble_eq_true rfl⟩) ⟨bP.blind, va_recv hG.1 hP (ci := 10) (q0 := 315) rfl (wl_at (by decide) hmo), fun U hU hW => ⟨rfl, by rw [hU]; exact hP, kG.warm hW hG⟩⟩ rfl rfl hl.1 rfl (lv_room (Nat.le_of_ble_eq_true rfl)) dX11_tries_42 ⟨Nat.le_of_ble_eq_true rfl, Nat.le_of_ble_eq_true rfl⟩) hS (fun v36 f_22 H locs hq9 hP hS => ?_)
      obtain ⟨sn937, wn938, sa939, ly940, sp941, wi942, wa943, va944, hq_22_0, hq_22_1, hq_22_2, hq_22_3, hq_22_4, o_22⟩ := hq9
      have hmo : f_22 315 = eO 10 [.ref (g 316), .ref (g 317), .ref (g 318), .long ab2, .long be2, .int sn937, .ref (g 319), .ref (g 320), .int wn938, .ref (g 321), .ref (g 322), .int sa939, .int ly940, .int rdy, .int (nI fd), .ref (g 323), .ref (g 324), .ref (g 325), .ref (g 326), .ref (g 327), .ref (g 328), .ref (g 329), .ref (g 330), .ref (g 331), .ref (g 332)] := hq_22_0
      have hsp_ : f_22 319 = eI G 70 sp941 := hq_22_1
      have hwi_ : f_22 320 = eI G 70 wi942 := hq_22_2
      have hwa_ : f_22 321 = eI G 70 wa943 := hq_22_3
      have hva_ : f_22 322 = eJ G 70 va944 := hq_22_4
      refine lv_istore (lv' := [(7, .int v36), (6, .int v1), (5, .int (ss (10 * t + 1546))), (0, .ref (g 315)), (1, .int (nI t)), (2, .int (nI to)), (3, .int (nI xt)), (4, .int sb)]) hx hb dX11_tries_45 hl (by decide) rfl (fun ls hl => ?_)
      refine lv_aload_n hx hb dX11_tries_47 rfl (lv_at hl 3 rfl) ?_
      refine lv_iload_n hx hb dX11_tries_48 rfl (lv_at hl 4 rfl) ?_
      refine lv_iload hx hb dX11_tries_49 (lv_at hl 2 rfl) ?_
      replace hss_ := ((o_22 316 (by first | decide | omega))).trans hss_
      refine rd_calli (va_runV (As := [.int (nI t), .int (ss (10 * t + 1546))]) (rest := []) ⟨hx, hb, hml, hown, hts⟩ (r_kinOf l G g hg f_22 ab2 be2 sn937 wn938 sa939 ly940 rdy (nI fd) ss np nf nr na nt t (ss (10 * t + 1546)) hmo hss_ (by first | assumption | omega | decide) (by first | assumption | omega | decide)) (my_cwV hts ok_X11_kinOf w_562 rfl rfl ⟨Nat.le_of_ble_eq_true rfl, Nat.le_of_ble_eq_true rfl⟩) ⟨bP.blind, va_recv hG.1 hP (ci := 10) (q0 := 315) rfl (wl_at (by decide) hmo), fun U hU hW => ⟨rfl, by rw [hU]; exact hP, kG.warm hW hG⟩⟩ rfl rfl hl.1 rfl (lv_room (Nat.le_of_ble_eq_true rfl)) dX11_tries_51 ⟨Nat.le_of_ble_eq_true rfl, Nat.le_of_ble_eq_true rfl⟩) (fun v45 _ => ?_)
      refine lv_aload_n hx hb dX11_tries_54 rfl (lv_at hl 3 rfl) ?_
      refine lv_iload_n hx hb dX11_tries_55 rfl (lv_at hl 4 rfl) ?_
      replace hju_ := ((o_22 324 (by first | decide | omega))).trans hju_
      refine rd_calli (va_runV (As := [.int (nI t)]) (rest := [.int v45]) ⟨hx, hb, hml, hown, hts⟩ (r_sitting l G g hg f_22 ab2 be2 sn937 wn938 sa939 ly940 rdy (nI fd) ss ju t hmo hss_ hju_ (by first | assumption | omega | decide)) (my_cwV hts ok_X11_sitting w_566 rfl rfl ⟨Nat.le_of_ble_eq_true rfl, Nat.le_of_ble_eq_true rfl⟩) ⟨bP.blind, va_recv hG.1 hP (ci := 10) (q0 := 315) rfl (wl_at (by decide) hmo), fun U hU hW => ⟨rfl, by rw [hU]; exact hP, kG.warm hW hG⟩⟩ rfl rfl hl.1 rfl (lv_room (Nat.le_of_ble_eq_true rfl)) dX11_tries_56 ⟨Nat.le_of_ble_eq_true rfl, Nat.le_of_ble_eq_true rfl⟩) (fun v46 _ => ?_)
      refine lv_ior hx hb dX11_tries_59 ?_
      refine lv_istore (lv' := [(8, .int (v45 ||| v46)), (7, .int v36), (6, .int v1), (5, .int (ss (10 * t + 1546))), (0, .ref (g 315)), (1, .int (nI t)), (2, .int (nI to)), (3, .int (nI xt)), (4, .int sb)]) hx hb dX11_tries_60 hl (by decide) rfl (fun ls hl => ?_)
      refine lv_aload_n hx hb dX11_tries_62 rfl (lv_at hl 4 rfl) ?_
      refine lv_iload hx hb dX11_tries_63 (lv_at hl 3 rfl) ?_
      refine rd_calli (va_runV (As := [.int (ss (10 * t + 1546))]) (rest := []) ⟨hx, hb, hml, hown, hts⟩ (r_theRoll l G g hg f_22 ab2 be2 sn937 wn938 sa939 ly940 rdy (nI fd) ss np nf nr na nt (ss (10 * t + 1546)) hmo hss_ (by first | assumption | omega | decide)) (my_cwV hts ok_X11_theRoll w_234 rfl rfl ⟨Nat.le_of_ble_eq_true rfl, Nat.le_of_ble_eq_true rfl⟩) ⟨bP.blind, va_recv hG.1 hP (ci := 10) (q0 := 315) rfl (wl_at (by decide) hmo), fun U hU hW => ⟨rfl, by rw [hU]; exact hP, kG.warm hW hG⟩⟩ rfl rfl hl.1 rfl (lv_room (Nat.le_of_ble_eq_true rfl)) dX11_tries_65 ⟨Nat.le_of_ble_eq_true rfl, Nat.le_of_ble_eq_true rfl⟩) (fun v47 _ => ?_)
      refine lv_iload hx hb dX11_tries_68 (lv_at hl 2 rfl) ?_
      refine lv_iand hx hb dX11_tries_70 ?_
      refine lv_iload hx hb dX11_tries_71 (lv_at hl 1 rfl) ?_
      refine lv_iconst (v := (-1)) hx hb dX11_tries_73 (by decide) ?_
      refine lv_ixor hx hb dX11_tries_74 ?_
      refine lv_iand hx hb dX11_tries_75 ?_
      refine lv_iload hx hb dX11_tries_76 (lv_at hl 0 rfl) ?_
      refine lv_iconst (v := (-1)) hx hb dX11_tries_78 (by decide) ?_
      refine lv_ixor hx hb dX11_tries_79 ?_
      refine lv_iand hx hb dX11_tries_80 ?_
      refine lv_istore (lv' := [(9, .int (((v47 &&& v1) &&& (v36 ^^^ (-1))) &&& ((v45 ||| v46) ^^^ (-1)))), (8, .int (v45 ||| v46)), (7, .int v36), (6, .int v1), (5, .int (ss (10 * t + 1546))), (0, .ref (g 315)), (1, .int (nI t)), (2, .int (nI to)), (3, .int (nI xt)), (4, .int sb)]) hx hb dX11_tries_81 hl (by decide) rfl (fun ls hl => ?_)
      refine lv_iconst (v := 0) hx hb dX11_tries_83 (by decide) ?_
      refine lv_istore (lv' := [(10, .int 0), (9, .int (((v47 &&& v1) &&& (v36 ^^^ (-1))) &&& ((v45 ||| v46) ^^^ (-1)))), (8, .int (v45 ||| v46)), (7, .int v36), (6, .int v1), (5, .int (ss (10 * t + 1546))), (0, .ref (g 315)), (1, .int (nI t)), (2, .int (nI to)), (3, .int (nI xt)), (4, .int sb)]) hx hb dX11_tries_84 hl (by decide) rfl (fun ls hl => ?_)
      replace hbo_ := ((o_22 323 (by first | decide | omega)).trans ((o_1 323 (by first | decide | omega)))).trans hbo_
      replace hdr_ := ((o_22 325 (by first | decide | omega)).trans ((o_1 325 (by first | decide | omega)))).trans hdr_
      replace hdn_ := ((o_22 326 (by first | decide | omega)).trans ((o_1 326 (by first | decide | omega)))).trans hdn_
      replace hsl_ := ((o_22 327 (by first | decide | omega)).trans ((o_1 327 (by first | decide | omega)))).trans hsl_
      replace hax_ := ((o_22 328 (by first | decide | omega)).trans ((o_1 328 (by first | decide | omega)))).trans hax_
      replace hlf_ := ((o_22 329 (by first | decide | omega)).trans ((o_1 329 (by first | decide | omega)))).trans hlf_
      have key48 : ∀ (n9_48 : Nat) (i : Nat) (u : Int32) (f_23 : Nat → va_E) (H : Heap) (locs : List Loc) (ls : Array Slot), (i ≤ np) → np - i < n9_48 → f_23 315 = eO 10 [.ref (g 316), .ref (g 317), .ref (g 318), .long ab2, .long be2, .int sn937, .ref (g 319), .ref (g 320), .int wn938, .ref (g 321), .ref (g 322), .int sa939, .int ly940, .int rdy, .int (nI fd), .ref (g 323), .ref (g 324), .ref (g 325), .ref (g 326), .ref (g 327), .ref (g 328), .ref (g 329), .ref (g 330), .ref (g 331), .ref (g 332)] → f_23 316 = eI G 2246 ss → f_23 319 = eI G 70 sp941 → f_23 320 = eI G 70 wi942 → f_23 321 = eI G 70 wa943 → f_23 322 = eJ G 70 va944 → f_23 323 = eI G 11 bo → f_23 324 = eI G 11 ju → f_23 325 = eI G 264 dr → f_23 326 = eI G 11 dn → f_23 327 = eI G 330 sl → f_23 328 = eI G 44 ax → f_23 329 = eI G 30 lf → (∀ j, (j < 333 ∨ 333 ≤ j) → f_23 j = f_22 j) → va_P G.1 vwCl (wl g f_23) H → va_S (gA g) s.heap H locs → lv_has ls 13 [(0, .ref (g 315)), (1, .int (nI t)), (2, .int (nI to)), (6, .int v1), (8, .int (v45 ||| v46)), (9, .int u), (10, .int (nI i))] → W p l e (headSpec (wsT yX11_tries cX11_tries 13 none) ({ frames := 5, cells := 0, slots := 0, locals := 120 })).room s m ([.ref (g 315), .int (nI t), .int (nI to), .int (nI xt), .int sb] : List Value).toArray below meth c H locs 0 0 (MQ below (bQv G g (fun (f' : Nat → va_E) => ∃ sn9 : Int32, ∃ wn9 : Int32, ∃ sa9 : Int32, ∃ ly9 : Int32, ∃ sp9 : Nat → Int32, ∃ wi9 : Nat → Int32, ∃ wa9 : Nat → Int32, ∃ va9 : Nat → Int64, ∃ bo9 : Nat → Int32, ∃ ju9 : Nat → Int32, ∃ dr9 : Nat → Int32, ∃ dn9 : Nat → Int32, ∃ sl9 : Nat → Int32, ∃ ax9 : Nat → Int32, ∃ lf9 : Nat → Int32, f' 315 = eO 10 [.ref (g 316), .ref (g 317), .ref (g 318), .long ab2, .long be2, .int sn9, .ref (g 319), .ref (g 320), .int wn9, .ref (g 321), .ref (g 322), .int sa9, .int ly9, .int rdy, .int (nI fd), .ref (g 323), .ref (g 324), .ref (g 325), .ref (g 326), .ref (g 327), .ref (g 328), .ref (g 329), .ref (g 330), .ref (g 331), .ref (g 332)] ∧ f' 319 = eI G 70 sp9 ∧ f' 320 = eI G 70 wi9 ∧ f' 321 = eI G 70 wa9 ∧ f' 322 = eJ G 70 va9 ∧ f' 323 = eI G 11 bo9 ∧ f' 324 = eI G 11 ju9 ∧ f' 325 = eI G 264 dr9 ∧ f' 326 = eI G 11 dn9 ∧ f' 327 = eI G 330 sl9 ∧ f' 328 = eI G 44 ax9 ∧ f' 329 = eI G 30 lf9 ∧ (∀ k, k < 11 → ∃ d, d ≤ 24 ∧ dn9 k = nI d) ∧ ∀ j, (j < 315 ∨ (316 ≤ j ∧ j ≤ 318) ∨ 330 ≤ j) → f' j = f j)) ([.ref (g 315), .int (nI t), .int (nI to), .int (nI xt), .int sb] : List Value).toArray s 0 0 (gA g)) (F0 m 86 ls []) := by
        intro n9_48
        induction n9_48 with
        | zero => intro i u f_23 H locs ls hi hn9_48; exact absurd hn9_48 (Nat.not_lt_zero _)
        | succ n9_48 ih_48 =>
          intro i u f_23 H locs ls hi hn9_48 hmo hss_ hsp_ hwi_ hwa_ hva_ hbo_ hju_ hdr_ hdn_ hsl_ hax_ hlf_ o_23 hP hS hl
          refine lv_iload hx hb dX11_tries_86 (lv_at hl 6 rfl) ?_
          refine lv_aload_n hx hb dX11_tries_88 rfl (lv_at hl 0 rfl) ?_
          refine va_get (D := G.1) (ci := 10) (v := .ref (g 316)) (C := RX11) (T := TX11) (N := 25) hx hb hts inlX11 hown hG.1 hP 315 (wl_at (by decide) hmo) rfl 0 (by decide) (hts (.fieldLink RX11 7 "SwornListsModel" "st" "[I") w_112) (fun _ h9 => h9) rfl dX11_tries_89 ?_
          refine lv_iconst (v := 0) hx hb dX11_tries_92 (by decide) ?_
          refine va_iald hx hb hG.1 hP 316 0 (wl_at (by decide) hss_) rfl (by unfold vp_in; decide) dX11_tries_93 ?_
          refine my_bei (v := ss 0) (rfl) ?_
          refine my_bei (v := nI np) (hst.h0) ?_
          refine lv_icmp_ge (tgt := 163) hx hb dX11_tries_94 (by decide) (fun c_94 => ?_) (fun c_94 => ?_)
          · have k_94 : np ≤ i := (nI_leI (a := np) (b := i) (by omega) (by omega)).mp c_94
            refine lv_aload_n hx hb dX11_tries_163 rfl (lv_at hl 0 rfl) ?_
            refine va_get (D := G.1) (ci := 10) (v := .ref (g 323)) (C := RX11) (T := TX11) (N := 25) hx hb hts inlX11 hown hG.1 hP 315 (wl_at (by decide) hmo) rfl 15 (by decide) (hts (.fieldLink RX11 33 "SwornListsModel" "boxes" "[I") w_119) (fun _ h9 => h9) rfl dX11_tries_164 ?_
            refine lv_iload_n hx hb dX11_tries_167 rfl (lv_at hl 2 rfl) ?_
            refine lv_iload hx hb dX11_tries_168 (lv_at hl 5 rfl) ?_
            refine va_iast hx hb hG.1 hP (wl_D hg f_23) hS 323 0 (wl_at (by decide) hbo_) rfl (vp_in_nI (by omega) (by decide)) dX11_tries_170 (fun H locs hP _ hS => ?_)
            have hP := (congrArg (fun z9 => va_P G.1 vwCl ((wl g f_23).set 323 (g 323, eI G 11 ((upd bo z9 u)))) H) (show Int32.toNatClampNeg (nI to) = to from nI_clamp (by omega))).mp hP
            obtain ⟨f_24, hP, e_24, o_24⟩ := b_put (by decide) hP
            have hbo_ : f_24 323 = eI G 11 (upd bo to u) := e_24
            refine lv_aload_n hx hb dX11_tries_171 rfl (lv_at hl 0 rfl) ?_
            refine lv_iload_n hx hb dX11_tries_172 rfl (lv_at hl 1 rfl) ?_
            refine lv_iload_n hx hb dX11_tries_173 rfl (lv_at hl 2 rfl) ?_
            replace hmo := ((o_24 315 (by decide))).trans hmo
            replace hss_ := ((o_24 316 (by decide))).trans hss_
            replace hdr_ := ((o_24 325 (by decide))).trans hdr_
            replace hdn_ := ((o_24 326 (by decide))).trans hdn_
            replace hax_ := ((o_24 328 (by decide))).trans hax_
            replace hlf_ := ((o_24 329 (by decide))).trans hlf_
            refine b_callv (va_runV (As := [.int (nI t), .int (nI to)]) (rest := []) ⟨hx, hb, hml, hown, hts⟩ (r_draws l G g hg f_24 ab2 be2 sn937 wn938 sa939 ly940 rdy (nI fd) ss np nf nr na nt (upd bo to u) dr dn ax lf t to hmo hss_ hbo_ hdr_ hdn_ hax_ hlf_ (by first | assumption | omega | decide) (by first | assumption | omega | decide) (by first | assumption | omega | decide)) (my_cwV hts ok_X11_draws w_570 rfl rfl ⟨Nat.le_of_ble_eq_true rfl, Nat.le_of_ble_eq_true rfl⟩) ⟨bP.blind, va_recv hG.1 hP (ci := 10) (q0 := 315) rfl (wl_at (by decide) hmo), fun U hU hW => ⟨rfl, by rw [hU]; exact hP, kG.warm hW hG⟩⟩ rfl rfl hl.1 rfl (lv_room (Nat.le_of_ble_eq_true rfl)) dX11_tries_174 ⟨Nat.le_of_ble_eq_true rfl, Nat.le_of_ble_eq_true rfl⟩) hS (fun f_25 H locs hq9 hP hS => ?_)
            obtain ⟨dr949, dn950, ax951, lf952, d953, hq_25_0, hq_25_1, hq_25_2, hq_25_3, hx_25_0, hx_25_1, hx_25_2, hx_25_3, o_25⟩ := hq9
            have hdr_ : f_25 325 = eI G 264 dr949 := hq_25_0
            have hdn_ : f_25 326 = eI G 11 dn950 := hq_25_1
            have hax_ : f_25 328 = eI G 44 ax951 := hq_25_2
            have hlf_ : f_25 329 = eI G 30 lf952 := hq_25_3
            refine lv_iconst (v := 0) hx hb dX11_tries_177 (by decide) ?_
            refine lv_istore (lv' := [(10, .int 0), (0, .ref (g 315)), (1, .int (nI t)), (2, .int (nI to)), (6, .int v1), (8, .int (v45 ||| v46)), (9, .int u)]) hx hb dX11_tries_178 hl (by decide) rfl (fun ls hl => ?_)
            replace hmo := ((o_25 315 (by first | decide | omega))).trans hmo
            replace hss_ := ((o_25 316 (by first | decide | omega))).trans hss_
            replace hsp_ := ((o_25 319 (by first | decide | omega)).trans ((o_24 319 (by decide)))).trans hsp_
            replace hwi_ := ((o_25 320 (by first | decide | omega)).trans ((o_24 320 (by decide)))).trans hwi_
            replace hwa_ := ((o_25 321 (by first | decide | omega)).trans ((o_24 321 (by decide)))).trans hwa_
            replace hva_ := ((o_25 322 (by first | decide | omega)).trans ((o_24 322 (by decide)))).trans hva_
            replace hbo_ := ((o_25 323 (by first | decide | omega))).trans hbo_
            replace hju_ := ((o_25 324 (by first | decide | omega)).trans ((o_24 324 (by decide)))).trans hju_
            replace hsl_ := ((o_25 327 (by first | decide | omega)).trans ((o_24 327 (by decide)))).trans hsl_
            have key54 : ∀ (n9_54 : Nat) (i2 : Nat) (sl2 : Nat → Int32) (f_26 : Nat → va_E) (H : Heap) (locs : List Loc) (ls : Array Slot), (i2 ≤ 30) → 30 - i2 < n9_54 → f_26 315 = eO 10 [.ref (g 316), .ref (g 317), .ref (g 318), .long ab2, .long be2, .int sn937, .ref (g 319), .ref (g 320), .int wn938, .ref (g 321), .ref (g 322), .int sa939, .int ly940, .int rdy, .int (nI fd), .ref (g 323), .ref (g 324), .ref (g 325), .ref (g 326), .ref (g 327), .ref (g 328), .ref (g 329), .ref (g 330), .ref (g 331), .ref (g 332)] → f_26 316 = eI G 2246 ss → f_26 319 = eI G 70 sp941 → f_26 320 = eI G 70 wi942 → f_26 321 = eI G 70 wa943 → f_26 322 = eJ G 70 va944 → f_26 323 = eI G 11 (upd bo to u) → f_26 324 = eI G 11 ju → f_26 325 = eI G 264 dr949 → f_26 326 = eI G 11 dn950 → f_26 327 = eI G 330 sl2 → f_26 328 = eI G 44 ax951 → f_26 329 = eI G 30 lf952 → (∀ j, j ≠ 327 → f_26 j = f_25 j) → va_P G.1 vwCl (wl g f_26) H → va_S (gA g) s.heap H locs → lv_has ls 13 [(0, .ref (g 315)), (1, .int (nI t)), (2, .int (nI to)), (6, .int v1), (8, .int (v45 ||| v46)), (9, .int u), (10, .int (nI i2))] → W p l e (headSpec (wsT yX11_tries cX11_tries 13 none) ({ frames := 5, cells := 0, slots := 0, locals := 120 })).room s m ([.ref (g 315), .int (nI t), .int (nI to), .int (nI xt), .int sb] : List Value).toArray below meth c H locs 0 0 (MQ below (bQv G g (fun (f' : Nat → va_E) => ∃ sn9 : Int32, ∃ wn9 : Int32, ∃ sa9 : Int32, ∃ ly9 : Int32, ∃ sp9 : Nat → Int32, ∃ wi9 : Nat → Int32, ∃ wa9 : Nat → Int32, ∃ va9 : Nat → Int64, ∃ bo9 : Nat → Int32, ∃ ju9 : Nat → Int32, ∃ dr9 : Nat → Int32, ∃ dn9 : Nat → Int32, ∃ sl9 : Nat → Int32, ∃ ax9 : Nat → Int32, ∃ lf9 : Nat → Int32, f' 315 = eO 10 [.ref (g 316), .ref (g 317), .ref (g 318), .long ab2, .long be2, .int sn9, .ref (g 319), .ref (g 320), .int wn9, .ref (g 321), .ref (g 322), .int sa9, .int ly9, .int rdy, .int (nI fd), .ref (g 323), .ref (g 324), .ref (g 325), .ref (g 326), .ref (g 327), .ref (g 328), .ref (g 329), .ref (g 330), .ref (g 331), .ref (g 332)] ∧ f' 319 = eI G 70 sp9 ∧ f' 320 = eI G 70 wi9 ∧ f' 321 = eI G 70 wa9 ∧ f' 322 = eJ G 70 va9 ∧ f' 323 = eI G 11 bo9 ∧ f' 324 = eI G 11 ju9 ∧ f' 325 = eI G 264 dr9 ∧ f' 326 = eI G 11 dn9 ∧ f' 327 = eI G 330 sl9 ∧ f' 328 = eI G 44 ax9 ∧ f' 329 = eI G 30 lf9 ∧ (∀ k, k < 11 → ∃ d, d ≤ 24 ∧ dn9 k = nI d) ∧ ∀ j, (j < 315 ∨ (316 ≤ j ∧ j ≤ 318) ∨ 330 ≤ j) → f' j = f j)) ([.ref (g 315), .int (nI t), .int (nI to), .int (nI xt), .int sb] : List Value).toArray s 0 0 (gA g)) (F0 m 180 ls []) := by
              intro n9_54
              induction n9_54 with
              | zero => intro i2 sl2 f_26 H locs ls hi2 hn9_54; exact absurd hn9_54 (Nat.not_lt_zero _)
              | succ n9_54 ih_54 =>
                intro i2 sl2 f_26 H locs ls hi2 hn9_54 hmo hss_ hsp_ hwi_ hwa_ hva_ hbo_ hju_ hdr_ hdn_ hsl_ hax_ hlf_ o_26 hP hS hl
                refine lv_iload hx hb dX11_tries_180 (lv_at hl 6 rfl) ?_
                refine lv_bipush (v := 30) hx hb dX11_tries_182 (by decide) ?_
                refine lv_icmp_ge (tgt := 212) hx hb dX11_tries_184 (by decide) (fun c_184 => ?_) (fun c_184 => ?_)
                · have k_184 : 30 ≤ i2 := (nI_leI (a := 30) (b := i2) (by omega) (by omega)).mp c_184
                  refine lv_iconst (v := 0) hx hb dX11_tries_212 (by decide) ?_
                  refine lv_istore (lv' := [(10, .int 0), (0, .ref (g 315)), (1, .int (nI t)), (2, .int (nI to)), (6, .int v1), (8, .int (v45 ||| v46)), (9, .int u)]) hx hb dX11_tries_213 hl (by decide) rfl (fun ls hl => ?_)
                  have hd24 := hx_25_1
                  have key55 : ∀ (n9_55 : Nat) (i3 : Nat) (sl3 : Nat → Int32) (f_27 : Nat → va_E) (H : Heap) (locs : List Loc) (ls : Array Slot), (i3 ≤ d953) → d953 - i3 < n9_55 → f_27 315 = eO 10 [.ref (g 316), .ref (g 317), .ref (g 318), .long ab2, .long be2, .int sn937, .ref (g 319), .ref (g 320), .int wn938, .ref (g 321), .ref (g 322), .int sa939, .int ly940, .int rdy, .int (nI fd), .ref (g 323), .ref (g 324), .ref (g 325), .ref (g 326), .ref (g 327), .ref (g 328), .ref (g 329), .ref (g 330), .ref (g 331), .ref (g 332)] → f_27 316 = eI G 2246 ss → f_27 319 = eI G 70 sp941 → f_27 320 = eI G 70 wi942 → f_27 321 = eI G 70 wa943 → f_27 322 = eJ G 70 va944 → f_27 323 = eI G 11 (upd bo to u) → f_27 324 = eI G 11 ju → f_27 325 = eI G 264 dr949 → f_27 326 = eI G 11 dn950 → f_27 327 = eI G 330 sl3 → f_27 328 = eI G 44 ax951 → f_27 329 = eI G 30 lf952 → (∀ j, j ≠ 327 → f_27 j = f_26 j) → va_P G.1 vwCl (wl g f_27) H → va_S (gA g) s.heap H locs → lv_has ls 13 [(0, .ref (g 315)), (1, .int (nI t)), (2, .int (nI to)), (6, .int v1), (8, .int (v45 ||| v46)), (9, .int u), (10, .int (nI i3))] → W p l e (headSpec (wsT yX11_tries cX11_tries 13 none) ({ frames := 5, cells := 0, slots := 0, locals := 120 })).room s m ([.ref (g 315), .int (nI t), .int (nI to), .int (nI xt), .int sb] : List Value).toArray below meth c H locs 0 0 (MQ below (bQv G g (fun (f' : Nat → va_E) => ∃ sn9 : Int32, ∃ wn9 : Int32, ∃ sa9 : Int32, ∃ ly9 : Int32, ∃ sp9 : Nat → Int32, ∃ wi9 : Nat → Int32, ∃ wa9 : Nat → Int32, ∃ va9 : Nat → Int64, ∃ bo9 : Nat → Int32, ∃ ju9 : Nat → Int32, ∃ dr9 : Nat → Int32, ∃ dn9 : Nat → Int32, ∃ sl9 : Nat → Int32, ∃ ax9 : Nat → Int32, ∃ lf9 : Nat → Int32, f' 315 = eO 10 [.ref (g 316), .ref (g 317), .ref (g 318), .long ab2, .long be2, .int sn9, .ref (g 319), .ref (g 320), .int wn9, .ref (g 321), .ref (g 322), .int sa9, .int ly9, .int rdy, .int (nI fd), .ref (g 323), .ref (g 324), .ref (g 325), .ref (g 326), .ref (g 327), .ref (g 328), .ref (g 329), .ref (g 330), .ref (g 331), .ref (g 332)] ∧ f' 319 = eI G 70 sp9 ∧ f' 320 = eI G 70 wi9 ∧ f' 321 = eI G 70 wa9 ∧ f' 322 = eJ G 70 va9 ∧ f' 323 = eI G 11 bo9 ∧ f' 324 = eI G 11 ju9 ∧ f' 325 = eI G 264 dr9 ∧ f' 326 = eI G 11 dn9 ∧ f' 327 = eI G 330 sl9 ∧ f' 328 = eI G 44 ax9 ∧ f' 329 = eI G 30 lf9 ∧ (∀ k, k < 11 → ∃ d, d ≤ 24 ∧ dn9 k = nI d) ∧ ∀ j, (j < 315 ∨ (316 ≤ j ∧ j ≤ 318) ∨ 330 ≤ j) → f' j = f j)) ([.ref (g 315), .int (nI t), .int (nI to), .int (nI xt), .int sb] : List Value).toArray s 0 0 (gA g)) (F0 m 215 ls []) := by
                    intro n9_55
                    induction n9_55 with
                    | zero => intro i3 sl3 f_27 H locs ls hi3 hn9_55; exact absurd hn9_55 (Nat.not_lt_zero _)
                    | succ n9_55 ih_55 =>
                      intro i3 sl3 f_27 H locs ls hi3 hn9_55 hmo hss_ hsp_ hwi_ hwa_ hva_ hbo_ hju_ hdr_ hdn_ hsl_ hax_ hlf_ o_27 hP hS hl
                      have hd24 := hx_25_1
                      refine lv_iload hx hb dX11_tries_215 (lv_at hl 6 rfl) ?_
                      refine lv_aload_n hx hb dX11_tries_217 rfl (lv_at hl 0 rfl) ?_
                      refine va_get (D := G.1) (ci := 10) (v := .ref (g 326)) (C := RX11) (T := TX11) (N := 25) hx hb hts inlX11 hown hG.1 hP 315 (wl_at (by decide) hmo) rfl 18 (by decide) (hts (.fieldLink RX11 42 "SwornListsModel" "drews" "[I") w_122) (fun _ h9 => h9) rfl dX11_tries_218 ?_
                      refine lv_iload_n hx hb dX11_tries_221 rfl (lv_at hl 2 rfl) ?_
                      refine va_iald hx hb hG.1 hP 326 0 (wl_at (by decide) hdn_) rfl (vp_in_nI (by omega) (by decide)) dX11_tries_222 ?_
                      refine my_bei (v := dn950 to) (congrArg dn950 (nI_clamp (n := to) (by omega))) ?_
                      refine my_bei (v := nI d953) (hx_25_0) ?_
                      refine lv_icmp_ge (tgt := 280) hx hb dX11_tries_223 (by decide) (fun c_223 => ?_) (fun c_223 => ?_)
                      · have k_223 : d953 ≤ i3 := (nI_leI (a := d953) (b := i3) (by omega) (by omega)).mp c_223
                        refine lv_aload_n hx hb dX11_tries_280 rfl (lv_at hl 0 rfl) ?_
                        refine va_get (D := G.1) (ci := 10) (v := .ref (g 328)) (C := RX11) (T := TX11) (N := 25) hx hb hts inlX11 hown hG.1 hP 315 (wl_at (by decide) hmo) rfl 20 (by decide) (hts (.fieldLink RX11 48 "SwornListsModel" "abouts" "[I") w_124) (fun _ h9 => h9) rfl dX11_tries_281 ?_
                        refine lv_iconst (v := 4) hx hb dX11_tries_284 (by decide) ?_
                        refine lv_iload_n hx hb dX11_tries_285 rfl (lv_at hl 2 rfl) ?_
                        refine lv_imul hx hb dX11_tries_286 ?_
                        refine my_bei (v := nI (4 * to)) (pk_mul 4 to) ?_
                        refine lv_iconst (v := 0) hx hb dX11_tries_287 (by decide) ?_
                        refine va_iast hx hb hG.1 hP (wl_D hg f_27) hS 328 0 (wl_at (by decide) hax_) rfl (vp_in_nI (by omega) (by decide)) dX11_tries_288 (fun H locs hP _ hS => ?_)
                        have hP := (congrArg (fun z9 => va_P G.1 vwCl ((wl g f_27).set 328 (g 328, eI G 44 ((upd ax951 z9 0)))) H) (show Int32.toNatClampNeg (nI (4 * to)) = 4 * to from nI_clamp (by omega))).mp hP
                        obtain ⟨f_28, hP, e_28, o_28⟩ := b_put (by decide) hP
                        have hax_ : f_28 328 = eI G 44 (upd ax951 (4 * to) 0) := e_28
                        refine lv_aload_n hx hb dX11_tries_289 rfl (lv_at hl 0 rfl) ?_
                        replace hmo := ((o_28 315 (by decide))).trans hmo
                        refine va_get (D := G.1) (ci := 10) (v := .ref (g 328)) (C := RX11) (T := TX11) (N := 25) hx hb hts inlX11 hown hG.1 hP 315 (wl_at (by decide) hmo) rfl 20 (by decide) (hts (.fieldLink RX11 48 "SwornListsModel" "abouts" "[I") w_124) (fun _ h9 => h9) rfl dX11_tries_290 ?_
                        refine lv_iconst (v := 4) hx hb dX11_tries_293 (by decide) ?_
                        refine lv_iload_n hx hb dX11_tries_294 rfl (lv_at hl 2 rfl) ?_
                        refine lv_imul hx hb dX11_tries_295 ?_
                        refine my_bei (v := nI (4 * to)) (pk_mul 4 to) ?_
                        refine lv_iconst (v := 1) hx hb dX11_tries_296 (by decide) ?_
                        refine lv_iadd hx hb dX11_tries_297 ?_
                        refine my_bei (v := nI (4 * to + 1)) ((nI_add (4 * to) 1).trans (congrArg nI (show (4 * to) + 1 = 4 * to + 1 by omega))) ?_
                        refine lv_iconst (v := 0) hx hb dX11_tries_298 (by decide) ?_
                        refine va_iast hx hb hG.1 hP (wl_D hg f_28) hS 328 0 (wl_at (by decide) hax_) rfl (vp_in_nI (by omega) (by decide)) dX11_tries_299 (fun H locs hP _ hS => ?_)
                        have hP := (congrArg (fun z9 => va_P G.1 vwCl ((wl g f_28).set 328 (g 328, eI G 44 ((upd (upd ax951 (4 * to) 0) z9 0)))) H) (show Int32.toNatClampNeg (nI (4 * to + 1)) = 4 * to + 1 from nI_clamp (by omega))).mp hP
                        obtain ⟨f_29, hP, e_29, o_29⟩ := b_put (by decide) hP
                        have hax_ : f_29 328 = eI G 44 (upd (upd ax951 (4 * to) 0) (4 * to + 1) 0) := e_29
                        refine lv_aload_n hx hb dX11_tries_300 rfl (lv_at hl 0 rfl) ?_
                        replace hmo := ((o_29 315 (by decide))).trans hmo
                        refine va_get (D := G.1) (ci := 10) (v := .ref (g 328)) (C := RX11) (T := TX11) (N := 25) hx hb hts inlX11 hown hG.1 hP 315 (wl_at (by decide) hmo) rfl 20 (by decide) (hts (.fieldLink RX11 48 "SwornListsModel" "abouts" "[I") w_124) (fun _ h9 => h9) rfl dX11_tries_301 ?_
                        refine lv_iconst (v := 4) hx hb dX11_tries_304 (by decide) ?_
                        refine lv_iload_n hx hb dX11_tries_305 rfl (lv_at hl 2 rfl) ?_
                        refine lv_imul hx hb dX11_tries_306 ?_
                        refine my_bei (v := nI (4 * to)) (pk_mul 4 to) ?_
                        refine lv_iconst (v := 2) hx hb dX11_tries_307 (by decide) ?_
                        refine lv_iadd hx hb dX11_tries_308 ?_
                        refine my_bei (v := nI (4 * to + 2)) ((nI_add (4 * to) 2).trans (congrArg nI (show (4 * to) + 2 = 4 * to + 2 by omega))) ?_
                        refine lv_iconst (v := 0) hx hb dX11_tries_309 (by decide) ?_
                        refine va_iast hx hb hG.1 hP (wl_D hg f_29) hS 328 0 (wl_at (by decide) hax_) rfl (vp_in_nI (by omega) (by decide)) dX11_tries_310 (fun H locs hP _ hS => ?_)
                        have hP := (congrArg (fun z9 => va_P G.1 vwCl ((wl g f_29).set 328 (g 328, eI G 44 ((upd (upd (upd ax951 (4 * to) 0) (4 * to + 1) 0) z9 0)))) H) (show Int32.toNatClampNeg (nI (4 * to + 2)) = 4 * to + 2 from nI_clamp (by omega))).mp hP
                        obtain ⟨f_30, hP, e_30, o_30⟩ := b_put (by decide) hP
                        have hax_ : f_30 328 = eI G 44 (upd (upd (upd ax951 (4 * to) 0) (4 * to + 1) 0) (4 * to + 2) 0) := e_30
                        refine lv_iconst (v := 0) hx hb dX11_tries_311 (by decide) ?_
                        refine lv_istore (lv' := [(10, .int 0), (0, .ref (g 315)), (1, .int (nI t)), (2, .int (nI to)), (6, .int v1), (8, .int (v45 ||| v46)), (9, .int u)]) hx hb dX11_tries_312 hl (by decide) rfl (fun ls hl => ?_)
                        refine lv_iconst (v := 0) hx hb dX11_tries_314 (by decide) ?_
                        refine lv_istore (lv' := [(11, .int 0), (10, .int 0), (0, .ref (g 315)), (1, .int (nI t)), (2, .int (nI to)), (6, .int v1), (8, .int (v45 ||| v46)), (9, .int u)]) hx hb dX11_tries_315 hl (by decide) rfl (fun ls hl => ?_)
                        replace hmo := ((o_30 315 (by decide))).trans hmo
                        replace hss_ := ((o_30 316 (by decide)).trans ((o_29 316 (by decide)).trans ((o_28 316 (by decide))))).trans hss_
                        replace hsp_ := ((o_30 319 (by decide)).trans ((o_29 319 (by decide)).trans ((o_28 319 (by decide))))).trans hsp_
                        replace hwi_ := ((o_30 320 (by decide)).trans ((o_29 320 (by decide)).trans ((o_28 320 (by decide))))).trans hwi_
                        replace hwa_ := ((o_30 321 (by decide)).trans ((o_29 321 (by decide)).trans ((o_28 321 (by decide))))).trans hwa_
                        replace hva_ := ((o_30 322 (by decide)).trans ((o_29 322 (by decide)).trans ((o_28 322 (by decide))))).trans hva_
                        replace hbo_ := ((o_30 323 (by decide)).trans ((o_29 323 (by decide)).trans ((o_28 323 (by decide))))).trans hbo_
                        replace hju_ := ((o_30 324 (by decide)).trans ((o_29 324 (by decide)).trans ((o_28 324 (by decide))))).trans hju_
                        replace hdr_ := ((o_30 325 (by decide)).trans ((o_29 325 (by decide)).trans ((o_28 325 (by decide))))).trans hdr_
                        replace hdn_ := ((o_30 326 (by decide)).trans ((o_29 326 (by decide)).trans ((o_28 326 (by decide))))).trans hdn_
                        replace hsl_ := ((o_30 327 (by decide)).trans ((o_29 327 (by decide)).trans ((o_28 327 (by decide))))).trans hsl_
                        replace hlf_ := ((o_30 329 (by decide)).trans ((o_29 329 (by decide)).trans ((o_28 329 (by decide))))).trans hlf_
                        have key56 : ∀ (n9_56 : Nat) (th : Nat) (sd : Nat) (a0 : Nat) (a1 : Nat) (sl4 : Nat → Int32) (ax4 : Nat → Int32) (f_31 : Nat → va_E) (H : Heap) (locs : List Loc) (ls : Array Slot), (th ≤ 2) → (sd < 2) → (a0 ≤ q4) → (a1 ≤ q4) → (ax4 (4 * to + 1) = nI a0) → (ax4 (4 * to + 2) = nI a1) → 3 * (2 * q4 - a0 - a1) + (2 - th) < n9_56 → f_31 315 = eO 10 [.ref (g 316), .ref (g 317), .ref (g 318), .long ab2, .long be2, .int sn937, .ref (g 319), .ref (g 320), .int wn938, .ref (g 321), .ref (g 322), .int sa939, .int ly940, .int rdy, .int (nI fd), .ref (g 323), .ref (g 324), .ref (g 325), .ref (g 326), .ref (g 327), .ref (g 328), .ref (g 329), .ref (g 330), .ref (g 331), .ref (g 332)] → f_31 316 = eI G 2246 ss → f_31 319 = eI G 70 sp941 → f_31 320 = eI G 70 wi942 → f_31 321 = eI G 70 wa943 → f_31 322 = eJ G 70 va944 → f_31 323 = eI G 11 (upd bo to u) → f_31 324 = eI G 11 ju → f_31 325 = eI G 264 dr949 → f_31 326 = eI G 11 dn950 → f_31 327 = eI G 330 sl4 → f_31 328 = eI G 44 ax4 → f_31 329 = eI G 30 lf952 → (∀ j, (j ≠ 327 ∧ j ≠ 328) → f_31 j = f_30 j) → va_P G.1 vwCl (wl g f_31) H → va_S (gA g) s.heap H locs → lv_has ls 13 [(0, .ref (g 315)), (1, .int (nI t)), (2, .int (nI to)), (6, .int v1), (8, .int (v45 ||| v46)), (9, .int u), (10, .int (nI th)), (11, .int (nI sd))] → W p l e (headSpec (wsT yX11_tries cX11_tries 13 none) ({ frames := 5, cells := 0, slots := 0, locals := 120 })).room s m ([.ref (g 315), .int (nI t), .int (nI to), .int (nI xt), .int sb] : List Value).toArray below meth c H locs 0 0 (MQ below (bQv G g (fun (f' : Nat → va_E) => ∃ sn9 : Int32, ∃ wn9 : Int32, ∃ sa9 : Int32, ∃ ly9 : Int32, ∃ sp9 : Nat → Int32, ∃ wi9 : Nat → Int32, ∃ wa9 : Nat → Int32, ∃ va9 : Nat → Int64, ∃ bo9 : Nat → Int32, ∃ ju9 : Nat → Int32, ∃ dr9 : Nat → Int32, ∃ dn9 : Nat → Int32, ∃ sl9 : Nat → Int32, ∃ ax9 : Nat → Int32, ∃ lf9 : Nat → Int32, f' 315 = eO 10 [.ref (g 316), .ref (g 317), .ref (g 318), .long ab2, .long be2, .int sn9, .ref (g 319), .ref (g 320), .int wn9, .ref (g 321), .ref (g 322), .int sa9, .int ly9, .int rdy, .int (nI fd), .ref (g 323), .ref (g 324), .ref (g 325), .ref (g 326), .ref (g 327), .ref (g 328), .ref (g 329), .ref (g 330), .ref (g 331), .ref (g 332)] ∧ f' 319 = eI G 70 sp9 ∧ f' 320 = eI G 70 wi9 ∧ f' 321 = eI G 70 wa9 ∧ f' 322 = eJ G 70 va9 ∧ f' 323 = eI G 11 bo9 ∧ f' 324 = eI G 11 ju9 ∧ f' 325 = eI G 264 dr9 ∧ f' 326 = eI G 11 dn9 ∧ f' 327 = eI G 330 sl9 ∧ f' 328 = eI G 44 ax9 ∧ f' 329 = eI G 30 lf9 ∧ (∀ k, k < 11 → ∃ d, d ≤ 24 ∧ dn9 k = nI d) ∧ ∀ j, (j < 315 ∨ (316 ≤ j ∧ j ≤ 318) ∨ 330 ≤ j) → f' j = f j)) ([.ref (g 315), .int (nI t), .int (nI to), .int (nI xt), .int sb] : List Value).toArray s 0 0 (gA g)) (F0 m 317 ls []) := by
                          intro n9_56
                          induction n9_56 with
                          | zero => intro th sd a0 a1 sl4 ax4 f_31 H locs ls hth hsd hq0 hq1 ha0 ha1 hn9_56; exact absurd hn9_56 (Nat.not_lt_zero _)
                          | succ n9_56 ih_56 =>
                            intro th sd a0 a1 sl4 ax4 f_31 H locs ls hth hsd hq0 hq1 ha0 ha1 hn9_56 hmo hss_ hsp_ hwi_ hwa_ hva_ hbo_ hju_ hdr_ hdn_ hsl_ hax_ hlf_ o_31 hP hS hl
                            refine lv_iload hx hb dX11_tries_317 (lv_at hl 6 rfl) ?_
                            refine lv_iconst (v := 2) hx hb dX11_tries_319 (by decide) ?_
                            refine lv_icmp_ge (tgt := 397) hx hb dX11_tries_320 (by decide) (fun c_320 => ?_) (fun c_320 => ?_)
                            · have k_320 : 2 ≤ th := (nI_leI (a := 2) (b := th) (by omega) (by omega)).mp c_320
                              refine lv_aload_n hx hb dX11_tries_397 rfl (lv_at hl 0 rfl) ?_
                              refine lv_iload_n hx hb dX11_tries_398 rfl (lv_at hl 1 rfl) ?_
                              refine lv_iload_n hx hb dX11_tries_399 rfl (lv_at hl 2 rfl) ?_
                              refine lv_iload hx hb dX11_tries_400 (lv_at hl 3 rfl) ?_
                              refine lv_iload hx hb dX11_tries_402 (lv_at hl 5 rfl) ?_
                              refine lv_iconst (v := (-1)) hx hb dX11_tries_404 (by decide) ?_
                              refine lv_ixor hx hb dX11_tries_405 ?_
                              refine lv_iand hx hb dX11_tries_406 ?_
                              refine lv_iload hx hb dX11_tries_407 (lv_at hl 4 rfl) ?_
                              refine lv_iconst (v := (-1)) hx hb dX11_tries_409 (by decide) ?_
                              refine lv_ixor hx hb dX11_tries_410 ?_
                              refine lv_iand hx hb dX11_tries_411 ?_
                              refine b_callv (va_runV (As := [.int (nI t), .int (nI to), .int ((v1 &&& (u ^^^ (-1))) &&& ((v45 ||| v46) ^^^ (-1)))]) (rest := []) ⟨hx, hb, hml, hown, hts⟩ (r_seats l G g hg f_31 ab2 be2 sn937 wn938 sa939 ly940 rdy (nI fd) ss ju dr949 dn950 sl4 ax4 t to d953 ((v1 &&& (u ^^^ (-1))) &&& ((v45 ||| v46) ^^^ (-1))) hmo hss_ hju_ hdr_ hdn_ hsl_ hax_ (by first | assumption | omega | decide) (by first | assumption | omega | decide) (hx_25_0) (by first | assumption | omega | decide) (hx_25_3)) (my_cwV hts ok_X11_seats w_580 rfl rfl ⟨Nat.le_of_ble_eq_true rfl, Nat.le_of_ble_eq_true rfl⟩) ⟨bP.blind, va_recv hG.1 hP (ci := 10) (q0 := 315) rfl (wl_at (by decide) hmo), fun U hU hW => ⟨rfl, by rw [hU]; exact hP, kG.warm hW hG⟩⟩ rfl rfl hl.1 rfl (lv_room (Nat.le_of_ble_eq_true rfl)) dX11_tries_412 ⟨Nat.le_of_ble_eq_true rfl, Nat.le_of_ble_eq_true rfl⟩) hS (fun f_32 H locs hq9 hP hS => ?_)
                              obtain ⟨ju957, sl958, ax959, hq_32_0, hq_32_1, hq_32_2, o_32⟩ := hq9
                              have hju_ : f_32 324 = eI G 11 ju957 := hq_32_0
                              have hsl_ : f_32 327 = eI G 330 sl958 := hq_32_1
                              have hax_ : f_32 328 = eI G 44 ax959 := hq_32_2
                              replace hmo := ((o_32 315 (by first | decide | omega))).trans hmo
                              replace hsp_ := ((o_32 319 (by first | decide | omega))).trans hsp_
                              replace hwi_ := ((o_32 320 (by first | decide | omega))).trans hwi_
                              replace hwa_ := ((o_32 321 (by first | decide | omega))).trans hwa_
                              replace hva_ := ((o_32 322 (by first | decide | omega))).trans hva_
                              replace hbo_ := ((o_32 323 (by first | decide | omega))).trans hbo_
                              replace hdr_ := ((o_32 325 (by first | decide | omega))).trans hdr_
                              replace hdn_ := ((o_32 326 (by first | decide | omega))).trans hdn_
                              replace hlf_ := ((o_32 329 (by first | decide | omega))).trans hlf_
                              exact W.vret hx hb hr (fun t ht hW => ⟨⟨f_32, rfl, (⟨sn937, wn938, sa939, ly940, sp941, wi942, wa943, va944, (upd bo to u), ju957, dr949, dn950, sl958, ax959, lf952, hmo, hsp_, hwi_, hwa_, hva_, hbo_, hju_, hdr_, hdn_, hsl_, hax_, hlf_, dn_new hdn hx_25_0 hx_25_1 hx_25_2, fun j hj => ((((((((((((o_32 j (by omega))).trans (o_31 j (by omega))).trans (o_30 j (by omega))).trans (o_29 j (by omega))).trans (o_28 j (by omega))).trans (o_27 j (by omega))).trans (o_26 j (by omega))).trans (o_25 j (by omega))).trans (o_24 j (by omega))).trans (o_23 j (by omega))).trans (o_22 j (by omega))).trans (o_1 j (by omega))⟩), by rw [ht]; exact hP⟩, hS.F ht⟩) hS.2.2 dX11_tries_415
                            · have k_320 : ¬ 2 ≤ th := fun z9 => c_320 ((nI_leI (a := 2) (b := th) (by omega) (by omega)).mpr z9)
                              rcases (show sd = 0 ∨ sd = 1 by omega) with rfl | rfl
                              · refine lv_aload_n hx hb dX11_tries_323 rfl (lv_at hl 0 rfl) ?_
                                refine lv_iload_n hx hb dX11_tries_324 rfl (lv_at hl 1 rfl) ?_
                                refine lv_iload_n hx hb dX11_tries_325 rfl (lv_at hl 2 rfl) ?_
                                refine lv_iload hx hb dX11_tries_326 (lv_at hl 7 rfl) ?_
                                refine rd_calli (va_runV (As := [.int (nI t), .int (nI to), .int 0]) (rest := []) ⟨hx, hb, hml, hown, hts⟩ (r_strikes l G g hg f_31 ab2 be2 sn937 wn938 sa939 ly940 rdy (nI fd) ss np nf nr na nt dr949 dn950 sl4 ax4 t to 0 a0 d953 q4 hmo hss_ hdr_ hdn_ hsl_ hax_ (by first | assumption | omega | decide) (by first | assumption | omega | decide) (by first | assumption | omega | decide) (by first | assumption | omega | decide) (by first | assumption | omega | decide) (by rw [show 0 + 4 * to + 1 = 4 * to + 1 by omega]; exact ha0) (hx_25_0) (by first | assumption | omega | decide) (hx_25_3) (by first | assumption | omega | decide) (hs4)) (my_cwV hts ok_X11_strikes w_576 rfl rfl ⟨Nat.le_of_ble_eq_true rfl, Nat.le_of_ble_eq_true rfl⟩) ⟨bP.blind, va_recv hG.1 hP (ci := 10) (q0 := 315) rfl (wl_at (by decide) hmo), fun U hU hW => ⟨rfl, by rw [hU]; exact hP, kG.warm hW hG⟩⟩ rfl rfl hl.1 rfl (lv_room (Nat.le_of_ble_eq_true rfl)) dX11_tries_328 ⟨Nat.le_of_ble_eq_true rfl, Nat.le_of_ble_eq_true rfl⟩) (fun r hr9 => ?_)
                                obtain ⟨o960, rfl, hx_33_0, hx_33_1⟩ := hr9
                                refine lv_istore (lv' := [(12, .int (fo o960)), (0, .ref (g 315)), (1, .int (nI t)), (2, .int (nI to)), (6, .int v1), (8, .int (v45 ||| v46)), (9, .int u), (10, .int (nI th)), (11, .int 0)]) hx hb dX11_tries_331 hl (by decide) rfl (fun ls hl => ?_)
                                refine lv_iload hx hb dX11_tries_333 (lv_at hl 0 rfl) ?_
                                refine lv_iconst (v := (-1)) hx hb dX11_tries_335 (by decide) ?_
                                refine lv_icmp_ne (tgt := 346) hx hb dX11_tries_336 (by decide) (fun c_336 => ?_) (fun c_336 => ?_)
                                · refine lv_iconst (v := 0) hx hb dX11_tries_346 (by decide) ?_
                                  refine lv_istore (lv' := [(10, .int 0), (12, .int (fo o960)), (0, .ref (g 315)), (1, .int (nI t)), (2, .int (nI to)), (6, .int v1), (8, .int (v45 ||| v46)), (9, .int u), (11, .int 0)]) hx hb dX11_tries_347 hl (by decide) rfl (fun ls hl => ?_)
                                  refine lv_iload hx hb dX11_tries_349 (lv_at hl 1 rfl) ?_
                                  refine lv_iconst (v := (-1)) hx hb dX11_tries_351 (by decide) ?_
                                  refine lv_icmp_eq (tgt := 388) hx hb dX11_tries_352 (by decide) (fun c_352 => absurd c_352 (c_336)) (fun c_352 => ?_)
                                  obtain ⟨z5, rfl⟩ : ∃ b, o960 = some b := by
                                    cases o960 with
                                    | none => exact absurd rfl c_336
                                    | some z => exact ⟨z, rfl⟩
                                  have hz5 := hx_33_0 z5 rfl
                                  have hlt5 : a0 ≠ q4 := fun z => by cases hx_33_1 z
                                  refine lv_aload_n hx hb dX11_tries_355 rfl (lv_at hl 2 rfl) ?_
                                  refine va_get (D := G.1) (ci := 10) (v := .ref (g 327)) (C := RX11) (T := TX11) (N := 25) hx hb hts inlX11 hown hG.1 hP 315 (wl_at (by decide) hmo) rfl 19 (by decide) (hts (.fieldLink RX11 45 "SwornListsModel" "slips" "[I") w_123) (fun _ h9 => h9) rfl dX11_tries_356 ?_
                                  refine lv_bipush (v := 30) hx hb dX11_tries_359 (by decide) ?_
                                  refine lv_iload_n hx hb dX11_tries_361 rfl (lv_at hl 4 rfl) ?_
                                  refine lv_imul hx hb dX11_tries_362 ?_
                                  refine my_bei (v := nI (30 * to)) (pk_mul 30 to) ?_
                                  refine lv_iload hx hb dX11_tries_363 (lv_at hl 1 rfl) ?_
                                  refine lv_iadd hx hb dX11_tries_365 ?_
                                  refine my_bei (v := nI (30 * to + z5)) ((nI_add (30 * to) z5).trans (congrArg nI (show (30 * to) + z5 = 30 * to + z5 by omega))) ?_
                                  refine lv_iconst (v := 3) hx hb dX11_tries_366 (by decide) ?_
                                  refine lv_iload hx hb dX11_tries_367 (lv_at hl 8 rfl) ?_
                                  refine lv_iadd hx hb dX11_tries_369 ?_
                                  refine my_bei (v := 3) (by decide) ?_
                                  refine va_iast hx hb hG.1 hP (wl_D hg f_31) hS 327 0 (wl_at (by decide) hsl_) rfl (vp_in_nI (by omega) (by decide)) dX11_tries_370 (fun H locs hP _ hS => ?_)
                                  have hP := (congrArg (fun z9 => va_P G.1 vwCl ((wl g f_31).set 327 (g 327, eI G 330 ((upd sl4 z9 3)))) H) (show Int32.toNatClampNeg (nI (30 * to + z5)) = 30 * to + z5 from nI_clamp (by omega))).mp hP
                                  obtain ⟨f_34, hP, e_34, o_34⟩ := b_put (by decide) hP
                                  have hsl_ : f_34 327 = eI G 330 (upd sl4 (30 * to + z5) 3) := e_34
                                  refine lv_aload_n hx hb dX11_tries_371 rfl (lv_at hl 2 rfl) ?_
                                  replace hmo := ((o_34 315 (by decide))).trans hmo
                                  refine va_get (D := G.1) (ci := 10) (v := .ref (g 328)) (C := RX11) (T := TX11) (N := 25) hx hb hts inlX11 hown hG.1 hP 315 (wl_at (by decide) hmo) rfl 20 (by decide) (hts (.fieldLink RX11 48 "SwornListsModel" "abouts" "[I") w_124) (fun _ h9 => h9) rfl dX11_tries_372 ?_
                                  refine lv_iconst (v := 4) hx hb dX11_tries_375 (by decide) ?_
                                  refine lv_iload_n hx hb dX11_tries_376 rfl (lv_at hl 4 rfl) ?_
                                  refine lv_imul hx hb dX11_tries_377 ?_
                                  refine my_bei (v := nI (4 * to)) (pk_mul 4 to) ?_
                                  refine lv_iconst (v := 1) hx hb dX11_tries_378 (by decide) ?_
                                  refine lv_iadd hx hb dX11_tries_379 ?_
                                  refine my_bei (v := nI (4 * to + 1)) ((nI_add (4 * to) 1).trans (congrArg nI (show (4 * to) + 1 = 4 * to + 1 by omega))) ?_
                                  refine lv_iload hx hb dX11_tries_380 (lv_at hl 8 rfl) ?_
                                  refine lv_iadd hx hb dX11_tries_382 ?_
                                  refine my_bei (v := nI (4 * to + 1)) ((nI_add (4 * to + 1) 0).trans (congrArg nI (show (4 * to + 1) + 0 = 4 * to + 1 by omega))) ?_
                                  refine lv_dup2_11 hx hb dX11_tries_383 rfl rfl ?_
                                  replace hax_ := ((o_34 328 (by decide))).trans hax_
                                  refine va_iald hx hb hG.1 hP 328 0 (wl_at (by decide) hax_) rfl (vp_in_nI (by omega) (by decide)) dX11_tries_384 ?_
                                  refine my_bei (v := ax4 (4 * to + 1)) (congrArg ax4 (nI_clamp (n := 4 * to + 1) (by omega))) ?_
                                  refine my_bei (v := nI a0) (ha0) ?_
                                  refine lv_iconst (v := 1) hx hb dX11_tries_385 (by decide) ?_
                                  refine lv_iadd hx hb dX11_tries_386 ?_
                                  refine my_bei (v := nI (a0 + 1)) (nI_add a0 1) ?_
                                  refine va_iast hx hb hG.1 hP (wl_D hg f_34) hS 328 0 (wl_at (by decide) hax_) rfl (vp_in_nI (by omega) (by decide)) dX11_tries_387 (fun H locs hP _ hS => ?_)
                                  have hP := (congrArg (fun z9 => va_P G.1 vwCl ((wl g f_34).set 328 (g 328, eI G 44 ((upd ax4 z9 (nI (a0 + 1)))))) H) (show Int32.toNatClampNeg (nI (4 * to + 1)) = 4 * to + 1 from nI_clamp (by omega))).mp hP
                                  obtain ⟨f_35, hP, e_35, o_35⟩ := b_put (by decide) hP
                                  have hax_ : f_35 328 = eI G 44 (upd ax4 (4 * to + 1) (nI (a0 + 1))) := e_35
                                  refine lv_iconst (v := 1) hx hb dX11_tries_388 (by decide) ?_
                                  refine lv_iload hx hb dX11_tries_389 (lv_at hl 8 rfl) ?_
                                  refine lv_isub hx hb dX11_tries_391 ?_
                                  refine my_bei (v := 1) (by decide) ?_
                                  refine lv_istore (lv' := [(11, .int 1), (10, .int 0), (12, .int (nI z5)), (0, .ref (g 315)), (1, .int (nI t)), (2, .int (nI to)), (6, .int v1), (8, .int (v45 ||| v46)), (9, .int u)]) hx hb dX11_tries_392 hl (by decide) rfl (fun ls hl => ?_)
                                  refine lv_goto (tgt := 317) hx hb dX11_tries_394 (by decide) ?_
                                  replace hmo := ((o_35 315 (by decide))).trans hmo
                                  replace hss_ := ((o_35 316 (by decide)).trans ((o_34 316 (by decide)))).trans hss_
                                  replace hsp_ := ((o_35 319 (by decide)).trans ((o_34 319 (by decide)))).trans hsp_
                                  replace hwi_ := ((o_35 320 (by decide)).trans ((o_34 320 (by decide)))).trans hwi_
                                  replace hwa_ := ((o_35 321 (by decide)).trans ((o_34 321 (by decide)))).trans hwa_
                                  replace hva_ := ((o_35 322 (by decide)).trans ((o_34 322 (by decide)))).trans hva_
                                  replace hbo_ := ((o_35 323 (by decide)).trans ((o_34 323 (by decide)))).trans hbo_
                                  replace hju_ := ((o_35 324 (by decide)).trans ((o_34 324 (by decide)))).trans hju_
                                  replace hdr_ := ((o_35 325 (by decide)).trans ((o_34 325 (by decide)))).trans hdr_
                                  replace hdn_ := ((o_35 326 (by decide)).trans ((o_34 326 (by decide)))).trans hdn_
                                  replace hsl_ := ((o_35 327 (by decide))).trans hsl_
                                  replace hlf_ := ((o_35 329 (by decide)).trans ((o_34 329 (by decide)))).trans hlf_
                                  exact ih_56 0 1 (a0 + 1) a1 (upd sl4 (30 * to + z5) 3) (upd ax4 (4 * to + 1) (nI (a0 + 1))) f_35 _ _ _ (by omega) (by omega) (by omega) (by omega) (pk_us) ((pk_un (by omega)).trans ha1) (by omega) (hmo) (hss_) (hsp_) (hwi_) (hwa_) (hva_) (hbo_) (hju_) (hdr_) (hdn_) (hsl_) (hax_) (hlf_) (fun j hj => (((o_35 j (by omega))).trans (o_34 j (by omega))).trans (o_31 j (by omega))) hP hS (lv_sub hl [3, 4, 5, 6, 7, 8, 1, 0] rfl)
                                · refine lv_iload hx hb dX11_tries_339 (lv_at hl 7 rfl) ?_
                                  refine lv_iconst (v := 1) hx hb dX11_tries_341 (by decide) ?_
                                  refine lv_iadd hx hb dX11_tries_342 ?_
                                  refine my_bei (v := nI (th + 1)) (nI_add th 1) ?_
                                  refine lv_goto (tgt := 347) hx hb dX11_tries_343 (by decide) ?_
                                  refine lv_istore (lv' := [(10, .int (nI (th + 1))), (12, .int (fo o960)), (0, .ref (g 315)), (1, .int (nI t)), (2, .int (nI to)), (6, .int v1), (8, .int (v45 ||| v46)), (9, .int u), (11, .int 0)]) hx hb dX11_tries_347 hl (by decide) rfl (fun ls hl => ?_)
                                  refine lv_iload hx hb dX11_tries_349 (lv_at hl 1 rfl) ?_
                                  refine lv_iconst (v := (-1)) hx hb dX11_tries_351 (by decide) ?_
                                  refine lv_icmp_eq (tgt := 388) hx hb dX11_tries_352 (by decide) (fun c_352 => ?_) (fun c_352 => absurd (c_336) c_352)
                                  refine lv_iconst (v := 1) hx hb dX11_tries_388 (by decide) ?_
                                  refine lv_iload hx hb dX11_tries_389 (lv_at hl 8 rfl) ?_
                                  refine lv_isub hx hb dX11_tries_391 ?_
                                  refine my_bei (v := 1) (by decide) ?_
                                  refine lv_istore (lv' := [(11, .int 1), (10, .int (nI (th + 1))), (12, .int (fo o960)), (0, .ref (g 315)), (1, .int (nI t)), (2, .int (nI to)), (6, .int v1), (8, .int (v45 ||| v46)), (9, .int u)]) hx hb dX11_tries_392 hl (by decide) rfl (fun ls hl => ?_)
                                  refine lv_goto (tgt := 317) hx hb dX11_tries_394 (by decide) ?_
                                  exact ih_56 (th + 1) 1 a0 a1 sl4 ax4 f_31 _ _ _ (by omega) (by omega) (by omega) (by omega) (ha0) (ha1) (by omega) (hmo) (hss_) (hsp_) (hwi_) (hwa_) (hva_) (hbo_) (hju_) (hdr_) (hdn_) (hsl_) (hax_) (hlf_) (fun j hj => (o_31 j (by omega))) hP hS (lv_sub hl [3, 4, 5, 6, 7, 8, 1, 0] rfl)
                              · refine lv_aload_n hx hb dX11_tries_323 rfl (lv_at hl 0 rfl) ?_
                                refine lv_iload_n hx hb dX11_tries_324 rfl (lv_at hl 1 rfl) ?_
                                refine lv_iload_n hx hb dX11_tries_325 rfl (lv_at hl 2 rfl) ?_
                                refine lv_iload hx hb dX11_tries_326 (lv_at hl 7 rfl) ?_
                                refine rd_calli (va_runV (As := [.int (nI t), .int (nI to), .int 1]) (rest := []) ⟨hx, hb, hml, hown, hts⟩ (r_strikes l G g hg f_31 ab2 be2 sn937 wn938 sa939 ly940 rdy (nI fd) ss np nf nr na nt dr949 dn950 sl4 ax4 t to 1 a1 d953 q4 hmo hss_ hdr_ hdn_ hsl_ hax_ (by first | assumption | omega | decide) (by first | assumption | omega | decide) (by first | assumption | omega | decide) (by first | assumption | omega | decide) (by first | assumption | omega | decide) (by rw [show 1 + 4 * to + 1 = 4 * to + 2 by omega]; exact ha1) (hx_25_0) (by first | assumption | omega | decide) (hx_25_3) (by first | assumption | omega | decide) (hs4)) (my_cwV hts ok_X11_strikes w_576 rfl rfl ⟨Nat.le_of_ble_eq_true rfl, Nat.le_of_ble_eq_true rfl⟩) ⟨bP.blind, va_recv hG.1 hP (ci := 10) (q0 := 315) rfl (wl_at (by decide) hmo), fun U hU hW => ⟨rfl, by rw [hU]; exact hP, kG.warm hW hG⟩⟩ rfl rfl hl.1 rfl (lv_room (Nat.le_of_ble_eq_true rfl)) dX11_tries_328 ⟨Nat.le_of_ble_eq_true rfl, Nat.le_of_ble_eq_true rfl⟩) (fun r hr9 => ?_)
                                obtain ⟨o961, rfl, hx_36_0, hx_36_1⟩ := hr9
                                refine lv_istore (lv' := [(12, .int (fo o961)), (0, .ref (g 315)), (1, .int (nI t)), (2, .int (nI to)), (6, .int v1), (8, .int (v45 ||| v46)), (9, .int u), (10, .int (nI th)), (11, .int 1)]) hx hb dX11_tries_331 hl (by decide) rfl (fun ls hl => ?_)
                                refine lv_iload hx hb dX11_tries_333 (lv_at hl 0 rfl) ?_
                                refine lv_iconst (v := (-1)) hx hb dX11_tries_335 (by decide) ?_
                                refine lv_icmp_ne (tgt := 346) hx hb dX11_tries_336 (by decide) (fun c_336 => ?_) (fun c_336 => ?_)
                                · refine lv_iconst (v := 0) hx hb dX11_tries_346 (by decide) ?_
                                  refine lv_istore (lv' := [(10, .int 0), (12, .int (fo o961)), (0, .ref (g 315)), (1, .int (nI t)), (2, .int (nI to)), (6, .int v1), (8, .int (v45 ||| v46)), (9, .int u), (11, .int 1)]) hx hb dX11_tries_347 hl (by decide) rfl (fun ls hl => ?_)
                                  refine lv_iload hx hb dX11_tries_349 (lv_at hl 1 rfl) ?_
                                  refine lv_iconst (v := (-1)) hx hb dX11_tries_351 (by decide) ?_
                                  refine lv_icmp_eq (tgt := 388) hx hb dX11_tries_352 (by decide) (fun c_352 => absurd c_352 (c_336)) (fun c_352 => ?_)
                                  obtain ⟨z5, rfl⟩ : ∃ b, o961 = some b := by
                                    cases o961 with
                                    | none => exact absurd rfl c_336
                                    | some z => exact ⟨z, rfl⟩
                                  have hz5 := hx_36_0 z5 rfl
                                  have hlt5 : a1 ≠ q4 := fun z => by cases hx_36_1 z
                                  refine lv_aload_n hx hb dX11_tries_355 rfl (lv_at hl 2 rfl) ?_
                                  refine va_get (D := G.1) (ci := 10) (v := .ref (g 327)) (C := RX11) (T := TX11) (N := 25) hx hb hts inlX11 hown hG.1 hP 315 (wl_at (by decide) hmo) rfl 19 (by decide) (hts (.fieldLink RX11 45 "SwornListsModel" "slips" "[I") w_123) (fun _ h9 => h9) rfl dX11_tries_356 ?_
                                  refine lv_bipush (v := 30) hx hb dX11_tries_359 (by decide) ?_
                                  refine lv_iload_n hx hb dX11_tries_361 rfl (lv_at hl 4 rfl) ?_
                                  refine lv_imul hx hb dX11_tries_362 ?_
                                  refine my_bei (v := nI (30 * to)) (pk_mul 30 to) ?_
                                  refine lv_iload hx hb dX11_tries_363 (lv_at hl 1 rfl) ?_
                                  refine lv_iadd hx hb dX11_tries_365 ?_
                                  refine my_bei (v := nI (30 * to + z5)) ((nI_add (30 * to) z5).trans (congrArg nI (show (30 * to) + z5 = 30 * to + z5 by omega))) ?_
                                  refine lv_iconst (v := 3) hx hb dX11_tries_366 (by decide) ?_
                                  refine lv_iload hx hb dX11_tries_367 (lv_at hl 8 rfl) ?_
                                  refine lv_iadd hx hb dX11_tries_369 ?_
                                  refine my_bei (v := 4) (by decide) ?_
                                  refine va_iast hx hb hG.1 hP (wl_D hg f_31) hS 327 0 (wl_at (by decide) hsl_) rfl (vp_in_nI (by omega) (by decide)) dX11_tries_370 (fun H locs hP _ hS => ?_)
                                  have hP := (congrArg (fun z9 => va_P G.1 vwCl ((wl g f_31).set 327 (g 327, eI G 330 ((upd sl4 z9 4)))) H) (show Int32.toNatClampNeg (nI (30 * to + z5)) = 30 * to + z5 from nI_clamp (by omega))).mp hP
                                  obtain ⟨f_37, hP, e_37, o_37⟩ := b_put (by decide) hP
                                  have hsl_ : f_37 327 = eI G 330 (upd sl4 (30 * to + z5) 4) := e_37
                                  refine lv_aload_n hx hb dX11_tries_371 rfl (lv_at hl 2 rfl) ?_
                                  replace hmo := ((o_37 315 (by decide))).trans hmo
                                  refine va_get (D := G.1) (ci := 10) (v := .ref (g 328)) (C := RX11) (T := TX11) (N := 25) hx hb hts inlX11 hown hG.1 hP 315 (wl_at (by decide) hmo) rfl 20 (by decide) (hts (.fieldLink RX11 48 "SwornListsModel" "abouts" "[I") w_124) (fun _ h9 => h9) rfl dX11_tries_372 ?_
                                  refine lv_iconst (v := 4) hx hb dX11_tries_375 (by decide) ?_
                                  refine lv_iload_n hx hb dX11_tries_376 rfl (lv_at hl 4 rfl) ?_
                                  refine lv_imul hx hb dX11_tries_377 ?_
                                  refine my_bei (v := nI (4 * to)) (pk_mul 4 to) ?_
                                  refine lv_iconst (v := 1) hx hb dX11_tries_378 (by decide) ?_
                                  refine lv_iadd hx hb dX11_tries_379 ?_
                                  refine my_bei (v := nI (4 * to + 1)) ((nI_add (4 * to) 1).trans (congrArg nI (show (4 * to) + 1 = 4 * to + 1 by omega))) ?_
                                  refine lv_iload hx hb dX11_tries_380 (lv_at hl 8 rfl) ?_
                                  refine lv_iadd hx hb dX11_tries_382 ?_
                                  refine my_bei (v := nI (4 * to + 2)) ((nI_add (4 * to + 1) 1).trans (congrArg nI (show (4 * to + 1) + 1 = 4 * to + 2 by omega))) ?_
                                  refine lv_dup2_11 hx hb dX11_tries_383 rfl rfl ?_
                                  replace hax_ := ((o_37 328 (by decide))).trans hax_
                                  refine va_iald hx hb hG.1 hP 328 0 (wl_at (by decide) hax_) rfl (vp_in_nI (by omega) (by decide)) dX11_tries_384 ?_
                                  refine my_bei (v := ax4 (4 * to + 2)) (congrArg ax4 (nI_clamp (n := 4 * to + 2) (by omega))) ?_
                                  refine my_bei (v := nI a1) (ha1) ?_
                                  refine lv_iconst (v := 1) hx hb dX11_tries_385 (by decide) ?_
                                  refine lv_iadd hx hb dX11_tries_386 ?_
                                  refine my_bei (v := nI (a1 + 1)) (nI_add a1 1) ?_
                                  refine va_iast hx hb hG.1 hP (wl_D hg f_37) hS 328 0 (wl_at (by decide) hax_) rfl (vp_in_nI (by omega) (by decide)) dX11_tries_387 (fun H locs hP _ hS => ?_)
                                  have hP := (congrArg (fun z9 => va_P G.1 vwCl ((wl g f_37).set 328 (g 328, eI G 44 ((upd ax4 z9 (nI (a1 + 1)))))) H) (show Int32.toNatClampNeg (nI (4 * to + 2)) = 4 * to + 2 from nI_clamp (by omega))).mp hP
                                  obtain ⟨f_38, hP, e_38, o_38⟩ := b_put (by decide) hP
                                  have hax_ : f_38 328 = eI G 44 (upd ax4 (4 * to + 2) (nI (a1 + 1))) := e_38
                                  refine lv_iconst (v := 1) hx hb dX11_tries_388 (by decide) ?_
                                  refine lv_iload hx hb dX11_tries_389 (lv_at hl 8 rfl) ?_
                                  refine lv_isub hx hb dX11_tries_391 ?_
                                  refine my_bei (v := 0) (by decide) ?_
                                  refine lv_istore (lv' := [(11, .int 0), (10, .int 0), (12, .int (nI z5)), (0, .ref (g 315)), (1, .int (nI t)), (2, .int (nI to)), (6, .int v1), (8, .int (v45 ||| v46)), (9, .int u)]) hx hb dX11_tries_392 hl (by decide) rfl (fun ls hl => ?_)
                                  refine lv_goto (tgt := 317) hx hb dX11_tries_394 (by decide) ?_
                                  replace hmo := ((o_38 315 (by decide))).trans hmo
                                  replace hss_ := ((o_38 316 (by decide)).trans ((o_37 316 (by decide)))).trans hss_
                                  replace hsp_ := ((o_38 319 (by decide)).trans ((o_37 319 (by decide)))).trans hsp_
                                  replace hwi_ := ((o_38 320 (by decide)).trans ((o_37 320 (by decide)))).trans hwi_
                                  replace hwa_ := ((o_38 321 (by decide)).trans ((o_37 321 (by decide)))).trans hwa_
                                  replace hva_ := ((o_38 322 (by decide)).trans ((o_37 322 (by decide)))).trans hva_
                                  replace hbo_ := ((o_38 323 (by decide)).trans ((o_37 323 (by decide)))).trans hbo_
                                  replace hju_ := ((o_38 324 (by decide)).trans ((o_37 324 (by decide)))).trans hju_
                                  replace hdr_ := ((o_38 325 (by decide)).trans ((o_37 325 (by decide)))).trans hdr_
                                  replace hdn_ := ((o_38 326 (by decide)).trans ((o_37 326 (by decide)))).trans hdn_
                                  replace hsl_ := ((o_38 327 (by decide))).trans hsl_
                                  replace hlf_ := ((o_38 329 (by decide)).trans ((o_37 329 (by decide)))).trans hlf_
                                  exact ih_56 0 0 a0 (a1 + 1) (upd sl4 (30 * to + z5) 4) (upd ax4 (4 * to + 2) (nI (a1 + 1))) f_38 _ _ _ (by omega) (by omega) (by omega) (by omega) ((pk_un (by omega)).trans ha0) (pk_us) (by omega) (hmo) (hss_) (hsp_) (hwi_) (hwa_) (hva_) (hbo_) (hju_) (hdr_) (hdn_) (hsl_) (hax_) (hlf_) (fun j hj => (((o_38 j (by omega))).trans (o_37 j (by omega))).trans (o_31 j (by omega))) hP hS (lv_sub hl [3, 4, 5, 6, 7, 8, 1, 0] rfl)
                                · refine lv_iload hx hb dX11_tries_339 (lv_at hl 7 rfl) ?_
                                  refine lv_iconst (v := 1) hx hb dX11_tries_341 (by decide) ?_
                                  refine lv_iadd hx hb dX11_tries_342 ?_
                                  refine my_bei (v := nI (th + 1)) (nI_add th 1) ?_
                                  refine lv_goto (tgt := 347) hx hb dX11_tries_343 (by decide) ?_
                                  refine lv_istore (lv' := [(10, .int (nI (th + 1))), (12, .int (fo o961)), (0, .ref (g 315)), (1, .int (nI t)), (2, .int (nI to)), (6, .int v1), (8, .int (v45 ||| v46)), (9, .int u), (11, .int 1)]) hx hb dX11_tries_347 hl (by decide) rfl (fun ls hl => ?_)
                                  refine lv_iload hx hb dX11_tries_349 (lv_at hl 1 rfl) ?_
                                  refine lv_iconst (v := (-1)) hx hb dX11_tries_351 (by decide) ?_
                                  refine lv_icmp_eq (tgt := 388) hx hb dX11_tries_352 (by decide) (fun c_352 => ?_) (fun c_352 => absurd (c_336) c_352)
                                  refine lv_iconst (v := 1) hx hb dX11_tries_388 (by decide) ?_
                                  refine lv_iload hx hb dX11_tries_389 (lv_at hl 8 rfl) ?_
                                  refine lv_isub hx hb dX11_tries_391 ?_
                                  refine my_bei (v := 0) (by decide) ?_
                                  refine lv_istore (lv' := [(11, .int 0), (10, .int (nI (th + 1))), (12, .int (fo o961)), (0, .ref (g 315)), (1, .int (nI t)), (2, .int (nI to)), (6, .int v1), (8, .int (v45 ||| v46)), (9, .int u)]) hx hb dX11_tries_392 hl (by decide) rfl (fun ls hl => ?_)
                                  refine lv_goto (tgt := 317) hx hb dX11_tries_394 (by decide) ?_
                                  exact ih_56 (th + 1) 0 a0 a1 sl4 ax4 f_31 _ _ _ (by omega) (by omega) (by omega) (by omega) (ha0) (ha1) (by omega) (hmo) (hss_) (hsp_) (hwi_) (hwa_) (hva_) (hbo_) (hju_) (hdr_) (hdn_) (hsl_) (hax_) (hlf_) (fun j hj => (o_31 j (by omega))) hP hS (lv_sub hl [3, 4, 5, 6, 7, 8, 1, 0] rfl)
                        exact key56 ((3 * (2 * q4) + 2) + 1) 0 0 0 0 sl3 (upd (upd (upd ax951 (4 * to) 0) (4 * to + 1) 0) (4 * to + 2) 0) f_30 _ _ _ (Nat.zero_le _) (by omega) (Nat.zero_le _) (Nat.zero_le _) ((pk_un (by omega)).trans pk_us) (pk_us) (by omega) (hmo) (hss_) (hsp_) (hwi_) (hwa_) (hva_) (hbo_) (hju_) (hdr_) (hdn_) (hsl_) (hax_) (hlf_) (fun j _ => rfl) hP hS (lv_sub hl [2, 3, 4, 5, 6, 7, 1, 0] rfl)
                      · have k_223 : ¬ d953 ≤ i3 := fun z9 => c_223 ((nI_leI (a := d953) (b := i3) (by omega) (by omega)).mpr z9)
                        refine lv_aload_n hx hb dX11_tries_226 rfl (lv_at hl 0 rfl) ?_
                        refine va_get (D := G.1) (ci := 10) (v := .ref (g 325)) (C := RX11) (T := TX11) (N := 25) hx hb hts inlX11 hown hG.1 hP 315 (wl_at (by decide) hmo) rfl 17 (by decide) (hts (.fieldLink RX11 39 "SwornListsModel" "drew" "[I") w_121) (fun _ h9 => h9) rfl dX11_tries_227 ?_
                        refine lv_bipush (v := 24) hx hb dX11_tries_230 (by decide) ?_
                        refine lv_iload_n hx hb dX11_tries_232 rfl (lv_at hl 2 rfl) ?_
                        refine lv_imul hx hb dX11_tries_233 ?_
                        refine my_bei (v := nI (24 * to)) (pk_mul 24 to) ?_
                        refine lv_iload hx hb dX11_tries_234 (lv_at hl 6 rfl) ?_
                        refine lv_iadd hx hb dX11_tries_236 ?_
                        refine my_bei (v := nI (i3 + 24 * to)) ((nI_add (24 * to) i3).trans (congrArg nI (show (24 * to) + i3 = i3 + 24 * to by omega))) ?_
                        obtain ⟨z1, hz1, ez1⟩ := hx_25_3 i3 (by omega)
                        refine va_iald hx hb hG.1 hP 325 0 (wl_at (by decide) hdr_) rfl (vp_in_nI (by omega) (by decide)) dX11_tries_237 ?_
                        refine my_bei (v := dr949 (i3 + 24 * to)) (congrArg dr949 (nI_clamp (n := i3 + 24 * to) (by omega))) ?_
                        refine my_bei (v := nI z1) (ez1) ?_
                        refine lv_istore (lv' := [(11, .int (nI z1)), (0, .ref (g 315)), (1, .int (nI t)), (2, .int (nI to)), (6, .int v1), (8, .int (v45 ||| v46)), (9, .int u), (10, .int (nI i3))]) hx hb dX11_tries_238 hl (by decide) rfl (fun ls hl => ?_)
                        refine lv_aload_n hx hb dX11_tries_240 rfl (lv_at hl 1 rfl) ?_
                        refine va_get (D := G.1) (ci := 10) (v := .ref (g 327)) (C := RX11) (T := TX11) (N := 25) hx hb hts inlX11 hown hG.1 hP 315 (wl_at (by decide) hmo) rfl 19 (by decide) (hts (.fieldLink RX11 45 "SwornListsModel" "slips" "[I") w_123) (fun _ h9 => h9) rfl dX11_tries_241 ?_
                        refine lv_bipush (v := 30) hx hb dX11_tries_244 (by decide) ?_
                        refine lv_iload_n hx hb dX11_tries_246 rfl (lv_at hl 3 rfl) ?_
                        refine lv_imul hx hb dX11_tries_247 ?_
                        refine my_bei (v := nI (30 * to)) (pk_mul 30 to) ?_
                        refine lv_iload hx hb dX11_tries_248 (lv_at hl 0 rfl) ?_
                        refine lv_iadd hx hb dX11_tries_250 ?_
                        refine my_bei (v := nI (30 * to + z1)) ((nI_add (30 * to) z1).trans (congrArg nI (show (30 * to) + z1 = 30 * to + z1 by omega))) ?_
                        refine lv_aload_n hx hb dX11_tries_251 rfl (lv_at hl 1 rfl) ?_
                        refine lv_iload_n hx hb dX11_tries_252 rfl (lv_at hl 2 rfl) ?_
                        refine lv_bipush (v := 9) hx hb dX11_tries_253 (by decide) ?_
                        refine rd_calli (va_runV (As := [.int (nI t), .int 9]) (rest := [.int (nI (30 * to + z1)), .ref (g 327)]) ⟨hx, hb, hml, hown, hts⟩ (r_ofTrial l G g hg f_27 ab2 be2 sn937 wn938 sa939 ly940 rdy (nI fd) ss t 9 hmo hss_ (by first | assumption | omega | decide)) (my_cwV hts ok_X11_ofTrial w_532 rfl rfl ⟨Nat.le_of_ble_eq_true rfl, Nat.le_of_ble_eq_true rfl⟩) ⟨bP.blind, va_recv hG.1 hP (ci := 10) (q0 := 315) rfl (wl_at (by decide) hmo), fun U hU hW => ⟨rfl, by rw [hU]; exact hP, kG.warm hW hG⟩⟩ rfl rfl hl.1 rfl (lv_room (Nat.le_of_ble_eq_true rfl)) dX11_tries_255 ⟨Nat.le_of_ble_eq_true rfl, Nat.le_of_ble_eq_true rfl⟩) (fun r hr9 => ?_)
                        subst hr9
                        refine my_bei (v := ss (10 * t + 1555)) (congrArg ss (show 10 * t + 9 + 1546 = 10 * t + 1555 by omega)) ?_
                        refine lv_iload hx hb dX11_tries_258 (lv_at hl 0 rfl) ?_
                        refine lv_ishr hx hb dX11_tries_260 ?_
                        refine lv_iconst (v := 1) hx hb dX11_tries_261 (by decide) ?_
                        refine lv_iand hx hb dX11_tries_262 ?_
                        refine lv_iconst (v := 1) hx hb dX11_tries_263 (by decide) ?_
                        refine lv_icmp_ne (tgt := 271) hx hb dX11_tries_264 (by decide) (fun c_264 => ?_) (fun c_264 => ?_)
                        · refine lv_bipush (v := 6) hx hb dX11_tries_271 (by decide) ?_
                          refine va_iast hx hb hG.1 hP (wl_D hg f_27) hS 327 0 (wl_at (by decide) hsl_) rfl (vp_in_nI (by omega) (by decide)) dX11_tries_273 (fun H locs hP _ hS => ?_)
                          have hP := (congrArg (fun z9 => va_P G.1 vwCl ((wl g f_27).set 327 (g 327, eI G 330 ((upd sl3 z9 6)))) H) (show Int32.toNatClampNeg (nI (30 * to + z1)) = 30 * to + z1 from nI_clamp (by omega))).mp hP
                          obtain ⟨f_39, hP, e_39, o_39⟩ := b_put (by decide) hP
                          have hsl_ : f_39 327 = eI G 330 (upd sl3 (30 * to + z1) 6) := e_39
                          refine lv_iinc (v := nI (i3 + 1)) (lv' := [(10, .int (nI (i3 + 1))), (11, .int (nI z1)), (0, .ref (g 315)), (1, .int (nI t)), (2, .int (nI to)), (6, .int v1), (8, .int (v45 ||| v46)), (9, .int u)]) hx hb dX11_tries_274 hl (k := 7) rfl (nI_add i3 1) (by decide) rfl (fun ls hl => ?_)
                          refine lv_goto (tgt := 215) hx hb dX11_tries_277 (by decide) ?_
                          replace hmo := ((o_39 315 (by decide))).trans hmo
                          replace hss_ := ((o_39 316 (by decide))).trans hss_
                          replace hsp_ := ((o_39 319 (by decide))).trans hsp_
                          replace hwi_ := ((o_39 320 (by decide))).trans hwi_
                          replace hwa_ := ((o_39 321 (by decide))).trans hwa_
                          replace hva_ := ((o_39 322 (by decide))).trans hva_
                          replace hbo_ := ((o_39 323 (by decide))).trans hbo_
                          replace hju_ := ((o_39 324 (by decide))).trans hju_
                          replace hdr_ := ((o_39 325 (by decide))).trans hdr_
                          replace hdn_ := ((o_39 326 (by decide))).trans hdn_
                          replace hax_ := ((o_39 328 (by decide))).trans hax_
                          replace hlf_ := ((o_39 329 (by decide))).trans hlf_
                          exact ih_55 (i3 + 1) (upd sl3 (30 * to + z1) 6) f_39 _ _ _ (by omega) (by omega) (hmo) (hss_) (hsp_) (hwi_) (hwa_) (hva_) (hbo_) (hju_) (hdr_) (hdn_) (hsl_) (hax_) (hlf_) (fun j hj => ((o_39 j (by omega))).trans (o_27 j (by omega))) hP hS (lv_sub hl [2, 3, 4, 5, 6, 7, 0] rfl)
                        · refine lv_iconst (v := 2) hx hb dX11_tries_267 (by decide) ?_
                          refine lv_goto (tgt := 273) hx hb dX11_tries_268 (by decide) ?_
                          refine va_iast hx hb hG.1 hP (wl_D hg f_27) hS 327 0 (wl_at (by decide) hsl_) rfl (vp_in_nI (by omega) (by decide)) dX11_tries_273 (fun H locs hP _ hS => ?_)
                          have hP := (congrArg (fun z9 => va_P G.1 vwCl ((wl g f_27).set 327 (g 327, eI G 330 ((upd sl3 z9 2)))) H) (show Int32.toNatClampNeg (nI (30 * to + z1)) = 30 * to + z1 from nI_clamp (by omega))).mp hP
                          obtain ⟨f_40, hP, e_40, o_40⟩ := b_put (by decide) hP
                          have hsl_ : f_40 327 = eI G 330 (upd sl3 (30 * to + z1) 2) := e_40
                          refine lv_iinc (v := nI (i3 + 1)) (lv' := [(10, .int (nI (i3 + 1))), (11, .int (nI z1)), (0, .ref (g 315)), (1, .int (nI t)), (2, .int (nI to)), (6, .int v1), (8, .int (v45 ||| v46)), (9, .int u)]) hx hb dX11_tries_274 hl (k := 7) rfl (nI_add i3 1) (by decide) rfl (fun ls hl => ?_)
                          refine lv_goto (tgt := 215) hx hb dX11_tries_277 (by decide) ?_
                          replace hmo := ((o_40 315 (by decide))).trans hmo
                          replace hss_ := ((o_40 316 (by decide))).trans hss_
                          replace hsp_ := ((o_40 319 (by decide))).trans hsp_
                          replace hwi_ := ((o_40 320 (by decide))).trans hwi_
                          replace hwa_ := ((o_40 321 (by decide))).trans hwa_
                          replace hva_ := ((o_40 322 (by decide))).trans hva_
                          replace hbo_ := ((o_40 323 (by decide))).trans hbo_
                          replace hju_ := ((o_40 324 (by decide))).trans hju_
                          replace hdr_ := ((o_40 325 (by decide))).trans hdr_
                          replace hdn_ := ((o_40 326 (by decide))).trans hdn_
                          replace hax_ := ((o_40 328 (by decide))).trans hax_
                          replace hlf_ := ((o_40 329 (by decide))).trans hlf_
                          exact ih_55 (i3 + 1) (upd sl3 (30 * to + z1) 2) f_40 _ _ _ (by omega) (by omega) (hmo) (hss_) (hsp_) (hwi_) (hwa_) (hva_) (hbo_) (hju_) (hdr_) (hdn_) (hsl_) (hax_) (hlf_) (fun j hj => ((o_40 j (by omega))).trans (o_27 j (by omega))) hP hS (lv_sub hl [2, 3, 4, 5, 6, 7, 0] rfl)
                  exact key55 (d953 + 1) 0 sl2 f_26 _ _ _ (Nat.zero_le _) (by omega) (hmo) (hss_) (hsp_) (hwi_) (hwa_) (hva_) (hbo_) (hju_) (hdr_) (hdn_) (hsl_) (hax_) (hlf_) (fun j _ => rfl) hP hS (lv_sub hl [1, 2, 3, 4, 5, 6, 0] rfl)
                · have k_184 : ¬ 30 ≤ i2 := fun z9 => c_184 ((nI_leI (a := 30) (b := i2) (by omega) (by omega)).mpr z9)
                  refine lv_aload_n hx hb dX11_tries_187 rfl (lv_at hl 0 rfl) ?_
                  refine va_get (D := G.1) (ci := 10) (v := .ref (g 327)) (C := RX11) (T := TX11) (N := 25) hx hb hts inlX11 hown hG.1 hP 315 (wl_at (by decide) hmo) rfl 19 (by decide) (hts (.fieldLink RX11 45 "SwornListsModel" "slips" "[I") w_123) (fun _ h9 => h9) rfl dX11_tries_188 ?_
                  refine lv_bipush (v := 30) hx hb dX11_tries_191 (by decide) ?_
                  refine lv_iload_n hx hb dX11_tries_193 rfl (lv_at hl 2 rfl) ?_
                  refine lv_imul hx hb dX11_tries_194 ?_
                  refine my_bei (v := nI (30 * to)) (pk_mul 30 to) ?_
                  refine lv_iload hx hb dX11_tries_195 (lv_at hl 6 rfl) ?_
                  refine lv_iadd hx hb dX11_tries_197 ?_
                  refine my_bei (v := nI (i2 + 30 * to)) ((nI_add (30 * to) i2).trans (congrArg nI (show (30 * to) + i2 = i2 + 30 * to by omega))) ?_
                  refine lv_iload hx hb dX11_tries_198 (lv_at hl 5 rfl) ?_
                  refine lv_iload hx hb dX11_tries_200 (lv_at hl 6 rfl) ?_
                  refine lv_ishr hx hb dX11_tries_202 ?_
                  refine lv_iconst (v := 1) hx hb dX11_tries_203 (by decide) ?_
                  refine lv_iand hx hb dX11_tries_204 ?_
                  refine va_iast hx hb hG.1 hP (wl_D hg f_26) hS 327 0 (wl_at (by decide) hsl_) rfl (vp_in_nI (by omega) (by decide)) dX11_tries_205 (fun H locs hP _ hS => ?_)
                  have hP := (congrArg (fun z9 => va_P G.1 vwCl ((wl g f_26).set 327 (g 327, eI G 330 ((upd sl2 z9 ((u >>> ((nI i2) &&& 31)) &&& 1))))) H) (show Int32.toNatClampNeg (nI (i2 + 30 * to)) = i2 + 30 * to from nI_clamp (by omega))).mp hP
                  obtain ⟨f_41, hP, e_41, o_41⟩ := b_put (by decide) hP
                  have hsl_ : f_41 327 = eI G 330 (upd sl2 (i2 + 30 * to) ((u >>> ((nI i2) &&& 31)) &&& 1)) := e_41
                  refine lv_iinc (v := nI (i2 + 1)) (lv' := [(10, .int (nI (i2 + 1))), (0, .ref (g 315)), (1, .int (nI t)), (2, .int (nI to)), (6, .int v1), (8, .int (v45 ||| v46)), (9, .int u)]) hx hb dX11_tries_206 hl (k := 6) rfl (nI_add i2 1) (by decide) rfl (fun ls hl => ?_)
                  refine lv_goto (tgt := 180) hx hb dX11_tries_209 (by decide) ?_
                  replace hmo := ((o_41 315 (by decide))).trans hmo
                  replace hss_ := ((o_41 316 (by decide))).trans hss_
                  replace hsp_ := ((o_41 319 (by decide))).trans hsp_
                  replace hwi_ := ((o_41 320 (by decide))).trans hwi_
                  replace hwa_ := ((o_41 321 (by decide))).trans hwa_
                  replace hva_ := ((o_41 322 (by decide))).trans hva_
                  replace hbo_ := ((o_41 323 (by decide))).trans hbo_
                  replace hju_ := ((o_41 324 (by decide))).trans hju_
                  replace hdr_ := ((o_41 325 (by decide))).trans hdr_
                  replace hdn_ := ((o_41 326 (by decide))).trans hdn_
                  replace hax_ := ((o_41 328 (by decide))).trans hax_
                  replace hlf_ := ((o_41 329 (by decide))).trans hlf_
                  exact ih_54 (i2 + 1) (upd sl2 (i2 + 30 * to) ((u >>> ((nI i2) &&& 31)) &&& 1)) f_41 _ _ _ (by omega) (by omega) (hmo) (hss_) (hsp_) (hwi_) (hwa_) (hva_) (hbo_) (hju_) (hdr_) (hdn_) (hsl_) (hax_) (hlf_) (fun j hj => ((o_41 j (by omega))).trans (o_26 j (by omega))) hP hS (lv_sub hl [1, 2, 3, 4, 5, 6, 0] rfl)
            exact key54 (30 + 1) 0 sl f_25 _ _ _ (Nat.zero_le _) (by omega) (hmo) (hss_) (hsp_) (hwi_) (hwa_) (hva_) (hbo_) (hju_) (hdr_) (hdn_) (hsl_) (hax_) (hlf_) (fun j _ => rfl) hP hS (lv_sub hl [1, 2, 3, 4, 5, 6, 0] rfl)
          · have k_94 : ¬ np ≤ i := fun z9 => c_94 ((nI_leI (a := np) (b := i) (by omega) (by omega)).mpr z9)
            refine lv_aload_n hx hb dX11_tries_97 rfl (lv_at hl 0 rfl) ?_
            refine lv_iload_n hx hb dX11_tries_98 rfl (lv_at hl 1 rfl) ?_
            refine lv_iconst (v := 5) hx hb dX11_tries_99 (by decide) ?_
            refine rd_calli (va_runV (As := [.int (nI t), .int 5]) (rest := []) ⟨hx, hb, hml, hown, hts⟩ (r_ofTrial l G g hg f_23 ab2 be2 sn937 wn938 sa939 ly940 rdy (nI fd) ss t 5 hmo hss_ (by first | assumption | omega | decide)) (my_cwV hts ok_X11_ofTrial w_532 rfl rfl ⟨Nat.le_of_ble_eq_true rfl, Nat.le_of_ble_eq_true rfl⟩) ⟨bP.blind, va_recv hG.1 hP (ci := 10) (q0 := 315) rfl (wl_at (by decide) hmo), fun U hU hW => ⟨rfl, by rw [hU]; exact hP, kG.warm hW hG⟩⟩ rfl rfl hl.1 rfl (lv_room (Nat.le_of_ble_eq_true rfl)) dX11_tries_100 ⟨Nat.le_of_ble_eq_true rfl, Nat.le_of_ble_eq_true rfl⟩) (fun r hr9 => ?_)
            subst hr9
            refine my_bei (v := ss (10 * t + 1551)) (congrArg ss (show 10 * t + 5 + 1546 = 10 * t + 1551 by omega)) ?_
            refine lv_iconst (v := (-1)) hx hb dX11_tries_103 (by decide) ?_
            refine lv_icmp_eq (tgt := 134) hx hb dX11_tries_104 (by decide) (fun c_104 => ?_) (fun c_104 => ?_)
            · refine lv_iconst (v := 0) hx hb dX11_tries_134 (by decide) ?_
              refine lv_istore (lv' := [(11, .int 0), (0, .ref (g 315)), (1, .int (nI t)), (2, .int (nI to)), (6, .int v1), (8, .int (v45 ||| v46)), (9, .int u), (10, .int (nI i))]) hx hb dX11_tries_135 hl (by decide) rfl (fun ls hl => ?_)
              refine lv_iload hx hb dX11_tries_137 (lv_at hl 6 rfl) ?_
              refine lv_iload hx hb dX11_tries_139 (lv_at hl 0 rfl) ?_
              refine lv_if_eq (tgt := 153) hx hb dX11_tries_141 (by decide) (fun c_141 => ?_) (fun c_141 => absurd (by decide) c_141)
              refine lv_iconst (v := (-1)) hx hb dX11_tries_153 (by decide) ?_
              refine lv_iand hx hb dX11_tries_154 ?_
              refine lv_istore (lv' := [(9, .int (u &&& (-1))), (11, .int 0), (0, .ref (g 315)), (1, .int (nI t)), (2, .int (nI to)), (6, .int v1), (8, .int (v45 ||| v46)), (10, .int (nI i))]) hx hb dX11_tries_155 hl (by decide) rfl (fun ls hl => ?_)
              refine lv_iinc (v := nI (i + 1)) (lv' := [(10, .int (nI (i + 1))), (9, .int (u &&& (-1))), (11, .int 0), (0, .ref (g 315)), (1, .int (nI t)), (2, .int (nI to)), (6, .int v1), (8, .int (v45 ||| v46))]) hx hb dX11_tries_157 hl (k := 7) rfl (nI_add i 1) (by decide) rfl (fun ls hl => ?_)
              refine lv_goto (tgt := 86) hx hb dX11_tries_160 (by decide) ?_
              exact ih_48 (i + 1) (u &&& (-1)) f_23 _ _ _ (by omega) (by omega) (hmo) (hss_) (hsp_) (hwi_) (hwa_) (hva_) (hbo_) (hju_) (hdr_) (hdn_) (hsl_) (hax_) (hlf_) (fun j hj => (o_23 j (by omega))) hP hS (lv_sub hl [3, 4, 5, 6, 7, 1, 0] rfl)
            · refine lv_aload_n hx hb dX11_tries_107 rfl (lv_at hl 0 rfl) ?_
              refine va_get (D := G.1) (ci := 10) (v := .ref (g 316)) (C := RX11) (T := TX11) (N := 25) hx hb hts inlX11 hown hG.1 hP 315 (wl_at (by decide) hmo) rfl 0 (by decide) (hts (.fieldLink RX11 7 "SwornListsModel" "st" "[I") w_112) (fun _ h9 => h9) rfl dX11_tries_108 ?_
              refine lv_bipush (v := 10) hx hb dX11_tries_111 (by decide) ?_
              refine lv_iconst (v := 4) hx hb dX11_tries_113 (by decide) ?_
              refine lv_iload hx hb dX11_tries_114 (lv_at hl 6 rfl) ?_
              refine lv_imul hx hb dX11_tries_116 ?_
              refine my_bei (v := nI (4 * i)) (pk_mul 4 i) ?_
              refine lv_iadd hx hb dX11_tries_117 ?_
              refine my_bei (v := nI (4 * i + 10)) ((nI_add 10 (4 * i)).trans (congrArg nI (show 10 + (4 * i) = 4 * i + 10 by omega))) ?_
              refine lv_iconst (v := 1) hx hb dX11_tries_118 (by decide) ?_
              refine lv_iadd hx hb dX11_tries_119 ?_
              refine my_bei (v := nI (4 * i + 11)) ((nI_add (4 * i + 10) 1).trans (congrArg nI (show (4 * i + 10) + 1 = 4 * i + 11 by omega))) ?_
              refine va_iald hx hb hG.1 hP 316 0 (wl_at (by decide) hss_) rfl (vp_in_nI (by omega) (by decide)) dX11_tries_120 ?_
              refine my_bei (v := ss (4 * i + 11)) (congrArg ss (nI_clamp (n := 4 * i + 11) (by omega))) ?_
              refine lv_aload_n hx hb dX11_tries_121 rfl (lv_at hl 0 rfl) ?_
              refine lv_iload_n hx hb dX11_tries_122 rfl (lv_at hl 1 rfl) ?_
              refine lv_iconst (v := 5) hx hb dX11_tries_123 (by decide) ?_
              refine rd_calli (va_runV (As := [.int (nI t), .int 5]) (rest := [.int (ss (4 * i + 11))]) ⟨hx, hb, hml, hown, hts⟩ (r_ofTrial l G g hg f_23 ab2 be2 sn937 wn938 sa939 ly940 rdy (nI fd) ss t 5 hmo hss_ (by first | assumption | omega | decide)) (my_cwV hts ok_X11_ofTrial w_532 rfl rfl ⟨Nat.le_of_ble_eq_true rfl, Nat.le_of_ble_eq_true rfl⟩) ⟨bP.blind, va_recv hG.1 hP (ci := 10) (q0 := 315) rfl (wl_at (by decide) hmo), fun U hU hW => ⟨rfl, by rw [hU]; exact hP, kG.warm hW hG⟩⟩ rfl rfl hl.1 rfl (lv_room (Nat.le_of_ble_eq_true rfl)) dX11_tries_124 ⟨Nat.le_of_ble_eq_true rfl, Nat.le_of_ble_eq_true rfl⟩) (fun r hr9 => ?_)
              subst hr9
              refine my_bei (v := ss (10 * t + 1551)) (congrArg ss (show 10 * t + 5 + 1546 = 10 * t + 1551 by omega)) ?_
              refine lv_icmp_eq (tgt := 134) hx hb dX11_tries_127 (by decide) (fun c_127 => ?_) (fun c_127 => ?_)
              · refine lv_iconst (v := 0) hx hb dX11_tries_134 (by decide) ?_
                refine lv_istore (lv' := [(11, .int 0), (0, .ref (g 315)), (1, .int (nI t)), (2, .int (nI to)), (6, .int v1), (8, .int (v45 ||| v46)), (9, .int u), (10, .int (nI i))]) hx hb dX11_tries_135 hl (by decide) rfl (fun ls hl => ?_)
                refine lv_iload hx hb dX11_tries_137 (lv_at hl 6 rfl) ?_
                refine lv_iload hx hb dX11_tries_139 (lv_at hl 0 rfl) ?_
                refine lv_if_eq (tgt := 153) hx hb dX11_tries_141 (by decide) (fun c_141 => ?_) (fun c_141 => absurd (by decide) c_141)
                refine lv_iconst (v := (-1)) hx hb dX11_tries_153 (by decide) ?_
                refine lv_iand hx hb dX11_tries_154 ?_
                refine lv_istore (lv' := [(9, .int (u &&& (-1))), (11, .int 0), (0, .ref (g 315)), (1, .int (nI t)), (2, .int (nI to)), (6, .int v1), (8, .int (v45 ||| v46)), (10, .int (nI i))]) hx hb dX11_tries_155 hl (by decide) rfl (fun ls hl => ?_)
                refine lv_iinc (v := nI (i + 1)) (lv' := [(10, .int (nI (i + 1))), (9, .int (u &&& (-1))), (11, .int 0), (0, .ref (g 315)), (1, .int (nI t)), (2, .int (nI to)), (6, .int v1), (8, .int (v45 ||| v46))]) hx hb dX11_tries_157 hl (k := 7) rfl (nI_add i 1) (by decide) rfl (fun ls hl => ?_)
                refine lv_goto (tgt := 86) hx hb dX11_tries_160 (by decide) ?_
                exact ih_48 (i + 1) (u &&& (-1)) f_23 _ _ _ (by omega) (by omega) (hmo) (hss_) (hsp_) (hwi_) (hwa_) (hva_) (hbo_) (hju_) (hdr_) (hdn_) (hsl_) (hax_) (hlf_) (fun j hj => (o_23 j (by omega))) hP hS (lv_sub hl [3, 4, 5, 6, 7, 1, 0] rfl)
              · refine lv_iconst (v := 1) hx hb dX11_tries_130 (by decide) ?_
                refine lv_goto (tgt := 135) hx hb dX11_tries_131 (by decide) ?_
                refine lv_istore (lv' := [(11, .int 1), (0, .ref (g 315)), (1, .int (nI t)), (2, .int (nI to)), (6, .int v1), (8, .int (v45 ||| v46)), (9, .int u), (10, .int (nI i))]) hx hb dX11_tries_135 hl (by decide) rfl (fun ls hl => ?_)
                refine lv_iload hx hb dX11_tries_137 (lv_at hl 6 rfl) ?_
                refine lv_iload hx hb dX11_tries_139 (lv_at hl 0 rfl) ?_
                refine lv_if_eq (tgt := 153) hx hb dX11_tries_141 (by decide) (fun c_141 => absurd c_141 (by decide)) (fun c_141 => ?_)
                refine lv_iconst (v := 1) hx hb dX11_tries_144 (by decide) ?_
                refine lv_iload hx hb dX11_tries_145 (lv_at hl 7 rfl) ?_
                refine lv_ishl hx hb dX11_tries_147 ?_
                refine lv_iconst (v := (-1)) hx hb dX11_tries_148 (by decide) ?_
                refine lv_ixor hx hb dX11_tries_149 ?_
                refine lv_goto (tgt := 154) hx hb dX11_tries_150 (by decide) ?_
                refine lv_iand hx hb dX11_tries_154 ?_
                refine lv_istore (lv' := [(9, .int (u &&& ((1 <<< ((nI i) &&& 31)) ^^^ (-1)))), (11, .int 1), (0, .ref (g 315)), (1, .int (nI t)), (2, .int (nI to)), (6, .int v1), (8, .int (v45 ||| v46)), (10, .int (nI i))]) hx hb dX11_tries_155 hl (by decide) rfl (fun ls hl => ?_)
                refine lv_iinc (v := nI (i + 1)) (lv' := [(10, .int (nI (i + 1))), (9, .int (u &&& ((1 <<< ((nI i) &&& 31)) ^^^ (-1)))), (11, .int 1), (0, .ref (g 315)), (1, .int (nI t)), (2, .int (nI to)), (6, .int v1), (8, .int (v45 ||| v46))]) hx hb dX11_tries_157 hl (k := 7) rfl (nI_add i 1) (by decide) rfl (fun ls hl => ?_)
                refine lv_goto (tgt := 86) hx hb dX11_tries_160 (by decide) ?_
                exact ih_48 (i + 1) (u &&& ((1 <<< ((nI i) &&& 31)) ^^^ (-1))) f_23 _ _ _ (by omega) (by omega) (hmo) (hss_) (hsp_) (hwi_) (hwa_) (hva_) (hbo_) (hju_) (hdr_) (hdn_) (hsl_) (hax_) (hlf_) (fun j hj => (o_23 j (by omega))) hP hS (lv_sub hl [3, 4, 5, 6, 7, 1, 0] rfl)
      exact key48 (np + 1) 0 (((v47 &&& v1) &&& (v36 ^^^ (-1))) &&& ((v45 ||| v46) ^^^ (-1))) f_22 _ _ _ (Nat.zero_le _) (by omega) (hmo) (hss_) (hsp_) (hwi_) (hwa_) (hva_) (hbo_) (hju_) (hdr_) (hdn_) (hsl_) (hax_) (hlf_) (fun j _ => rfl) hP hS (lv_sub hl [6, 7, 8, 4, 2, 1, 0] rfl)
  · refine lv_iload_n hx hb dX11_tries_17 rfl (lv_at hl 4 rfl) ?_
    refine lv_goto (tgt := 22) hx hb dX11_tries_18 (by decide) ?_
    refine b_calli (va_runV (As := [.int 0, .int (ss (10 * t + 1546)), .int (nI xt)]) (rest := []) ⟨hx, hb, hml, hown, hts⟩ (r_whomT l G g hg f ab2 be2 sn wn sa ly rdy fd ss np nf nr na nt sp wi wa va ju 0 (ss (10 * t + 1546)) xt l9 hmo hss_ hsp_ hwi_ hwa_ hva_ hju_ (by first | assumption | omega | decide) (by first | assumption | omega | decide) (by first | assumption | omega | decide) (by first | assumption | omega | decide) (by first | assumption | omega | decide) (by first | assumption | omega | decide)) (my_cwV hts ok_X11_whom w_536 rfl rfl ⟨Nat.le_of_ble_eq_true rfl, Nat.le_of_ble_eq_true rfl⟩) ⟨bP.blind, va_recv hG.1 hP (ci := 10) (q0 := 315) rfl (wl_at (by decide) hmo), fun U hU hW => ⟨rfl, by rw [hU]; exact hP, kG.warm hW hG⟩⟩ rfl rfl hl.1 rfl (lv_room (Nat.le_of_ble_eq_true rfl)) dX11_tries_22 ⟨Nat.le_of_ble_eq_true rfl, Nat.le_of_ble_eq_true rfl⟩) hS (fun v62 f_42 H locs hq9 hP hS => ?_)
    obtain ⟨sn963, wn964, sa965, ly966, sp967, wi968, wa969, va970, hq_42_0, hq_42_1, hq_42_2, hq_42_3, hq_42_4, o_42⟩ := hq9
    have hmo : f_42 315 = eO 10 [.ref (g 316), .ref (g 317), .ref (g 318), .long ab2, .long be2, .int sn963, .ref (g 319), .ref (g 320), .int wn964, .ref (g 321), .ref (g 322), .int sa965, .int ly966, .int rdy, .int (nI fd), .ref (g 323), .ref (g 324), .ref (g 325), .ref (g 326), .ref (g 327), .ref (g 328), .ref (g 329), .ref (g 330), .ref (g 331), .ref (g 332)] := hq_42_0
    have hsp_ : f_42 319 = eI G 70 sp967 := hq_42_1
    have hwi_ : f_42 320 = eI G 70 wi968 := hq_42_2
    have hwa_ : f_42 321 = eI G 70 wa969 := hq_42_3
    have hva_ : f_42 322 = eJ G 70 va970 := hq_42_4
    refine lv_istore (lv' := [(6, .int v62), (5, .int (ss (10 * t + 1546))), (0, .ref (g 315)), (1, .int (nI t)), (2, .int (nI to)), (3, .int (nI xt)), (4, .int sb)]) hx hb dX11_tries_25 hl (by decide) rfl (fun ls hl => ?_)
    refine lv_aload_n hx hb dX11_tries_27 rfl (lv_at hl 2 rfl) ?_
    refine lv_iconst (v := 1) hx hb dX11_tries_28 (by decide) ?_
    refine lv_iload hx hb dX11_tries_29 (lv_at hl 1 rfl) ?_
    refine lv_iload hx hb dX11_tries_31 (lv_at hl 6 rfl) ?_
    refine lv_iconst (v := 1) hx hb dX11_tries_33 (by decide) ?_
    refine lv_icmp_ne (tgt := 41) hx hb dX11_tries_34 (by decide) (fun c_34 => ?_) (fun c_34 => ?_)
    · refine lv_iconst (v := (-1)) hx hb dX11_tries_41 (by decide) ?_
      replace hss_ := ((o_42 316 (by first | decide | omega))).trans hss_
      replace hju_ := ((o_42 324 (by first | decide | omega))).trans hju_
      refine b_calli (va_runV (As := [.int 1, .int (ss (10 * t + 1546)), .int (-1)]) (rest := []) ⟨hx, hb, hml, hown, hts⟩ (r_whomN l G g hg f_42 ab2 be2 sn963 wn964 sa965 ly966 rdy fd ss np nf nr na nt sp967 wi968 wa969 va970 ju 1 (ss (10 * t + 1546)) hmo hss_ hsp_ hwi_ hwa_ hva_ hju_ (by first | assumption | omega | decide) (by first | assumption | omega | decide)) (my_cwV hts ok_X11_whom w_536 rfl rfl ⟨Nat.le_of_ble_eq_true rfl, Nat.le_of_ble_eq_true rfl⟩) ⟨bP.blind, va_recv hG.1 hP (ci := 10) (q0 := 315) rfl (wl_at (by decide) hmo), fun U hU hW => ⟨rfl, by rw [hU]; exact hP, kG.warm hW hG⟩⟩ rfl rfl hl.1 rfl (lv_room (Nat.le_of_ble_eq_true rfl)) dX11_tries_42 ⟨Nat.le_of_ble_eq_true rfl, Nat.le_of_ble_eq_true rfl⟩) hS (fun v71 f_43 H locs hq9 hP hS => ?_)
      obtain ⟨sn972, wn973, sa974, ly975, sp976, wi977, wa978, va979, hq_43_0, hq_43_1, hq_43_2, hq_43_3, hq_43_4, o_43⟩ := hq9
      have hmo : f_43 315 = eO 10 [.ref (g 316), .ref (g 317), .ref (g 318), .long ab2, .long be2, .int sn972, .ref (g 319), .ref (g 320), .int wn973, .ref (g 321), .ref (g 322), .int sa974, .int ly975, .int rdy, .int (nI fd), .ref (g 323), .ref (g 324), .ref (g 325), .ref (g 326), .ref (g 327), .ref (g 328), .ref (g 329), .ref (g 330), .ref (g 331), .ref (g 332)] := hq_43_0
      have hsp_ : f_43 319 = eI G 70 sp976 := hq_43_1
      have hwi_ : f_43 320 = eI G 70 wi977 := hq_43_2
      have hwa_ : f_43 321 = eI G 70 wa978 := hq_43_3
      have hva_ : f_43 322 = eJ G 70 va979 := hq_43_4
      refine lv_istore (lv' := [(7, .int v71), (6, .int v62), (5, .int (ss (10 * t + 1546))), (0, .ref (g 315)), (1, .int (nI t)), (2, .int (nI to)), (3, .int (nI xt)), (4, .int sb)]) hx hb dX11_tries_45 hl (by decide) rfl (fun ls hl => ?_)
      refine lv_aload_n hx hb dX11_tries_47 rfl (lv_at hl 3 rfl) ?_
      refine lv_iload_n hx hb dX11_tries_48 rfl (lv_at hl 4 rfl) ?_
      refine lv_iload hx hb dX11_tries_49 (lv_at hl 2 rfl) ?_
      replace hss_ := ((o_43 316 (by first | decide | omega))).trans hss_
      refine rd_calli (va_runV (As := [.int (nI t), .int (ss (10 * t + 1546))]) (rest := []) ⟨hx, hb, hml, hown, hts⟩ (r_kinOf l G g hg f_43 ab2 be2 sn972 wn973 sa974 ly975 rdy (nI fd) ss np nf nr na nt t (ss (10 * t + 1546)) hmo hss_ (by first | assumption | omega | decide) (by first | assumption | omega | decide)) (my_cwV hts ok_X11_kinOf w_562 rfl rfl ⟨Nat.le_of_ble_eq_true rfl, Nat.le_of_ble_eq_true rfl⟩) ⟨bP.blind, va_recv hG.1 hP (ci := 10) (q0 := 315) rfl (wl_at (by decide) hmo), fun U hU hW => ⟨rfl, by rw [hU]; exact hP, kG.warm hW hG⟩⟩ rfl rfl hl.1 rfl (lv_room (Nat.le_of_ble_eq_true rfl)) dX11_tries_51 ⟨Nat.le_of_ble_eq_true rfl, Nat.le_of_ble_eq_true rfl⟩) (fun v80 _ => ?_)
      refine lv_aload_n hx hb dX11_tries_54 rfl (lv_at hl 3 rfl) ?_
      refine lv_iload_n hx hb dX11_tries_55 rfl (lv_at hl 4 rfl) ?_
      replace hju_ := ((o_43 324 (by first | decide | omega))).trans hju_
      refine rd_calli (va_runV (As := [.int (nI t)]) (rest := [.int v80]) ⟨hx, hb, hml, hown, hts⟩ (r_sitting l G g hg f_43 ab2 be2 sn972 wn973 sa974 ly975 rdy (nI fd) ss ju t hmo hss_ hju_ (by first | assumption | omega | decide)) (my_cwV hts ok_X11_sitting w_566 rfl rfl ⟨Nat.le_of_ble_eq_true rfl, Nat.le_of_ble_eq_true rfl⟩) ⟨bP.blind, va_recv hG.1 hP (ci := 10) (q0 := 315) rfl (wl_at (by decide) hmo), fun U hU hW => ⟨rfl, by rw [hU]; exact hP, kG.warm hW hG⟩⟩ rfl rfl hl.1 rfl (lv_room (Nat.le_of_ble_eq_true rfl)) dX11_tries_56 ⟨Nat.le_of_ble_eq_true rfl, Nat.le_of_ble_eq_true rfl⟩) (fun v81 _ => ?_)
      refine lv_ior hx hb dX11_tries_59 ?_
      refine lv_istore (lv' := [(8, .int (v80 ||| v81)), (7, .int v71), (6, .int v62), (5, .int (ss (10 * t + 1546))), (0, .ref (g 315)), (1, .int (nI t)), (2, .int (nI to)), (3, .int (nI xt)), (4, .int sb)]) hx hb dX11_tries_60 hl (by decide) rfl (fun ls hl => ?_)
      refine lv_aload_n hx hb dX11_tries_62 rfl (lv_at hl 4 rfl) ?_
      refine lv_iload hx hb dX11_tries_63 (lv_at hl 3 rfl) ?_
      refine rd_calli (va_runV (As := [.int (ss (10 * t + 1546))]) (rest := []) ⟨hx, hb, hml, hown, hts⟩ (r_theRoll l G g hg f_43 ab2 be2 sn972 wn973 sa974 ly975 rdy (nI fd) ss np nf nr na nt (ss (10 * t + 1546)) hmo hss_ (by first | assumption | omega | decide)) (my_cwV hts ok_X11_theRoll w_234 rfl rfl ⟨Nat.le_of_ble_eq_true rfl, Nat.le_of_ble_eq_true rfl⟩) ⟨bP.blind, va_recv hG.1 hP (ci := 10) (q0 := 315) rfl (wl_at (by decide) hmo), fun U hU hW => ⟨rfl, by rw [hU]; exact hP, kG.warm hW hG⟩⟩ rfl rfl hl.1 rfl (lv_room (Nat.le_of_ble_eq_true rfl)) dX11_tries_65 ⟨Nat.le_of_ble_eq_true rfl, Nat.le_of_ble_eq_true rfl⟩) (fun v82 _ => ?_)
      refine lv_iload hx hb dX11_tries_68 (lv_at hl 2 rfl) ?_
      refine lv_iand hx hb dX11_tries_70 ?_
      refine lv_iload hx hb dX11_tries_71 (lv_at hl 1 rfl) ?_
      refine lv_iconst (v := (-1)) hx hb dX11_tries_73 (by decide) ?_
      refine lv_ixor hx hb dX11_tries_74 ?_
      refine lv_iand hx hb dX11_tries_75 ?_
      refine lv_iload hx hb dX11_tries_76 (lv_at hl 0 rfl) ?_
      refine lv_iconst (v := (-1)) hx hb dX11_tries_78 (by decide) ?_
      refine lv_ixor hx hb dX11_tries_79 ?_
      refine lv_iand hx hb dX11_tries_80 ?_
      refine lv_istore (lv' := [(9, .int (((v82 &&& v62) &&& (v71 ^^^ (-1))) &&& ((v80 ||| v81) ^^^ (-1)))), (8, .int (v80 ||| v81)), (7, .int v71), (6, .int v62), (5, .int (ss (10 * t + 1546))), (0, .ref (g 315)), (1, .int (nI t)), (2, .int (nI to)), (3, .int (nI xt)), (4, .int sb)]) hx hb dX11_tries_81 hl (by decide) rfl (fun ls hl => ?_)
      refine lv_iconst (v := 0) hx hb dX11_tries_83 (by decide) ?_
      refine lv_istore (lv' := [(10, .int 0), (9, .int (((v82 &&& v62) &&& (v71 ^^^ (-1))) &&& ((v80 ||| v81) ^^^ (-1)))), (8, .int (v80 ||| v81)), (7, .int v71), (6, .int v62), (5, .int (ss (10 * t + 1546))), (0, .ref (g 315)), (1, .int (nI t)), (2, .int (nI to)), (3, .int (nI xt)), (4, .int sb)]) hx hb dX11_tries_84 hl (by decide) rfl (fun ls hl => ?_)
      replace hbo_ := ((o_43 323 (by first | decide | omega)).trans ((o_42 323 (by first | decide | omega)))).trans hbo_
      replace hdr_ := ((o_43 325 (by first | decide | omega)).trans ((o_42 325 (by first | decide | omega)))).trans hdr_
      replace hdn_ := ((o_43 326 (by first | decide | omega)).trans ((o_42 326 (by first | decide | omega)))).trans hdn_
      replace hsl_ := ((o_43 327 (by first | decide | omega)).trans ((o_42 327 (by first | decide | omega)))).trans hsl_
      replace hax_ := ((o_43 328 (by first | decide | omega)).trans ((o_42 328 (by first | decide | omega)))).trans hax_
      replace hlf_ := ((o_43 329 (by first | decide | omega)).trans ((o_42 329 (by first | decide | omega)))).trans hlf_
      have key83 : ∀ (n9_83 : Nat) (i : Nat) (u : Int32) (f_44 : Nat → va_E) (H : Heap) (locs : List Loc) (ls : Array Slot), (i ≤ np) → np - i < n9_83 → f_44 315 = eO 10 [.ref (g 316), .ref (g 317), .ref (g 318), .long ab2, .long be2, .int sn972, .ref (g 319), .ref (g 320), .int wn973, .ref (g 321), .ref (g 322), .int sa974, .int ly975, .int rdy, .int (nI fd), .ref (g 323), .ref (g 324), .ref (g 325), .ref (g 326), .ref (g 327), .ref (g 328), .ref (g 329), .ref (g 330), .ref (g 331), .ref (g 332)] → f_44 316 = eI G 2246 ss → f_44 319 = eI G 70 sp976 → f_44 320 = eI G 70 wi977 → f_44 321 = eI G 70 wa978 → f_44 322 = eJ G 70 va979 → f_44 323 = eI G 11 bo → f_44 324 = eI G 11 ju → f_44 325 = eI G 264 dr → f_44 326 = eI G 11 dn → f_44 327 = eI G 330 sl → f_44 328 = eI G 44 ax → f_44 329 = eI G 30 lf → (∀ j, (j < 333 ∨ 333 ≤ j) → f_44 j = f_43 j) → va_P G.1 vwCl (wl g f_44) H → va_S (gA g) s.heap H locs → lv_has ls 13 [(0, .ref (g 315)), (1, .int (nI t)), (2, .int (nI to)), (6, .int v62), (8, .int (v80 ||| v81)), (9, .int u), (10, .int (nI i))] → W p l e (headSpec (wsT yX11_tries cX11_tries 13 none) ({ frames := 5, cells := 0, slots := 0, locals := 120 })).room s m ([.ref (g 315), .int (nI t), .int (nI to), .int (nI xt), .int sb] : List Value).toArray below meth c H locs 0 0 (MQ below (bQv G g (fun (f' : Nat → va_E) => ∃ sn9 : Int32, ∃ wn9 : Int32, ∃ sa9 : Int32, ∃ ly9 : Int32, ∃ sp9 : Nat → Int32, ∃ wi9 : Nat → Int32, ∃ wa9 : Nat → Int32, ∃ va9 : Nat → Int64, ∃ bo9 : Nat → Int32, ∃ ju9 : Nat → Int32, ∃ dr9 : Nat → Int32, ∃ dn9 : Nat → Int32, ∃ sl9 : Nat → Int32, ∃ ax9 : Nat → Int32, ∃ lf9 : Nat → Int32, f' 315 = eO 10 [.ref (g 316), .ref (g 317), .ref (g 318), .long ab2, .long be2, .int sn9, .ref (g 319), .ref (g 320), .int wn9, .ref (g 321), .ref (g 322), .int sa9, .int ly9, .int rdy, .int (nI fd), .ref (g 323), .ref (g 324), .ref (g 325), .ref (g 326), .ref (g 327), .ref (g 328), .ref (g 329), .ref (g 330), .ref (g 331), .ref (g 332)] ∧ f' 319 = eI G 70 sp9 ∧ f' 320 = eI G 70 wi9 ∧ f' 321 = eI G 70 wa9 ∧ f' 322 = eJ G 70 va9 ∧ f' 323 = eI G 11 bo9 ∧ f' 324 = eI G 11 ju9 ∧ f' 325 = eI G 264 dr9 ∧ f' 326 = eI G 11 dn9 ∧ f' 327 = eI G 330 sl9 ∧ f' 328 = eI G 44 ax9 ∧ f' 329 = eI G 30 lf9 ∧ (∀ k, k < 11 → ∃ d, d ≤ 24 ∧ dn9 k = nI d) ∧ ∀ j, (j < 315 ∨ (316 ≤ j ∧ j ≤ 318) ∨ 330 ≤ j) → f' j = f j)) ([.ref (g 315), .int (nI t), .int (nI to), .int (nI xt), .int sb] : List Value).toArray s 0 0 (gA g)) (F0 m 86 ls []) := by
        intro n9_83
        induction n9_83 with
        | zero => intro i u f_44 H locs ls hi hn9_83; exact absurd hn9_83 (Nat.not_lt_zero _)
        | succ n9_83 ih_83 =>
          intro i u f_44 H locs ls hi hn9_83 hmo hss_ hsp_ hwi_ hwa_ hva_ hbo_ hju_ hdr_ hdn_ hsl_ hax_ hlf_ o_44 hP hS hl
          refine lv_iload hx hb dX11_tries_86 (lv_at hl 6 rfl) ?_
          refine lv_aload_n hx hb dX11_tries_88 rfl (lv_at hl 0 rfl) ?_
          refine va_get (D := G.1) (ci := 10) (v := .ref (g 316)) (C := RX11) (T := TX11) (N := 25) hx hb hts inlX11 hown hG.1 hP 315 (wl_at (by decide) hmo) rfl 0 (by decide) (hts (.fieldLink RX11 7 "SwornListsModel" "st" "[I") w_112) (fun _ h9 => h9) rfl dX11_tries_89 ?_
          refine lv_iconst (v := 0) hx hb dX11_tries_92 (by decide) ?_
          refine va_iald hx hb hG.1 hP 316 0 (wl_at (by decide) hss_) rfl (by unfold vp_in; decide) dX11_tries_93 ?_
          refine my_bei (v := ss 0) (rfl) ?_
          refine my_bei (v := nI np) (hst.h0) ?_
          refine lv_icmp_ge (tgt := 163) hx hb dX11_tries_94 (by decide) (fun c_94 => ?_) (fun c_94 => ?_)
          · have k_94 : np ≤ i := (nI_leI (a := np) (b := i) (by omega) (by omega)).mp c_94
            refine lv_aload_n hx hb dX11_tries_163 rfl (lv_at hl 0 rfl) ?_
            refine va_get (D := G.1) (ci := 10) (v := .ref (g 323)) (C := RX11) (T := TX11) (N := 25) hx hb hts inlX11 hown hG.1 hP 315 (wl_at (by decide) hmo) rfl 15 (by decide) (hts (.fieldLink RX11 33 "SwornListsModel" "boxes" "[I") w_119) (fun _ h9 => h9) rfl dX11_tries_164 ?_
            refine lv_iload_n hx hb dX11_tries_167 rfl (lv_at hl 2 rfl) ?_
            refine lv_iload hx hb dX11_tries_168 (lv_at hl 5 rfl) ?_
            refine va_iast hx hb hG.1 hP (wl_D hg f_44) hS 323 0 (wl_at (by decide) hbo_) rfl (vp_in_nI (by omega) (by decide)) dX11_tries_170 (fun H locs hP _ hS => ?_)
            have hP := (congrArg (fun z9 => va_P G.1 vwCl ((wl g f_44).set 323 (g 323, eI G 11 ((upd bo z9 u)))) H) (show Int32.toNatClampNeg (nI to) = to from nI_clamp (by omega))).mp hP
            obtain ⟨f_45, hP, e_45, o_45⟩ := b_put (by decide) hP
            have hbo_ : f_45 323 = eI G 11 (upd bo to u) := e_45
            refine lv_aload_n hx hb dX11_tries_171 rfl (lv_at hl 0 rfl) ?_
            refine lv_iload_n hx hb dX11_tries_172 rfl (lv_at hl 1 rfl) ?_
            refine lv_iload_n hx hb dX11_tries_173 rfl (lv_at hl 2 rfl) ?_
            replace hmo := ((o_45 315 (by decide))).trans hmo
            replace hss_ := ((o_45 316 (by decide))).trans hss_
            replace hdr_ := ((o_45 325 (by decide))).trans hdr_
            replace hdn_ := ((o_45 326 (by decide))).trans hdn_
            replace hax_ := ((o_45 328 (by decide))).trans hax_
            replace hlf_ := ((o_45 329 (by decide))).trans hlf_
            refine b_callv (va_runV (As := [.int (nI t), .int (nI to)]) (rest := []) ⟨hx, hb, hml, hown, hts⟩ (r_draws l G g hg f_45 ab2 be2 sn972 wn973 sa974 ly975 rdy (nI fd) ss np nf nr na nt (upd bo to u) dr dn ax lf t to hmo hss_ hbo_ hdr_ hdn_ hax_ hlf_ (by first | assumption | omega | decide) (by first | assumption | omega | decide) (by first | assumption | omega | decide)) (my_cwV hts ok_X11_draws w_570 rfl rfl ⟨Nat.le_of_ble_eq_true rfl, Nat.le_of_ble_eq_true rfl⟩) ⟨bP.blind, va_recv hG.1 hP (ci := 10) (q0 := 315) rfl (wl_at (by decide) hmo), fun U hU hW => ⟨rfl, by rw [hU]; exact hP, kG.warm hW hG⟩⟩ rfl rfl hl.1 rfl (lv_room (Nat.le_of_ble_eq_true rfl)) dX11_tries_174 ⟨Nat.le_of_ble_eq_true rfl, Nat.le_of_ble_eq_true rfl⟩) hS (fun f_46 H locs hq9 hP hS => ?_)
            obtain ⟨dr984, dn985, ax986, lf987, d988, hq_46_0, hq_46_1, hq_46_2, hq_46_3, hx_46_0, hx_46_1, hx_46_2, hx_46_3, o_46⟩ := hq9
            have hdr_ : f_46 325 = eI G 264 dr984 := hq_46_0
            have hdn_ : f_46 326 = eI G 11 dn985 := hq_46_1
            have hax_ : f_46 328 = eI G 44 ax986 := hq_46_2
            have hlf_ : f_46 329 = eI G 30 lf987 := hq_46_3
            refine lv_iconst (v := 0) hx hb dX11_tries_177 (by decide) ?_
            refine lv_istore (lv' := [(10, .int 0), (0, .ref (g 315)), (1, .int (nI t)), (2, .int (nI to)), (6, .int v62), (8, .int (v80 ||| v81)), (9, .int u)]) hx hb dX11_tries_178 hl (by decide) rfl (fun ls hl => ?_)
            replace hmo := ((o_46 315 (by first | decide | omega))).trans hmo
            replace hss_ := ((o_46 316 (by first | decide | omega))).trans hss_
            replace hsp_ := ((o_46 319 (by first | decide | omega)).trans ((o_45 319 (by decide)))).trans hsp_
            replace hwi_ := ((o_46 320 (by first | decide | omega)).trans ((o_45 320 (by decide)))).trans hwi_
            replace hwa_ := ((o_46 321 (by first | decide | omega)).trans ((o_45 321 (by decide)))).trans hwa_
            replace hva_ := ((o_46 322 (by first | decide | omega)).trans ((o_45 322 (by decide)))).trans hva_
            replace hbo_ := ((o_46 323 (by first | decide | omega))).trans hbo_
            replace hju_ := ((o_46 324 (by first | decide | omega)).trans ((o_45 324 (by decide)))).trans hju_
            replace hsl_ := ((o_46 327 (by first | decide | omega)).trans ((o_45 327 (by decide)))).trans hsl_
            have key89 : ∀ (n9_89 : Nat) (i2 : Nat) (sl2 : Nat → Int32) (f_47 : Nat → va_E) (H : Heap) (locs : List Loc) (ls : Array Slot), (i2 ≤ 30) → 30 - i2 < n9_89 → f_47 315 = eO 10 [.ref (g 316), .ref (g 317), .ref (g 318), .long ab2, .long be2, .int sn972, .ref (g 319), .ref (g 320), .int wn973, .ref (g 321), .ref (g 322), .int sa974, .int ly975, .int rdy, .int (nI fd), .ref (g 323), .ref (g 324), .ref (g 325), .ref (g 326), .ref (g 327), .ref (g 328), .ref (g 329), .ref (g 330), .ref (g 331), .ref (g 332)] → f_47 316 = eI G 2246 ss → f_47 319 = eI G 70 sp976 → f_47 320 = eI G 70 wi977 → f_47 321 = eI G 70 wa978 → f_47 322 = eJ G 70 va979 → f_47 323 = eI G 11 (upd bo to u) → f_47 324 = eI G 11 ju → f_47 325 = eI G 264 dr984 → f_47 326 = eI G 11 dn985 → f_47 327 = eI G 330 sl2 → f_47 328 = eI G 44 ax986 → f_47 329 = eI G 30 lf987 → (∀ j, j ≠ 327 → f_47 j = f_46 j) → va_P G.1 vwCl (wl g f_47) H → va_S (gA g) s.heap H locs → lv_has ls 13 [(0, .ref (g 315)), (1, .int (nI t)), (2, .int (nI to)), (6, .int v62), (8, .int (v80 ||| v81)), (9, .int u), (10, .int (nI i2))] → W p l e (headSpec (wsT yX11_tries cX11_tries 13 none) ({ frames := 5, cells := 0, slots := 0, locals := 120 })).room s m ([.ref (g 315), .int (nI t), .int (nI to), .int (nI xt), .int sb] : List Value).toArray below meth c H locs 0 0 (MQ below (bQv G g (fun (f' : Nat → va_E) => ∃ sn9 : Int32, ∃ wn9 : Int32, ∃ sa9 : Int32, ∃ ly9 : Int32, ∃ sp9 : Nat → Int32, ∃ wi9 : Nat → Int32, ∃ wa9 : Nat → Int32, ∃ va9 : Nat → Int64, ∃ bo9 : Nat → Int32, ∃ ju9 : Nat → Int32, ∃ dr9 : Nat → Int32, ∃ dn9 : Nat → Int32, ∃ sl9 : Nat → Int32, ∃ ax9 : Nat → Int32, ∃ lf9 : Nat → Int32, f' 315 = eO 10 [.ref (g 316), .ref (g 317), .ref (g 318), .long ab2, .long be2, .int sn9, .ref (g 319), .ref (g 320), .int wn9, .ref (g 321), .ref (g 322), .int sa9, .int ly9, .int rdy, .int (nI fd), .ref (g 323), .ref (g 324), .ref (g 325), .ref (g 326), .ref (g 327), .ref (g 328), .ref (g 329), .ref (g 330), .ref (g 331), .ref (g 332)] ∧ f' 319 = eI G 70 sp9 ∧ f' 320 = eI G 70 wi9 ∧ f' 321 = eI G 70 wa9 ∧ f' 322 = eJ G 70 va9 ∧ f' 323 = eI G 11 bo9 ∧ f' 324 = eI G 11 ju9 ∧ f' 325 = eI G 264 dr9 ∧ f' 326 = eI G 11 dn9 ∧ f' 327 = eI G 330 sl9 ∧ f' 328 = eI G 44 ax9 ∧ f' 329 = eI G 30 lf9 ∧ (∀ k, k < 11 → ∃ d, d ≤ 24 ∧ dn9 k = nI d) ∧ ∀ j, (j < 315 ∨ (316 ≤ j ∧ j ≤ 318) ∨ 330 ≤ j) → f' j = f j)) ([.ref (g 315), .int (nI t), .int (nI to), .int (nI xt), .int sb] : List Value).toArray s 0 0 (gA g)) (F0 m 180 ls []) := by
              intro n9_89
              induction n9_89 with
              | zero => intro i2 sl2 f_47 H locs ls hi2 hn9_89; exact absurd hn9_89 (Nat.not_lt_zero _)
              | succ n9_89 ih_89 =>
                intro i2 sl2 f_47 H locs ls hi2 hn9_89 hmo hss_ hsp_ hwi_ hwa_ hva_ hbo_ hju_ hdr_ hdn_ hsl_ hax_ hlf_ o_47 hP hS hl
                refine lv_iload hx hb dX11_tries_180 (lv_at hl 6 rfl) ?_
                refine lv_bipush (v := 30) hx hb dX11_tries_182 (by decide) ?_
                refine lv_icmp_ge (tgt := 212) hx hb dX11_tries_184 (by decide) (fun c_184 => ?_) (fun c_184 => ?_)
                · have k_184 : 30 ≤ i2 := (nI_leI (a := 30) (b := i2) (by omega) (by omega)).mp c_184
                  refine lv_iconst (v := 0) hx hb dX11_tries_212 (by decide) ?_
                  refine lv_istore (lv' := [(10, .int 0), (0, .ref (g 315)), (1, .int (nI t)), (2, .int (nI to)), (6, .int v62), (8, .int (v80 ||| v81)), (9, .int u)]) hx hb dX11_tries_213 hl (by decide) rfl (fun ls hl => ?_)
                  have hd24 := hx_46_1
                  have key90 : ∀ (n9_90 : Nat) (i3 : Nat) (sl3 : Nat → Int32) (f_48 : Nat → va_E) (H : Heap) (locs : List Loc) (ls : Array Slot), (i3 ≤ d988) → d988 - i3 < n9_90 → f_48 315 = eO 10 [.ref (g 316), .ref (g 317), .ref (g 318), .long ab2, .long be2, .int sn972, .ref (g 319), .ref (g 320), .int wn973, .ref (g 321), .ref (g 322), .int sa974, .int ly975, .int rdy, .int (nI fd), .ref (g 323), .ref (g 324), .ref (g 325), .ref (g 326), .ref (g 327), .ref (g 328), .ref (g 329), .ref (g 330), .ref (g 331), .ref (g 332)] → f_48 316 = eI G 2246 ss → f_48 319 = eI G 70 sp976 → f_48 320 = eI G 70 wi977 → f_48 321 = eI G 70 wa978 → f_48 322 = eJ G 70 va979 → f_48 323 = eI G 11 (upd bo to u) → f_48 324 = eI G 11 ju → f_48 325 = eI G 264 dr984 → f_48 326 = eI G 11 dn985 → f_48 327 = eI G 330 sl3 → f_48 328 = eI G 44 ax986 → f_48 329 = eI G 30 lf987 → (∀ j, j ≠ 327 → f_48 j = f_47 j) → va_P G.1 vwCl (wl g f_48) H → va_S (gA g) s.heap H locs → lv_has ls 13 [(0, .ref (g 315)), (1, .int (nI t)), (2, .int (nI to)), (6, .int v62), (8, .int (v80 ||| v81)), (9, .int u), (10, .int (nI i3))] → W p l e (headSpec (wsT yX11_tries cX11_tries 13 none) ({ frames := 5, cells := 0, slots := 0, locals := 120 })).room s m ([.ref (g 315), .int (nI t), .int (nI to), .int (nI xt), .int sb] : List Value).toArray below meth c H locs 0 0 (MQ below (bQv G g (fun (f' : Nat → va_E) => ∃ sn9 : Int32, ∃ wn9 : Int32, ∃ sa9 : Int32, ∃ ly9 : Int32, ∃ sp9 : Nat → Int32, ∃ wi9 : Nat → Int32, ∃ wa9 : Nat → Int32, ∃ va9 : Nat → Int64, ∃ bo9 : Nat → Int32, ∃ ju9 : Nat → Int32, ∃ dr9 : Nat → Int32, ∃ dn9 : Nat → Int32, ∃ sl9 : Nat → Int32, ∃ ax9 : Nat → Int32, ∃ lf9 : Nat → Int32, f' 315 = eO 10 [.ref (g 316), .ref (g 317), .ref (g 318), .long ab2, .long be2, .int sn9, .ref (g 319), .ref (g 320), .int wn9, .ref (g 321), .ref (g 322), .int sa9, .int ly9, .int rdy, .int (nI fd), .ref (g 323), .ref (g 324), .ref (g 325), .ref (g 326), .ref (g 327), .ref (g 328), .ref (g 329), .ref (g 330), .ref (g 331), .ref (g 332)] ∧ f' 319 = eI G 70 sp9 ∧ f' 320 = eI G 70 wi9 ∧ f' 321 = eI G 70 wa9 ∧ f' 322 = eJ G 70 va9 ∧ f' 323 = eI G 11 bo9 ∧ f' 324 = eI G 11 ju9 ∧ f' 325 = eI G 264 dr9 ∧ f' 326 = eI G 11 dn9 ∧ f' 327 = eI G 330 sl9 ∧ f' 328 = eI G 44 ax9 ∧ f' 329 = eI G 30 lf9 ∧ (∀ k, k < 11 → ∃ d, d ≤ 24 ∧ dn9 k = nI d) ∧ ∀ j, (j < 315 ∨ (316 ≤ j ∧ j ≤ 318) ∨ 330 ≤ j) → f' j = f j)) ([.ref (g 315), .int (nI t), .int (nI to), .int (nI xt), .int sb] : List Value).toArray s 0 0 (gA g)) (F0 m 215 ls []) := by
                    intro n9_90
                    induction n9_90 with
                    | zero => intro i3 sl3 f_48 H locs ls hi3 hn9_90; exact absurd hn9_90 (Nat.not_lt_zero _)
                    | succ n9_90 ih_90 =>
                      intro i3 sl3 f_48 H locs ls hi3 hn9_90 hmo hss_ hsp_ hwi_ hwa_ hva_ hbo_ hju_ hdr_ hdn_ hsl_ hax_ hlf_ o_48 hP hS hl
                      have hd24 := hx_46_1
                      refine lv_iload hx hb dX11_tries_215 (lv_at hl 6 rfl) ?_
                      refine lv_aload_n hx hb dX11_tries_217 rfl (lv_at hl 0 rfl) ?_
                      refine va_get (D := G.1) (ci := 10) (v := .ref (g 326)) (C := RX11) (T := TX11) (N := 25) hx hb hts inlX11 hown hG.1 hP 315 (wl_at (by decide) hmo) rfl 18 (by decide) (hts (.fieldLink RX11 42 "SwornListsModel" "drews" "[I") w_122) (fun _ h9 => h9) rfl dX11_tries_218 ?_
                      refine lv_iload_n hx hb dX11_tries_221 rfl (lv_at hl 2 rfl) ?_
                      refine va_iald hx hb hG.1 hP 326 0 (wl_at (by decide) hdn_) rfl (vp_in_nI (by omega) (by decide)) dX11_tries_222 ?_
                      refine my_bei (v := dn985 to) (congrArg dn985 (nI_clamp (n := to) (by omega))) ?_
                      refine my_bei (v := nI d988) (hx_46_0) ?_
                      refine lv_icmp_ge (tgt := 280) hx hb dX11_tries_223 (by decide) (fun c_223 => ?_) (fun c_223 => ?_)
                      · have k_223 : d988 ≤ i3 := (nI_leI (a := d988) (b := i3) (by omega) (by omega)).mp c_223
                        refine lv_aload_n hx hb dX11_tries_280 rfl (lv_at hl 0 rfl) ?_
                        refine va_get (D := G.1) (ci := 10) (v := .ref (g 328)) (C := RX11) (T := TX11) (N := 25) hx hb hts inlX11 hown hG.1 hP 315 (wl_at (by decide) hmo) rfl 20 (by decide) (hts (.fieldLink RX11 48 "SwornListsModel" "abouts" "[I") w_124) (fun _ h9 => h9) rfl dX11_tries_281 ?_
                        refine lv_iconst (v := 4) hx hb dX11_tries_284 (by decide) ?_
                        refine lv_iload_n hx hb dX11_tries_285 rfl (lv_at hl 2 rfl) ?_
                        refine lv_imul hx hb dX11_tries_286 ?_
                        refine my_bei (v := nI (4 * to)) (pk_mul 4 to) ?_
                        refine lv_iconst (v := 0) hx hb dX11_tries_287 (by decide) ?_
                        refine va_iast hx hb hG.1 hP (wl_D hg f_48) hS 328 0 (wl_at (by decide) hax_) rfl (vp_in_nI (by omega) (by decide)) dX11_tries_288 (fun H locs hP _ hS => ?_)
                        have hP := (congrArg (fun z9 => va_P G.1 vwCl ((wl g f_48).set 328 (g 328, eI G 44 ((upd ax986 z9 0)))) H) (show Int32.toNatClampNeg (nI (4 * to)) = 4 * to from nI_clamp (by omega))).mp hP
                        obtain ⟨f_49, hP, e_49, o_49⟩ := b_put (by decide) hP
                        have hax_ : f_49 328 = eI G 44 (upd ax986 (4 * to) 0) := e_49
                        refine lv_aload_n hx hb dX11_tries_289 rfl (lv_at hl 0 rfl) ?_
                        replace hmo := ((o_49 315 (by decide))).trans hmo
                        refine va_get (D := G.1) (ci := 10) (v := .ref (g 328)) (C := RX11) (T := TX11) (N := 25) hx hb hts inlX11 hown hG.1 hP 315 (wl_at (by decide) hmo) rfl 20 (by decide) (hts (.fieldLink RX11 48 "SwornListsModel" "abouts" "[I") w_124) (fun _ h9 => h9) rfl dX11_tries_290 ?_
                        refine lv_iconst (v := 4) hx hb dX11_tries_293 (by decide) ?_
                        refine lv_iload_n hx hb dX11_tries_294 rfl (lv_at hl 2 rfl) ?_
                        refine lv_imul hx hb dX11_tries_295 ?_
                        refine my_bei (v := nI (4 * to)) (pk_mul 4 to) ?_
                        refine lv_iconst (v := 1) hx hb dX11_tries_296 (by decide) ?_
                        refine lv_iadd hx hb dX11_tries_297 ?_
                        refine my_bei (v := nI (4 * to + 1)) ((nI_add (4 * to) 1).trans (congrArg nI (show (4 * to) + 1 = 4 * to + 1 by omega))) ?_
                        refine lv_iconst (v := 0) hx hb dX11_tries_298 (by decide) ?_
                        refine va_iast hx hb hG.1 hP (wl_D hg f_49) hS 328 0 (wl_at (by decide) hax_) rfl (vp_in_nI (by omega) (by decide)) dX11_tries_299 (fun H locs hP _ hS => ?_)
                        have hP := (congrArg (fun z9 => va_P G.1 vwCl ((wl g f_49).set 328 (g 328, eI G 44 ((upd (upd ax986 (4 * to) 0) z9 0)))) H) (show Int32.toNatClampNeg (nI (4 * to + 1)) = 4 * to + 1 from nI_clamp (by omega))).mp hP
                        obtain ⟨f_50, hP, e_50, o_50⟩ := b_put (by decide) hP
                        have hax_ : f_50 328 = eI G 44 (upd (upd ax986 (4 * to) 0) (4 * to + 1) 0) := e_50
                        refine lv_aload_n hx hb dX11_tries_300 rfl (lv_at hl 0 rfl) ?_
                        replace hmo := ((o_50 315 (by decide))).trans hmo
                        refine va_get (D := G.1) (ci := 10) (v := .ref (g 328)) (C := RX11) (T := TX11) (N := 25) hx hb hts inlX11 hown hG.1 hP 315 (wl_at (by decide) hmo) rfl 20 (by decide) (hts (.fieldLink RX11 48 "SwornListsModel" "abouts" "[I") w_124) (fun _ h9 => h9) rfl dX11_tries_301 ?_
                        refine lv_iconst (v := 4) hx hb dX11_tries_304 (by decide) ?_
                        refine lv_iload_n hx hb dX11_tries_305 rfl (lv_at hl 2 rfl) ?_
                        refine lv_imul hx hb dX11_tries_306 ?_
                        refine my_bei (v := nI (4 * to)) (pk_mul 4 to) ?_
                        refine lv_iconst (v := 2) hx hb dX11_tries_307 (by decide) ?_
                        refine lv_iadd hx hb dX11_tries_308 ?_
                        refine my_bei (v := nI (4 * to + 2)) ((nI_add (4 * to) 2).trans (congrArg nI (show (4 * to) + 2 = 4 * to + 2 by omega))) ?_
                        refine lv_iconst (v := 0) hx hb dX11_tries_309 (by decide) ?_
                        refine va_iast hx hb hG.1 hP (wl_D hg f_50) hS 328 0 (wl_at (by decide) hax_) rfl (vp_in_nI (by omega) (by decide)) dX11_tries_310 (fun H locs hP _ hS => ?_)
                        have hP := (congrArg (fun z9 => va_P G.1 vwCl ((wl g f_50).set 328 (g 328, eI G 44 ((upd (upd (upd ax986 (4 * to) 0) (4 * to + 1) 0) z9 0)))) H) (show Int32.toNatClampNeg (nI (4 * to + 2)) = 4 * to + 2 from nI_clamp (by omega))).mp hP
                        obtain ⟨f_51, hP, e_51, o_51⟩ := b_put (by decide) hP
                        have hax_ : f_51 328 = eI G 44 (upd (upd (upd ax986 (4 * to) 0) (4 * to + 1) 0) (4 * to + 2) 0) := e_51
                        refine lv_iconst (v := 0) hx hb dX11_tries_311 (by decide) ?_
                        refine lv_istore (lv' := [(10, .int 0), (0, .ref (g 315)), (1, .int (nI t)), (2, .int (nI to)), (6, .int v62), (8, .int (v80 ||| v81)), (9, .int u)]) hx hb dX11_tries_312 hl (by decide) rfl (fun ls hl => ?_)
                        refine lv_iconst (v := 0) hx hb dX11_tries_314 (by decide) ?_
                        refine lv_istore (lv' := [(11, .int 0), (10, .int 0), (0, .ref (g 315)), (1, .int (nI t)), (2, .int (nI to)), (6, .int v62), (8, .int (v80 ||| v81)), (9, .int u)]) hx hb dX11_tries_315 hl (by decide) rfl (fun ls hl => ?_)
                        replace hmo := ((o_51 315 (by decide))).trans hmo
                        replace hss_ := ((o_51 316 (by decide)).trans ((o_50 316 (by decide)).trans ((o_49 316 (by decide))))).trans hss_
                        replace hsp_ := ((o_51 319 (by decide)).trans ((o_50 319 (by decide)).trans ((o_49 319 (by decide))))).trans hsp_
                        replace hwi_ := ((o_51 320 (by decide)).trans ((o_50 320 (by decide)).trans ((o_49 320 (by decide))))).trans hwi_
                        replace hwa_ := ((o_51 321 (by decide)).trans ((o_50 321 (by decide)).trans ((o_49 321 (by decide))))).trans hwa_
                        replace hva_ := ((o_51 322 (by decide)).trans ((o_50 322 (by decide)).trans ((o_49 322 (by decide))))).trans hva_
                        replace hbo_ := ((o_51 323 (by decide)).trans ((o_50 323 (by decide)).trans ((o_49 323 (by decide))))).trans hbo_
                        replace hju_ := ((o_51 324 (by decide)).trans ((o_50 324 (by decide)).trans ((o_49 324 (by decide))))).trans hju_
                        replace hdr_ := ((o_51 325 (by decide)).trans ((o_50 325 (by decide)).trans ((o_49 325 (by decide))))).trans hdr_
                        replace hdn_ := ((o_51 326 (by decide)).trans ((o_50 326 (by decide)).trans ((o_49 326 (by decide))))).trans hdn_
                        replace hsl_ := ((o_51 327 (by decide)).trans ((o_50 327 (by decide)).trans ((o_49 327 (by decide))))).trans hsl_
                        replace hlf_ := ((o_51 329 (by decide)).trans ((o_50 329 (by decide)).trans ((o_49 329 (by decide))))).trans hlf_
                        have key91 : ∀ (n9_91 : Nat) (th : Nat) (sd : Nat) (a0 : Nat) (a1 : Nat) (sl4 : Nat → Int32) (ax4 : Nat → Int32) (f_52 : Nat → va_E) (H : Heap) (locs : List Loc) (ls : Array Slot), (th ≤ 2) → (sd < 2) → (a0 ≤ q4) → (a1 ≤ q4) → (ax4 (4 * to + 1) = nI a0) → (ax4 (4 * to + 2) = nI a1) → 3 * (2 * q4 - a0 - a1) + (2 - th) < n9_91 → f_52 315 = eO 10 [.ref (g 316), .ref (g 317), .ref (g 318), .long ab2, .long be2, .int sn972, .ref (g 319), .ref (g 320), .int wn973, .ref (g 321), .ref (g 322), .int sa974, .int ly975, .int rdy, .int (nI fd), .ref (g 323), .ref (g 324), .ref (g 325), .ref (g 326), .ref (g 327), .ref (g 328), .ref (g 329), .ref (g 330), .ref (g 331), .ref (g 332)] → f_52 316 = eI G 2246 ss → f_52 319 = eI G 70 sp976 → f_52 320 = eI G 70 wi977 → f_52 321 = eI G 70 wa978 → f_52 322 = eJ G 70 va979 → f_52 323 = eI G 11 (upd bo to u) → f_52 324 = eI G 11 ju → f_52 325 = eI G 264 dr984 → f_52 326 = eI G 11 dn985 → f_52 327 = eI G 330 sl4 → f_52 328 = eI G 44 ax4 → f_52 329 = eI G 30 lf987 → (∀ j, (j ≠ 327 ∧ j ≠ 328) → f_52 j = f_51 j) → va_P G.1 vwCl (wl g f_52) H → va_S (gA g) s.heap H locs → lv_has ls 13 [(0, .ref (g 315)), (1, .int (nI t)), (2, .int (nI to)), (6, .int v62), (8, .int (v80 ||| v81)), (9, .int u), (10, .int (nI th)), (11, .int (nI sd))] → W p l e (headSpec (wsT yX11_tries cX11_tries 13 none) ({ frames := 5, cells := 0, slots := 0, locals := 120 })).room s m ([.ref (g 315), .int (nI t), .int (nI to), .int (nI xt), .int sb] : List Value).toArray below meth c H locs 0 0 (MQ below (bQv G g (fun (f' : Nat → va_E) => ∃ sn9 : Int32, ∃ wn9 : Int32, ∃ sa9 : Int32, ∃ ly9 : Int32, ∃ sp9 : Nat → Int32, ∃ wi9 : Nat → Int32, ∃ wa9 : Nat → Int32, ∃ va9 : Nat → Int64, ∃ bo9 : Nat → Int32, ∃ ju9 : Nat → Int32, ∃ dr9 : Nat → Int32, ∃ dn9 : Nat → Int32, ∃ sl9 : Nat → Int32, ∃ ax9 : Nat → Int32, ∃ lf9 : Nat → Int32, f' 315 = eO 10 [.ref (g 316), .ref (g 317), .ref (g 318), .long ab2, .long be2, .int sn9, .ref (g 319), .ref (g 320), .int wn9, .ref (g 321), .ref (g 322), .int sa9, .int ly9, .int rdy, .int (nI fd), .ref (g 323), .ref (g 324), .ref (g 325), .ref (g 326), .ref (g 327), .ref (g 328), .ref (g 329), .ref (g 330), .ref (g 331), .ref (g 332)] ∧ f' 319 = eI G 70 sp9 ∧ f' 320 = eI G 70 wi9 ∧ f' 321 = eI G 70 wa9 ∧ f' 322 = eJ G 70 va9 ∧ f' 323 = eI G 11 bo9 ∧ f' 324 = eI G 11 ju9 ∧ f' 325 = eI G 264 dr9 ∧ f' 326 = eI G 11 dn9 ∧ f' 327 = eI G 330 sl9 ∧ f' 328 = eI G 44 ax9 ∧ f' 329 = eI G 30 lf9 ∧ (∀ k, k < 11 → ∃ d, d ≤ 24 ∧ dn9 k = nI d) ∧ ∀ j, (j < 315 ∨ (316 ≤ j ∧ j ≤ 318) ∨ 330 ≤ j) → f' j = f j)) ([.ref (g 315), .int (nI t), .int (nI to), .int (nI xt), .int sb] : List Value).toArray s 0 0 (gA g)) (F0 m 317 ls []) := by
                          intro n9_91
                          induction n9_91 with
                          | zero => intro th sd a0 a1 sl4 ax4 f_52 H locs ls hth hsd hq0 hq1 ha0 ha1 hn9_91; exact absurd hn9_91 (Nat.not_lt_zero _)
                          | succ n9_91 ih_91 =>
                            intro th sd a0 a1 sl4 ax4 f_52 H locs ls hth hsd hq0 hq1 ha0 ha1 hn9_91 hmo hss_ hsp_ hwi_ hwa_ hva_ hbo_ hju_ hdr_ hdn_ hsl_ hax_ hlf_ o_52 hP hS hl
                            refine lv_iload hx hb dX11_tries_317 (lv_at hl 6 rfl) ?_
                            refine lv_iconst (v := 2) hx hb dX11_tries_319 (by decide) ?_
                            refine lv_icmp_ge (tgt := 397) hx hb dX11_tries_320 (by decide) (fun c_320 => ?_) (fun c_320 => ?_)
                            · have k_320 : 2 ≤ th := (nI_leI (a := 2) (b := th) (by omega) (by omega)).mp c_320
                              refine lv_aload_n hx hb dX11_tries_397 rfl (lv_at hl 0 rfl) ?_
                              refine lv_iload_n hx hb dX11_tries_398 rfl (lv_at hl 1 rfl) ?_
                              refine lv_iload_n hx hb dX11_tries_399 rfl (lv_at hl 2 rfl) ?_
                              refine lv_iload hx hb dX11_tries_400 (lv_at hl 3 rfl) ?_
                              refine lv_iload hx hb dX11_tries_402 (lv_at hl 5 rfl) ?_
                              refine lv_iconst (v := (-1)) hx hb dX11_tries_404 (by decide) ?_
                              refine lv_ixor hx hb dX11_tries_405 ?_
                              refine lv_iand hx hb dX11_tries_406 ?_
                              refine lv_iload hx hb dX11_tries_407 (lv_at hl 4 rfl) ?_
                              refine lv_iconst (v := (-1)) hx hb dX11_tries_409 (by decide) ?_
                              refine lv_ixor hx hb dX11_tries_410 ?_
                              refine lv_iand hx hb dX11_tries_411 ?_
                              refine b_callv (va_runV (As := [.int (nI t), .int (nI to), .int ((v62 &&& (u ^^^ (-1))) &&& ((v80 ||| v81) ^^^ (-1)))]) (rest := []) ⟨hx, hb, hml, hown, hts⟩ (r_seats l G g hg f_52 ab2 be2 sn972 wn973 sa974 ly975 rdy (nI fd) ss ju dr984 dn985 sl4 ax4 t to d988 ((v62 &&& (u ^^^ (-1))) &&& ((v80 ||| v81) ^^^ (-1))) hmo hss_ hju_ hdr_ hdn_ hsl_ hax_ (by first | assumption | omega | decide) (by first | assumption | omega | decide) (hx_46_0) (by first | assumption | omega | decide) (hx_46_3)) (my_cwV hts ok_X11_seats w_580 rfl rfl ⟨Nat.le_of_ble_eq_true rfl, Nat.le_of_ble_eq_true rfl⟩) ⟨bP.blind, va_recv hG.1 hP (ci := 10) (q0 := 315) rfl (wl_at (by decide) hmo), fun U hU hW => ⟨rfl, by rw [hU]; exact hP, kG.warm hW hG⟩⟩ rfl rfl hl.1 rfl (lv_room (Nat.le_of_ble_eq_true rfl)) dX11_tries_412 ⟨Nat.le_of_ble_eq_true rfl, Nat.le_of_ble_eq_true rfl⟩) hS (fun f_53 H locs hq9 hP hS => ?_)
                              obtain ⟨ju992, sl993, ax994, hq_53_0, hq_53_1, hq_53_2, o_53⟩ := hq9
                              have hju_ : f_53 324 = eI G 11 ju992 := hq_53_0
                              have hsl_ : f_53 327 = eI G 330 sl993 := hq_53_1
                              have hax_ : f_53 328 = eI G 44 ax994 := hq_53_2
                              replace hmo := ((o_53 315 (by first | decide | omega))).trans hmo
                              replace hsp_ := ((o_53 319 (by first | decide | omega))).trans hsp_
                              replace hwi_ := ((o_53 320 (by first | decide | omega))).trans hwi_
                              replace hwa_ := ((o_53 321 (by first | decide | omega))).trans hwa_
                              replace hva_ := ((o_53 322 (by first | decide | omega))).trans hva_
                              replace hbo_ := ((o_53 323 (by first | decide | omega))).trans hbo_
                              replace hdr_ := ((o_53 325 (by first | decide | omega))).trans hdr_
                              replace hdn_ := ((o_53 326 (by first | decide | omega))).trans hdn_
                              replace hlf_ := ((o_53 329 (by first | decide | omega))).trans hlf_
                              exact W.vret hx hb hr (fun t ht hW => ⟨⟨f_53, rfl, (⟨sn972, wn973, sa974, ly975, sp976, wi977, wa978, va979, (upd bo to u), ju992, dr984, dn985, sl993, ax994, lf987, hmo, hsp_, hwi_, hwa_, hva_, hbo_, hju_, hdr_, hdn_, hsl_, hax_, hlf_, dn_new hdn hx_46_0 hx_46_1 hx_46_2, fun j hj => ((((((((((((o_53 j (by omega))).trans (o_52 j (by omega))).trans (o_51 j (by omega))).trans (o_50 j (by omega))).trans (o_49 j (by omega))).trans (o_48 j (by omega))).trans (o_47 j (by omega))).trans (o_46 j (by omega))).trans (o_45 j (by omega))).trans (o_44 j (by omega))).trans (o_43 j (by omega))).trans (o_42 j (by omega))⟩), by rw [ht]; exact hP⟩, hS.F ht⟩) hS.2.2 dX11_tries_415
                            · have k_320 : ¬ 2 ≤ th := fun z9 => c_320 ((nI_leI (a := 2) (b := th) (by omega) (by omega)).mpr z9)
                              rcases (show sd = 0 ∨ sd = 1 by omega) with rfl | rfl
                              · refine lv_aload_n hx hb dX11_tries_323 rfl (lv_at hl 0 rfl) ?_
                                refine lv_iload_n hx hb dX11_tries_324 rfl (lv_at hl 1 rfl) ?_
                                refine lv_iload_n hx hb dX11_tries_325 rfl (lv_at hl 2 rfl) ?_
                                refine lv_iload hx hb dX11_tries_326 (lv_at hl 7 rfl) ?_
                                refine rd_calli (va_runV (As := [.int (nI t), .int (nI to), .int 0]) (rest := []) ⟨hx, hb, hml, hown, hts⟩ (r_strikes l G g hg f_52 ab2 be2 sn972 wn973 sa974 ly975 rdy (nI fd) ss np nf nr na nt dr984 dn985 sl4 ax4 t to 0 a0 d988 q4 hmo hss_ hdr_ hdn_ hsl_ hax_ (by first | assumption | omega | decide) (by first | assumption | omega | decide) (by first | assumption | omega | decide) (by first | assumption | omega | decide) (by first | assumption | omega | decide) (by rw [show 0 + 4 * to + 1 = 4 * to + 1 by omega]; exact ha0) (hx_46_0) (by first | assumption | omega | decide) (hx_46_3) (by first | assumption | omega | decide) (hs4)) (my_cwV hts ok_X11_strikes w_576 rfl rfl ⟨Nat.le_of_ble_eq_true rfl, Nat.le_of_ble_eq_true rfl⟩) ⟨bP.blind, va_recv hG.1 hP (ci := 10) (q0 := 315) rfl (wl_at (by decide) hmo), fun U hU hW => ⟨rfl, by rw [hU]; exact hP, kG.warm hW hG⟩⟩ rfl rfl hl.1 rfl (lv_room (Nat.le_of_ble_eq_true rfl)) dX11_tries_328 ⟨Nat.le_of_ble_eq_true rfl, Nat.le_of_ble_eq_true rfl⟩) (fun r hr9 => ?_)
                                obtain ⟨o995, rfl, hx_54_0, hx_54_1⟩ := hr9
                                refine lv_istore (lv' := [(12, .int (fo o995)), (0, .ref (g 315)), (1, .int (nI t)), (2, .int (nI to)), (6, .int v62), (8, .int (v80 ||| v81)), (9, .int u), (10, .int (nI th)), (11, .int 0)]) hx hb dX11_tries_331 hl (by decide) rfl (fun ls hl => ?_)
                                refine lv_iload hx hb dX11_tries_333 (lv_at hl 0 rfl) ?_
                                refine lv_iconst (v := (-1)) hx hb dX11_tries_335 (by decide) ?_
                                refine lv_icmp_ne (tgt := 346) hx hb dX11_tries_336 (by decide) (fun c_336 => ?_) (fun c_336 => ?_)
                                · refine lv_iconst (v := 0) hx hb dX11_tries_346 (by decide) ?_
                                  refine lv_istore (lv' := [(10, .int 0), (12, .int (fo o995)), (0, .ref (g 315)), (1, .int (nI t)), (2, .int (nI to)), (6, .int v62), (8, .int (v80 ||| v81)), (9, .int u), (11, .int 0)]) hx hb dX11_tries_347 hl (by decide) rfl (fun ls hl => ?_)
                                  refine lv_iload hx hb dX11_tries_349 (lv_at hl 1 rfl) ?_
                                  refine lv_iconst (v := (-1)) hx hb dX11_tries_351 (by decide) ?_
                                  refine lv_icmp_eq (tgt := 388) hx hb dX11_tries_352 (by decide) (fun c_352 => absurd c_352 (c_336)) (fun c_352 => ?_)
                                  obtain ⟨z5, rfl⟩ : ∃ b, o995 = some b := by
                                    cases o995 with
                                    | none => exact absurd rfl c_336
                                    | some z => exact ⟨z, rfl⟩
                                  have hz5 := hx_54_0 z5 rfl
                                  have hlt5 : a0 ≠ q4 := fun z => by cases hx_54_1 z
                                  refine lv_aload_n hx hb dX11_tries_355 rfl (lv_at hl 2 rfl) ?_
                                  refine va_get (D := G.1) (ci := 10) (v := .ref (g 327)) (C := RX11) (T := TX11) (N := 25) hx hb hts inlX11 hown hG.1 hP 315 (wl_at (by decide) hmo) rfl 19 (by decide) (hts (.fieldLink RX11 45 "SwornListsModel" "slips" "[I") w_123) (fun _ h9 => h9) rfl dX11_tries_356 ?_
                                  refine lv_bipush (v := 30) hx hb dX11_tries_359 (by decide) ?_
                                  refine lv_iload_n hx hb dX11_tries_361 rfl (lv_at hl 4 rfl) ?_
                                  refine lv_imul hx hb dX11_tries_362 ?_
                                  refine my_bei (v := nI (30 * to)) (pk_mul 30 to) ?_
                                  refine lv_iload hx hb dX11_tries_363 (lv_at hl 1 rfl) ?_
                                  refine lv_iadd hx hb dX11_tries_365 ?_
                                  refine my_bei (v := nI (30 * to + z5)) ((nI_add (30 * to) z5).trans (congrArg nI (show (30 * to) + z5 = 30 * to + z5 by omega))) ?_
                                  refine lv_iconst (v := 3) hx hb dX11_tries_366 (by decide) ?_
                                  refine lv_iload hx hb dX11_tries_367 (lv_at hl 8 rfl) ?_
                                  refine lv_iadd hx hb dX11_tries_369 ?_
                                  refine my_bei (v := 3) (by decide) ?_
                                  refine va_iast hx hb hG.1 hP (wl_D hg f_52) hS 327 0 (wl_at (by decide) hsl_) rfl (vp_in_nI (by omega) (by decide)) dX11_tries_370 (fun H locs hP _ hS => ?_)
                                  have hP := (congrArg (fun z9 => va_P G.1 vwCl ((wl g f_52).set 327 (g 327, eI G 330 ((upd sl4 z9 3)))) H) (show Int32.toNatClampNeg (nI (30 * to + z5)) = 30 * to + z5 from nI_clamp (by omega))).mp hP
                                  obtain ⟨f_55, hP, e_55, o_55⟩ := b_put (by decide) hP
                                  have hsl_ : f_55 327 = eI G 330 (upd sl4 (30 * to + z5) 3) := e_55
                                  refine lv_aload_n hx hb dX11_tries_371 rfl (lv_at hl 2 rfl) ?_
                                  replace hmo := ((o_55 315 (by decide))).trans hmo
                                  refine va_get (D := G.1) (ci := 10) (v := .ref (g 328)) (C := RX11) (T := TX11) (N := 25) hx hb hts inlX11 hown hG.1 hP 315 (wl_at (by decide) hmo) rfl 20 (by decide) (hts (.fieldLink RX11 48 "SwornListsModel" "abouts" "[I") w_124) (fun _ h9 => h9) rfl dX11_tries_372 ?_
                                  refine lv_iconst (v := 4) hx hb dX11_tries_375 (by decide) ?_
                                  refine lv_iload_n hx hb dX11_tries_376 rfl (lv_at hl 4 rfl) ?_
                                  refine lv_imul hx hb dX11_tries_377 ?_
                                  refine my_bei (v := nI (4 * to)) (pk_mul 4 to) ?_
                                  refine lv_iconst (v := 1) hx hb dX11_tries_378 (by decide) ?_
                                  refine lv_iadd hx hb dX11_tries_379 ?_
                                  refine my_bei (v := nI (4 * to + 1)) ((nI_add (4 * to) 1).trans (congrArg nI (show (4 * to) + 1 = 4 * to + 1 by omega))) ?_
                                  refine lv_iload hx hb dX11_tries_380 (lv_at hl 8 rfl) ?_
                                  refine lv_iadd hx hb dX11_tries_382 ?_
                                  refine my_bei (v := nI (4 * to + 1)) ((nI_add (4 * to + 1) 0).trans (congrArg nI (show (4 * to + 1) + 0 = 4 * to + 1 by omega))) ?_
                                  refine lv_dup2_11 hx hb dX11_tries_383 rfl rfl ?_
                                  replace hax_ := ((o_55 328 (by decide))).trans hax_
                                  refine va_iald hx hb hG.1 hP 328 0 (wl_at (by decide) hax_) rfl (vp_in_nI (by omega) (by decide)) dX11_tries_384 ?_
                                  refine my_bei (v := ax4 (4 * to + 1)) (congrArg ax4 (nI_clamp (n := 4 * to + 1) (by omega))) ?_
                                  refine my_bei (v := nI a0) (ha0) ?_
                                  refine lv_iconst (v := 1) hx hb dX11_tries_385 (by decide) ?_
                                  refine lv_iadd hx hb dX11_tries_386 ?_
                                  refine my_bei (v := nI (a0 + 1)) (nI_add a0 1) ?_
                                  refine va_iast hx hb hG.1 hP (wl_D hg f_55) hS 328 0 (wl_at (by decide) hax_) rfl (vp_in_nI (by omega) (by decide)) dX11_tries_387 (fun H locs hP _ hS => ?_)
                                  have hP := (congrArg (fun z9 => va_P G.1 vwCl ((wl g f_55).set 328 (g 328, eI G 44 ((upd ax4 z9 (nI (a0 + 1)))))) H) (show Int32.toNatClampNeg (nI (4 * to + 1)) = 4 * to + 1 from nI_clamp (by omega))).mp hP
                                  obtain ⟨f_56, hP, e_56, o_56⟩ := b_put (by decide) hP
                                  have hax_ : f_56 328 = eI G 44 (upd ax4 (4 * to + 1) (nI (a0 + 1))) := e_56
                                  refine lv_iconst (v := 1) hx hb dX11_tries_388 (by decide) ?_
                                  refine lv_iload hx hb dX11_tries_389 (lv_at hl 8 rfl) ?_
                                  refine lv_isub hx hb dX11_tries_391 ?_
                                  refine my_bei (v := 1) (by decide) ?_
                                  refine lv_istore (lv' := [(11, .int 1), (10, .int 0), (12, .int (nI z5)), (0, .ref (g 315)), (1, .int (nI t)), (2, .int (nI to)), (6, .int v62), (8, .int (v80 ||| v81)), (9, .int u)]) hx hb dX11_tries_392 hl (by decide) rfl (fun ls hl => ?_)
                                  refine lv_goto (tgt := 317) hx hb dX11_tries_394 (by decide) ?_
                                  replace hmo := ((o_56 315 (by decide))).trans hmo
                                  replace hss_ := ((o_56 316 (by decide)).trans ((o_55 316 (by decide)))).trans hss_
                                  replace hsp_ := ((o_56 319 (by decide)).trans ((o_55 319 (by decide)))).trans hsp_
                                  replace hwi_ := ((o_56 320 (by decide)).trans ((o_55 320 (by decide)))).trans hwi_
                                  replace hwa_ := ((o_56 321 (by decide)).trans ((o_55 321 (by decide)))).trans hwa_
                                  replace hva_ := ((o_56 322 (by decide)).trans ((o_55 322 (by decide)))).trans hva_
                                  replace hbo_ := ((o_56 323 (by decide)).trans ((o_55 323 (by decide)))).trans hbo_
                                  replace hju_ := ((o_56 324 (by decide)).trans ((o_55 324 (by decide)))).trans hju_
                                  replace hdr_ := ((o_56 325 (by decide)).trans ((o_55 325 (by decide)))).trans hdr_
                                  replace hdn_ := ((o_56 326 (by decide)).trans ((o_55 326 (by decide)))).trans hdn_
                                  replace hsl_ := ((o_56 327 (by decide))).trans hsl_
                                  replace hlf_ := ((o_56 329 (by decide)).trans ((o_55 329 (by decide)))).trans hlf_
                                  exact ih_91 0 1 (a0 + 1) a1 (upd sl4 (30 * to + z5) 3) (upd ax4 (4 * to + 1) (nI (a0 + 1))) f_56 _ _ _ (by omega) (by omega) (by omega) (by omega) (pk_us) ((pk_un (by omega)).trans ha1) (by omega) (hmo) (hss_) (hsp_) (hwi_) (hwa_) (hva_) (hbo_) (hju_) (hdr_) (hdn_) (hsl_) (hax_) (hlf_) (fun j hj => (((o_56 j (by omega))).trans (o_55 j (by omega))).trans (o_52 j (by omega))) hP hS (lv_sub hl [3, 4, 5, 6, 7, 8, 1, 0] rfl)
                                · refine lv_iload hx hb dX11_tries_339 (lv_at hl 7 rfl) ?_
                                  refine lv_iconst (v := 1) hx hb dX11_tries_341 (by decide) ?_
                                  refine lv_iadd hx hb dX11_tries_342 ?_
                                  refine my_bei (v := nI (th + 1)) (nI_add th 1) ?_
                                  refine lv_goto (tgt := 347) hx hb dX11_tries_343 (by decide) ?_
                                  refine lv_istore (lv' := [(10, .int (nI (th + 1))), (12, .int (fo o995)), (0, .ref (g 315)), (1, .int (nI t)), (2, .int (nI to)), (6, .int v62), (8, .int (v80 ||| v81)), (9, .int u), (11, .int 0)]) hx hb dX11_tries_347 hl (by decide) rfl (fun ls hl => ?_)
                                  refine lv_iload hx hb dX11_tries_349 (lv_at hl 1 rfl) ?_
                                  refine lv_iconst (v := (-1)) hx hb dX11_tries_351 (by decide) ?_
                                  refine lv_icmp_eq (tgt := 388) hx hb dX11_tries_352 (by decide) (fun c_352 => ?_) (fun c_352 => absurd (c_336) c_352)
                                  refine lv_iconst (v := 1) hx hb dX11_tries_388 (by decide) ?_
                                  refine lv_iload hx hb dX11_tries_389 (lv_at hl 8 rfl) ?_
                                  refine lv_isub hx hb dX11_tries_391 ?_
                                  refine my_bei (v := 1) (by decide) ?_
                                  refine lv_istore (lv' := [(11, .int 1), (10, .int (nI (th + 1))), (12, .int (fo o995)), (0, .ref (g 315)), (1, .int (nI t)), (2, .int (nI to)), (6, .int v62), (8, .int (v80 ||| v81)), (9, .int u)]) hx hb dX11_tries_392 hl (by decide) rfl (fun ls hl => ?_)
                                  refine lv_goto (tgt := 317) hx hb dX11_tries_394 (by decide) ?_
                                  exact ih_91 (th + 1) 1 a0 a1 sl4 ax4 f_52 _ _ _ (by omega) (by omega) (by omega) (by omega) (ha0) (ha1) (by omega) (hmo) (hss_) (hsp_) (hwi_) (hwa_) (hva_) (hbo_) (hju_) (hdr_) (hdn_) (hsl_) (hax_) (hlf_) (fun j hj => (o_52 j (by omega))) hP hS (lv_sub hl [3, 4, 5, 6, 7, 8, 1, 0] rfl)
                              · refine lv_aload_n hx hb dX11_tries_323 rfl (lv_at hl 0 rfl) ?_
                                refine lv_iload_n hx hb dX11_tries_324 rfl (lv_at hl 1 rfl) ?_
                                refine lv_iload_n hx hb dX11_tries_325 rfl (lv_at hl 2 rfl) ?_
                                refine lv_iload hx hb dX11_tries_326 (lv_at hl 7 rfl) ?_
                                refine rd_calli (va_runV (As := [.int (nI t), .int (nI to), .int 1]) (rest := []) ⟨hx, hb, hml, hown, hts⟩ (r_strikes l G g hg f_52 ab2 be2 sn972 wn973 sa974 ly975 rdy (nI fd) ss np nf nr na nt dr984 dn985 sl4 ax4 t to 1 a1 d988 q4 hmo hss_ hdr_ hdn_ hsl_ hax_ (by first | assumption | omega | decide) (by first | assumption | omega | decide) (by first | assumption | omega | decide) (by first | assumption | omega | decide) (by first | assumption | omega | decide) (by rw [show 1 + 4 * to + 1 = 4 * to + 2 by omega]; exact ha1) (hx_46_0) (by first | assumption | omega | decide) (hx_46_3) (by first | assumption | omega | decide) (hs4)) (my_cwV hts ok_X11_strikes w_576 rfl rfl ⟨Nat.le_of_ble_eq_true rfl, Nat.le_of_ble_eq_true rfl⟩) ⟨bP.blind, va_recv hG.1 hP (ci := 10) (q0 := 315) rfl (wl_at (by decide) hmo), fun U hU hW => ⟨rfl, by rw [hU]; exact hP, kG.warm hW hG⟩⟩ rfl rfl hl.1 rfl (lv_room (Nat.le_of_ble_eq_true rfl)) dX11_tries_328 ⟨Nat.le_of_ble_eq_true rfl, Nat.le_of_ble_eq_true rfl⟩) (fun r hr9 => ?_)
                                obtain ⟨o996, rfl, hx_57_0, hx_57_1⟩ := hr9
                                refine lv_istore (lv' := [(12, .int (fo o996)), (0, .ref (g 315)), (1, .int (nI t)), (2, .int (nI to)), (6, .int v62), (8, .int (v80 ||| v81)), (9, .int u), (10, .int (nI th)), (11, .int 1)]) hx hb dX11_tries_331 hl (by decide) rfl (fun ls hl => ?_)
                                refine lv_iload hx hb dX11_tries_333 (lv_at hl 0 rfl) ?_
                                refine lv_iconst (v := (-1)) hx hb dX11_tries_335 (by decide) ?_
                                refine lv_icmp_ne (tgt := 346) hx hb dX11_tries_336 (by decide) (fun c_336 => ?_) (fun c_336 => ?_)
                                · refine lv_iconst (v := 0) hx hb dX11_tries_346 (by decide) ?_
                                  refine lv_istore (lv' := [(10, .int 0), (12, .int (fo o996)), (0, .ref (g 315)), (1, .int (nI t)), (2, .int (nI to)), (6, .int v62), (8, .int (v80 ||| v81)), (9, .int u), (11, .int 1)]) hx hb dX11_tries_347 hl (by decide) rfl (fun ls hl => ?_)
                                  refine lv_iload hx hb dX11_tries_349 (lv_at hl 1 rfl) ?_
                                  refine lv_iconst (v := (-1)) hx hb dX11_tries_351 (by decide) ?_
                                  refine lv_icmp_eq (tgt := 388) hx hb dX11_tries_352 (by decide) (fun c_352 => absurd c_352 (c_336)) (fun c_352 => ?_)
                                  obtain ⟨z5, rfl⟩ : ∃ b, o996 = some b := by
                                    cases o996 with
                                    | none => exact absurd rfl c_336
                                    | some z => exact ⟨z, rfl⟩
                                  have hz5 := hx_57_0 z5 rfl
                                  have hlt5 : a1 ≠ q4 := fun z => by cases hx_57_1 z
                                  refine lv_aload_n hx hb dX11_tries_355 rfl (lv_at hl 2 rfl) ?_
                                  refine va_get (D := G.1) (ci := 10) (v := .ref (g 327)) (C := RX11) (T := TX11) (N := 25) hx hb hts inlX11 hown hG.1 hP 315 (wl_at (by decide) hmo) rfl 19 (by decide) (hts (.fieldLink RX11 45 "SwornListsModel" "slips" "[I") w_123) (fun _ h9 => h9) rfl dX11_tries_356 ?_
                                  refine lv_bipush (v := 30) hx hb dX11_tries_359 (by decide) ?_
                                  refine lv_iload_n hx hb dX11_tries_361 rfl (lv_at hl 4 rfl) ?_
                                  refine lv_imul hx hb dX11_tries_362 ?_
                                  refine my_bei (v := nI (30 * to)) (pk_mul 30 to) ?_
                                  refine lv_iload hx hb dX11_tries_363 (lv_at hl 1 rfl) ?_
                                  refine lv_iadd hx hb dX11_tries_365 ?_
                                  refine my_bei (v := nI (30 * to + z5)) ((nI_add (30 * to) z5).trans (congrArg nI (show (30 * to) + z5 = 30 * to + z5 by omega))) ?_
                                  refine lv_iconst (v := 3) hx hb dX11_tries_366 (by decide) ?_
                                  refine lv_iload hx hb dX11_tries_367 (lv_at hl 8 rfl) ?_
                                  refine lv_iadd hx hb dX11_tries_369 ?_
                                  refine my_bei (v := 4) (by decide) ?_
                                  refine va_iast hx hb hG.1 hP (wl_D hg f_52) hS 327 0 (wl_at (by decide) hsl_) rfl (vp_in_nI (by omega) (by decide)) dX11_tries_370 (fun H locs hP _ hS => ?_)
                                  have hP := (congrArg (fun z9 => va_P G.1 vwCl ((wl g f_52).set 327 (g 327, eI G 330 ((upd sl4 z9 4)))) H) (show Int32.toNatClampNeg (nI (30 * to + z5)) = 30 * to + z5 from nI_clamp (by omega))).mp hP
                                  obtain ⟨f_58, hP, e_58, o_58⟩ := b_put (by decide) hP
                                  have hsl_ : f_58 327 = eI G 330 (upd sl4 (30 * to + z5) 4) := e_58
                                  refine lv_aload_n hx hb dX11_tries_371 rfl (lv_at hl 2 rfl) ?_
                                  replace hmo := ((o_58 315 (by decide))).trans hmo
                                  refine va_get (D := G.1) (ci := 10) (v := .ref (g 328)) (C := RX11) (T := TX11) (N := 25) hx hb hts inlX11 hown hG.1 hP 315 (wl_at (by decide) hmo) rfl 20 (by decide) (hts (.fieldLink RX11 48 "SwornListsModel" "abouts" "[I") w_124) (fun _ h9 => h9) rfl dX11_tries_372 ?_
                                  refine lv_iconst (v := 4) hx hb dX11_tries_375 (by decide) ?_
                                  refine lv_iload_n hx hb dX11_tries_376 rfl (lv_at hl 4 rfl) ?_
                                  refine lv_imul hx hb dX11_tries_377 ?_
                                  refine my_bei (v := nI (4 * to)) (pk_mul 4 to) ?_
                                  refine lv_iconst (v := 1) hx hb dX11_tries_378 (by decide) ?_
                                  refine lv_iadd hx hb dX11_tries_379 ?_
                                  refine my_bei (v := nI (4 * to + 1)) ((nI_add (4 * to) 1).trans (congrArg nI (show (4 * to) + 1 = 4 * to + 1 by omega))) ?_
                                  refine lv_iload hx hb dX11_tries_380 (lv_at hl 8 rfl) ?_
                                  refine lv_iadd hx hb dX11_tries_382 ?_
                                  refine my_bei (v := nI (4 * to + 2)) ((nI_add (4 * to + 1) 1).trans (congrArg nI (show (4 * to + 1) + 1 = 4 * to + 2 by omega))) ?_
                                  refine lv_dup2_11 hx hb dX11_tries_383 rfl rfl ?_
                                  replace hax_ := ((o_58 328 (by decide))).trans hax_
                                  refine va_iald hx hb hG.1 hP 328 0 (wl_at (by decide) hax_) rfl (vp_in_nI (by omega) (by decide)) dX11_tries_384 ?_
                                  refine my_bei (v := ax4 (4 * to + 2)) (congrArg ax4 (nI_clamp (n := 4 * to + 2) (by omega))) ?_
                                  refine my_bei (v := nI a1) (ha1) ?_
                                  refine lv_iconst (v := 1) hx hb dX11_tries_385 (by decide) ?_
                                  refine lv_iadd hx hb dX11_tries_386 ?_
                                  refine my_bei (v := nI (a1 + 1)) (nI_add a1 1) ?_
                                  refine va_iast hx hb hG.1 hP (wl_D hg f_58) hS 328 0 (wl_at (by decide) hax_) rfl (vp_in_nI (by omega) (by decide)) dX11_tries_387 (fun H locs hP _ hS => ?_)
                                  have hP := (congrArg (fun z9 => va_P G.1 vwCl ((wl g f_58).set 328 (g 328, eI G 44 ((upd ax4 z9 (nI (a1 + 1)))))) H) (show Int32.toNatClampNeg (nI (4 * to + 2)) = 4 * to + 2 from nI_clamp (by omega))).mp hP
                                  obtain ⟨f_59, hP, e_59, o_59⟩ := b_put (by decide) hP
                                  have hax_ : f_59 328 = eI G 44 (upd ax4 (4 * to + 2) (nI (a1 + 1))) := e_59
                                  refine lv_iconst (v := 1) hx hb dX11_tries_388 (by decide) ?_
                                  refine lv_iload hx hb dX11_tries_389 (lv_at hl 8 rfl) ?_
                                  refine lv_isub hx hb dX11_tries_391 ?_
                                  refine my_bei (v := 0) (by decide) ?_
                                  refine lv_istore (lv' := [(11, .int 0), (10, .int 0), (12, .int (nI z5)), (0, .ref (g 315)), (1, .int (nI t)), (2, .int (nI to)), (6, .int v62), (8, .int (v80 ||| v81)), (9, .int u)]) hx hb dX11_tries_392 hl (by decide) rfl (fun ls hl => ?_)
                                  refine lv_goto (tgt := 317) hx hb dX11_tries_394 (by decide) ?_
                                  replace hmo := ((o_59 315 (by decide))).trans hmo
                                  replace hss_ := ((o_59 316 (by decide)).trans ((o_58 316 (by decide)))).trans hss_
                                  replace hsp_ := ((o_59 319 (by decide)).trans ((o_58 319 (by decide)))).trans hsp_
                                  replace hwi_ := ((o_59 320 (by decide)).trans ((o_58 320 (by decide)))).trans hwi_
                                  replace hwa_ := ((o_59 321 (by decide)).trans ((o_58 321 (by decide)))).trans hwa_
                                  replace hva_ := ((o_59 322 (by decide)).trans ((o_58 322 (by decide)))).trans hva_
                                  replace hbo_ := ((o_59 323 (by decide)).trans ((o_58 323 (by decide)))).trans hbo_
                                  replace hju_ := ((o_59 324 (by decide)).trans ((o_58 324 (by decide)))).trans hju_
                                  replace hdr_ := ((o_59 325 (by decide)).trans ((o_58 325 (by decide)))).trans hdr_
                                  replace hdn_ := ((o_59 326 (by decide)).trans ((o_58 326 (by decide)))).trans hdn_
                                  replace hsl_ := ((o_59 327 (by decide))).trans hsl_
                                  replace hlf_ := ((o_59 329 (by decide)).trans ((o_58 329 (by decide)))).trans hlf_
                                  exact ih_91 0 0 a0 (a1 + 1) (upd sl4 (30 * to + z5) 4) (upd ax4 (4 * to + 2) (nI (a1 + 1))) f_59 _ _ _ (by omega) (by omega) (by omega) (by omega) ((pk_un (by omega)).trans ha0) (pk_us) (by omega) (hmo) (hss_) (hsp_) (hwi_) (hwa_) (hva_) (hbo_) (hju_) (hdr_) (hdn_) (hsl_) (hax_) (hlf_) (fun j hj => (((o_59 j (by omega))).trans (o_58 j (by omega))).trans (o_52 j (by omega))) hP hS (lv_sub hl [3, 4, 5, 6, 7, 8, 1, 0] rfl)
                                · refine lv_iload hx hb dX11_tries_339 (lv_at hl 7 rfl) ?_
                                  refine lv_iconst (v := 1) hx hb dX11_tries_341 (by decide) ?_
                                  refine lv_iadd hx hb dX11_tries_342 ?_
                                  refine my_bei (v := nI (th + 1)) (nI_add th 1) ?_
                                  refine lv_goto (tgt := 347) hx hb dX11_tries_343 (by decide) ?_
                                  refine lv_istore (lv' := [(10, .int (nI (th + 1))), (12, .int (fo o996)), (0, .ref (g 315)), (1, .int (nI t)), (2, .int (nI to)), (6, .int v62), (8, .int (v80 ||| v81)), (9, .int u), (11, .int 1)]) hx hb dX11_tries_347 hl (by decide) rfl (fun ls hl => ?_)
                                  refine lv_iload hx hb dX11_tries_349 (lv_at hl 1 rfl) ?_
                                  refine lv_iconst (v := (-1)) hx hb dX11_tries_351 (by decide) ?_
                                  refine lv_icmp_eq (tgt := 388) hx hb dX11_tries_352 (by decide) (fun c_352 => ?_) (fun c_352 => absurd (c_336) c_352)
                                  refine lv_iconst (v := 1) hx hb dX11_tries_388 (by decide) ?_
                                  refine lv_iload hx hb dX11_tries_389 (lv_at hl 8 rfl) ?_
                                  refine lv_isub hx hb dX11_tries_391 ?_
                                  refine my_bei (v := 0) (by decide) ?_
                                  refine lv_istore (lv' := [(11, .int 0), (10, .int (nI (th + 1))), (12, .int (fo o996)), (0, .ref (g 315)), (1, .int (nI t)), (2, .int (nI to)), (6, .int v62), (8, .int (v80 ||| v81)), (9, .int u)]) hx hb dX11_tries_392 hl (by decide) rfl (fun ls hl => ?_)
                                  refine lv_goto (tgt := 317) hx hb dX11_tries_394 (by decide) ?_
                                  exact ih_91 (th + 1) 0 a0 a1 sl4 ax4 f_52 _ _ _ (by omega) (by omega) (by omega) (by omega) (ha0) (ha1) (by omega) (hmo) (hss_) (hsp_) (hwi_) (hwa_) (hva_) (hbo_) (hju_) (hdr_) (hdn_) (hsl_) (hax_) (hlf_) (fun j hj => (o_52 j (by omega))) hP hS (lv_sub hl [3, 4, 5, 6, 7, 8, 1, 0] rfl)
                        exact key91 ((3 * (2 * q4) + 2) + 1) 0 0 0 0 sl3 (upd (upd (upd ax986 (4 * to) 0) (4 * to + 1) 0) (4 * to + 2) 0) f_51 _ _ _ (Nat.zero_le _) (by omega) (Nat.zero_le _) (Nat.zero_le _) ((pk_un (by omega)).trans pk_us) (pk_us) (by omega) (hmo) (hss_) (hsp_) (hwi_) (hwa_) (hva_) (hbo_) (hju_) (hdr_) (hdn_) (hsl_) (hax_) (hlf_) (fun j _ => rfl) hP hS (lv_sub hl [2, 3, 4, 5, 6, 7, 1, 0] rfl)
                      · have k_223 : ¬ d988 ≤ i3 := fun z9 => c_223 ((nI_leI (a := d988) (b := i3) (by omega) (by omega)).mpr z9)
                        refine lv_aload_n hx hb dX11_tries_226 rfl (lv_at hl 0 rfl) ?_
                        refine va_get (D := G.1) (ci := 10) (v := .ref (g 325)) (C := RX11) (T := TX11) (N := 25) hx hb hts inlX11 hown hG.1 hP 315 (wl_at (by decide) hmo) rfl 17 (by decide) (hts (.fieldLink RX11 39 "SwornListsModel" "drew" "[I") w_121) (fun _ h9 => h9) rfl dX11_tries_227 ?_
                        refine lv_bipush (v := 24) hx hb dX11_tries_230 (by decide) ?_
                        refine lv_iload_n hx hb dX11_tries_232 rfl (lv_at hl 2 rfl) ?_
                        refine lv_imul hx hb dX11_tries_233 ?_
                        refine my_bei (v := nI (24 * to)) (pk_mul 24 to) ?_
                        refine lv_iload hx hb dX11_tries_234 (lv_at hl 6 rfl) ?_
                        refine lv_iadd hx hb dX11_tries_236 ?_
                        refine my_bei (v := nI (i3 + 24 * to)) ((nI_add (24 * to) i3).trans (congrArg nI (show (24 * to) + i3 = i3 + 24 * to by omega))) ?_
                        obtain ⟨z1, hz1, ez1⟩ := hx_46_3 i3 (by omega)
                        refine va_iald hx hb hG.1 hP 325 0 (wl_at (by decide) hdr_) rfl (vp_in_nI (by omega) (by decide)) dX11_tries_237 ?_
                        refine my_bei (v := dr984 (i3 + 24 * to)) (congrArg dr984 (nI_clamp (n := i3 + 24 * to) (by omega))) ?_
                        refine my_bei (v := nI z1) (ez1) ?_
                        refine lv_istore (lv' := [(11, .int (nI z1)), (0, .ref (g 315)), (1, .int (nI t)), (2, .int (nI to)), (6, .int v62), (8, .int (v80 ||| v81)), (9, .int u), (10, .int (nI i3))]) hx hb dX11_tries_238 hl (by decide) rfl (fun ls hl => ?_)
                        refine lv_aload_n hx hb dX11_tries_240 rfl (lv_at hl 1 rfl) ?_
                        refine va_get (D := G.1) (ci := 10) (v := .ref (g 327)) (C := RX11) (T := TX11) (N := 25) hx hb hts inlX11 hown hG.1 hP 315 (wl_at (by decide) hmo) rfl 19 (by decide) (hts (.fieldLink RX11 45 "SwornListsModel" "slips" "[I") w_123) (fun _ h9 => h9) rfl dX11_tries_241 ?_
                        refine lv_bipush (v := 30) hx hb dX11_tries_244 (by decide) ?_
                        refine lv_iload_n hx hb dX11_tries_246 rfl (lv_at hl 3 rfl) ?_
                        refine lv_imul hx hb dX11_tries_247 ?_
                        refine my_bei (v := nI (30 * to)) (pk_mul 30 to) ?_
                        refine lv_iload hx hb dX11_tries_248 (lv_at hl 0 rfl) ?_
                        refine lv_iadd hx hb dX11_tries_250 ?_
                        refine my_bei (v := nI (30 * to + z1)) ((nI_add (30 * to) z1).trans (congrArg nI (show (30 * to) + z1 = 30 * to + z1 by omega))) ?_
                        refine lv_aload_n hx hb dX11_tries_251 rfl (lv_at hl 1 rfl) ?_
                        refine lv_iload_n hx hb dX11_tries_252 rfl (lv_at hl 2 rfl) ?_
                        refine lv_bipush (v := 9) hx hb dX11_tries_253 (by decide) ?_
                        refine rd_calli (va_runV (As := [.int (nI t), .int 9]) (rest := [.int (nI (30 * to + z1)), .ref (g 327)]) ⟨hx, hb, hml, hown, hts⟩ (r_ofTrial l G g hg f_48 ab2 be2 sn972 wn973 sa974 ly975 rdy (nI fd) ss t 9 hmo hss_ (by first | assumption | omega | decide)) (my_cwV hts ok_X11_ofTrial w_532 rfl rfl ⟨Nat.le_of_ble_eq_true rfl, Nat.le_of_ble_eq_true rfl⟩) ⟨bP.blind, va_recv hG.1 hP (ci := 10) (q0 := 315) rfl (wl_at (by decide) hmo), fun U hU hW => ⟨rfl, by rw [hU]; exact hP, kG.warm hW hG⟩⟩ rfl rfl hl.1 rfl (lv_room (Nat.le_of_ble_eq_true rfl)) dX11_tries_255 ⟨Nat.le_of_ble_eq_true rfl, Nat.le_of_ble_eq_true rfl⟩) (fun r hr9 => ?_)
                        subst hr9
                        refine my_bei (v := ss (10 * t + 1555)) (congrArg ss (show 10 * t + 9 + 1546 = 10 * t + 1555 by omega)) ?_
                        refine lv_iload hx hb dX11_tries_258 (lv_at hl 0 rfl) ?_
                        refine lv_ishr hx hb dX11_tries_260 ?_
                        refine lv_iconst (v := 1) hx hb dX11_tries_261 (by decide) ?_
                        refine lv_iand hx hb dX11_tries_262 ?_
                        refine lv_iconst (v := 1) hx hb dX11_tries_263 (by decide) ?_
                        refine lv_icmp_ne (tgt := 271) hx hb dX11_tries_264 (by decide) (fun c_264 => ?_) (fun c_264 => ?_)
                        · refine lv_bipush (v := 6) hx hb dX11_tries_271 (by decide) ?_
                          refine va_iast hx hb hG.1 hP (wl_D hg f_48) hS 327 0 (wl_at (by decide) hsl_) rfl (vp_in_nI (by omega) (by decide)) dX11_tries_273 (fun H locs hP _ hS => ?_)
                          have hP := (congrArg (fun z9 => va_P G.1 vwCl ((wl g f_48).set 327 (g 327, eI G 330 ((upd sl3 z9 6)))) H) (show Int32.toNatClampNeg (nI (30 * to + z1)) = 30 * to + z1 from nI_clamp (by omega))).mp hP
                          obtain ⟨f_60, hP, e_60, o_60⟩ := b_put (by decide) hP
                          have hsl_ : f_60 327 = eI G 330 (upd sl3 (30 * to + z1) 6) := e_60
                          refine lv_iinc (v := nI (i3 + 1)) (lv' := [(10, .int (nI (i3 + 1))), (11, .int (nI z1)), (0, .ref (g 315)), (1, .int (nI t)), (2, .int (nI to)), (6, .int v62), (8, .int (v80 ||| v81)), (9, .int u)]) hx hb dX11_tries_274 hl (k := 7) rfl (nI_add i3 1) (by decide) rfl (fun ls hl => ?_)
                          refine lv_goto (tgt := 215) hx hb dX11_tries_277 (by decide) ?_
                          replace hmo := ((o_60 315 (by decide))).trans hmo
                          replace hss_ := ((o_60 316 (by decide))).trans hss_
                          replace hsp_ := ((o_60 319 (by decide))).trans hsp_
                          replace hwi_ := ((o_60 320 (by decide))).trans hwi_
                          replace hwa_ := ((o_60 321 (by decide))).trans hwa_
                          replace hva_ := ((o_60 322 (by decide))).trans hva_
                          replace hbo_ := ((o_60 323 (by decide))).trans hbo_
                          replace hju_ := ((o_60 324 (by decide))).trans hju_
                          replace hdr_ := ((o_60 325 (by decide))).trans hdr_
                          replace hdn_ := ((o_60 326 (by decide))).trans hdn_
                          replace hax_ := ((o_60 328 (by decide))).trans hax_
                          replace hlf_ := ((o_60 329 (by decide))).trans hlf_
                          exact ih_90 (i3 + 1) (upd sl3 (30 * to + z1) 6) f_60 _ _ _ (by omega) (by omega) (hmo) (hss_) (hsp_) (hwi_) (hwa_) (hva_) (hbo_) (hju_) (hdr_) (hdn_) (hsl_) (hax_) (hlf_) (fun j hj => ((o_60 j (by omega))).trans (o_48 j (by omega))) hP hS (lv_sub hl [2, 3, 4, 5, 6, 7, 0] rfl)
                        · refine lv_iconst (v := 2) hx hb dX11_tries_267 (by decide) ?_
                          refine lv_goto (tgt := 273) hx hb dX11_tries_268 (by decide) ?_
                          refine va_iast hx hb hG.1 hP (wl_D hg f_48) hS 327 0 (wl_at (by decide) hsl_) rfl (vp_in_nI (by omega) (by decide)) dX11_tries_273 (fun H locs hP _ hS => ?_)
                          have hP := (congrArg (fun z9 => va_P G.1 vwCl ((wl g f_48).set 327 (g 327, eI G 330 ((upd sl3 z9 2)))) H) (show Int32.toNatClampNeg (nI (30 * to + z1)) = 30 * to + z1 from nI_clamp (by omega))).mp hP
                          obtain ⟨f_61, hP, e_61, o_61⟩ := b_put (by decide) hP
                          have hsl_ : f_61 327 = eI G 330 (upd sl3 (30 * to + z1) 2) := e_61
                          refine lv_iinc (v := nI (i3 + 1)) (lv' := [(10, .int (nI (i3 + 1))), (11, .int (nI z1)), (0, .ref (g 315)), (1, .int (nI t)), (2, .int (nI to)), (6, .int v62), (8, .int (v80 ||| v81)), (9, .int u)]) hx hb dX11_tries_274 hl (k := 7) rfl (nI_add i3 1) (by decide) rfl (fun ls hl => ?_)
                          refine lv_goto (tgt := 215) hx hb dX11_tries_277 (by decide) ?_
                          replace hmo := ((o_61 315 (by decide))).trans hmo
                          replace hss_ := ((o_61 316 (by decide))).trans hss_
                          replace hsp_ := ((o_61 319 (by decide))).trans hsp_
                          replace hwi_ := ((o_61 320 (by decide))).trans hwi_
                          replace hwa_ := ((o_61 321 (by decide))).trans hwa_
                          replace hva_ := ((o_61 322 (by decide))).trans hva_
                          replace hbo_ := ((o_61 323 (by decide))).trans hbo_
                          replace hju_ := ((o_61 324 (by decide))).trans hju_
                          replace hdr_ := ((o_61 325 (by decide))).trans hdr_
                          replace hdn_ := ((o_61 326 (by decide))).trans hdn_
                          replace hax_ := ((o_61 328 (by decide))).trans hax_
                          replace hlf_ := ((o_61 329 (by decide))).trans hlf_
                          exact ih_90 (i3 + 1) (upd sl3 (30 * to + z1) 2) f_61 _ _ _ (by omega) (by omega) (hmo) (hss_) (hsp_) (hwi_) (hwa_) (hva_) (hbo_) (hju_) (hdr_) (hdn_) (hsl_) (hax_) (hlf_) (fun j hj => ((o_61 j (by omega))).trans (o_48 j (by omega))) hP hS (lv_sub hl [2, 3, 4, 5, 6, 7, 0] rfl)
                  exact key90 (d988 + 1) 0 sl2 f_47 _ _ _ (Nat.zero_le _) (by omega) (hmo) (hss_) (hsp_) (hwi_) (hwa_) (hva_) (hbo_) (hju_) (hdr_) (hdn_) (hsl_) (hax_) (hlf_) (fun j _ => rfl) hP hS (lv_sub hl [1, 2, 3, 4, 5, 6, 0] rfl)
                · have k_184 : ¬ 30 ≤ i2 := fun z9 => c_184 ((nI_leI (a := 30) (b := i2) (by omega) (by omega)).mpr z9)
                  refine lv_aload_n hx hb dX11_tries_187 rfl (lv_at hl 0 rfl) ?_
                  refine va_get (D := G.1) (ci := 10) (v := .ref (g 327)) (C := RX11) (T := TX11) (N := 25) hx hb hts inlX11 hown hG.1 hP 315 (wl_at (by decide) hmo) rfl 19 (by decide) (hts (.fieldLink RX11 45 "SwornListsModel" "slips" "[I") w_123) (fun _ h9 => h9) rfl dX11_tries_188 ?_
                  refine lv_bipush (v := 30) hx hb dX11_tries_191 (by decide) ?_
                  refine lv_iload_n hx hb dX11_tries_193 rfl (lv_at hl 2 rfl) ?_
                  refine lv_imul hx hb dX11_tries_194 ?_
                  refine my_bei (v := nI (30 * to)) (pk_mul 30 to) ?_
                  refine lv_iload hx hb dX11_tries_195 (lv_at hl 6 rfl) ?_
                  refine lv_iadd hx hb dX11_tries_197 ?_
                  refine my_bei (v := nI (i2 + 30 * to)) ((nI_add (30 * to) i2).trans (congrArg nI (show (30 * to) + i2 = i2 + 30 * to by omega))) ?_
                  refine lv_iload hx hb dX11_tries_198 (lv_at hl 5 rfl) ?_
                  refine lv_iload hx hb dX11_tries_200 (lv_at hl 6 rfl) ?_
                  refine lv_ishr hx hb dX11_tries_202 ?_
                  refine lv_iconst (v := 1) hx hb dX11_tries_203 (by decide) ?_
                  refine lv_iand hx hb dX11_tries_204 ?_
                  refine va_iast hx hb hG.1 hP (wl_D hg f_47) hS 327 0 (wl_at (by decide) hsl_) rfl (vp_in_nI (by omega) (by decide)) dX11_tries_205 (fun H locs hP _ hS => ?_)
                  have hP := (congrArg (fun z9 => va_P G.1 vwCl ((wl g f_47).set 327 (g 327, eI G 330 ((upd sl2 z9 ((u >>> ((nI i2) &&& 31)) &&& 1))))) H) (show Int32.toNatClampNeg (nI (i2 + 30 * to)) = i2 + 30 * to from nI_clamp (by omega))).mp hP
                  obtain ⟨f_62, hP, e_62, o_62⟩ := b_put (by decide) hP
                  have hsl_ : f_62 327 = eI G 330 (upd sl2 (i2 + 30 * to) ((u >>> ((nI i2) &&& 31)) &&& 1)) := e_62
                  refine lv_iinc (v := nI (i2 + 1)) (lv' := [(10, .int (nI (i2 + 1))), (0, .ref (g 315)), (1, .int (nI t)), (2, .int (nI to)), (6, .int v62), (8, .int (v80 ||| v81)), (9, .int u)]) hx hb dX11_tries_206 hl (k := 6) rfl (nI_add i2 1) (by decide) rfl (fun ls hl => ?_)
                  refine lv_goto (tgt := 180) hx hb dX11_tries_209 (by decide) ?_
                  replace hmo := ((o_62 315 (by decide))).trans hmo
                  replace hss_ := ((o_62 316 (by decide))).trans hss_
                  replace hsp_ := ((o_62 319 (by decide))).trans hsp_
                  replace hwi_ := ((o_62 320 (by decide))).trans hwi_
                  replace hwa_ := ((o_62 321 (by decide))).trans hwa_
                  replace hva_ := ((o_62 322 (by decide))).trans hva_
                  replace hbo_ := ((o_62 323 (by decide))).trans hbo_
                  replace hju_ := ((o_62 324 (by decide))).trans hju_
                  replace hdr_ := ((o_62 325 (by decide))).trans hdr_
                  replace hdn_ := ((o_62 326 (by decide))).trans hdn_
                  replace hax_ := ((o_62 328 (by decide))).trans hax_
                  replace hlf_ := ((o_62 329 (by decide))).trans hlf_
                  exact ih_89 (i2 + 1) (upd sl2 (i2 + 30 * to) ((u >>> ((nI i2) &&& 31)) &&& 1)) f_62 _ _ _ (by omega) (by omega) (hmo) (hss_) (hsp_) (hwi_) (hwa_) (hva_) (hbo_) (hju_) (hdr_) (hdn_) (hsl_) (hax_) (hlf_) (fun j hj => ((o_62 j (by omega))).trans (o_47 j (by omega))) hP hS (lv_sub hl [1, 2, 3, 4, 5, 6, 0] rfl)
            exact key89 (30 + 1) 0 sl f_46 _ _ _ (Nat.zero_le _) (by omega) (hmo) (hss_) (hsp_) (hwi_) (hwa_) (hva_) (hbo_) (hju_) (hdr_) (hdn_) (hsl_) (hax_) (hlf_) (fun j _ => rfl) hP hS (lv_sub hl [1, 2, 3, 4, 5, 6, 0] rfl)
          · have k_94 : ¬ np ≤ i := fun z9 => c_94 ((nI_leI (a := np) (b := i) (by omega) (by omega)).mpr z9)
            refine lv_aload_n hx hb dX11_tries_97 rfl (lv_at hl 0 rfl) ?_
            refine lv_iload_n hx hb dX11_tries_98 rfl (lv_at hl 1 rfl) ?_
            refine lv_iconst (v := 5) hx hb dX11_tries_99 (by decide) ?_
            refine rd_calli (va_runV (As := [.int (nI t), .int 5]) (rest := []) ⟨hx, hb, hml, hown, hts⟩ (r_ofTrial l G g hg f_44 ab2 be2 sn972 wn973 sa974 ly975 rdy (nI fd) ss t 5 hmo hss_ (by first | assumption | omega | decide)) (my_cwV hts ok_X11_ofTrial w_532 rfl rfl ⟨Nat.le_of_ble_eq_true rfl, Nat.le_of_ble_eq_true rfl⟩) ⟨bP.blind, va_recv hG.1 hP (ci := 10) (q0 := 315) rfl (wl_at (by decide) hmo), fun U hU hW => ⟨rfl, by rw [hU]; exact hP, kG.warm hW hG⟩⟩ rfl rfl hl.1 rfl (lv_room (Nat.le_of_ble_eq_true rfl)) dX11_tries_100 ⟨Nat.le_of_ble_eq_true rfl, Nat.le_of_ble_eq_true rfl⟩) (fun r hr9 => ?_)
            subst hr9
            refine my_bei (v := ss (10 * t + 1551)) (congrArg ss (show 10 * t + 5 + 1546 = 10 * t + 1551 by omega)) ?_
            refine lv_iconst (v := (-1)) hx hb dX11_tries_103 (by decide) ?_
            refine lv_icmp_eq (tgt := 134) hx hb dX11_tries_104 (by decide) (fun c_104 => ?_) (fun c_104 => ?_)
            · refine lv_iconst (v := 0) hx hb dX11_tries_134 (by decide) ?_
              refine lv_istore (lv' := [(11, .int 0), (0, .ref (g 315)), (1, .int (nI t)), (2, .int (nI to)), (6, .int v62), (8, .int (v80 ||| v81)), (9, .int u), (10, .int (nI i))]) hx hb dX11_tries_135 hl (by decide) rfl (fun ls hl => ?_)
              refine lv_iload hx hb dX11_tries_137 (lv_at hl 6 rfl) ?_
              refine lv_iload hx hb dX11_tries_139 (lv_at hl 0 rfl) ?_
              refine lv_if_eq (tgt := 153) hx hb dX11_tries_141 (by decide) (fun c_141 => ?_) (fun c_141 => absurd (by decide) c_141)
              refine lv_iconst (v := (-1)) hx hb dX11_tries_153 (by decide) ?_
              refine lv_iand hx hb dX11_tries_154 ?_
              refine lv_istore (lv' := [(9, .int (u &&& (-1))), (11, .int 0), (0, .ref (g 315)), (1, .int (nI t)), (2, .int (nI to)), (6, .int v62), (8, .int (v80 ||| v81)), (10, .int (nI i))]) hx hb dX11_tries_155 hl (by decide) rfl (fun ls hl => ?_)
              refine lv_iinc (v := nI (i + 1)) (lv' := [(10, .int (nI (i + 1))), (9, .int (u &&& (-1))), (11, .int 0), (0, .ref (g 315)), (1, .int (nI t)), (2, .int (nI to)), (6, .int v62), (8, .int (v80 ||| v81))]) hx hb dX11_tries_157 hl (k := 7) rfl (nI_add i 1) (by decide) rfl (fun ls hl => ?_)
              refine lv_goto (tgt := 86) hx hb dX11_tries_160 (by decide) ?_
              exact ih_83 (i + 1) (u &&& (-1)) f_44 _ _ _ (by omega) (by omega) (hmo) (hss_) (hsp_) (hwi_) (hwa_) (hva_) (hbo_) (hju_) (hdr_) (hdn_) (hsl_) (hax_) (hlf_) (fun j hj => (o_44 j (by omega))) hP hS (lv_sub hl [3, 4, 5, 6, 7, 1, 0] rfl)
            · refine lv_aload_n hx hb dX11_tries_107 rfl (lv_at hl 0 rfl) ?_
              refine va_get (D := G.1) (ci := 10) (v := .ref (g 316)) (C := RX11) (T := TX11) (N := 25) hx hb hts inlX11 hown hG.1 hP 315 (wl_at (by decide) hmo) rfl 0 (by decide) (hts (.fieldLink RX11 7 "SwornListsModel" "st" "[I") w_112) (fun _ h9 => h9) rfl dX11_tries_108 ?_
              refine lv_bipush (v := 10) hx hb dX11_tries_111 (by decide) ?_
              refine lv_iconst (v := 4) hx hb dX11_tries_113 (by decide) ?_
              refine lv_iload hx hb dX11_tries_114 (lv_at hl 6 rfl) ?_
              refine lv_imul hx hb dX11_tries_116 ?_
              refine my_bei (v := nI (4 * i)) (pk_mul 4 i) ?_
              refine lv_iadd hx hb dX11_tries_117 ?_
              refine my_bei (v := nI (4 * i + 10)) ((nI_add 10 (4 * i)).trans (congrArg nI (show 10 + (4 * i) = 4 * i + 10 by omega))) ?_
              refine lv_iconst (v := 1) hx hb dX11_tries_118 (by decide) ?_
              refine lv_iadd hx hb dX11_tries_119 ?_
              refine my_bei (v := nI (4 * i + 11)) ((nI_add (4 * i + 10) 1).trans (congrArg nI (show (4 * i + 10) + 1 = 4 * i + 11 by omega))) ?_
              refine va_iald hx hb hG.1 hP 316 0 (wl_at (by decide) hss_) rfl (vp_in_nI (by omega) (by decide)) dX11_tries_120 ?_
              refine my_bei (v := ss (4 * i + 11)) (congrArg ss (nI_clamp (n := 4 * i + 11) (by omega))) ?_
              refine lv_aload_n hx hb dX11_tries_121 rfl (lv_at hl 0 rfl) ?_
              refine lv_iload_n hx hb dX11_tries_122 rfl (lv_at hl 1 rfl) ?_
              refine lv_iconst (v := 5) hx hb dX11_tries_123 (by decide) ?_
              refine rd_calli (va_runV (As := [.int (nI t), .int 5]) (rest := [.int (ss (4 * i + 11))]) ⟨hx, hb, hml, hown, hts⟩ (r_ofTrial l G g hg f_44 ab2 be2 sn972 wn973 sa974 ly975 rdy (nI fd) ss t 5 hmo hss_ (by first | assumption | omega | decide)) (my_cwV hts ok_X11_ofTrial w_532 rfl rfl ⟨Nat.le_of_ble_eq_true rfl, Nat.le_of_ble_eq_true rfl⟩) ⟨bP.blind, va_recv hG.1 hP (ci := 10) (q0 := 315) rfl (wl_at (by decide) hmo), fun U hU hW => ⟨rfl, by rw [hU]; exact hP, kG.warm hW hG⟩⟩ rfl rfl hl.1 rfl (lv_room (Nat.le_of_ble_eq_true rfl)) dX11_tries_124 ⟨Nat.le_of_ble_eq_true rfl, Nat.le_of_ble_eq_true rfl⟩) (fun r hr9 => ?_)
              subst hr9
              refine my_bei (v := ss (10 * t + 1551)) (congrArg ss (show 10 * t + 5 + 1546 = 10 * t + 1551 by omega)) ?_
              refine lv_icmp_eq (tgt := 134) hx hb dX11_tries_127 (by decide) (fun c_127 => ?_) (fun c_127 => ?_)
              · refine lv_iconst (v := 0) hx hb dX11_tries_134 (by decide) ?_
                refine lv_istore (lv' := [(11, .int 0), (0, .ref (g 315)), (1, .int (nI t)), (2, .int (nI to)), (6, .int v62), (8, .int (v80 ||| v81)), (9, .int u), (10, .int (nI i))]) hx hb dX11_tries_135 hl (by decide) rfl (fun ls hl => ?_)
                refine lv_iload hx hb dX11_tries_137 (lv_at hl 6 rfl) ?_
                refine lv_iload hx hb dX11_tries_139 (lv_at hl 0 rfl) ?_
                refine lv_if_eq (tgt := 153) hx hb dX11_tries_141 (by decide) (fun c_141 => ?_) (fun c_141 => absurd (by decide) c_141)
                refine lv_iconst (v := (-1)) hx hb dX11_tries_153 (by decide) ?_
                refine lv_iand hx hb dX11_tries_154 ?_
                refine lv_istore (lv' := [(9, .int (u &&& (-1))), (11, .int 0), (0, .ref (g 315)), (1, .int (nI t)), (2, .int (nI to)), (6, .int v62), (8, .int (v80 ||| v81)), (10, .int (nI i))]) hx hb dX11_tries_155 hl (by decide) rfl (fun ls hl => ?_)
                refine lv_iinc (v := nI (i + 1)) (lv' := [(10, .int (nI (i + 1))), (9, .int (u &&& (-1))), (11, .int 0), (0, .ref (g 315)), (1, .int (nI t)), (2, .int (nI to)), (6, .int v62), (8, .int (v80 ||| v81))]) hx hb dX11_tries_157 hl (k := 7) rfl (nI_add i 1) (by decide) rfl (fun ls hl => ?_)
                refine lv_goto (tgt := 86) hx hb dX11_tries_160 (by decide) ?_
                exact ih_83 (i + 1) (u &&& (-1)) f_44 _ _ _ (by omega) (by omega) (hmo) (hss_) (hsp_) (hwi_) (hwa_) (hva_) (hbo_) (hju_) (hdr_) (hdn_) (hsl_) (hax_) (hlf_) (fun j hj => (o_44 j (by omega))) hP hS (lv_sub hl [3, 4, 5, 6, 7, 1, 0] rfl)
              · refine lv_iconst (v := 1) hx hb dX11_tries_130 (by decide) ?_
                refine lv_goto (tgt := 135) hx hb dX11_tries_131 (by decide) ?_
                refine lv_istore (lv' := [(11, .int 1), (0, .ref (g 315)), (1, .int (nI t)), (2, .int (nI to)), (6, .int v62), (8, .int (v80 ||| v81)), (9, .int u), (10, .int (nI i))]) hx hb dX11_tries_135 hl (by decide) rfl (fun ls hl => ?_)
                refine lv_iload hx hb dX11_tries_137 (lv_at hl 6 rfl) ?_
                refine lv_iload hx hb dX11_tries_139 (lv_at hl 0 rfl) ?_
                refine lv_if_eq (tgt := 153) hx hb dX11_tries_141 (by decide) (fun c_141 => absurd c_141 (by decide)) (fun c_141 => ?_)
                refine lv_iconst (v := 1) hx hb dX11_tries_144 (by decide) ?_
                refine lv_iload hx hb dX11_tries_145 (lv_at hl 7 rfl) ?_
                refine lv_ishl hx hb dX11_tries_147 ?_
                refine lv_iconst (v := (-1)) hx hb dX11_tries_148 (by decide) ?_
                refine lv_ixor hx hb dX11_tries_149 ?_
                refine lv_goto (tgt := 154) hx hb dX11_tries_150 (by decide) ?_
                refine lv_iand hx hb dX11_tries_154 ?_
                refine lv_istore (lv' := [(9, .int (u &&& ((1 <<< ((nI i) &&& 31)) ^^^ (-1)))), (11, .int 1), (0, .ref (g 315)), (1, .int (nI t)), (2, .int (nI to)), (6, .int v62), (8, .int (v80 ||| v81)), (10, .int (nI i))]) hx hb dX11_tries_155 hl (by decide) rfl (fun ls hl => ?_)
                refine lv_iinc (v := nI (i + 1)) (lv' := [(10, .int (nI (i + 1))), (9, .int (u &&& ((1 <<< ((nI i) &&& 31)) ^^^ (-1)))), (11, .int 1), (0, .ref (g 315)), (1, .int (nI t)), (2, .int (nI to)), (6, .int v62), (8, .int (v80 ||| v81))]) hx hb dX11_tries_157 hl (k := 7) rfl (nI_add i 1) (by decide) rfl (fun ls hl => ?_)
                refine lv_goto (tgt := 86) hx hb dX11_tries_160 (by decide) ?_
                exact ih_83 (i + 1) (u &&& ((1 <<< ((nI i) &&& 31)) ^^^ (-1))) f_44 _ _ _ (by omega) (by omega) (hmo) (hss_) (hsp_) (hwi_) (hwa_) (hva_) (hbo_) (hju_) (hdr_) (hdn_) (hsl_) (hax_) (hlf_) (fun j hj => (o_44 j (by omega))) hP hS (lv_sub hl [3, 4, 5, 6, 7, 1, 0] rfl)
      exact key83 (np + 1) 0 (((v82 &&& v62) &&& (v71 ^^^ (-1))) &&& ((v80 ||| v81) ^^^ (-1))) f_43 _ _ _ (Nat.zero_le _) (by omega) (hmo) (hss_) (hsp_) (hwi_) (hwa_) (hva_) (hbo_) (hju_) (hdr_) (hdn_) (hsl_) (hax_) (hlf_) (fun j _ => rfl) hP hS (lv_sub hl [6, 7, 8, 4, 2, 1, 0] rfl)
    · refine lv_iload_n hx hb dX11_tries_37 rfl (lv_at hl 5 rfl) ?_
      refine lv_goto (tgt := 42) hx hb dX11_tries_38 (by decide) ?_
      replace hss_ := ((o_42 316 (by first | decide | omega))).trans hss_
      replace hju_ := ((o_42 324 (by first | decide | omega))).trans hju_
      refine b_calli (va_runV (As := [.int 1, .int (ss (10 * t + 1546)), .int (nI xt)]) (rest := []) ⟨hx, hb, hml, hown, hts⟩ (r_whomT l G g hg f_42 ab2 be2 sn963 wn964 sa965 ly966 rdy fd ss np nf nr na nt sp967 wi968 wa969 va970 ju 1 (ss (10 * t + 1546)) xt l9 hmo hss_ hsp_ hwi_ hwa_ hva_ hju_ (by first | assumption | omega | decide) (by first | assumption | omega | decide) (by first | assumption | omega | decide) (by first | assumption | omega | decide) (by first | assumption | omega | decide) (by first | assumption | omega | decide)) (my_cwV hts ok_X11_whom w_536 rfl rfl ⟨Nat.le_of_ble_eq_true rfl, Nat.le_of_ble_eq_true rfl⟩) ⟨bP.blind, va_recv hG.1 hP (ci := 10) (q0 := 315) rfl (wl_at (by decide) hmo), fun U hU hW => ⟨rfl, by rw [hU]; exact hP, kG.warm hW hG⟩⟩ rfl rfl hl.1 rfl (lv_room (Nat.le_of_ble_eq_true rfl)) dX11_tries_42 ⟨Nat.le_of_ble_eq_true rfl, Nat.le_of_ble_eq_true rfl⟩) hS (fun v97 f_63 H locs hq9 hP hS => ?_)
      obtain ⟨sn998, wn999, sa9100, ly9101, sp9102, wi9103, wa9104, va9105, hq_63_0, hq_63_1, hq_63_2, hq_63_3, hq_63_4, o_63⟩ := hq9
      have hmo : f_63 315 = eO 10 [.ref (g 316), .ref (g 317), .ref (g 318), .long ab2, .long be2, .int sn998, .ref (g 319), .ref (g 320), .int wn999, .ref (g 321), .ref (g 322), .int sa9100, .int ly9101, .int rdy, .int (nI fd), .ref (g 323), .ref (g 324), .ref (g 325), .ref (g 326), .ref (g 327), .ref (g 328), .ref (g 329), .ref (g 330), .ref (g 331), .ref (g 332)] := hq_63_0
      have hsp_ : f_63 319 = eI G 70 sp9102 := hq_63_1
      have hwi_ : f_63 320 = eI G 70 wi9103 := hq_63_2
      have hwa_ : f_63 321 = eI G 70 wa9104 := hq_63_3
      have hva_ : f_63 322 = eJ G 70 va9105 := hq_63_4
      refine lv_istore (lv' := [(7, .int v97), (6, .int v62), (5, .int (ss (10 * t + 1546))), (0, .ref (g 315)), (1, .int (nI t)), (2, .int (nI to)), (3, .int (nI xt)), (4, .int sb)]) hx hb dX11_tries_45 hl (by decide) rfl (fun ls hl => ?_)
      refine lv_aload_n hx hb dX11_tries_47 rfl (lv_at hl 3 rfl) ?_
      refine lv_iload_n hx hb dX11_tries_48 rfl (lv_at hl 4 rfl) ?_
      refine lv_iload hx hb dX11_tries_49 (lv_at hl 2 rfl) ?_
      replace hss_ := ((o_63 316 (by first | decide | omega))).trans hss_
      refine rd_calli (va_runV (As := [.int (nI t), .int (ss (10 * t + 1546))]) (rest := []) ⟨hx, hb, hml, hown, hts⟩ (r_kinOf l G g hg f_63 ab2 be2 sn998 wn999 sa9100 ly9101 rdy (nI fd) ss np nf nr na nt t (ss (10 * t + 1546)) hmo hss_ (by first | assumption | omega | decide) (by first | assumption | omega | decide)) (my_cwV hts ok_X11_kinOf w_562 rfl rfl ⟨Nat.le_of_ble_eq_true rfl, Nat.le_of_ble_eq_true rfl⟩) ⟨bP.blind, va_recv hG.1 hP (ci := 10) (q0 := 315) rfl (wl_at (by decide) hmo), fun U hU hW => ⟨rfl, by rw [hU]; exact hP, kG.warm hW hG⟩⟩ rfl rfl hl.1 rfl (lv_room (Nat.le_of_ble_eq_true rfl)) dX11_tries_51 ⟨Nat.le_of_ble_eq_true rfl, Nat.le_of_ble_eq_true rfl⟩) (fun v106 _ => ?_)
      refine lv_aload_n hx hb dX11_tries_54 rfl (lv_at hl 3 rfl) ?_
      refine lv_iload_n hx hb dX11_tries_55 rfl (lv_at hl 4 rfl) ?_
      replace hju_ := ((o_63 324 (by first | decide | omega))).trans hju_
      refine rd_calli (va_runV (As := [.int (nI t)]) (rest := [.int v106]) ⟨hx, hb, hml, hown, hts⟩ (r_sitting l G g hg f_63 ab2 be2 sn998 wn999 sa9100 ly9101 rdy (nI fd) ss ju t hmo hss_ hju_ (by first | assumption | omega | decide)) (my_cwV hts ok_X11_sitting w_566 rfl rfl ⟨Nat.le_of_ble_eq_true rfl, Nat.le_of_ble_eq_true rfl⟩) ⟨bP.blind, va_recv hG.1 hP (ci := 10) (q0 := 315) rfl (wl_at (by decide) hmo), fun U hU hW => ⟨rfl, by rw [hU]; exact hP, kG.warm hW hG⟩⟩ rfl rfl hl.1 rfl (lv_room (Nat.le_of_ble_eq_true rfl)) dX11_tries_56 ⟨Nat.le_of_ble_eq_true rfl, Nat.le_of_ble_eq_true rfl⟩) (fun v107 _ => ?_)
      refine lv_ior hx hb dX11_tries_59 ?_
      refine lv_istore (lv' := [(8, .int (v106 ||| v107)), (7, .int v97), (6, .int v62), (5, .int (ss (10 * t + 1546))), (0, .ref (g 315)), (1, .int (nI t)), (2, .int (nI to)), (3, .int (nI xt)), (4, .int sb)]) hx hb dX11_tries_60 hl (by decide) rfl (fun ls hl => ?_)
      refine lv_aload_n hx hb dX11_tries_62 rfl (lv_at hl 4 rfl) ?_
      refine lv_iload hx hb dX11_tries_63 (lv_at hl 3 rfl) ?_
      refine rd_calli (va_runV (As := [.int (ss (10 * t + 1546))]) (rest := []) ⟨hx, hb, hml, hown, hts⟩ (r_theRoll l G g hg f_63 ab2 be2 sn998 wn999 sa9100 ly9101 rdy (nI fd) ss np nf nr na nt (ss (10 * t + 1546)) hmo hss_ (by first | assumption | omega | decide)) (my_cwV hts ok_X11_theRoll w_234 rfl rfl ⟨Nat.le_of_ble_eq_true rfl, Nat.le_of_ble_eq_true rfl⟩) ⟨bP.blind, va_recv hG.1 hP (ci := 10) (q0 := 315) rfl (wl_at (by decide) hmo), fun U hU hW => ⟨rfl, by rw [hU]; exact hP, kG.warm hW hG⟩⟩ rfl rfl hl.1 rfl (lv_room (Nat.le_of_ble_eq_true rfl)) dX11_tries_65 ⟨Nat.le_of_ble_eq_true rfl, Nat.le_of_ble_eq_true rfl⟩) (fun v108 _ => ?_)
      refine lv_iload hx hb dX11_tries_68 (lv_at hl 2 rfl) ?_
      refine lv_iand hx hb dX11_tries_70 ?_
      refine lv_iload hx hb dX11_tries_71 (lv_at hl 1 rfl) ?_
      refine lv_iconst (v := (-1)) hx hb dX11_tries_73 (by decide) ?_
      refine lv_ixor hx hb dX11_tries_74 ?_
      refine lv_iand hx hb dX11_tries_75 ?_
      refine lv_iload hx hb dX11_tries_76 (lv_at hl 0 rfl) ?_
      refine lv_iconst (v := (-1)) hx hb dX11_tries_78 (by decide) ?_
      refine lv_ixor hx hb dX11_tries_79 ?_
      refine lv_iand hx hb dX11_tries_80 ?_
      refine lv_istore (lv' := [(9, .int (((v108 &&& v62) &&& (v97 ^^^ (-1))) &&& ((v106 ||| v107) ^^^ (-1)))), (8, .int (v106 ||| v107)), (7, .int v97), (6, .int v62), (5, .int (ss (10 * t + 1546))), (0, .ref (g 315)), (1, .int (nI t)), (2, .int (nI to)), (3, .int (nI xt)), (4, .int sb)]) hx hb dX11_tries_81 hl (by decide) rfl (fun ls hl => ?_)
      refine lv_iconst (v := 0) hx hb dX11_tries_83 (by decide) ?_
      refine lv_istore (lv' := [(10, .int 0), (9, .int (((v108 &&& v62) &&& (v97 ^^^ (-1))) &&& ((v106 ||| v107) ^^^ (-1)))), (8, .int (v106 ||| v107)), (7, .int v97), (6, .int v62), (5, .int (ss (10 * t + 1546))), (0, .ref (g 315)), (1, .int (nI t)), (2, .int (nI to)), (3, .int (nI xt)), (4, .int sb)]) hx hb dX11_tries_84 hl (by decide) rfl (fun ls hl => ?_)
      replace hbo_ := ((o_63 323 (by first | decide | omega)).trans ((o_42 323 (by first | decide | omega)))).trans hbo_
      replace hdr_ := ((o_63 325 (by first | decide | omega)).trans ((o_42 325 (by first | decide | omega)))).trans hdr_
      replace hdn_ := ((o_63 326 (by first | decide | omega)).trans ((o_42 326 (by first | decide | omega)))).trans hdn_
      replace hsl_ := ((o_63 327 (by first | decide | omega)).trans ((o_42 327 (by first | decide | omega)))).trans hsl_
      replace hax_ := ((o_63 328 (by first | decide | omega)).trans ((o_42 328 (by first | decide | omega)))).trans hax_
      replace hlf_ := ((o_63 329 (by first | decide | omega)).trans ((o_42 329 (by first | decide | omega)))).trans hlf_
      have key109 : ∀ (n9_109 : Nat) (i : Nat) (u : Int32) (f_64 : Nat → va_E) (H : Heap) (locs : List Loc) (ls : Array Slot), (i ≤ np) → np - i < n9_109 → f_64 315 = eO 10 [.ref (g 316), .ref (g 317), .ref (g 318), .long ab2, .long be2, .int sn998, .ref (g 319), .ref (g 320), .int wn999, .ref (g 321), .ref (g 322), .int sa9100, .int ly9101, .int rdy, .int (nI fd), .ref (g 323), .ref (g 324), .ref (g 325), .ref (g 326), .ref (g 327), .ref (g 328), .ref (g 329), .ref (g 330), .ref (g 331), .ref (g 332)] → f_64 316 = eI G 2246 ss → f_64 319 = eI G 70 sp9102 → f_64 320 = eI G 70 wi9103 → f_64 321 = eI G 70 wa9104 → f_64 322 = eJ G 70 va9105 → f_64 323 = eI G 11 bo → f_64 324 = eI G 11 ju → f_64 325 = eI G 264 dr → f_64 326 = eI G 11 dn → f_64 327 = eI G 330 sl → f_64 328 = eI G 44 ax → f_64 329 = eI G 30 lf → (∀ j, (j < 333 ∨ 333 ≤ j) → f_64 j = f_63 j) → va_P G.1 vwCl (wl g f_64) H → va_S (gA g) s.heap H locs → lv_has ls 13 [(0, .ref (g 315)), (1, .int (nI t)), (2, .int (nI to)), (6, .int v62), (8, .int (v106 ||| v107)), (9, .int u), (10, .int (nI i))] → W p l e (headSpec (wsT yX11_tries cX11_tries 13 none) ({ frames := 5, cells := 0, slots := 0, locals := 120 })).room s m ([.ref (g 315), .int (nI t), .int (nI to), .int (nI xt), .int sb] : List Value).toArray below meth c H locs 0 0 (MQ below (bQv G g (fun (f' : Nat → va_E) => ∃ sn9 : Int32, ∃ wn9 : Int32, ∃ sa9 : Int32, ∃ ly9 : Int32, ∃ sp9 : Nat → Int32, ∃ wi9 : Nat → Int32, ∃ wa9 : Nat → Int32, ∃ va9 : Nat → Int64, ∃ bo9 : Nat → Int32, ∃ ju9 : Nat → Int32, ∃ dr9 : Nat → Int32, ∃ dn9 : Nat → Int32, ∃ sl9 : Nat → Int32, ∃ ax9 : Nat → Int32, ∃ lf9 : Nat → Int32, f' 315 = eO 10 [.ref (g 316), .ref (g 317), .ref (g 318), .long ab2, .long be2, .int sn9, .ref (g 319), .ref (g 320), .int wn9, .ref (g 321), .ref (g 322), .int sa9, .int ly9, .int rdy, .int (nI fd), .ref (g 323), .ref (g 324), .ref (g 325), .ref (g 326), .ref (g 327), .ref (g 328), .ref (g 329), .ref (g 330), .ref (g 331), .ref (g 332)] ∧ f' 319 = eI G 70 sp9 ∧ f' 320 = eI G 70 wi9 ∧ f' 321 = eI G 70 wa9 ∧ f' 322 = eJ G 70 va9 ∧ f' 323 = eI G 11 bo9 ∧ f' 324 = eI G 11 ju9 ∧ f' 325 = eI G 264 dr9 ∧ f' 326 = eI G 11 dn9 ∧ f' 327 = eI G 330 sl9 ∧ f' 328 = eI G 44 ax9 ∧ f' 329 = eI G 30 lf9 ∧ (∀ k, k < 11 → ∃ d, d ≤ 24 ∧ dn9 k = nI d) ∧ ∀ j, (j < 315 ∨ (316 ≤ j ∧ j ≤ 318) ∨ 330 ≤ j) → f' j = f j)) ([.ref (g 315), .int (nI t), .int (nI to), .int (nI xt), .int sb] : List Value).toArray s 0 0 (gA g)) (F0 m 86 ls []) := by
        intro n9_109
        induction n9_109 with
        | zero => intro i u f_64 H locs ls hi hn9_109; exact absurd hn9_109 (Nat.not_lt_zero _)
        | succ n9_109 ih_109 =>
          intro i u f_64 H locs ls hi hn9_109 hmo hss_ hsp_ hwi_ hwa_ hva_ hbo_ hju_ hdr_ hdn_ hsl_ hax_ hlf_ o_64 hP hS hl
          refine lv_iload hx hb dX11_tries_86 (lv_at hl 6 rfl) ?_
          refine lv_aload_n hx hb dX11_tries_88 rfl (lv_at hl 0 rfl) ?_
          refine va_get (D := G.1) (ci := 10) (v := .ref (g 316)) (C := RX11) (T := TX11) (N := 25) hx hb hts inlX11 hown hG.1 hP 315 (wl_at (by decide) hmo) rfl 0 (by decide) (hts (.fieldLink RX11 7 "SwornListsModel" "st" "[I") w_112) (fun _ h9 => h9) rfl dX11_tries_89 ?_
          refine lv_iconst (v := 0) hx hb dX11_tries_92 (by decide) ?_
          refine va_iald hx hb hG.1 hP 316 0 (wl_at (by decide) hss_) rfl (by unfold vp_in; decide) dX11_tries_93 ?_
          refine my_bei (v := ss 0) (rfl) ?_
          refine my_bei (v := nI np) (hst.h0) ?_
          refine lv_icmp_ge (tgt := 163) hx hb dX11_tries_94 (by decide) (fun c_94 => ?_) (fun c_94 => ?_)
          · have k_94 : np ≤ i := (nI_leI (a := np) (b := i) (by omega) (by omega)).mp c_94
            refine lv_aload_n hx hb dX11_tries_163 rfl (lv_at hl 0 rfl) ?_
            refine va_get (D := G.1) (ci := 10) (v := .ref (g 323)) (C := RX11) (T := TX11) (N := 25) hx hb hts inlX11 hown hG.1 hP 315 (wl_at (by decide) hmo) rfl 15 (by decide) (hts (.fieldLink RX11 33 "SwornListsModel" "boxes" "[I") w_119) (fun _ h9 => h9) rfl dX11_tries_164 ?_
            refine lv_iload_n hx hb dX11_tries_167 rfl (lv_at hl 2 rfl) ?_
            refine lv_iload hx hb dX11_tries_168 (lv_at hl 5 rfl) ?_
            refine va_iast hx hb hG.1 hP (wl_D hg f_64) hS 323 0 (wl_at (by decide) hbo_) rfl (vp_in_nI (by omega) (by decide)) dX11_tries_170 (fun H locs hP _ hS => ?_)
            have hP := (congrArg (fun z9 => va_P G.1 vwCl ((wl g f_64).set 323 (g 323, eI G 11 ((upd bo z9 u)))) H) (show Int32.toNatClampNeg (nI to) = to from nI_clamp (by omega))).mp hP
            obtain ⟨f_65, hP, e_65, o_65⟩ := b_put (by decide) hP
            have hbo_ : f_65 323 = eI G 11 (upd bo to u) := e_65
            refine lv_aload_n hx hb dX11_tries_171 rfl (lv_at hl 0 rfl) ?_
            refine lv_iload_n hx hb dX11_tries_172 rfl (lv_at hl 1 rfl) ?_
            refine lv_iload_n hx hb dX11_tries_173 rfl (lv_at hl 2 rfl) ?_
            replace hmo := ((o_65 315 (by decide))).trans hmo
            replace hss_ := ((o_65 316 (by decide))).trans hss_
            replace hdr_ := ((o_65 325 (by decide))).trans hdr_
            replace hdn_ := ((o_65 326 (by decide))).trans hdn_
            replace hax_ := ((o_65 328 (by decide))).trans hax_
            replace hlf_ := ((o_65 329 (by decide))).trans hlf_
            refine b_callv (va_runV (As := [.int (nI t), .int (nI to)]) (rest := []) ⟨hx, hb, hml, hown, hts⟩ (r_draws l G g hg f_65 ab2 be2 sn998 wn999 sa9100 ly9101 rdy (nI fd) ss np nf nr na nt (upd bo to u) dr dn ax lf t to hmo hss_ hbo_ hdr_ hdn_ hax_ hlf_ (by first | assumption | omega | decide) (by first | assumption | omega | decide) (by first | assumption | omega | decide)) (my_cwV hts ok_X11_draws w_570 rfl rfl ⟨Nat.le_of_ble_eq_true rfl, Nat.le_of_ble_eq_true rfl⟩) ⟨bP.blind, va_recv hG.1 hP (ci := 10) (q0 := 315) rfl (wl_at (by decide) hmo), fun U hU hW => ⟨rfl, by rw [hU]; exact hP, kG.warm hW hG⟩⟩ rfl rfl hl.1 rfl (lv_room (Nat.le_of_ble_eq_true rfl)) dX11_tries_174 ⟨Nat.le_of_ble_eq_true rfl, Nat.le_of_ble_eq_true rfl⟩) hS (fun f_66 H locs hq9 hP hS => ?_)
            obtain ⟨dr9110, dn9111, ax9112, lf9113, d9114, hq_66_0, hq_66_1, hq_66_2, hq_66_3, hx_66_0, hx_66_1, hx_66_2, hx_66_3, o_66⟩ := hq9
            have hdr_ : f_66 325 = eI G 264 dr9110 := hq_66_0
            have hdn_ : f_66 326 = eI G 11 dn9111 := hq_66_1
            have hax_ : f_66 328 = eI G 44 ax9112 := hq_66_2
            have hlf_ : f_66 329 = eI G 30 lf9113 := hq_66_3
            refine lv_iconst (v := 0) hx hb dX11_tries_177 (by decide) ?_
            refine lv_istore (lv' := [(10, .int 0), (0, .ref (g 315)), (1, .int (nI t)), (2, .int (nI to)), (6, .int v62), (8, .int (v106 ||| v107)), (9, .int u)]) hx hb dX11_tries_178 hl (by decide) rfl (fun ls hl => ?_)
            replace hmo := ((o_66 315 (by first | decide | omega))).trans hmo
            replace hss_ := ((o_66 316 (by first | decide | omega))).trans hss_
            replace hsp_ := ((o_66 319 (by first | decide | omega)).trans ((o_65 319 (by decide)))).trans hsp_
            replace hwi_ := ((o_66 320 (by first | decide | omega)).trans ((o_65 320 (by decide)))).trans hwi_
            replace hwa_ := ((o_66 321 (by first | decide | omega)).trans ((o_65 321 (by decide)))).trans hwa_
            replace hva_ := ((o_66 322 (by first | decide | omega)).trans ((o_65 322 (by decide)))).trans hva_
            replace hbo_ := ((o_66 323 (by first | decide | omega))).trans hbo_
            replace hju_ := ((o_66 324 (by first | decide | omega)).trans ((o_65 324 (by decide)))).trans hju_
            replace hsl_ := ((o_66 327 (by first | decide | omega)).trans ((o_65 327 (by decide)))).trans hsl_
            have key115 : ∀ (n9_115 : Nat) (i2 : Nat) (sl2 : Nat → Int32) (f_67 : Nat → va_E) (H : Heap) (locs : List Loc) (ls : Array Slot), (i2 ≤ 30) → 30 - i2 < n9_115 → f_67 315 = eO 10 [.ref (g 316), .ref (g 317), .ref (g 318), .long ab2, .long be2, .int sn998, .ref (g 319), .ref (g 320), .int wn999, .ref (g 321), .ref (g 322), .int sa9100, .int ly9101, .int rdy, .int (nI fd), .ref (g 323), .ref (g 324), .ref (g 325), .ref (g 326), .ref (g 327), .ref (g 328), .ref (g 329), .ref (g 330), .ref (g 331), .ref (g 332)] → f_67 316 = eI G 2246 ss → f_67 319 = eI G 70 sp9102 → f_67 320 = eI G 70 wi9103 → f_67 321 = eI G 70 wa9104 → f_67 322 = eJ G 70 va9105 → f_67 323 = eI G 11 (upd bo to u) → f_67 324 = eI G 11 ju → f_67 325 = eI G 264 dr9110 → f_67 326 = eI G 11 dn9111 → f_67 327 = eI G 330 sl2 → f_67 328 = eI G 44 ax9112 → f_67 329 = eI G 30 lf9113 → (∀ j, j ≠ 327 → f_67 j = f_66 j) → va_P G.1 vwCl (wl g f_67) H → va_S (gA g) s.heap H locs → lv_has ls 13 [(0, .ref (g 315)), (1, .int (nI t)), (2, .int (nI to)), (6, .int v62), (8, .int (v106 ||| v107)), (9, .int u), (10, .int (nI i2))] → W p l e (headSpec (wsT yX11_tries cX11_tries 13 none) ({ frames := 5, cells := 0, slots := 0, locals := 120 })).room s m ([.ref (g 315), .int (nI t), .int (nI to), .int (nI xt), .int sb] : List Value).toArray below meth c H locs 0 0 (MQ below (bQv G g (fun (f' : Nat → va_E) => ∃ sn9 : Int32, ∃ wn9 : Int32, ∃ sa9 : Int32, ∃ ly9 : Int32, ∃ sp9 : Nat → Int32, ∃ wi9 : Nat → Int32, ∃ wa9 : Nat → Int32, ∃ va9 : Nat → Int64, ∃ bo9 : Nat → Int32, ∃ ju9 : Nat → Int32, ∃ dr9 : Nat → Int32, ∃ dn9 : Nat → Int32, ∃ sl9 : Nat → Int32, ∃ ax9 : Nat → Int32, ∃ lf9 : Nat → Int32, f' 315 = eO 10 [.ref (g 316), .ref (g 317), .ref (g 318), .long ab2, .long be2, .int sn9, .ref (g 319), .ref (g 320), .int wn9, .ref (g 321), .ref (g 322), .int sa9, .int ly9, .int rdy, .int (nI fd), .ref (g 323), .ref (g 324), .ref (g 325), .ref (g 326), .ref (g 327), .ref (g 328), .ref (g 329), .ref (g 330), .ref (g 331), .ref (g 332)] ∧ f' 319 = eI G 70 sp9 ∧ f' 320 = eI G 70 wi9 ∧ f' 321 = eI G 70 wa9 ∧ f' 322 = eJ G 70 va9 ∧ f' 323 = eI G 11 bo9 ∧ f' 324 = eI G 11 ju9 ∧ f' 325 = eI G 264 dr9 ∧ f' 326 = eI G 11 dn9 ∧ f' 327 = eI G 330 sl9 ∧ f' 328 = eI G 44 ax9 ∧ f' 329 = eI G 30 lf9 ∧ (∀ k, k < 11 → ∃ d, d ≤ 24 ∧ dn9 k = nI d) ∧ ∀ j, (j < 315 ∨ (316 ≤ j ∧ j ≤ 318) ∨ 330 ≤ j) → f' j = f j)) ([.ref (g 315), .int (nI t), .int (nI to), .int (nI xt), .int sb] : List Value).toArray s 0 0 (gA g)) (F0 m 180 ls []) := by
              intro n9_115
              induction n9_115 with
              | zero => intro i2 sl2 f_67 H locs ls hi2 hn9_115; exact absurd hn9_115 (Nat.not_lt_zero _)
              | succ n9_115 ih_115 =>
                intro i2 sl2 f_67 H locs ls hi2 hn9_115 hmo hss_ hsp_ hwi_ hwa_ hva_ hbo_ hju_ hdr_ hdn_ hsl_ hax_ hlf_ o_67 hP hS hl
                refine lv_iload hx hb dX11_tries_180 (lv_at hl 6 rfl) ?_
                refine lv_bipush (v := 30) hx hb dX11_tries_182 (by decide) ?_
                refine lv_icmp_ge (tgt := 212) hx hb dX11_tries_184 (by decide) (fun c_184 => ?_) (fun c_184 => ?_)
                · have k_184 : 30 ≤ i2 := (nI_leI (a := 30) (b := i2) (by omega) (by omega)).mp c_184
                  refine lv_iconst (v := 0) hx hb dX11_tries_212 (by decide) ?_
                  refine lv_istore (lv' := [(10, .int 0), (0, .ref (g 315)), (1, .int (nI t)), (2, .int (nI to)), (6, .int v62), (8, .int (v106 ||| v107)), (9, .int u)]) hx hb dX11_tries_213 hl (by decide) rfl (fun ls hl => ?_)
                  have hd24 := hx_66_1
                  have key116 : ∀ (n9_116 : Nat) (i3 : Nat) (sl3 : Nat → Int32) (f_68 : Nat → va_E) (H : Heap) (locs : List Loc) (ls : Array Slot), (i3 ≤ d9114) → d9114 - i3 < n9_116 → f_68 315 = eO 10 [.ref (g 316), .ref (g 317), .ref (g 318), .long ab2, .long be2, .int sn998, .ref (g 319), .ref (g 320), .int wn999, .ref (g 321), .ref (g 322), .int sa9100, .int ly9101, .int rdy, .int (nI fd), .ref (g 323), .ref (g 324), .ref (g 325), .ref (g 326), .ref (g 327), .ref (g 328), .ref (g 329), .ref (g 330), .ref (g 331), .ref (g 332)] → f_68 316 = eI G 2246 ss → f_68 319 = eI G 70 sp9102 → f_68 320 = eI G 70 wi9103 → f_68 321 = eI G 70 wa9104 → f_68 322 = eJ G 70 va9105 → f_68 323 = eI G 11 (upd bo to u) → f_68 324 = eI G 11 ju → f_68 325 = eI G 264 dr9110 → f_68 326 = eI G 11 dn9111 → f_68 327 = eI G 330 sl3 → f_68 328 = eI G 44 ax9112 → f_68 329 = eI G 30 lf9113 → (∀ j, j ≠ 327 → f_68 j = f_67 j) → va_P G.1 vwCl (wl g f_68) H → va_S (gA g) s.heap H locs → lv_has ls 13 [(0, .ref (g 315)), (1, .int (nI t)), (2, .int (nI to)), (6, .int v62), (8, .int (v106 ||| v107)), (9, .int u), (10, .int (nI i3))] → W p l e (headSpec (wsT yX11_tries cX11_tries 13 none) ({ frames := 5, cells := 0, slots := 0, locals := 120 })).room s m ([.ref (g 315), .int (nI t), .int (nI to), .int (nI xt), .int sb] : List Value).toArray below meth c H locs 0 0 (MQ below (bQv G g (fun (f' : Nat → va_E) => ∃ sn9 : Int32, ∃ wn9 : Int32, ∃ sa9 : Int32, ∃ ly9 : Int32, ∃ sp9 : Nat → Int32, ∃ wi9 : Nat → Int32, ∃ wa9 : Nat → Int32, ∃ va9 : Nat → Int64, ∃ bo9 : Nat → Int32, ∃ ju9 : Nat → Int32, ∃ dr9 : Nat → Int32, ∃ dn9 : Nat → Int32, ∃ sl9 : Nat → Int32, ∃ ax9 : Nat → Int32, ∃ lf9 : Nat → Int32, f' 315 = eO 10 [.ref (g 316), .ref (g 317), .ref (g 318), .long ab2, .long be2, .int sn9, .ref (g 319), .ref (g 320), .int wn9, .ref (g 321), .ref (g 322), .int sa9, .int ly9, .int rdy, .int (nI fd), .ref (g 323), .ref (g 324), .ref (g 325), .ref (g 326), .ref (g 327), .ref (g 328), .ref (g 329), .ref (g 330), .ref (g 331), .ref (g 332)] ∧ f' 319 = eI G 70 sp9 ∧ f' 320 = eI G 70 wi9 ∧ f' 321 = eI G 70 wa9 ∧ f' 322 = eJ G 70 va9 ∧ f' 323 = eI G 11 bo9 ∧ f' 324 = eI G 11 ju9 ∧ f' 325 = eI G 264 dr9 ∧ f' 326 = eI G 11 dn9 ∧ f' 327 = eI G 330 sl9 ∧ f' 328 = eI G 44 ax9 ∧ f' 329 = eI G 30 lf9 ∧ (∀ k, k < 11 → ∃ d, d ≤ 24 ∧ dn9 k = nI d) ∧ ∀ j, (j < 315 ∨ (316 ≤ j ∧ j ≤ 318) ∨ 330 ≤ j) → f' j = f j)) ([.ref (g 315), .int (nI t), .int (nI to), .int (nI xt), .int sb] : List Value).toArray s 0 0 (gA g)) (F0 m 215 ls []) := by
                    intro n9_116
                    induction n9_116 with
                    | zero => intro i3 sl3 f_68 H locs ls hi3 hn9_116; exact absurd hn9_116 (Nat.not_lt_zero _)
                    | succ n9_116 ih_116 =>
                      intro i3 sl3 f_68 H locs ls hi3 hn9_116 hmo hss_ hsp_ hwi_ hwa_ hva_ hbo_ hju_ hdr_ hdn_ hsl_ hax_ hlf_ o_68 hP hS hl
                      have hd24 := hx_66_1
                      refine lv_iload hx hb dX11_tries_215 (lv_at hl 6 rfl) ?_
                      refine lv_aload_n hx hb dX11_tries_217 rfl (lv_at hl 0 rfl) ?_
                      refine va_get (D := G.1) (ci := 10) (v := .ref (g 326)) (C := RX11) (T := TX11) (N := 25) hx hb hts inlX11 hown hG.1 hP 315 (wl_at (by decide) hmo) rfl 18 (by decide) (hts (.fieldLink RX11 42 "SwornListsModel" "drews" "[I") w_122) (fun _ h9 => h9) rfl dX11_tries_218 ?_
                      refine lv_iload_n hx hb dX11_tries_221 rfl (lv_at hl 2 rfl) ?_
                      refine va_iald hx hb hG.1 hP 326 0 (wl_at (by decide) hdn_) rfl (vp_in_nI (by omega) (by decide)) dX11_tries_222 ?_
                      refine my_bei (v := dn9111 to) (congrArg dn9111 (nI_clamp (n := to) (by omega))) ?_
                      refine my_bei (v := nI d9114) (hx_66_0) ?_
                      refine lv_icmp_ge (tgt := 280) hx hb dX11_tries_223 (by decide) (fun c_223 => ?_) (fun c_223 => ?_)
                      · have k_223 : d9114 ≤ i3 := (nI_leI (a := d9114) (b := i3) (by omega) (by omega)).mp c_223
                        refine lv_aload_n hx hb dX11_tries_280 rfl (lv_at hl 0 rfl) ?_
                        refine va_get (D := G.1) (ci := 10) (v := .ref (g 328)) (C := RX11) (T := TX11) (N := 25) hx hb hts inlX11 hown hG.1 hP 315 (wl_at (by decide) hmo) rfl 20 (by decide) (hts (.fieldLink RX11 48 "SwornListsModel" "abouts" "[I") w_124) (fun _ h9 => h9) rfl dX11_tries_281 ?_
                        refine lv_iconst (v := 4) hx hb dX11_tries_284 (by decide) ?_
                        refine lv_iload_n hx hb dX11_tries_285 rfl (lv_at hl 2 rfl) ?_
                        refine lv_imul hx hb dX11_tries_286 ?_
                        refine my_bei (v := nI (4 * to)) (pk_mul 4 to) ?_
                        refine lv_iconst (v := 0) hx hb dX11_tries_287 (by decide) ?_
                        refine va_iast hx hb hG.1 hP (wl_D hg f_68) hS 328 0 (wl_at (by decide) hax_) rfl (vp_in_nI (by omega) (by decide)) dX11_tries_288 (fun H locs hP _ hS => ?_)
                        have hP := (congrArg (fun z9 => va_P G.1 vwCl ((wl g f_68).set 328 (g 328, eI G 44 ((upd ax9112 z9 0)))) H) (show Int32.toNatClampNeg (nI (4 * to)) = 4 * to from nI_clamp (by omega))).mp hP
                        obtain ⟨f_69, hP, e_69, o_69⟩ := b_put (by decide) hP
                        have hax_ : f_69 328 = eI G 44 (upd ax9112 (4 * to) 0) := e_69
                        refine lv_aload_n hx hb dX11_tries_289 rfl (lv_at hl 0 rfl) ?_
                        replace hmo := ((o_69 315 (by decide))).trans hmo
                        refine va_get (D := G.1) (ci := 10) (v := .ref (g 328)) (C := RX11) (T := TX11) (N := 25) hx hb hts inlX11 hown hG.1 hP 315 (wl_at (by decide) hmo) rfl 20 (by decide) (hts (.fieldLink RX11 48 "SwornListsModel" "abouts" "[I") w_124) (fun _ h9 => h9) rfl dX11_tries_290 ?_
                        refine lv_iconst (v := 4) hx hb dX11_tries_293 (by decide) ?_
                        refine lv_iload_n hx hb dX11_tries_294 rfl (lv_at hl 2 rfl) ?_
                        refine lv_imul hx hb dX11_tries_295 ?_
                        refine my_bei (v := nI (4 * to)) (pk_mul 4 to) ?_
                        refine lv_iconst (v := 1) hx hb dX11_tries_296 (by decide) ?_
                        refine lv_iadd hx hb dX11_tries_297 ?_
                        refine my_bei (v := nI (4 * to + 1)) ((nI_add (4 * to) 1).trans (congrArg nI (show (4 * to) + 1 = 4 * to + 1 by omega))) ?_
                        refine lv_iconst (v := 0) hx hb dX11_tries_298 (by decide) ?_
                        refine va_iast hx hb hG.1 hP (wl_D hg f_69) hS 328 0 (wl_at (by decide) hax_) rfl (vp_in_nI (by omega) (by decide)) dX11_tries_299 (fun H locs hP _ hS => ?_)
                        have hP := (congrArg (fun z9 => va_P G.1 vwCl ((wl g f_69).set 328 (g 328, eI G 44 ((upd (upd ax9112 (4 * to) 0) z9 0)))) H) (show Int32.toNatClampNeg (nI (4 * to + 1)) = 4 * to + 1 from nI_clamp (by omega))).mp hP
                        obtain ⟨f_70, hP, e_70, o_70⟩ := b_put (by decide) hP
                        have hax_ : f_70 328 = eI G 44 (upd (upd ax9112 (4 * to) 0) (4 * to + 1) 0) := e_70
                        refine lv_aload_n hx hb dX11_tries_300 rfl (lv_at hl 0 rfl) ?_
                        replace hmo := ((o_70 315 (by decide))).trans hmo
                        refine va_get (D := G.1) (ci := 10) (v := .ref (g 328)) (C := RX11) (T := TX11) (N := 25) hx hb hts inlX11 hown hG.1 hP 315 (wl_at (by decide) hmo) rfl 20 (by decide) (hts (.fieldLink RX11 48 "SwornListsModel" "abouts" "[I") w_124) (fun _ h9 => h9) rfl dX11_tries_301 ?_
                        refine lv_iconst (v := 4) hx hb dX11_tries_304 (by decide) ?_
                        refine lv_iload_n hx hb dX11_tries_305 rfl (lv_at hl 2 rfl) ?_
                        refine lv_imul hx hb dX11_tries_306 ?_
                        refine my_bei (v := nI (4 * to)) (pk_mul 4 to) ?_
                        refine lv_iconst (v := 2) hx hb dX11_tries_307 (by decide) ?_
                        refine lv_iadd hx hb dX11_tries_308 ?_
                        refine my_bei (v := nI (4 * to + 2)) ((nI_add (4 * to) 2).trans (congrArg nI (show (4 * to) + 2 = 4 * to + 2 by omega))) ?_
                        refine lv_iconst (v := 0) hx hb dX11_tries_309 (by decide) ?_
                        refine va_iast hx hb hG.1 hP (wl_D hg f_70) hS 328 0 (wl_at (by decide) hax_) rfl (vp_in_nI (by omega) (by decide)) dX11_tries_310 (fun H locs hP _ hS => ?_)
                        have hP := (congrArg (fun z9 => va_P G.1 vwCl ((wl g f_70).set 328 (g 328, eI G 44 ((upd (upd (upd ax9112 (4 * to) 0) (4 * to + 1) 0) z9 0)))) H) (show Int32.toNatClampNeg (nI (4 * to + 2)) = 4 * to + 2 from nI_clamp (by omega))).mp hP
                        obtain ⟨f_71, hP, e_71, o_71⟩ := b_put (by decide) hP
                        have hax_ : f_71 328 = eI G 44 (upd (upd (upd ax9112 (4 * to) 0) (4 * to + 1) 0) (4 * to + 2) 0) := e_71
                        refine lv_iconst (v := 0) hx hb dX11_tries_311 (by decide) ?_
                        refine lv_istore (lv' := [(10, .int 0), (0, .ref (g 315)), (1, .int (nI t)), (2, .int (nI to)), (6, .int v62), (8, .int (v106 ||| v107)), (9, .int u)]) hx hb dX11_tries_312 hl (by decide) rfl (fun ls hl => ?_)
                        refine lv_iconst (v := 0) hx hb dX11_tries_314 (by decide) ?_
                        refine lv_istore (lv' := [(11, .int 0), (10, .int 0), (0, .ref (g 315)), (1, .int (nI t)), (2, .int (nI to)), (6, .int v62), (8, .int (v106 ||| v107)), (9, .int u)]) hx hb dX11_tries_315 hl (by decide) rfl (fun ls hl => ?_)
                        replace hmo := ((o_71 315 (by decide))).trans hmo
                        replace hss_ := ((o_71 316 (by decide)).trans ((o_70 316 (by decide)).trans ((o_69 316 (by decide))))).trans hss_
                        replace hsp_ := ((o_71 319 (by decide)).trans ((o_70 319 (by decide)).trans ((o_69 319 (by decide))))).trans hsp_
                        replace hwi_ := ((o_71 320 (by decide)).trans ((o_70 320 (by decide)).trans ((o_69 320 (by decide))))).trans hwi_
                        replace hwa_ := ((o_71 321 (by decide)).trans ((o_70 321 (by decide)).trans ((o_69 321 (by decide))))).trans hwa_
                        replace hva_ := ((o_71 322 (by decide)).trans ((o_70 322 (by decide)).trans ((o_69 322 (by decide))))).trans hva_
                        replace hbo_ := ((o_71 323 (by decide)).trans ((o_70 323 (by decide)).trans ((o_69 323 (by decide))))).trans hbo_
                        replace hju_ := ((o_71 324 (by decide)).trans ((o_70 324 (by decide)).trans ((o_69 324 (by decide))))).trans hju_
                        replace hdr_ := ((o_71 325 (by decide)).trans ((o_70 325 (by decide)).trans ((o_69 325 (by decide))))).trans hdr_
                        replace hdn_ := ((o_71 326 (by decide)).trans ((o_70 326 (by decide)).trans ((o_69 326 (by decide))))).trans hdn_
                        replace hsl_ := ((o_71 327 (by decide)).trans ((o_70 327 (by decide)).trans ((o_69 327 (by decide))))).trans hsl_
                        replace hlf_ := ((o_71 329 (by decide)).trans ((o_70 329 (by decide)).trans ((o_69 329 (by decide))))).trans hlf_
                        have key117 : ∀ (n9_117 : Nat) (th : Nat) (sd : Nat) (a0 : Nat) (a1 : Nat) (sl4 : Nat → Int32) (ax4 : Nat → Int32) (f_72 : Nat → va_E) (H : Heap) (locs : List Loc) (ls : Array Slot), (th ≤ 2) → (sd < 2) → (a0 ≤ q4) → (a1 ≤ q4) → (ax4 (4 * to + 1) = nI a0) → (ax4 (4 * to + 2) = nI a1) → 3 * (2 * q4 - a0 - a1) + (2 - th) < n9_117 → f_72 315 = eO 10 [.ref (g 316), .ref (g 317), .ref (g 318), .long ab2, .long be2, .int sn998, .ref (g 319), .ref (g 320), .int wn999, .ref (g 321), .ref (g 322), .int sa9100, .int ly9101, .int rdy, .int (nI fd), .ref (g 323), .ref (g 324), .ref (g 325), .ref (g 326), .ref (g 327), .ref (g 328), .ref (g 329), .ref (g 330), .ref (g 331), .ref (g 332)] → f_72 316 = eI G 2246 ss → f_72 319 = eI G 70 sp9102 → f_72 320 = eI G 70 wi9103 → f_72 321 = eI G 70 wa9104 → f_72 322 = eJ G 70 va9105 → f_72 323 = eI G 11 (upd bo to u) → f_72 324 = eI G 11 ju → f_72 325 = eI G 264 dr9110 → f_72 326 = eI G 11 dn9111 → f_72 327 = eI G 330 sl4 → f_72 328 = eI G 44 ax4 → f_72 329 = eI G 30 lf9113 → (∀ j, (j ≠ 327 ∧ j ≠ 328) → f_72 j = f_71 j) → va_P G.1 vwCl (wl g f_72) H → va_S (gA g) s.heap H locs → lv_has ls 13 [(0, .ref (g 315)), (1, .int (nI t)), (2, .int (nI to)), (6, .int v62), (8, .int (v106 ||| v107)), (9, .int u), (10, .int (nI th)), (11, .int (nI sd))] → W p l e (headSpec (wsT yX11_tries cX11_tries 13 none) ({ frames := 5, cells := 0, slots := 0, locals := 120 })).room s m ([.ref (g 315), .int (nI t), .int (nI to), .int (nI xt), .int sb] : List Value).toArray below meth c H locs 0 0 (MQ below (bQv G g (fun (f' : Nat → va_E) => ∃ sn9 : Int32, ∃ wn9 : Int32, ∃ sa9 : Int32, ∃ ly9 : Int32, ∃ sp9 : Nat → Int32, ∃ wi9 : Nat → Int32, ∃ wa9 : Nat → Int32, ∃ va9 : Nat → Int64, ∃ bo9 : Nat → Int32, ∃ ju9 : Nat → Int32, ∃ dr9 : Nat → Int32, ∃ dn9 : Nat → Int32, ∃ sl9 : Nat → Int32, ∃ ax9 : Nat → Int32, ∃ lf9 : Nat → Int32, f' 315 = eO 10 [.ref (g 316), .ref (g 317), .ref (g 318), .long ab2, .long be2, .int sn9, .ref (g 319), .ref (g 320), .int wn9, .ref (g 321), .ref (g 322), .int sa9, .int ly9, .int rdy, .int (nI fd), .ref (g 323), .ref (g 324), .ref (g 325), .ref (g 326), .ref (g 327), .ref (g 328), .ref (g 329), .ref (g 330), .ref (g 331), .ref (g 332)] ∧ f' 319 = eI G 70 sp9 ∧ f' 320 = eI G 70 wi9 ∧ f' 321 = eI G 70 wa9 ∧ f' 322 = eJ G 70 va9 ∧ f' 323 = eI G 11 bo9 ∧ f' 324 = eI G 11 ju9 ∧ f' 325 = eI G 264 dr9 ∧ f' 326 = eI G 11 dn9 ∧ f' 327 = eI G 330 sl9 ∧ f' 328 = eI G 44 ax9 ∧ f' 329 = eI G 30 lf9 ∧ (∀ k, k < 11 → ∃ d, d ≤ 24 ∧ dn9 k = nI d) ∧ ∀ j, (j < 315 ∨ (316 ≤ j ∧ j ≤ 318) ∨ 330 ≤ j) → f' j = f j)) ([.ref (g 315), .int (nI t), .int (nI to), .int (nI xt), .int sb] : List Value).toArray s 0 0 (gA g)) (F0 m 317 ls []) := by
                          intro n9_117
                          induction n9_117 with
                          | zero => intro th sd a0 a1 sl4 ax4 f_72 H locs ls hth hsd hq0 hq1 ha0 ha1 hn9_117; exact absurd hn9_117 (Nat.not_lt_zero _)
                          | succ n9_117 ih_117 =>
                            intro th sd a0 a1 sl4 ax4 f_72 H locs ls hth hsd hq0 hq1 ha0 ha1 hn9_117 hmo hss_ hsp_ hwi_ hwa_ hva_ hbo_ hju_ hdr_ hdn_ hsl_ hax_ hlf_ o_72 hP hS hl
                            refine lv_iload hx hb dX11_tries_317 (lv_at hl 6 rfl) ?_
                            refine lv_iconst (v := 2) hx hb dX11_tries_319 (by decide) ?_
                            refine lv_icmp_ge (tgt := 397) hx hb dX11_tries_320 (by decide) (fun c_320 => ?_) (fun c_320 => ?_)
                            · have k_320 : 2 ≤ th := (nI_leI (a := 2) (b := th) (by omega) (by omega)).mp c_320
                              refine lv_aload_n hx hb dX11_tries_397 rfl (lv_at hl 0 rfl) ?_
                              refine lv_iload_n hx hb dX11_tries_398 rfl (lv_at hl 1 rfl) ?_
                              refine lv_iload_n hx hb dX11_tries_399 rfl (lv_at hl 2 rfl) ?_
                              refine lv_iload hx hb dX11_tries_400 (lv_at hl 3 rfl) ?_
                              refine lv_iload hx hb dX11_tries_402 (lv_at hl 5 rfl) ?_
                              refine lv_iconst (v := (-1)) hx hb dX11_tries_404 (by decide) ?_
                              refine lv_ixor hx hb dX11_tries_405 ?_
                              refine lv_iand hx hb dX11_tries_406 ?_
                              refine lv_iload hx hb dX11_tries_407 (lv_at hl 4 rfl) ?_
                              refine lv_iconst (v := (-1)) hx hb dX11_tries_409 (by decide) ?_
                              refine lv_ixor hx hb dX11_tries_410 ?_
                              refine lv_iand hx hb dX11_tries_411 ?_
                              refine b_callv (va_runV (As := [.int (nI t), .int (nI to), .int ((v62 &&& (u ^^^ (-1))) &&& ((v106 ||| v107) ^^^ (-1)))]) (rest := []) ⟨hx, hb, hml, hown, hts⟩ (r_seats l G g hg f_72 ab2 be2 sn998 wn999 sa9100 ly9101 rdy (nI fd) ss ju dr9110 dn9111 sl4 ax4 t to d9114 ((v62 &&& (u ^^^ (-1))) &&& ((v106 ||| v107) ^^^ (-1))) hmo hss_ hju_ hdr_ hdn_ hsl_ hax_ (by first | assumption | omega | decide) (by first | assumption | omega | decide) (hx_66_0) (by first | assumption | omega | decide) (hx_66_3)) (my_cwV hts ok_X11_seats w_580 rfl rfl ⟨Nat.le_of_ble_eq_true rfl, Nat.le_of_ble_eq_true rfl⟩) ⟨bP.blind, va_recv hG.1 hP (ci := 10) (q0 := 315) rfl (wl_at (by decide) hmo), fun U hU hW => ⟨rfl, by rw [hU]; exact hP, kG.warm hW hG⟩⟩ rfl rfl hl.1 rfl (lv_room (Nat.le_of_ble_eq_true rfl)) dX11_tries_412 ⟨Nat.le_of_ble_eq_true rfl, Nat.le_of_ble_eq_true rfl⟩) hS (fun f_73 H locs hq9 hP hS => ?_)
                              obtain ⟨ju9118, sl9119, ax9120, hq_73_0, hq_73_1, hq_73_2, o_73⟩ := hq9
                              have hju_ : f_73 324 = eI G 11 ju9118 := hq_73_0
                              have hsl_ : f_73 327 = eI G 330 sl9119 := hq_73_1
                              have hax_ : f_73 328 = eI G 44 ax9120 := hq_73_2
                              replace hmo := ((o_73 315 (by first | decide | omega))).trans hmo
                              replace hsp_ := ((o_73 319 (by first | decide | omega))).trans hsp_
                              replace hwi_ := ((o_73 320 (by first | decide | omega))).trans hwi_
                              replace hwa_ := ((o_73 321 (by first | decide | omega))).trans hwa_
                              replace hva_ := ((o_73 322 (by first | decide | omega))).trans hva_
                              replace hbo_ := ((o_73 323 (by first | decide | omega))).trans hbo_
                              replace hdr_ := ((o_73 325 (by first | decide | omega))).trans hdr_
                              replace hdn_ := ((o_73 326 (by first | decide | omega))).trans hdn_
                              replace hlf_ := ((o_73 329 (by first | decide | omega))).trans hlf_
                              exact W.vret hx hb hr (fun t ht hW => ⟨⟨f_73, rfl, (⟨sn998, wn999, sa9100, ly9101, sp9102, wi9103, wa9104, va9105, (upd bo to u), ju9118, dr9110, dn9111, sl9119, ax9120, lf9113, hmo, hsp_, hwi_, hwa_, hva_, hbo_, hju_, hdr_, hdn_, hsl_, hax_, hlf_, dn_new hdn hx_66_0 hx_66_1 hx_66_2, fun j hj => ((((((((((((o_73 j (by omega))).trans (o_72 j (by omega))).trans (o_71 j (by omega))).trans (o_70 j (by omega))).trans (o_69 j (by omega))).trans (o_68 j (by omega))).trans (o_67 j (by omega))).trans (o_66 j (by omega))).trans (o_65 j (by omega))).trans (o_64 j (by omega))).trans (o_63 j (by omega))).trans (o_42 j (by omega))⟩), by rw [ht]; exact hP⟩, hS.F ht⟩) hS.2.2 dX11_tries_415
                            · have k_320 : ¬ 2 ≤ th := fun z9 => c_320 ((nI_leI (a := 2) (b := th) (by omega) (by omega)).mpr z9)
                              rcases (show sd = 0 ∨ sd = 1 by omega) with rfl | rfl
                              · refine lv_aload_n hx hb dX11_tries_323 rfl (lv_at hl 0 rfl) ?_
                                refine lv_iload_n hx hb dX11_tries_324 rfl (lv_at hl 1 rfl) ?_
                                refine lv_iload_n hx hb dX11_tries_325 rfl (lv_at hl 2 rfl) ?_
                                refine lv_iload hx hb dX11_tries_326 (lv_at hl 7 rfl) ?_
                                refine rd_calli (va_runV (As := [.int (nI t), .int (nI to), .int 0]) (rest := []) ⟨hx, hb, hml, hown, hts⟩ (r_strikes l G g hg f_72 ab2 be2 sn998 wn999 sa9100 ly9101 rdy (nI fd) ss np nf nr na nt dr9110 dn9111 sl4 ax4 t to 0 a0 d9114 q4 hmo hss_ hdr_ hdn_ hsl_ hax_ (by first | assumption | omega | decide) (by first | assumption | omega | decide) (by first | assumption | omega | decide) (by first | assumption | omega | decide) (by first | assumption | omega | decide) (by rw [show 0 + 4 * to + 1 = 4 * to + 1 by omega]; exact ha0) (hx_66_0) (by first | assumption | omega | decide) (hx_66_3) (by first | assumption | omega | decide) (hs4)) (my_cwV hts ok_X11_strikes w_576 rfl rfl ⟨Nat.le_of_ble_eq_true rfl, Nat.le_of_ble_eq_true rfl⟩) ⟨bP.blind, va_recv hG.1 hP (ci := 10) (q0 := 315) rfl (wl_at (by decide) hmo), fun U hU hW => ⟨rfl, by rw [hU]; exact hP, kG.warm hW hG⟩⟩ rfl rfl hl.1 rfl (lv_room (Nat.le_of_ble_eq_true rfl)) dX11_tries_328 ⟨Nat.le_of_ble_eq_true rfl, Nat.le_of_ble_eq_true rfl⟩) (fun r hr9 => ?_)
                                obtain ⟨o9121, rfl, hx_74_0, hx_74_1⟩ := hr9
                                refine lv_istore (lv' := [(12, .int (fo o9121)), (0, .ref (g 315)), (1, .int (nI t)), (2, .int (nI to)), (6, .int v62), (8, .int (v106 ||| v107)), (9, .int u), (10, .int (nI th)), (11, .int 0)]) hx hb dX11_tries_331 hl (by decide) rfl (fun ls hl => ?_)
                                refine lv_iload hx hb dX11_tries_333 (lv_at hl 0 rfl) ?_
                                refine lv_iconst (v := (-1)) hx hb dX11_tries_335 (by decide) ?_
                                refine lv_icmp_ne (tgt := 346) hx hb dX11_tries_336 (by decide) (fun c_336 => ?_) (fun c_336 => ?_)
                                · refine lv_iconst (v := 0) hx hb dX11_tries_346 (by decide) ?_
                                  refine lv_istore (lv' := [(10, .int 0), (12, .int (fo o9121)), (0, .ref (g 315)), (1, .int (nI t)), (2, .int (nI to)), (6, .int v62), (8, .int (v106 ||| v107)), (9, .int u), (11, .int 0)]) hx hb dX11_tries_347 hl (by decide) rfl (fun ls hl => ?_)
                                  refine lv_iload hx hb dX11_tries_349 (lv_at hl 1 rfl) ?_
                                  refine lv_iconst (v := (-1)) hx hb dX11_tries_351 (by decide) ?_
                                  refine lv_icmp_eq (tgt := 388) hx hb dX11_tries_352 (by decide) (fun c_352 => absurd c_352 (c_336)) (fun c_352 => ?_)
                                  obtain ⟨z5, rfl⟩ : ∃ b, o9121 = some b := by
                                    cases o9121 with
                                    | none => exact absurd rfl c_336
                                    | some z => exact ⟨z, rfl⟩
                                  have hz5 := hx_74_0 z5 rfl
                                  have hlt5 : a0 ≠ q4 := fun z => by cases hx_74_1 z
                                  refine lv_aload_n hx hb dX11_tries_355 rfl (lv_at hl 2 rfl) ?_
                                  refine va_get (D := G.1) (ci := 10) (v := .ref (g 327)) (C := RX11) (T := TX11) (N := 25) hx hb hts inlX11 hown hG.1 hP 315 (wl_at (by decide) hmo) rfl 19 (by decide) (hts (.fieldLink RX11 45 "SwornListsModel" "slips" "[I") w_123) (fun _ h9 => h9) rfl dX11_tries_356 ?_
                                  refine lv_bipush (v := 30) hx hb dX11_tries_359 (by decide) ?_
                                  refine lv_iload_n hx hb dX11_tries_361 rfl (lv_at hl 4 rfl) ?_
                                  refine lv_imul hx hb dX11_tries_362 ?_
                                  refine my_bei (v := nI (30 * to)) (pk_mul 30 to) ?_
                                  refine lv_iload hx hb dX11_tries_363 (lv_at hl 1 rfl) ?_
                                  refine lv_iadd hx hb dX11_tries_365 ?_
                                  refine my_bei (v := nI (30 * to + z5)) ((nI_add (30 * to) z5).trans (congrArg nI (show (30 * to) + z5 = 30 * to + z5 by omega))) ?_
                                  refine lv_iconst (v := 3) hx hb dX11_tries_366 (by decide) ?_
                                  refine lv_iload hx hb dX11_tries_367 (lv_at hl 8 rfl) ?_
                                  refine lv_iadd hx hb dX11_tries_369 ?_
                                  refine my_bei (v := 3) (by decide) ?_
                                  refine va_iast hx hb hG.1 hP (wl_D hg f_72) hS 327 0 (wl_at (by decide) hsl_) rfl (vp_in_nI (by omega) (by decide)) dX11_tries_370 (fun H locs hP _ hS => ?_)
                                  have hP := (congrArg (fun z9 => va_P G.1 vwCl ((wl g f_72).set 327 (g 327, eI G 330 ((upd sl4 z9 3)))) H) (show Int32.toNatClampNeg (nI (30 * to + z5)) = 30 * to + z5 from nI_clamp (by omega))).mp hP
                                  obtain ⟨f_75, hP, e_75, o_75⟩ := b_put (by decide) hP
                                  have hsl_ : f_75 327 = eI G 330 (upd sl4 (30 * to + z5) 3) := e_75
                                  refine lv_aload_n hx hb dX11_tries_371 rfl (lv_at hl 2 rfl) ?_
                                  replace hmo := ((o_75 315 (by decide))).trans hmo
                                  refine va_get (D := G.1) (ci := 10) (v := .ref (g 328)) (C := RX11) (T := TX11) (N := 25) hx hb hts inlX11 hown hG.1 hP 315 (wl_at (by decide) hmo) rfl 20 (by decide) (hts (.fieldLink RX11 48 "SwornListsModel" "abouts" "[I") w_124) (fun _ h9 => h9) rfl dX11_tries_372 ?_
                                  refine lv_iconst (v := 4) hx hb dX11_tries_375 (by decide) ?_
                                  refine lv_iload_n hx hb dX11_tries_376 rfl (lv_at hl 4 rfl) ?_
                                  refine lv_imul hx hb dX11_tries_377 ?_
                                  refine my_bei (v := nI (4 * to)) (pk_mul 4 to) ?_
                                  refine lv_iconst (v := 1) hx hb dX11_tries_378 (by decide) ?_
                                  refine lv_iadd hx hb dX11_tries_379 ?_
                                  refine my_bei (v := nI (4 * to + 1)) ((nI_add (4 * to) 1).trans (congrArg nI (show (4 * to) + 1 = 4 * to + 1 by omega))) ?_
                                  refine lv_iload hx hb dX11_tries_380 (lv_at hl 8 rfl) ?_
                                  refine lv_iadd hx hb dX11_tries_382 ?_
                                  refine my_bei (v := nI (4 * to + 1)) ((nI_add (4 * to + 1) 0).trans (congrArg nI (show (4 * to + 1) + 0 = 4 * to + 1 by omega))) ?_
                                  refine lv_dup2_11 hx hb dX11_tries_383 rfl rfl ?_
                                  replace hax_ := ((o_75 328 (by decide))).trans hax_
                                  refine va_iald hx hb hG.1 hP 328 0 (wl_at (by decide) hax_) rfl (vp_in_nI (by omega) (by decide)) dX11_tries_384 ?_
                                  refine my_bei (v := ax4 (4 * to + 1)) (congrArg ax4 (nI_clamp (n := 4 * to + 1) (by omega))) ?_
                                  refine my_bei (v := nI a0) (ha0) ?_
                                  refine lv_iconst (v := 1) hx hb dX11_tries_385 (by decide) ?_
                                  refine lv_iadd hx hb dX11_tries_386 ?_
                                  refine my_bei (v := nI (a0 + 1)) (nI_add a0 1) ?_
                                  refine va_iast hx hb hG.1 hP (wl_D hg f_75) hS 328 0 (wl_at (by decide) hax_) rfl (vp_in_nI (by omega) (by decide)) dX11_tries_387 (fun H locs hP _ hS => ?_)
                                  have hP := (congrArg (fun z9 => va_P G.1 vwCl ((wl g f_75).set 328 (g 328, eI G 44 ((upd ax4 z9 (nI (a0 + 1)))))) H) (show Int32.toNatClampNeg (nI (4 * to + 1)) = 4 * to + 1 from nI_clamp (by omega))).mp hP
                                  obtain ⟨f_76, hP, e_76, o_76⟩ := b_put (by decide) hP
                                  have hax_ : f_76 328 = eI G 44 (upd ax4 (4 * to + 1) (nI (a0 + 1))) := e_76
                                  refine lv_iconst (v := 1) hx hb dX11_tries_388 (by decide) ?_
                                  refine lv_iload hx hb dX11_tries_389 (lv_at hl 8 rfl) ?_
                                  refine lv_isub hx hb dX11_tries_391 ?_
                                  refine my_bei (v := 1) (by decide) ?_
                                  refine lv_istore (lv' := [(11, .int 1), (10, .int 0), (12, .int (nI z5)), (0, .ref (g 315)), (1, .int (nI t)), (2, .int (nI to)), (6, .int v62), (8, .int (v106 ||| v107)), (9, .int u)]) hx hb dX11_tries_392 hl (by decide) rfl (fun ls hl => ?_)
                                  refine lv_goto (tgt := 317) hx hb dX11_tries_394 (by decide) ?_
                                  replace hmo := ((o_76 315 (by decide))).trans hmo
                                  replace hss_ := ((o_76 316 (by decide)).trans ((o_75 316 (by decide)))).trans hss_
                                  replace hsp_ := ((o_76 319 (by decide)).trans ((o_75 319 (by decide)))).trans hsp_
                                  replace hwi_ := ((o_76 320 (by decide)).trans ((o_75 320 (by decide)))).trans hwi_
                                  replace hwa_ := ((o_76 321 (by decide)).trans ((o_75 321 (by decide)))).trans hwa_
                                  replace hva_ := ((o_76 322 (by decide)).trans ((o_75 322 (by decide)))).trans hva_
                                  replace hbo_ := ((o_76 323 (by decide)).trans ((o_75 323 (by decide)))).trans hbo_
                                  replace hju_ := ((o_76 324 (by decide)).trans ((o_75 324 (by decide)))).trans hju_
                                  replace hdr_ := ((o_76 325 (by decide)).trans ((o_75 325 (by decide)))).trans hdr_
                                  replace hdn_ := ((o_76 326 (by decide)).trans ((o_75 326 (by decide)))).trans hdn_
                                  replace hsl_ := ((o_76 327 (by decide))).trans hsl_
                                  replace hlf_ := ((o_76 329 (by decide)).trans ((o_75 329 (by decide)))).trans hlf_
                                  exact ih_117 0 1 (a0 + 1) a1 (upd sl4 (30 * to + z5) 3) (upd ax4 (4 * to + 1) (nI (a0 + 1))) f_76 _ _ _ (by omega) (by omega) (by omega) (by omega) (pk_us) ((pk_un (by omega)).trans ha1) (by omega) (hmo) (hss_) (hsp_) (hwi_) (hwa_) (hva_) (hbo_) (hju_) (hdr_) (hdn_) (hsl_) (hax_) (hlf_) (fun j hj => (((o_76 j (by omega))).trans (o_75 j (by omega))).trans (o_72 j (by omega))) hP hS (lv_sub hl [3, 4, 5, 6, 7, 8, 1, 0] rfl)
                                · refine lv_iload hx hb dX11_tries_339 (lv_at hl 7 rfl) ?_
                                  refine lv_iconst (v := 1) hx hb dX11_tries_341 (by decide) ?_
                                  refine lv_iadd hx hb dX11_tries_342 ?_
                                  refine my_bei (v := nI (th + 1)) (nI_add th 1) ?_
                                  refine lv_goto (tgt := 347) hx hb dX11_tries_343 (by decide) ?_
                                  refine lv_istore (lv' := [(10, .int (nI (th + 1))), (12, .int (fo o9121)), (0, .ref (g 315)), (1, .int (nI t)), (2, .int (nI to)), (6, .int v62), (8, .int (v106 ||| v107)), (9, .int u), (11, .int 0)]) hx hb dX11_tries_347 hl (by decide) rfl (fun ls hl => ?_)
                                  refine lv_iload hx hb dX11_tries_349 (lv_at hl 1 rfl) ?_
                                  refine lv_iconst (v := (-1)) hx hb dX11_tries_351 (by decide) ?_
                                  refine lv_icmp_eq (tgt := 388) hx hb dX11_tries_352 (by decide) (fun c_352 => ?_) (fun c_352 => absurd (c_336) c_352)
                                  refine lv_iconst (v := 1) hx hb dX11_tries_388 (by decide) ?_
                                  refine lv_iload hx hb dX11_tries_389 (lv_at hl 8 rfl) ?_
                                  refine lv_isub hx hb dX11_tries_391 ?_
                                  refine my_bei (v := 1) (by decide) ?_
                                  refine lv_istore (lv' := [(11, .int 1), (10, .int (nI (th + 1))), (12, .int (fo o9121)), (0, .ref (g 315)), (1, .int (nI t)), (2, .int (nI to)), (6, .int v62), (8, .int (v106 ||| v107)), (9, .int u)]) hx hb dX11_tries_392 hl (by decide) rfl (fun ls hl => ?_)
                                  refine lv_goto (tgt := 317) hx hb dX11_tries_394 (by decide) ?_
                                  exact ih_117 (th + 1) 1 a0 a1 sl4 ax4 f_72 _ _ _ (by omega) (by omega) (by omega) (by omega) (ha0) (ha1) (by omega) (hmo) (hss_) (hsp_) (hwi_) (hwa_) (hva_) (hbo_) (hju_) (hdr_) (hdn_) (hsl_) (hax_) (hlf_) (fun j hj => (o_72 j (by omega))) hP hS (lv_sub hl [3, 4, 5, 6, 7, 8, 1, 0] rfl)
                              · refine lv_aload_n hx hb dX11_tries_323 rfl (lv_at hl 0 rfl) ?_
                                refine lv_iload_n hx hb dX11_tries_324 rfl (lv_at hl 1 rfl) ?_
                                refine lv_iload_n hx hb dX11_tries_325 rfl (lv_at hl 2 rfl) ?_
                                refine lv_iload hx hb dX11_tries_326 (lv_at hl 7 rfl) ?_
                                refine rd_calli (va_runV (As := [.int (nI t), .int (nI to), .int 1]) (rest := []) ⟨hx, hb, hml, hown, hts⟩ (r_strikes l G g hg f_72 ab2 be2 sn998 wn999 sa9100 ly9101 rdy (nI fd) ss np nf nr na nt dr9110 dn9111 sl4 ax4 t to 1 a1 d9114 q4 hmo hss_ hdr_ hdn_ hsl_ hax_ (by first | assumption | omega | decide) (by first | assumption | omega | decide) (by first | assumption | omega | decide) (by first | assumption | omega | decide) (by first | assumption | omega | decide) (by rw [show 1 + 4 * to + 1 = 4 * to + 2 by omega]; exact ha1) (hx_66_0) (by first | assumption | omega | decide) (hx_66_3) (by first | assumption | omega | decide) (hs4)) (my_cwV hts ok_X11_strikes w_576 rfl rfl ⟨Nat.le_of_ble_eq_true rfl, Nat.le_of_ble_eq_true rfl⟩) ⟨bP.blind, va_recv hG.1 hP (ci := 10) (q0 := 315) rfl (wl_at (by decide) hmo), fun U hU hW => ⟨rfl, by rw [hU]; exact hP, kG.warm hW hG⟩⟩ rfl rfl hl.1 rfl (lv_room (Nat.le_of_ble_eq_true rfl)) dX11_tries_328 ⟨Nat.le_of_ble_eq_true rfl, Nat.le_of_ble_eq_true rfl⟩) (fun r hr9 => ?_)
                                obtain ⟨o9122, rfl, hx_77_0, hx_77_1⟩ := hr9
                                refine lv_istore (lv' := [(12, .int (fo o9122)), (0, .ref (g 315)), (1, .int (nI t)), (2, .int (nI to)), (6, .int v62), (8, .int (v106 ||| v107)), (9, .int u), (10, .int (nI th)), (11, .int 1)]) hx hb dX11_tries_331 hl (by decide) rfl (fun ls hl => ?_)
                                refine lv_iload hx hb dX11_tries_333 (lv_at hl 0 rfl) ?_
                                refine lv_iconst (v := (-1)) hx hb dX11_tries_335 (by decide) ?_
                                refine lv_icmp_ne (tgt := 346) hx hb dX11_tries_336 (by decide) (fun c_336 => ?_) (fun c_336 => ?_)
                                · refine lv_iconst (v := 0) hx hb dX11_tries_346 (by decide) ?_
                                  refine lv_istore (lv' := [(10, .int 0), (12, .int (fo o9122)), (0, .ref (g 315)), (1, .int (nI t)), (2, .int (nI to)), (6, .int v62), (8, .int (v106 ||| v107)), (9, .int u), (11, .int 1)]) hx hb dX11_tries_347 hl (by decide) rfl (fun ls hl => ?_)
                                  refine lv_iload hx hb dX11_tries_349 (lv_at hl 1 rfl) ?_
                                  refine lv_iconst (v := (-1)) hx hb dX11_tries_351 (by decide) ?_
                                  refine lv_icmp_eq (tgt := 388) hx hb dX11_tries_352 (by decide) (fun c_352 => absurd c_352 (c_336)) (fun c_352 => ?_)
                                  obtain ⟨z5, rfl⟩ : ∃ b, o9122 = some b := by
                                    cases o9122 with
                                    | none => exact absurd rfl c_336
                                    | some z => exact ⟨z, rfl⟩
                                  have hz5 := hx_77_0 z5 rfl
                                  have hlt5 : a1 ≠ q4 := fun z => by cases hx_77_1 z
                                  refine lv_aload_n hx hb dX11_tries_355 rfl (lv_at hl 2 rfl) ?_
                                  refine va_get (D := G.1) (ci := 10) (v := .ref (g 327)) (C := RX11) (T := TX11) (N := 25) hx hb hts inlX11 hown hG.1 hP 315 (wl_at (by decide) hmo) rfl 19 (by decide) (hts (.fieldLink RX11 45 "SwornListsModel" "slips" "[I") w_123) (fun _ h9 => h9) rfl dX11_tries_356 ?_
                                  refine lv_bipush (v := 30) hx hb dX11_tries_359 (by decide) ?_
                                  refine lv_iload_n hx hb dX11_tries_361 rfl (lv_at hl 4 rfl) ?_
                                  refine lv_imul hx hb dX11_tries_362 ?_
                                  refine my_bei (v := nI (30 * to)) (pk_mul 30 to) ?_
                                  refine lv_iload hx hb dX11_tries_363 (lv_at hl 1 rfl) ?_
                                  refine lv_iadd hx hb dX11_tries_365 ?_
                                  refine my_bei (v := nI (30 * to + z5)) ((nI_add (30 * to) z5).trans (congrArg nI (show (30 * to) + z5 = 30 * to + z5 by omega))) ?_
                                  refine lv_iconst (v := 3) hx hb dX11_tries_366 (by decide) ?_
                                  refine lv_iload hx hb dX11_tries_367 (lv_at hl 8 rfl) ?_
                                  refine lv_iadd hx hb dX11_tries_369 ?_
                                  refine my_bei (v := 4) (by decide) ?_
                                  refine va_iast hx hb hG.1 hP (wl_D hg f_72) hS 327 0 (wl_at (by decide) hsl_) rfl (vp_in_nI (by omega) (by decide)) dX11_tries_370 (fun H locs hP _ hS => ?_)
                                  have hP := (congrArg (fun z9 => va_P G.1 vwCl ((wl g f_72).set 327 (g 327, eI G 330 ((upd sl4 z9 4)))) H) (show Int32.toNatClampNeg (nI (30 * to + z5)) = 30 * to + z5 from nI_clamp (by omega))).mp hP
                                  obtain ⟨f_78, hP, e_78, o_78⟩ := b_put (by decide) hP
                                  have hsl_ : f_78 327 = eI G 330 (upd sl4 (30 * to + z5) 4) := e_78
                                  refine lv_aload_n hx hb dX11_tries_371 rfl (lv_at hl 2 rfl) ?_
                                  replace hmo := ((o_78 315 (by decide))).trans hmo
                                  refine va_get (D := G.1) (ci := 10) (v := .ref (g 328)) (C := RX11) (T := TX11) (N := 25) hx hb hts inlX11 hown hG.1 hP 315 (wl_at (by decide) hmo) rfl 20 (by decide) (hts (.fieldLink RX11 48 "SwornListsModel" "abouts" "[I") w_124) (fun _ h9 => h9) rfl dX11_tries_372 ?_
                                  refine lv_iconst (v := 4) hx hb dX11_tries_375 (by decide) ?_
                                  refine lv_iload_n hx hb dX11_tries_376 rfl (lv_at hl 4 rfl) ?_
                                  refine lv_imul hx hb dX11_tries_377 ?_
                                  refine my_bei (v := nI (4 * to)) (pk_mul 4 to) ?_
                                  refine lv_iconst (v := 1) hx hb dX11_tries_378 (by decide) ?_
                                  refine lv_iadd hx hb dX11_tries_379 ?_
                                  refine my_bei (v := nI (4 * to + 1)) ((nI_add (4 * to) 1).trans (congrArg nI (show (4 * to) + 1 = 4 * to + 1 by omega))) ?_
                                  refine lv_iload hx hb dX11_tries_380 (lv_at hl 8 rfl) ?_
                                  refine lv_iadd hx hb dX11_tries_382 ?_
                                  refine my_bei (v := nI (4 * to + 2)) ((nI_add (4 * to + 1) 1).trans (congrArg nI (show (4 * to + 1) + 1 = 4 * to + 2 by omega))) ?_
                                  refine lv_dup2_11 hx hb dX11_tries_383 rfl rfl ?_
                                  replace hax_ := ((o_78 328 (by decide))).trans hax_
                                  refine va_iald hx hb hG.1 hP 328 0 (wl_at (by decide) hax_) rfl (vp_in_nI (by omega) (by decide)) dX11_tries_384 ?_
                                  refine my_bei (v := ax4 (4 * to + 2)) (congrArg ax4 (nI_clamp (n := 4 * to + 2) (by omega))) ?_
                                  refine my_bei (v := nI a1) (ha1) ?_
                                  refine lv_iconst (v := 1) hx hb dX11_tries_385 (by decide) ?_
                                  refine lv_iadd hx hb dX11_tries_386 ?_
                                  refine my_bei (v := nI (a1 + 1)) (nI_add a1 1) ?_
                                  refine va_iast hx hb hG.1 hP (wl_D hg f_78) hS 328 0 (wl_at (by decide) hax_) rfl (vp_in_nI (by omega) (by decide)) dX11_tries_387 (fun H locs hP _ hS => ?_)
                                  have hP := (congrArg (fun z9 => va_P G.1 vwCl ((wl g f_78).set 328 (g 328, eI G 44 ((upd ax4 z9 (nI (a1 + 1)))))) H) (show Int32.toNatClampNeg (nI (4 * to + 2)) = 4 * to + 2 from nI_clamp (by omega))).mp hP
                                  obtain ⟨f_79, hP, e_79, o_79⟩ := b_put (by decide) hP
                                  have hax_ : f_79 328 = eI G 44 (upd ax4 (4 * to + 2) (nI (a1 + 1))) := e_79
                                  refine lv_iconst (v := 1) hx hb dX11_tries_388 (by decide) ?_
                                  refine lv_iload hx hb dX11_tries_389 (lv_at hl 8 rfl) ?_
                                  refine lv_isub hx hb dX11_tries_391 ?_
                                  refine my_bei (v := 0) (by decide) ?_
                                  refine lv_istore (lv' := [(11, .int 0), (10, .int 0), (12, .int (nI z5)), (0, .ref (g 315)), (1, .int (nI t)), (2, .int (nI to)), (6, .int v62), (8, .int (v106 ||| v107)), (9, .int u)]) hx hb dX11_tries_392 hl (by decide) rfl (fun ls hl => ?_)
                                  refine lv_goto (tgt := 317) hx hb dX11_tries_394 (by decide) ?_
                                  replace hmo := ((o_79 315 (by decide))).trans hmo
                                  replace hss_ := ((o_79 316 (by decide)).trans ((o_78 316 (by decide)))).trans hss_
                                  replace hsp_ := ((o_79 319 (by decide)).trans ((o_78 319 (by decide)))).trans hsp_
                                  replace hwi_ := ((o_79 320 (by decide)).trans ((o_78 320 (by decide)))).trans hwi_
                                  replace hwa_ := ((o_79 321 (by decide)).trans ((o_78 321 (by decide)))).trans hwa_
                                  replace hva_ := ((o_79 322 (by decide)).trans ((o_78 322 (by decide)))).trans hva_
                                  replace hbo_ := ((o_79 323 (by decide)).trans ((o_78 323 (by decide)))).trans hbo_
                                  replace hju_ := ((o_79 324 (by decide)).trans ((o_78 324 (by decide)))).trans hju_
                                  replace hdr_ := ((o_79 325 (by decide)).trans ((o_78 325 (by decide)))).trans hdr_
                                  replace hdn_ := ((o_79 326 (by decide)).trans ((o_78 326 (by decide)))).trans hdn_
                                  replace hsl_ := ((o_79 327 (by decide))).trans hsl_
                                  replace hlf_ := ((o_79 329 (by decide)).trans ((o_78 329 (by decide)))).trans hlf_
                                  exact ih_117 0 0 a0 (a1 + 1) (upd sl4 (30 * to + z5) 4) (upd ax4 (4 * to + 2) (nI (a1 + 1))) f_79 _ _ _ (by omega) (by omega) (by omega) (by omega) ((pk_un (by omega)).trans ha0) (pk_us) (by omega) (hmo) (hss_) (hsp_) (hwi_) (hwa_) (hva_) (hbo_) (hju_) (hdr_) (hdn_) (hsl_) (hax_) (hlf_) (fun j hj => (((o_79 j (by omega))).trans (o_78 j (by omega))).trans (o_72 j (by omega))) hP hS (lv_sub hl [3, 4, 5, 6, 7, 8, 1, 0] rfl)
                                · refine lv_iload hx hb dX11_tries_339 (lv_at hl 7 rfl) ?_
                                  refine lv_iconst (v := 1) hx hb dX11_tries_341 (by decide) ?_
                                  refine lv_iadd hx hb dX11_tries_342 ?_
                                  refine my_bei (v := nI (th + 1)) (nI_add th 1) ?_
                                  refine lv_goto (tgt := 347) hx hb dX11_tries_343 (by decide) ?_
                                  refine lv_istore (lv' := [(10, .int (nI (th + 1))), (12, .int (fo o9122)), (0, .ref (g 315)), (1, .int (nI t)), (2, .int (nI to)), (6, .int v62), (8, .int (v106 ||| v107)), (9, .int u), (11, .int 1)]) hx hb dX11_tries_347 hl (by decide) rfl (fun ls hl => ?_)
                                  refine lv_iload hx hb dX11_tries_349 (lv_at hl 1 rfl) ?_
                                  refine lv_iconst (v := (-1)) hx hb dX11_tries_351 (by decide) ?_
                                  refine lv_icmp_eq (tgt := 388) hx hb dX11_tries_352 (by decide) (fun c_352 => ?_) (fun c_352 => absurd (c_336) c_352)
                                  refine lv_iconst (v := 1) hx hb dX11_tries_388 (by decide) ?_
                                  refine lv_iload hx hb dX11_tries_389 (lv_at hl 8 rfl) ?_
                                  refine lv_isub hx hb dX11_tries_391 ?_
                                  refine my_bei (v := 0) (by decide) ?_
                                  refine lv_istore (lv' := [(11, .int 0), (10, .int (nI (th + 1))), (12, .int (fo o9122)), (0, .ref (g 315)), (1, .int (nI t)), (2, .int (nI to)), (6, .int v62), (8, .int (v106 ||| v107)), (9, .int u)]) hx hb dX11_tries_392 hl (by decide) rfl (fun ls hl => ?_)
                                  refine lv_goto (tgt := 317) hx hb dX11_tries_394 (by decide) ?_
                                  exact ih_117 (th + 1) 0 a0 a1 sl4 ax4 f_72 _ _ _ (by omega) (by omega) (by omega) (by omega) (ha0) (ha1) (by omega) (hmo) (hss_) (hsp_) (hwi_) (hwa_) (hva_) (hbo_) (hju_) (hdr_) (hdn_) (hsl_) (hax_) (hlf_) (fun j hj => (o_72 j (by omega))) hP hS (lv_sub hl [3, 4, 5, 6, 7, 8, 1, 0] rfl)
                        exact key117 ((3 * (2 * q4) + 2) + 1) 0 0 0 0 sl3 (upd (upd (upd ax9112 (4 * to) 0) (4 * to + 1) 0) (4 * to + 2) 0) f_71 _ _ _ (Nat.zero_le _) (by omega) (Nat.zero_le _) (Nat.zero_le _) ((pk_un (by omega)).trans pk_us) (pk_us) (by omega) (hmo) (hss_) (hsp_) (hwi_) (hwa_) (hva_) (hbo_) (hju_) (hdr_) (hdn_) (hsl_) (hax_) (hlf_) (fun j _ => rfl) hP hS (lv_sub hl [2, 3, 4, 5, 6, 7, 1, 0] rfl)
                      · have k_223 : ¬ d9114 ≤ i3 := fun z9 => c_223 ((nI_leI (a := d9114) (b := i3) (by omega) (by omega)).mpr z9)
                        refine lv_aload_n hx hb dX11_tries_226 rfl (lv_at hl 0 rfl) ?_
                        refine va_get (D := G.1) (ci := 10) (v := .ref (g 325)) (C := RX11) (T := TX11) (N := 25) hx hb hts inlX11 hown hG.1 hP 315 (wl_at (by decide) hmo) rfl 17 (by decide) (hts (.fieldLink RX11 39 "SwornListsModel" "drew" "[I") w_121) (fun _ h9 => h9) rfl dX11_tries_227 ?_
                        refine lv_bipush (v := 24) hx hb dX11_tries_230 (by decide) ?_
                        refine lv_iload_n hx hb dX11_tries_232 rfl (lv_at hl 2 rfl) ?_
                        refine lv_imul hx hb dX11_tries_233 ?_
                        refine my_bei (v := nI (24 * to)) (pk_mul 24 to) ?_
                        refine lv_iload hx hb dX11_tries_234 (lv_at hl 6 rfl) ?_
                        refine lv_iadd hx hb dX11_tries_236 ?_
                        refine my_bei (v := nI (i3 + 24 * to)) ((nI_add (24 * to) i3).trans (congrArg nI (show (24 * to) + i3 = i3 + 24 * to by omega))) ?_
                        obtain ⟨z1, hz1, ez1⟩ := hx_66_3 i3 (by omega)
                        refine va_iald hx hb hG.1 hP 325 0 (wl_at (by decide) hdr_) rfl (vp_in_nI (by omega) (by decide)) dX11_tries_237 ?_
                        refine my_bei (v := dr9110 (i3 + 24 * to)) (congrArg dr9110 (nI_clamp (n := i3 + 24 * to) (by omega))) ?_
                        refine my_bei (v := nI z1) (ez1) ?_
                        refine lv_istore (lv' := [(11, .int (nI z1)), (0, .ref (g 315)), (1, .int (nI t)), (2, .int (nI to)), (6, .int v62), (8, .int (v106 ||| v107)), (9, .int u), (10, .int (nI i3))]) hx hb dX11_tries_238 hl (by decide) rfl (fun ls hl => ?_)
                        refine lv_aload_n hx hb dX11_tries_240 rfl (lv_at hl 1 rfl) ?_
                        refine va_get (D := G.1) (ci := 10) (v := .ref (g 327)) (C := RX11) (T := TX11) (N := 25) hx hb hts inlX11 hown hG.1 hP 315 (wl_at (by decide) hmo) rfl 19 (by decide) (hts (.fieldLink RX11 45 "SwornListsModel" "slips" "[I") w_123) (fun _ h9 => h9) rfl dX11_tries_241 ?_
                        refine lv_bipush (v := 30) hx hb dX11_tries_244 (by decide) ?_
                        refine lv_iload_n hx hb dX11_tries_246 rfl (lv_at hl 3 rfl) ?_
                        refine lv_imul hx hb dX11_tries_247 ?_
                        refine my_bei (v := nI (30 * to)) (pk_mul 30 to) ?_
                        refine lv_iload hx hb dX11_tries_248 (lv_at hl 0 rfl) ?_
                        refine lv_iadd hx hb dX11_tries_250 ?_
                        refine my_bei (v := nI (30 * to + z1)) ((nI_add (30 * to) z1).trans (congrArg nI (show (30 * to) + z1 = 30 * to + z1 by omega))) ?_
                        refine lv_aload_n hx hb dX11_tries_251 rfl (lv_at hl 1 rfl) ?_
                        refine lv_iload_n hx hb dX11_tries_252 rfl (lv_at hl 2 rfl) ?_
                        refine lv_bipush (v := 9) hx hb dX11_tries_253 (by decide) ?_
                        refine rd_calli (va_runV (As := [.int (nI t), .int 9]) (rest := [.int (nI (30 * to + z1)), .ref (g 327)]) ⟨hx, hb, hml, hown, hts⟩ (r_ofTrial l G g hg f_68 ab2 be2 sn998 wn999 sa9100 ly9101 rdy (nI fd) ss t 9 hmo hss_ (by first | assumption | omega | decide)) (my_cwV hts ok_X11_ofTrial w_532 rfl rfl ⟨Nat.le_of_ble_eq_true rfl, Nat.le_of_ble_eq_true rfl⟩) ⟨bP.blind, va_recv hG.1 hP (ci := 10) (q0 := 315) rfl (wl_at (by decide) hmo), fun U hU hW => ⟨rfl, by rw [hU]; exact hP, kG.warm hW hG⟩⟩ rfl rfl hl.1 rfl (lv_room (Nat.le_of_ble_eq_true rfl)) dX11_tries_255 ⟨Nat.le_of_ble_eq_true rfl, Nat.le_of_ble_eq_true rfl⟩) (fun r hr9 => ?_)
                        subst hr9
                        refine my_bei (v := ss (10 * t + 1555)) (congrArg ss (show 10 * t + 9 + 1546 = 10 * t + 1555 by omega)) ?_
                        refine lv_iload hx hb dX11_tries_258 (lv_at hl 0 rfl) ?_
                        refine lv_ishr hx hb dX11_tries_260 ?_
                        refine lv_iconst (v := 1) hx hb dX11_tries_261 (by decide) ?_
                        refine lv_iand hx hb dX11_tries_262 ?_
                        refine lv_iconst (v := 1) hx hb dX11_tries_263 (by decide) ?_
                        refine lv_icmp_ne (tgt := 271) hx hb dX11_tries_264 (by decide) (fun c_264 => ?_) (fun c_264 => ?_)
                        · refine lv_bipush (v := 6) hx hb dX11_tries_271 (by decide) ?_
                          refine va_iast hx hb hG.1 hP (wl_D hg f_68) hS 327 0 (wl_at (by decide) hsl_) rfl (vp_in_nI (by omega) (by decide)) dX11_tries_273 (fun H locs hP _ hS => ?_)
                          have hP := (congrArg (fun z9 => va_P G.1 vwCl ((wl g f_68).set 327 (g 327, eI G 330 ((upd sl3 z9 6)))) H) (show Int32.toNatClampNeg (nI (30 * to + z1)) = 30 * to + z1 from nI_clamp (by omega))).mp hP
                          obtain ⟨f_80, hP, e_80, o_80⟩ := b_put (by decide) hP
                          have hsl_ : f_80 327 = eI G 330 (upd sl3 (30 * to + z1) 6) := e_80
                          refine lv_iinc (v := nI (i3 + 1)) (lv' := [(10, .int (nI (i3 + 1))), (11, .int (nI z1)), (0, .ref (g 315)), (1, .int (nI t)), (2, .int (nI to)), (6, .int v62), (8, .int (v106 ||| v107)), (9, .int u)]) hx hb dX11_tries_274 hl (k := 7) rfl (nI_add i3 1) (by decide) rfl (fun ls hl => ?_)
                          refine lv_goto (tgt := 215) hx hb dX11_tries_277 (by decide) ?_
                          replace hmo := ((o_80 315 (by decide))).trans hmo
                          replace hss_ := ((o_80 316 (by decide))).trans hss_
                          replace hsp_ := ((o_80 319 (by decide))).trans hsp_
                          replace hwi_ := ((o_80 320 (by decide))).trans hwi_
                          replace hwa_ := ((o_80 321 (by decide))).trans hwa_
                          replace hva_ := ((o_80 322 (by decide))).trans hva_
                          replace hbo_ := ((o_80 323 (by decide))).trans hbo_
                          replace hju_ := ((o_80 324 (by decide))).trans hju_
                          replace hdr_ := ((o_80 325 (by decide))).trans hdr_
                          replace hdn_ := ((o_80 326 (by decide))).trans hdn_
                          replace hax_ := ((o_80 328 (by decide))).trans hax_
                          replace hlf_ := ((o_80 329 (by decide))).trans hlf_
                          exact ih_116 (i3 + 1) (upd sl3 (30 * to + z1) 6) f_80 _ _ _ (by omega) (by omega) (hmo) (hss_) (hsp_) (hwi_) (hwa_) (hva_) (hbo_) (hju_) (hdr_) (hdn_) (hsl_) (hax_) (hlf_) (fun j hj => ((o_80 j (by omega))).trans (o_68 j (by omega))) hP hS (lv_sub hl [2, 3, 4, 5, 6, 7, 0] rfl)
                        · refine lv_iconst (v := 2) hx hb dX11_tries_267 (by decide) ?_
                          refine lv_goto (tgt := 273) hx hb dX11_tries_268 (by decide) ?_
                          refine va_iast hx hb hG.1 hP (wl_D hg f_68) hS 327 0 (wl_at (by decide) hsl_) rfl (vp_in_nI (by omega) (by decide)) dX11_tries_273 (fun H locs hP _ hS => ?_)
                          have hP := (congrArg (fun z9 => va_P G.1 vwCl ((wl g f_68).set 327 (g 327, eI G 330 ((upd sl3 z9 2)))) H) (show Int32.toNatClampNeg (nI (30 * to + z1)) = 30 * to + z1 from nI_clamp (by omega))).mp hP
                          obtain ⟨f_81, hP, e_81, o_81⟩ := b_put (by decide) hP
                          have hsl_ : f_81 327 = eI G 330 (upd sl3 (30 * to + z1) 2) := e_81
                          refine lv_iinc (v := nI (i3 + 1)) (lv' := [(10, .int (nI (i3 + 1))), (11, .int (nI z1)), (0, .ref (g 315)), (1, .int (nI t)), (2, .int (nI to)), (6, .int v62), (8, .int (v106 ||| v107)), (9, .int u)]) hx hb dX11_tries_274 hl (k := 7) rfl (nI_add i3 1) (by decide) rfl (fun ls hl => ?_)
                          refine lv_goto (tgt := 215) hx hb dX11_tries_277 (by decide) ?_
                          replace hmo := ((o_81 315 (by decide))).trans hmo
                          replace hss_ := ((o_81 316 (by decide))).trans hss_
                          replace hsp_ := ((o_81 319 (by decide))).trans hsp_
                          replace hwi_ := ((o_81 320 (by decide))).trans hwi_
                          replace hwa_ := ((o_81 321 (by decide))).trans hwa_
                          replace hva_ := ((o_81 322 (by decide))).trans hva_
                          replace hbo_ := ((o_81 323 (by decide))).trans hbo_
                          replace hju_ := ((o_81 324 (by decide))).trans hju_
                          replace hdr_ := ((o_81 325 (by decide))).trans hdr_
                          replace hdn_ := ((o_81 326 (by decide))).trans hdn_
                          replace hax_ := ((o_81 328 (by decide))).trans hax_
                          replace hlf_ := ((o_81 329 (by decide))).trans hlf_
                          exact ih_116 (i3 + 1) (upd sl3 (30 * to + z1) 2) f_81 _ _ _ (by omega) (by omega) (hmo) (hss_) (hsp_) (hwi_) (hwa_) (hva_) (hbo_) (hju_) (hdr_) (hdn_) (hsl_) (hax_) (hlf_) (fun j hj => ((o_81 j (by omega))).trans (o_68 j (by omega))) hP hS (lv_sub hl [2, 3, 4, 5, 6, 7, 0] rfl)
                  exact key116 (d9114 + 1) 0 sl2 f_67 _ _ _ (Nat.zero_le _) (by omega) (hmo) (hss_) (hsp_) (hwi_) (hwa_) (hva_) (hbo_) (hju_) (hdr_) (hdn_) (hsl_) (hax_) (hlf_) (fun j _ => rfl) hP hS (lv_sub hl [1, 2, 3, 4, 5, 6, 0] rfl)
                · have k_184 : ¬ 30 ≤ i2 := fun z9 => c_184 ((nI_leI (a := 30) (b := i2) (by omega) (by omega)).mpr z9)
                  refine lv_aload_n hx hb dX11_tries_187 rfl (lv_at hl 0 rfl) ?_
                  refine va_get (D := G.1) (ci := 10) (v := .ref (g 327)) (C := RX11) (T := TX11) (N := 25) hx hb hts inlX11 hown hG.1 hP 315 (wl_at (by decide) hmo) rfl 19 (by decide) (hts (.fieldLink RX11 45 "SwornListsModel" "slips" "[I") w_123) (fun _ h9 => h9) rfl dX11_tries_188 ?_
                  refine lv_bipush (v := 30) hx hb dX11_tries_191 (by decide) ?_
                  refine lv_iload_n hx hb dX11_tries_193 rfl (lv_at hl 2 rfl) ?_
                  refine lv_imul hx hb dX11_tries_194 ?_
                  refine my_bei (v := nI (30 * to)) (pk_mul 30 to) ?_
                  refine lv_iload hx hb dX11_tries_195 (lv_at hl 6 rfl) ?_
                  refine lv_iadd hx hb dX11_tries_197 ?_
                  refine my_bei (v := nI (i2 + 30 * to)) ((nI_add (30 * to) i2).trans (congrArg nI (show (30 * to) + i2 = i2 + 30 * to by omega))) ?_
                  refine lv_iload hx hb dX11_tries_198 (lv_at hl 5 rfl) ?_
                  refine lv_iload hx hb dX11_tries_200 (lv_at hl 6 rfl) ?_
                  refine lv_ishr hx hb dX11_tries_202 ?_
                  refine lv_iconst (v := 1) hx hb dX11_tries_203 (by decide) ?_
                  refine lv_iand hx hb dX11_tries_204 ?_
                  refine va_iast hx hb hG.1 hP (wl_D hg f_67) hS 327 0 (wl_at (by decide) hsl_) rfl (vp_in_nI (by omega) (by decide)) dX11_tries_205 (fun H locs hP _ hS => ?_)
                  have hP := (congrArg (fun z9 => va_P G.1 vwCl ((wl g f_67).set 327 (g 327, eI G 330 ((upd sl2 z9 ((u >>> ((nI i2) &&& 31)) &&& 1))))) H) (show Int32.toNatClampNeg (nI (i2 + 30 * to)) = i2 + 30 * to from nI_clamp (by omega))).mp hP
                  obtain ⟨f_82, hP, e_82, o_82⟩ := b_put (by decide) hP
                  have hsl_ : f_82 327 = eI G 330 (upd sl2 (i2 + 30 * to) ((u >>> ((nI i2) &&& 31)) &&& 1)) := e_82
                  refine lv_iinc (v := nI (i2 + 1)) (lv' := [(10, .int (nI (i2 + 1))), (0, .ref (g 315)), (1, .int (nI t)), (2, .int (nI to)), (6, .int v62), (8, .int (v106 ||| v107)), (9, .int u)]) hx hb dX11_tries_206 hl (k := 6) rfl (nI_add i2 1) (by decide) rfl (fun ls hl => ?_)
                  refine lv_goto (tgt := 180) hx hb dX11_tries_209 (by decide) ?_
                  replace hmo := ((o_82 315 (by decide))).trans hmo
                  replace hss_ := ((o_82 316 (by decide))).trans hss_
                  replace hsp_ := ((o_82 319 (by decide))).trans hsp_
                  replace hwi_ := ((o_82 320 (by decide))).trans hwi_
                  replace hwa_ := ((o_82 321 (by decide))).trans hwa_
                  replace hva_ := ((o_82 322 (by decide))).trans hva_
                  replace hbo_ := ((o_82 323 (by decide))).trans hbo_
                  replace hju_ := ((o_82 324 (by decide))).trans hju_
                  replace hdr_ := ((o_82 325 (by decide))).trans hdr_
                  replace hdn_ := ((o_82 326 (by decide))).trans hdn_
                  replace hax_ := ((o_82 328 (by decide))).trans hax_
                  replace hlf_ := ((o_82 329 (by decide))).trans hlf_
                  exact ih_115 (i2 + 1) (upd sl2 (i2 + 30 * to) ((u >>> ((nI i2) &&& 31)) &&& 1)) f_82 _ _ _ (by omega) (by omega) (hmo) (hss_) (hsp_) (hwi_) (hwa_) (hva_) (hbo_) (hju_) (hdr_) (hdn_) (hsl_) (hax_) (hlf_) (fun j hj => ((o_82 j (by omega))).trans (o_67 j (by omega))) hP hS (lv_sub hl [1, 2, 3, 4, 5, 6, 0] rfl)
            exact key115 (30 + 1) 0 sl f_66 _ _ _ (Nat.zero_le _) (by omega) (hmo) (hss_) (hsp_) (hwi_) (hwa_) (hva_) (hbo_) (hju_) (hdr_) (hdn_) (hsl_) (hax_) (hlf_) (fun j _ => rfl) hP hS (lv_sub hl [1, 2, 3, 4, 5, 6, 0] rfl)
          · have k_94 : ¬ np ≤ i := fun z9 => c_94 ((nI_leI (a := np) (b := i) (by omega) (by omega)).mpr z9)
            refine lv_aload_n hx hb dX11_tries_97 rfl (lv_at hl 0 rfl) ?_
            refine lv_iload_n hx hb dX11_tries_98 rfl (lv_at hl 1 rfl) ?_
            refine lv_iconst (v := 5) hx hb dX11_tries_99 (by decide) ?_
            refine rd_calli (va_runV (As := [.int (nI t), .int 5]) (rest := []) ⟨hx, hb, hml, hown, hts⟩ (r_ofTrial l G g hg f_64 ab2 be2 sn998 wn999 sa9100 ly9101 rdy (nI fd) ss t 5 hmo hss_ (by first | assumption | omega | decide)) (my_cwV hts ok_X11_ofTrial w_532 rfl rfl ⟨Nat.le_of_ble_eq_true rfl, Nat.le_of_ble_eq_true rfl⟩) ⟨bP.blind, va_recv hG.1 hP (ci := 10) (q0 := 315) rfl (wl_at (by decide) hmo), fun U hU hW => ⟨rfl, by rw [hU]; exact hP, kG.warm hW hG⟩⟩ rfl rfl hl.1 rfl (lv_room (Nat.le_of_ble_eq_true rfl)) dX11_tries_100 ⟨Nat.le_of_ble_eq_true rfl, Nat.le_of_ble_eq_true rfl⟩) (fun r hr9 => ?_)
            subst hr9
            refine my_bei (v := ss (10 * t + 1551)) (congrArg ss (show 10 * t + 5 + 1546 = 10 * t + 1551 by omega)) ?_
            refine lv_iconst (v := (-1)) hx hb dX11_tries_103 (by decide) ?_
            refine lv_icmp_eq (tgt := 134) hx hb dX11_tries_104 (by decide) (fun c_104 => ?_) (fun c_104 => ?_)
            · refine lv_iconst (v := 0) hx hb dX11_tries_134 (by decide) ?_
              refine lv_istore (lv' := [(11, .int 0), (0, .ref (g 315)), (1, .int (nI t)), (2, .int (nI to)), (6, .int v62), (8, .int (v106 ||| v107)), (9, .int u), (10, .int (nI i))]) hx hb dX11_tries_135 hl (by decide) rfl (fun ls hl => ?_)
              refine lv_iload hx hb dX11_tries_137 (lv_at hl 6 rfl) ?_
              refine lv_iload hx hb dX11_tries_139 (lv_at hl 0 rfl) ?_
              refine lv_if_eq (tgt := 153) hx hb dX11_tries_141 (by decide) (fun c_141 => ?_) (fun c_141 => absurd (by decide) c_141)
              refine lv_iconst (v := (-1)) hx hb dX11_tries_153 (by decide) ?_
              refine lv_iand hx hb dX11_tries_154 ?_
              refine lv_istore (lv' := [(9, .int (u &&& (-1))), (11, .int 0), (0, .ref (g 315)), (1, .int (nI t)), (2, .int (nI to)), (6, .int v62), (8, .int (v106 ||| v107)), (10, .int (nI i))]) hx hb dX11_tries_155 hl (by decide) rfl (fun ls hl => ?_)
              refine lv_iinc (v := nI (i + 1)) (lv' := [(10, .int (nI (i + 1))), (9, .int (u &&& (-1))), (11, .int 0), (0, .ref (g 315)), (1, .int (nI t)), (2, .int (nI to)), (6, .int v62), (8, .int (v106 ||| v107))]) hx hb dX11_tries_157 hl (k := 7) rfl (nI_add i 1) (by decide) rfl (fun ls hl => ?_)
              refine lv_goto (tgt := 86) hx hb dX11_tries_160 (by decide) ?_
              exact ih_109 (i + 1) (u &&& (-1)) f_64 _ _ _ (by omega) (by omega) (hmo) (hss_) (hsp_) (hwi_) (hwa_) (hva_) (hbo_) (hju_) (hdr_) (hdn_) (hsl_) (hax_) (hlf_) (fun j hj => (o_64 j (by omega))) hP hS (lv_sub hl [3, 4, 5, 6, 7, 1, 0] rfl)
            · refine lv_aload_n hx hb dX11_tries_107 rfl (lv_at hl 0 rfl) ?_
              refine va_get (D := G.1) (ci := 10) (v := .ref (g 316)) (C := RX11) (T := TX11) (N := 25) hx hb hts inlX11 hown hG.1 hP 315 (wl_at (by decide) hmo) rfl 0 (by decide) (hts (.fieldLink RX11 7 "SwornListsModel" "st" "[I") w_112) (fun _ h9 => h9) rfl dX11_tries_108 ?_
              refine lv_bipush (v := 10) hx hb dX11_tries_111 (by decide) ?_
              refine lv_iconst (v := 4) hx hb dX11_tries_113 (by decide) ?_
              refine lv_iload hx hb dX11_tries_114 (lv_at hl 6 rfl) ?_
              refine lv_imul hx hb dX11_tries_116 ?_
              refine my_bei (v := nI (4 * i)) (pk_mul 4 i) ?_
              refine lv_iadd hx hb dX11_tries_117 ?_
              refine my_bei (v := nI (4 * i + 10)) ((nI_add 10 (4 * i)).trans (congrArg nI (show 10 + (4 * i) = 4 * i + 10 by omega))) ?_
              refine lv_iconst (v := 1) hx hb dX11_tries_118 (by decide) ?_
              refine lv_iadd hx hb dX11_tries_119 ?_
              refine my_bei (v := nI (4 * i + 11)) ((nI_add (4 * i + 10) 1).trans (congrArg nI (show (4 * i + 10) + 1 = 4 * i + 11 by omega))) ?_
              refine va_iald hx hb hG.1 hP 316 0 (wl_at (by decide) hss_) rfl (vp_in_nI (by omega) (by decide)) dX11_tries_120 ?_
              refine my_bei (v := ss (4 * i + 11)) (congrArg ss (nI_clamp (n := 4 * i + 11) (by omega))) ?_
              refine lv_aload_n hx hb dX11_tries_121 rfl (lv_at hl 0 rfl) ?_
              refine lv_iload_n hx hb dX11_tries_122 rfl (lv_at hl 1 rfl) ?_
              refine lv_iconst (v := 5) hx hb dX11_tries_123 (by decide) ?_
              refine rd_calli (va_runV (As := [.int (nI t), .int 5]) (rest := [.int (ss (4 * i + 11))]) ⟨hx, hb, hml, hown, hts⟩ (r_ofTrial l G g hg f_64 ab2 be2 sn998 wn999 sa9100 ly9101 rdy (nI fd) ss t 5 hmo hss_ (by first | assumption | omega | decide)) (my_cwV hts ok_X11_ofTrial w_532 rfl rfl ⟨Nat.le_of_ble_eq_true rfl, Nat.le_of_ble_eq_true rfl⟩) ⟨bP.blind, va_recv hG.1 hP (ci := 10) (q0 := 315) rfl (wl_at (by decide) hmo), fun U hU hW => ⟨rfl, by rw [hU]; exact hP, kG.warm hW hG⟩⟩ rfl rfl hl.1 rfl (lv_room (Nat.le_of_ble_eq_true rfl)) dX11_tries_124 ⟨Nat.le_of_ble_eq_true rfl, Nat.le_of_ble_eq_true rfl⟩) (fun r hr9 => ?_)
              subst hr9
              refine my_bei (v := ss (10 * t + 1551)) (congrArg ss (show 10 * t + 5 + 1546 = 10 * t + 1551 by omega)) ?_
              refine lv_icmp_eq (tgt := 134) hx hb dX11_tries_127 (by decide) (fun c_127 => ?_) (fun c_127 => ?_)
              · refine lv_iconst (v := 0) hx hb dX11_tries_134 (by decide) ?_
                refine lv_istore (lv' := [(11, .int 0), (0, .ref (g 315)), (1, .int (nI t)), (2, .int (nI to)), (6, .int v62), (8, .int (v106 ||| v107)), (9, .int u), (10, .int (nI i))]) hx hb dX11_tries_135 hl (by decide) rfl (fun ls hl => ?_)
                refine lv_iload hx hb dX11_tries_137 (lv_at hl 6 rfl) ?_
                refine lv_iload hx hb dX11_tries_139 (lv_at hl 0 rfl) ?_
                refine lv_if_eq (tgt := 153) hx hb dX11_tries_141 (by decide) (fun c_141 => ?_) (fun c_141 => absurd (by decide) c_141)
                refine lv_iconst (v := (-1)) hx hb dX11_tries_153 (by decide) ?_
                refine lv_iand hx hb dX11_tries_154 ?_
                refine lv_istore (lv' := [(9, .int (u &&& (-1))), (11, .int 0), (0, .ref (g 315)), (1, .int (nI t)), (2, .int (nI to)), (6, .int v62), (8, .int (v106 ||| v107)), (10, .int (nI i))]) hx hb dX11_tries_155 hl (by decide) rfl (fun ls hl => ?_)
                refine lv_iinc (v := nI (i + 1)) (lv' := [(10, .int (nI (i + 1))), (9, .int (u &&& (-1))), (11, .int 0), (0, .ref (g 315)), (1, .int (nI t)), (2, .int (nI to)), (6, .int v62), (8, .int (v106 ||| v107))]) hx hb dX11_tries_157 hl (k := 7) rfl (nI_add i 1) (by decide) rfl (fun ls hl => ?_)
                refine lv_goto (tgt := 86) hx hb dX11_tries_160 (by decide) ?_
                exact ih_109 (i + 1) (u &&& (-1)) f_64 _ _ _ (by omega) (by omega) (hmo) (hss_) (hsp_) (hwi_) (hwa_) (hva_) (hbo_) (hju_) (hdr_) (hdn_) (hsl_) (hax_) (hlf_) (fun j hj => (o_64 j (by omega))) hP hS (lv_sub hl [3, 4, 5, 6, 7, 1, 0] rfl)
              · refine lv_iconst (v := 1) hx hb dX11_tries_130 (by decide) ?_
                refine lv_goto (tgt := 135) hx hb dX11_tries_131 (by decide) ?_
                refine lv_istore (lv' := [(11, .int 1), (0, .ref (g 315)), (1, .int (nI t)), (2, .int (nI to)), (6, .int v62), (8, .int (v106 ||| v107)), (9, .int u), (10, .int (nI i))]) hx hb dX11_tries_135 hl (by decide) rfl (fun ls hl => ?_)
                refine lv_iload hx hb dX11_tries_137 (lv_at hl 6 rfl) ?_
                refine lv_iload hx hb dX11_tries_139 (lv_at hl 0 rfl) ?_
                refine lv_if_eq (tgt := 153) hx hb dX11_tries_141 (by decide) (fun c_141 => absurd c_141 (by decide)) (fun c_141 => ?_)
                refine lv_iconst (v := 1) hx hb dX11_tries_144 (by decide) ?_
                refine lv_iload hx hb dX11_tries_145 (lv_at hl 7 rfl) ?_
                refine lv_ishl hx hb dX11_tries_147 ?_
                refine lv_iconst (v := (-1)) hx hb dX11_tries_148 (by decide) ?_
                refine lv_ixor hx hb dX11_tries_149 ?_
                refine lv_goto (tgt := 154) hx hb dX11_tries_150 (by decide) ?_
                refine lv_iand hx hb dX11_tries_154 ?_
                refine lv_istore (lv' := [(9, .int (u &&& ((1 <<< ((nI i) &&& 31)) ^^^ (-1)))), (11, .int 1), (0, .ref (g 315)), (1, .int (nI t)), (2, .int (nI to)), (6, .int v62), (8, .int (v106 ||| v107)), (10, .int (nI i))]) hx hb dX11_tries_155 hl (by decide) rfl (fun ls hl => ?_)
                refine lv_iinc (v := nI (i + 1)) (lv' := [(10, .int (nI (i + 1))), (9, .int (u &&& ((1 <<< ((nI i) &&& 31)) ^^^ (-1)))), (11, .int 1), (0, .ref (g 315)), (1, .int (nI t)), (2, .int (nI to)), (6, .int v62), (8, .int (v106 ||| v107))]) hx hb dX11_tries_157 hl (k := 7) rfl (nI_add i 1) (by decide) rfl (fun ls hl => ?_)
                refine lv_goto (tgt := 86) hx hb dX11_tries_160 (by decide) ?_
                exact ih_109 (i + 1) (u &&& ((1 <<< ((nI i) &&& 31)) ^^^ (-1))) f_64 _ _ _ (by omega) (by omega) (hmo) (hss_) (hsp_) (hwi_) (hwa_) (hva_) (hbo_) (hju_) (hdr_) (hdn_) (hsl_) (hax_) (hlf_) (fun j hj => (o_64 j (by omega))) hP hS (lv_sub hl [3, 4, 5, 6, 7, 1, 0] rfl)
      exact key109 (np + 1) 0 (((v108 &&& v62) &&& (v97 ^^^ (-1))) &&& ((v106 ||| v107) ^^^ (-1))) f_63 _ _ _ (Nat.zero_le _) (by omega) (hmo) (hss_) (hsp_) (hwi_) (hwa_) (hva_) (hbo_) (hju_) (hdr_) (hdn_) (hsl_) (hax_) (hlf_) (fun j _ => rfl) hP hS (lv_sub hl [6, 7, 8, 4, 2, 1, 0] rfl)


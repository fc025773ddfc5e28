set_option maxHeartbeats 4000000 in
set_option maxRecDepth 100000 in
theorem jn2_box (l : Launch) (G : gW) (g : Nat → Nat) (hg : gOK g) (f : Nat → va_E) (ab2 : Int64) (be2 : Int64) (sn : Int32) (wn : Int32) (sa : Int32) (ly : Int32) (rdy : Int32) (fd : Nat) (ss : Nat → Int32) (np : Nat) (nf : Nat) (nr : Nat) (na : Nat) (nt : Nat) (im : Nat → Int32) (kq : Nat → Int32) (sp : Nat → Int32) (wi : Nat → Int32) (wa : Nat → Int32) (va : Nat → Int64) (bo : Nat → Int32) (ju : Nat → Int32) (dr : Nat → Int32) (dn : Nat → Int32) (sl : Nat → Int32) (ax : Nat → Int32) (lf : Nat → Int32) (wh : Nat → Int32) (w6 : Nat → Int32) (b6 : Nat → Int32) (a1 : Int32) (hmo : f 315 = eO 10 [.ref (g 316), .ref (g 317), .ref (g 318), .long ab2, .long be2, .int sn, .ref (g 319), .ref (g 320), .int wn, .ref (g 321), .ref (g 322), .int sa, .int ly, .int rdy, .int (nI fd), .ref (g 323), .ref (g 324), .ref (g 325), .ref (g 326), .ref (g 327), .ref (g 328), .ref (g 329), .ref (g 330), .ref (g 331), .ref (g 332)]) (hss_ : f 316 = eI G 2246 ss) (him_ : f 317 = eI G 4492 im) (hkq_ : f 318 = eZ G 2 kq) (hsp_ : f 319 = eI G 70 sp) (hwi_ : f 320 = eI G 70 wi) (hwa_ : f 321 = eI G 70 wa) (hva_ : f 322 = eJ G 70 va) (hbo_ : f 323 = eI G 11 bo) (hju_ : f 324 = eI G 11 ju) (hdr_ : f 325 = eI G 264 dr) (hdn_ : f 326 = eI G 11 dn) (hsl_ : f 327 = eI G 330 sl) (hax_ : f 328 = eI G 44 ax) (hlf_ : f 329 = eI G 30 lf) (hwh_ : f 330 = eI G 6 wh) (hw6_ : f 331 = eI G 6 w6) (hb6_ : f 332 = eI G 6 b6) (hst : stOK ss np nf nr na nt) (hfo : fd ≤ 10) (hdn : ∀ k, k < 11 → ∃ d, d ≤ 24 ∧ dn k = nI d) (hi0 : stI im 0) (hi1 : stI im 2246) (hrd : ¬ rdy = 0 → fd = nt ∧ ∀ z, z < nt → rHz np nf nr na ss bo ju dr dn sl ax z) (htA : ∀ n : Nat, n ≤ 10 → ss 4 = nI n → trOK ss n) : Met l yX11_box (wsT yX11_box cX11_box 2 (some .int)) ({ frames := 8, cells := 0, slots := 0, locals := 194 }) (bP G g f [.ref (g 315), .int a1]) (bQi G g (fun (z9 : Int32) (f' : Nat → va_E) => (mJ G g f' ss im kq) ∧ (∃ p9 f9 r9 u9 t9, stOK ss p9 f9 r9 u9 t9 ∧ ((¬ inN a1 t9 = true ∧ z9 = -2) ∨ (∃ x, x < t9 ∧ a1 = nI x ∧ z9 = (rBx p9 f9 r9 u9 ss x)))) ∧ ∀ j, j < 315 → f' j = f j)) 0 0 (gA g) := by
  refine Met.ofW (cc := cX11_box) (maxL := 2) (ret := (some .int)) (by decide) rfl ?_
  intro p e s m args below meth c s₁ B hml hv
  obtain ⟨rfl, hP, hG⟩ := hv
  have hx := B.exec
  have hb := B.bytes
  have hr := B.returns
  have hts := my_hts (atoms_spec (ws := wsT yX11_box cX11_box 2 (some .int)) B.pre)
  have hown : s.vm.findClass RX11 = some m.cls := findClass_of_methodNamed B.named
  have hlocks := B.notSynchronized
  have hS : va_S (gA g) s.heap s.heap [] := va_S.rf
  have hl := lv_entry ([.ref (g 315), .int a1]) (n := 2) (Nat.le_of_ble_eq_true rfl)
  rw [lg_entry_eq]
  generalize (lg_sl ([.ref (g 315), .int a1]) ++ List.replicate (2 - (lg_sl ([.ref (g 315), .int a1])).length) Slot.unset).toArray = ls at hl ⊢
  have hl : lv_has ls 2 [(0, .ref (g 315)), (1, .int a1)] := hl
  refine W_q8 (fun Q9 hQ9 => ?_)
  have hc0 := hst.c0
  have hc1 := hst.c1
  have hc2 := hst.c2
  have hc3 := hst.c3
  have hc4 := hst.c4
  have htr := htA nt hst.c4 hst.h4
  refine lv_aload_n hx hb dX11_box_0 rfl (lv_at hl 0 rfl) ?_
  refine lv_iload_n hx hb dX11_box_1 rfl (lv_at hl 1 rfl) ?_
  refine b_calli (va_runV (As := [.int a1]) (rest := []) ⟨hx, hb, hml, hown, hts⟩ (r_isTrialE l G g hg f ab2 be2 sn wn sa ly rdy fd ss np nf nr na nt sp wi wa va bo ju dr dn sl ax lf a1 hmo hss_ hsp_ hwi_ hwa_ hva_ hbo_ hju_ hdr_ hdn_ hsl_ hax_ hlf_ (by first | assumption | omega | decide) (by first | assumption | omega | decide) (by first | assumption | omega | decide) (by first | assumption | omega | decide) (by first | assumption | omega | decide)) (my_cwV hts ok_X11_isTrial w_680 rfl rfl ⟨Nat.le_of_ble_eq_true rfl, Nat.le_of_ble_eq_true rfl⟩) ⟨bP.blind, va_recv hG.1 hP (ci := 10) (q0 := 315) rfl (wl_at (by decide) hmo), fun U hU hW => ⟨rfl, by rw [hU]; exact hP, kG.warm hW hG⟩⟩ rfl rfl hl.1 rfl (lv_room (Nat.le_of_ble_eq_true rfl)) dX11_box_2 ⟨Nat.le_of_ble_eq_true rfl, Nat.le_of_ble_eq_true rfl⟩) hS (fun v1 f_1 H locs hq9 hP hS => ?_)
  obtain ⟨sn92, wn93, sa94, ly95, sp96, wi97, wa98, va99, bo910, ju911, dr912, dn913, sl914, ax915, lf916, rdy917, fd918, rfl, hq_1_0, hq_1_1, hq_1_2, hq_1_3, hq_1_4, hq_1_5, hq_1_6, hq_1_7, hq_1_8, hq_1_9, hq_1_10, hq_1_11, hx_1_0, hx_1_1, hx_1_2, hx_1_3, hx_1_4, o_1⟩ := hq9
  have hmo : f_1 315 = eO 10 [.ref (g 316), .ref (g 317), .ref (g 318), .long ab2, .long be2, .int sn92, .ref (g 319), .ref (g 320), .int wn93, .ref (g 321), .ref (g 322), .int sa94, .int ly95, .int rdy917, .int (nI fd918), .ref (g 323), .ref (g 324), .ref (g 325), .ref (g 326), .ref (g 327), .ref (g 328), .ref (g 329), .ref (g 330), .ref (g 331), .ref (g 332)] := hq_1_0
  have hsp_ : f_1 319 = eI G 70 sp96 := hq_1_1
  have hwi_ : f_1 320 = eI G 70 wi97 := hq_1_2
  have hwa_ : f_1 321 = eI G 70 wa98 := hq_1_3
  have hva_ : f_1 322 = eJ G 70 va99 := hq_1_4
  have hbo_ : f_1 323 = eI G 11 bo910 := hq_1_5
  have hju_ : f_1 324 = eI G 11 ju911 := hq_1_6
  have hdr_ : f_1 325 = eI G 264 dr912 := hq_1_7
  have hdn_ : f_1 326 = eI G 11 dn913 := hq_1_8
  have hsl_ : f_1 327 = eI G 330 sl914 := hq_1_9
  have hax_ : f_1 328 = eI G 44 ax915 := hq_1_10
  have hlf_ : f_1 329 = eI G 30 lf916 := hq_1_11
  refine my_ifeq (tgt := 17) hx hb dX11_box_5 (by decide) (fun c_5 => ?_) (fun c_5 => ?_)
  · refine lv_bipush (v := (-2)) hx hb dX11_box_17 (by decide) ?_
    refine W_q9 hQ9 ?_
    replace hss_ := ((o_1 316 (by first | decide | omega))).trans hss_
    replace him_ := ((o_1 317 (by first | decide | omega))).trans him_
    replace hkq_ := ((o_1 318 (by first | decide | omega))).trans hkq_
    replace hwh_ := ((o_1 330 (by first | decide | omega))).trans hwh_
    replace hw6_ := ((o_1 331 (by first | decide | omega))).trans hw6_
    replace hb6_ := ((o_1 332 (by first | decide | omega))).trans hb6_
    exact W.iret (v := (-2)) hx hb hr (fun _ hT9 _ => ⟨⟨_, f_1, rfl, (⟨mJ_mk (ab2) (be2) (sn92) (wn93) (sa94) (ly95) (rdy917) (fd918) (np) (nf) (nr) (na) (nt) (sp96) (wi97) (wa98) (va99) (bo910) (ju911) (dr912) (dn913) (sl914) (ax915) (lf916) (wh) (w6) (b6) (hmo) (hss_) (him_) (hkq_) (hsp_) (hwi_) (hwa_) (hva_) (hbo_) (hju_) (hdr_) (hdn_) (hsl_) (hax_) (hlf_) (hwh_) (hw6_) (hb6_) (hst) (by omega) (hx_1_0) (hi0) (hi1) ((fun _ => ⟨hx_1_3, hx_1_4⟩)), ⟨np, nf, nr, na, nt, hst, Or.inl ⟨c_5, rfl⟩⟩, fun j hj => (o_1 j (by omega))⟩), by rw [hT9]; exact hP⟩, hS.F hT9⟩) hS.2.2 dX11_box_19
  · obtain ⟨tn, htn, rfl⟩ := inN_nat (by omega) c_5
    refine lv_aload_n hx hb dX11_box_8 rfl (lv_at hl 0 rfl) ?_
    refine va_get (D := G.1) (ci := 10) (v := .ref (g 323)) (C := RX11) (T := TX11) (N := 25) hx hb hts inlX11 hown hG.1 hP 315 (wl_at (by decide) hmo) rfl 15 (by decide) (hts (.fieldLink RX11 33 "SwornListsModel" "boxes" "[I") w_119) (fun _ h9 => h9) rfl dX11_box_9 ?_
    refine lv_iload_n hx hb dX11_box_12 rfl (lv_at hl 1 rfl) ?_
    refine va_iald hx hb hG.1 hP 323 0 (wl_at (by decide) hbo_) rfl (vp_in_nI (by omega) (by decide)) dX11_box_13 ?_
    refine my_bei (v := bo910 tn) (congrArg bo910 (nI_clamp (n := tn) (by omega))) ?_
    refine lv_goto (tgt := 19) hx hb dX11_box_14 (by decide) ?_
    refine W_q9 hQ9 ?_
    replace hss_ := ((o_1 316 (by first | decide | omega))).trans hss_
    replace him_ := ((o_1 317 (by first | decide | omega))).trans him_
    replace hkq_ := ((o_1 318 (by first | decide | omega))).trans hkq_
    replace hwh_ := ((o_1 330 (by first | decide | omega))).trans hwh_
    replace hw6_ := ((o_1 331 (by first | decide | omega))).trans hw6_
    replace hb6_ := ((o_1 332 (by first | decide | omega))).trans hb6_
    exact W.iret (v := bo910 tn) hx hb hr (fun _ hT9 _ => ⟨⟨_, f_1, rfl, (⟨mJ_mk (ab2) (be2) (sn92) (wn93) (sa94) (ly95) (rdy917) (fd918) (np) (nf) (nr) (na) (nt) (sp96) (wi97) (wa98) (va99) (bo910) (ju911) (dr912) (dn913) (sl914) (ax915) (lf916) (wh) (w6) (b6) (hmo) (hss_) (him_) (hkq_) (hsp_) (hwi_) (hwa_) (hva_) (hbo_) (hju_) (hdr_) (hdn_) (hsl_) (hax_) (hlf_) (hwh_) (hw6_) (hb6_) (hst) (by omega) (hx_1_0) (hi0) (hi1) ((fun _ => ⟨hx_1_3, hx_1_4⟩)), ⟨np, nf, nr, na, nt, hst, Or.inr ⟨tn, htn, rfl, (hx_1_4 tn htn).1⟩⟩, fun j hj => (o_1 j (by omega))⟩), by rw [hT9]; exact hP⟩, hS.F hT9⟩) hS.2.2 dX11_box_19
theorem j2_box (l : Launch) (G : gW) (g : Nat → Nat) (hg : gOK g) (f : Nat → va_E) (ss : Nat → Int32) (im : Nat → Int32) (kq : Nat → Int32) (a1 : Int32) (hI : mJ G g f ss im kq) (htA : ∀ n : Nat, n ≤ 10 → ss 4 = nI n → trOK ss n) : Met l yX11_box (wsT yX11_box cX11_box 2 (some .int)) ({ frames := 8, cells := 0, slots := 0, locals := 194 }) (bP G g f [.ref (g 315), .int a1]) (bQi G g (fun (z9 : Int32) (f' : Nat → va_E) => (mJ G g f' ss im kq) ∧ (∃ p9 f9 r9 u9 t9, stOK ss p9 f9 r9 u9 t9 ∧ ((¬ inN a1 t9 = true ∧ z9 = -2) ∨ (∃ x, x < t9 ∧ a1 = nI x ∧ z9 = (rBx p9 f9 r9 u9 ss x)))) ∧ ∀ j, j < 315 → f' j = f j)) 0 0 (gA g) := mJ_elim hI (fun ab2 be2 sn wn sa ly rdy fd np nf nr na nt sp wi wa va bo ju dr dn sl ax lf wh w6 b6 hmo hss_ him_ hkq_ hsp_ hwi_ hwa_ hva_ hbo_ hju_ hdr_ hdn_ hsl_ hax_ hlf_ hwh_ hw6_ hb6_ hst hfo hdn hi0 hi1 hrd => jn2_box l G g hg f ab2 be2 sn wn sa ly rdy fd ss np nf nr na nt im kq sp wi wa va bo ju dr dn sl ax lf wh w6 b6 a1 hmo hss_ him_ hkq_ hsp_ hwi_ hwa_ hva_ hbo_ hju_ hdr_ hdn_ hsl_ hax_ hlf_ hwh_ hw6_ hb6_ hst hfo hdn hi0 hi1 hrd htA)
set_option maxHeartbeats 4000000 in
set_option maxRecDepth 100000 in
theorem jn2_jury (l : Launch) (G : gW) (g : Nat → Nat) (hg : gOK g) (f : Nat → va_E) (ab2 : Int64) (be2 : Int64) (sn : Int32) (wn : Int32) (sa : Int32) (ly : Int32) (rdy : Int32) (fd : Nat) (ss : Nat → Int32) (np : Nat) (nf : Nat) (nr : Nat) (na : Nat) (nt : Nat) (im : Nat → Int32) (kq : Nat → Int32) (sp : Nat → Int32) (wi : Nat → Int32) (wa : Nat → Int32) (va : Nat → Int64) (bo : Nat → Int32) (ju : Nat → Int32) (dr : Nat → Int32) (dn : Nat → Int32) (sl : Nat → Int32) (ax : Nat → Int32) (lf : Nat → Int32) (wh : Nat → Int32) (w6 : Nat → Int32) (b6 : Nat → Int32) (a1 : Int32) (hmo : f 315 = eO 10 [.ref (g 316), .ref (g 317), .ref (g 318), .long ab2, .long be2, .int sn, .ref (g 319), .ref (g 320), .int wn, .ref (g 321), .ref (g 322), .int sa, .int ly, .int rdy, .int (nI fd), .ref (g 323), .ref (g 324), .ref (g 325), .ref (g 326), .ref (g 327), .ref (g 328), .ref (g 329), .ref (g 330), .ref (g 331), .ref (g 332)]) (hss_ : f 316 = eI G 2246 ss) (him_ : f 317 = eI G 4492 im) (hkq_ : f 318 = eZ G 2 kq) (hsp_ : f 319 = eI G 70 sp) (hwi_ : f 320 = eI G 70 wi) (hwa_ : f 321 = eI G 70 wa) (hva_ : f 322 = eJ G 70 va) (hbo_ : f 323 = eI G 11 bo) (hju_ : f 324 = eI G 11 ju) (hdr_ : f 325 = eI G 264 dr) (hdn_ : f 326 = eI G 11 dn) (hsl_ : f 327 = eI G 330 sl) (hax_ : f 328 = eI G 44 ax) (hlf_ : f 329 = eI G 30 lf) (hwh_ : f 330 = eI G 6 wh) (hw6_ : f 331 = eI G 6 w6) (hb6_ : f 332 = eI G 6 b6) (hst : stOK ss np nf nr na nt) (hfo : fd ≤ 10) (hdn : ∀ k, k < 11 → ∃ d, d ≤ 24 ∧ dn k = nI d) (hi0 : stI im 0) (hi1 : stI im 2246) (hrd : ¬ rdy = 0 → fd = nt ∧ ∀ z, z < nt → rHz np nf nr na ss bo ju dr dn sl ax z) (htA : ∀ n : Nat, n ≤ 10 → ss 4 = nI n → trOK ss n) : Met l yX11_jury (wsT yX11_jury cX11_jury 2 (some .int)) ({ frames := 8, cells := 0, slots := 0, locals := 194 }) (bP G g f [.ref (g 315), .int a1]) (bQi G g (fun (z9 : Int32) (f' : Nat → va_E) => (mJ G g f' ss im kq) ∧ (∃ p9 f9 r9 u9 t9, stOK ss p9 f9 r9 u9 t9 ∧ ((¬ inN a1 t9 = true ∧ z9 = -2) ∨ (∃ x, x < t9 ∧ a1 = nI x ∧ z9 = rJr p9 f9 r9 u9 ss x))) ∧ ∀ j, j < 315 → f' j = f j)) 0 0 (gA g) := by
  refine Met.ofW (cc := cX11_jury) (maxL := 2) (ret := (some .int)) (by decide) rfl ?_
  intro p e s m args below meth c s₁ B hml hv
  obtain ⟨rfl, hP, hG⟩ := hv
  have hx := B.exec
  have hb := B.bytes
  have hr := B.returns
  have hts := my_hts (atoms_spec (ws := wsT yX11_jury cX11_jury 2 (some .int)) B.pre)
  have hown : s.vm.findClass RX11 = some m.cls := findClass_of_methodNamed B.named
  have hlocks := B.notSynchronized
  have hS : va_S (gA g) s.heap s.heap [] := va_S.rf
  have hl := lv_entry ([.ref (g 315), .int a1]) (n := 2) (Nat.le_of_ble_eq_true rfl)
  rw [lg_entry_eq]
  generalize (lg_sl ([.ref (g 315), .int a1]) ++ List.replicate (2 - (lg_sl ([.ref (g 315), .int a1])).length) Slot.unset).toArray = ls at hl ⊢
  have hl : lv_has ls 2 [(0, .ref (g 315)), (1, .int a1)] := hl
  refine W_q8 (fun Q9 hQ9 => ?_)
  have hc0 := hst.c0
  have hc1 := hst.c1
  have hc2 := hst.c2
  have hc3 := hst.c3
  have hc4 := hst.c4
  have htr := htA nt hst.c4 hst.h4
  refine lv_aload_n hx hb dX11_jury_0 rfl (lv_at hl 0 rfl) ?_
  refine lv_iload_n hx hb dX11_jury_1 rfl (lv_at hl 1 rfl) ?_
  refine b_calli (va_runV (As := [.int a1]) (rest := []) ⟨hx, hb, hml, hown, hts⟩ (r_isTrialE l G g hg f ab2 be2 sn wn sa ly rdy fd ss np nf nr na nt sp wi wa va bo ju dr dn sl ax lf a1 hmo hss_ hsp_ hwi_ hwa_ hva_ hbo_ hju_ hdr_ hdn_ hsl_ hax_ hlf_ (by first | assumption | omega | decide) (by first | assumption | omega | decide) (by first | assumption | omega | decide) (by first | assumption | omega | decide) (by first | assumption | omega | decide)) (my_cwV hts ok_X11_isTrial w_680 rfl rfl ⟨Nat.le_of_ble_eq_true rfl, Nat.le_of_ble_eq_true rfl⟩) ⟨bP.blind, va_recv hG.1 hP (ci := 10) (q0 := 315) rfl (wl_at (by decide) hmo), fun U hU hW => ⟨rfl, by rw [hU]; exact hP, kG.warm hW hG⟩⟩ rfl rfl hl.1 rfl (lv_room (Nat.le_of_ble_eq_true rfl)) dX11_jury_2 ⟨Nat.le_of_ble_eq_true rfl, Nat.le_of_ble_eq_true rfl⟩) hS (fun v1 f_1 H locs hq9 hP hS => ?_)
  obtain ⟨sn92, wn93, sa94, ly95, sp96, wi97, wa98, va99, bo910, ju911, dr912, dn913, sl914, ax915, lf916, rdy917, fd918, rfl, hq_1_0, hq_1_1, hq_1_2, hq_1_3, hq_1_4, hq_1_5, hq_1_6, hq_1_7, hq_1_8, hq_1_9, hq_1_10, hq_1_11, hx_1_0, hx_1_1, hx_1_2, hx_1_3, hx_1_4, o_1⟩ := hq9
  have hmo : f_1 315 = eO 10 [.ref (g 316), .ref (g 317), .ref (g 318), .long ab2, .long be2, .int sn92, .ref (g 319), .ref (g 320), .int wn93, .ref (g 321), .ref (g 322), .int sa94, .int ly95, .int rdy917, .int (nI fd918), .ref (g 323), .ref (g 324), .ref (g 325), .ref (g 326), .ref (g 327), .ref (g 328), .ref (g 329), .ref (g 330), .ref (g 331), .ref (g 332)] := hq_1_0
  have hsp_ : f_1 319 = eI G 70 sp96 := hq_1_1
  have hwi_ : f_1 320 = eI G 70 wi97 := hq_1_2
  have hwa_ : f_1 321 = eI G 70 wa98 := hq_1_3
  have hva_ : f_1 322 = eJ G 70 va99 := hq_1_4
  have hbo_ : f_1 323 = eI G 11 bo910 := hq_1_5
  have hju_ : f_1 324 = eI G 11 ju911 := hq_1_6
  have hdr_ : f_1 325 = eI G 264 dr912 := hq_1_7
  have hdn_ : f_1 326 = eI G 11 dn913 := hq_1_8
  have hsl_ : f_1 327 = eI G 330 sl914 := hq_1_9
  have hax_ : f_1 328 = eI G 44 ax915 := hq_1_10
  have hlf_ : f_1 329 = eI G 30 lf916 := hq_1_11
  refine my_ifeq (tgt := 17) hx hb dX11_jury_5 (by decide) (fun c_5 => ?_) (fun c_5 => ?_)
  · refine lv_bipush (v := (-2)) hx hb dX11_jury_17 (by decide) ?_
    refine W_q9 hQ9 ?_
    replace hss_ := ((o_1 316 (by first | decide | omega))).trans hss_
    replace him_ := ((o_1 317 (by first | decide | omega))).trans him_
    replace hkq_ := ((o_1 318 (by first | decide | omega))).trans hkq_
    replace hwh_ := ((o_1 330 (by first | decide | omega))).trans hwh_
    replace hw6_ := ((o_1 331 (by first | decide | omega))).trans hw6_
    replace hb6_ := ((o_1 332 (by first | decide | omega))).trans hb6_
    exact W.iret (v := (-2)) hx hb hr (fun _ hT9 _ => ⟨⟨_, f_1, rfl, (⟨mJ_mk (ab2) (be2) (sn92) (wn93) (sa94) (ly95) (rdy917) (fd918) (np) (nf) (nr) (na) (nt) (sp96) (wi97) (wa98) (va99) (bo910) (ju911) (dr912) (dn913) (sl914) (ax915) (lf916) (wh) (w6) (b6) (hmo) (hss_) (him_) (hkq_) (hsp_) (hwi_) (hwa_) (hva_) (hbo_) (hju_) (hdr_) (hdn_) (hsl_) (hax_) (hlf_) (hwh_) (hw6_) (hb6_) (hst) (by omega) (hx_1_0) (hi0) (hi1) ((fun _ => ⟨hx_1_3, hx_1_4⟩)), ⟨np, nf, nr, na, nt, hst, Or.inl ⟨c_5, rfl⟩⟩, fun j hj => (o_1 j (by omega))⟩), by rw [hT9]; exact hP⟩, hS.F hT9⟩) hS.2.2 dX11_jury_19
  · obtain ⟨tn, htn, rfl⟩ := inN_nat (by omega) c_5
    refine lv_aload_n hx hb dX11_jury_8 rfl (lv_at hl 0 rfl) ?_
    refine va_get (D := G.1) (ci := 10) (v := .ref (g 324)) (C := RX11) (T := TX11) (N := 25) hx hb hts inlX11 hown hG.1 hP 315 (wl_at (by decide) hmo) rfl 16 (by decide) (hts (.fieldLink RX11 36 "SwornListsModel" "juries" "[I") w_120) (fun _ h9 => h9) rfl dX11_jury_9 ?_
    refine lv_iload_n hx hb dX11_jury_12 rfl (lv_at hl 1 rfl) ?_
    refine va_iald hx hb hG.1 hP 324 0 (wl_at (by decide) hju_) rfl (vp_in_nI (by omega) (by decide)) dX11_jury_13 ?_
    refine my_bei (v := ju911 tn) (congrArg ju911 (nI_clamp (n := tn) (by omega))) ?_
    refine lv_goto (tgt := 19) hx hb dX11_jury_14 (by decide) ?_
    refine W_q9 hQ9 ?_
    replace hss_ := ((o_1 316 (by first | decide | omega))).trans hss_
    replace him_ := ((o_1 317 (by first | decide | omega))).trans him_
    replace hkq_ := ((o_1 318 (by first | decide | omega))).trans hkq_
    replace hwh_ := ((o_1 330 (by first | decide | omega))).trans hwh_
    replace hw6_ := ((o_1 331 (by first | decide | omega))).trans hw6_
    replace hb6_ := ((o_1 332 (by first | decide | omega))).trans hb6_
    exact W.iret (v := ju911 tn) hx hb hr (fun _ hT9 _ => ⟨⟨_, f_1, rfl, (⟨mJ_mk (ab2) (be2) (sn92) (wn93) (sa94) (ly95) (rdy917) (fd918) (np) (nf) (nr) (na) (nt) (sp96) (wi97) (wa98) (va99) (bo910) (ju911) (dr912) (dn913) (sl914) (ax915) (lf916) (wh) (w6) (b6) (hmo) (hss_) (him_) (hkq_) (hsp_) (hwi_) (hwa_) (hva_) (hbo_) (hju_) (hdr_) (hdn_) (hsl_) (hax_) (hlf_) (hwh_) (hw6_) (hb6_) (hst) (by omega) (hx_1_0) (hi0) (hi1) ((fun _ => ⟨hx_1_3, hx_1_4⟩)), ⟨np, nf, nr, na, nt, hst, Or.inr ⟨tn, htn, rfl, rHz_ju (hx_1_4 tn htn)⟩⟩, fun j hj => (o_1 j (by omega))⟩), by rw [hT9]; exact hP⟩, hS.F hT9⟩) hS.2.2 dX11_jury_19
theorem j2_jury (l : Launch) (G : gW) (g : Nat → Nat) (hg : gOK g) (f : Nat → va_E) (ss : Nat → Int32) (im : Nat → Int32) (kq : Nat → Int32) (a1 : Int32) (hI : mJ G g f ss im kq) (htA : ∀ n : Nat, n ≤ 10 → ss 4 = nI n → trOK ss n) : Met l yX11_jury (wsT yX11_jury cX11_jury 2 (some .int)) ({ frames := 8, cells := 0, slots := 0, locals := 194 }) (bP G g f [.ref (g 315), .int a1]) (bQi G g (fun (z9 : Int32) (f' : Nat → va_E) => (mJ G g f' ss im kq) ∧ (∃ p9 f9 r9 u9 t9, stOK ss p9 f9 r9 u9 t9 ∧ ((¬ inN a1 t9 = true ∧ z9 = -2) ∨ (∃ x, x < t9 ∧ a1 = nI x ∧ z9 = rJr p9 f9 r9 u9 ss x))) ∧ ∀ j, j < 315 → f' j = f j)) 0 0 (gA g) := mJ_elim hI (fun ab2 be2 sn wn sa ly rdy fd np nf nr na nt sp wi wa va bo ju dr dn sl ax lf wh w6 b6 hmo hss_ him_ hkq_ hsp_ hwi_ hwa_ hva_ hbo_ hju_ hdr_ hdn_ hsl_ hax_ hlf_ hwh_ hw6_ hb6_ hst hfo hdn hi0 hi1 hrd => jn2_jury l G g hg f ab2 be2 sn wn sa ly rdy fd ss np nf nr na nt im kq sp wi wa va bo ju dr dn sl ax lf wh w6 b6 a1 hmo hss_ him_ hkq_ hsp_ hwi_ hwa_ hva_ hbo_ hju_ hdr_ hdn_ hsl_ hax_ hlf_ hwh_ hw6_ hb6_ hst hfo hdn hi0 hi1 hrd htA)
set_option maxHeartbeats 4000000 in
set_option maxRecDepth 100000 in
theorem jn2_slip (l : Launch) (G : gW) (g : Nat → Nat) (hg : gOK g) (f : Nat → va_E) (ab2 : Int64) (be2 : Int64) (sn : Int32) (wn : Int32) (sa : Int32) (ly : Int32) (rdy : Int32) (fd : Nat) (ss : Nat → Int32) (np : Nat) (nf : Nat) (nr : Nat) (na : Nat) (nt : Nat) (im : Nat → Int32) (kq : Nat → Int32) (sp : Nat → Int32) (wi : Nat → Int32) (wa : Nat → Int32) (va : Nat → Int64) (bo : Nat → Int32) (ju : Nat → Int32) (dr : Nat → Int32) (dn : Nat → Int32) (sl : Nat → Int32) (ax : Nat → Int32) (lf : Nat → Int32) (wh : Nat → Int32) (w6 : Nat → Int32) (b6 : Nat → Int32) (a1 : Int32) (a2 : Int32) (hmo : f 315 = eO 10 [.ref (g 316), .ref (g 317), .ref (g 318), .long ab2, .long be2, .int sn, .ref (g 319), .ref (g 320), .int wn, .ref (g 321), .ref (g 322), .int sa, .int ly, .int rdy, .int (nI fd), .ref (g 323), .ref (g 324), .ref (g 325), .ref (g 326), .ref (g 327), .ref (g 328), .ref (g 329), .ref (g 330), .ref (g 331), .ref (g 332)]) (hss_ : f 316 = eI G 2246 ss) (him_ : f 317 = eI G 4492 im) (hkq_ : f 318 = eZ G 2 kq) (hsp_ : f 319 = eI G 70 sp) (hwi_ : f 320 = eI G 70 wi) (hwa_ : f 321 = eI G 70 wa) (hva_ : f 322 = eJ G 70 va) (hbo_ : f 323 = eI G 11 bo) (hju_ : f 324 = eI G 11 ju) (hdr_ : f 325 = eI G 264 dr) (hdn_ : f 326 = eI G 11 dn) (hsl_ : f 327 = eI G 330 sl) (hax_ : f 328 = eI G 44 ax) (hlf_ : f 329 = eI G 30 lf) (hwh_ : f 330 = eI G 6 wh) (hw6_ : f 331 = eI G 6 w6) (hb6_ : f 332 = eI G 6 b6) (hst : stOK ss np nf nr na nt) (hfo : fd ≤ 10) (hdn : ∀ k, k < 11 → ∃ d, d ≤ 24 ∧ dn k = nI d) (hi0 : stI im 0) (hi1 : stI im 2246) (hrd : ¬ rdy = 0 → fd = nt ∧ ∀ z, z < nt → rHz np nf nr na ss bo ju dr dn sl ax z) (htA : ∀ n : Nat, n ≤ 10 → ss 4 = nI n → trOK ss n) : Met l yX11_slip (wsT yX11_slip cX11_slip 3 (some .int)) ({ frames := 8, cells := 0, slots := 0, locals := 194 }) (bP G g f [.ref (g 315), .int a1, .int a2]) (bQi G g (fun (z9 : Int32) (f' : Nat → va_E) => (mJ G g f' ss im kq) ∧ (∃ p9 f9 r9 u9 t9, stOK ss p9 f9 r9 u9 t9 ∧ ((¬ (inN a1 t9 = true ∧ inN a2 p9 = true) ∧ z9 = -2) ∨ (∃ x p, x < t9 ∧ a1 = nI x ∧ p < p9 ∧ a2 = nI p ∧ z9 = slZ (rBx p9 f9 r9 u9 ss x) (pasV (rFt p9 f9 r9 u9 ss x) (rBx p9 f9 r9 u9 ss x)) (kS ss x) p))) ∧ ∀ j, j < 315 → f' j = f j)) 0 0 (gA g) := by
  refine Met.ofW (cc := cX11_slip) (maxL := 3) (ret := (some .int)) (by decide) rfl ?_
  intro p e s m args below meth c s₁ B hml hv
  obtain ⟨rfl, hP, hG⟩ := hv
  have hx := B.exec
  have hb := B.bytes
  have hr := B.returns
  have hts := my_hts (atoms_spec (ws := wsT yX11_slip cX11_slip 3 (some .int)) B.pre)
  have hown : s.vm.findClass RX11 = some m.cls := findClass_of_methodNamed B.named
  have hlocks := B.notSynchronized
  have hS : va_S (gA g) s.heap s.heap [] := va_S.rf
  have hl := lv_entry ([.ref (g 315), .int a1, .int a2]) (n := 3) (Nat.le_of_ble_eq_true rfl)
  rw [lg_entry_eq]
  generalize (lg_sl ([.ref (g 315), .int a1, .int a2]) ++ List.replicate (3 - (lg_sl ([.ref (g 315), .int a1, .int a2])).length) Slot.unset).toArray = ls at hl ⊢
  have hl : lv_has ls 3 [(0, .ref (g 315)), (1, .int a1), (2, .int a2)] := hl
  refine W_q8 (fun Q9 hQ9 => ?_)
  have hc0 := hst.c0
  have hc1 := hst.c1
  have hc2 := hst.c2
  have hc3 := hst.c3
  have hc4 := hst.c4
  have htr := htA nt hst.c4 hst.h4
  refine lv_aload_n hx hb dX11_slip_0 rfl (lv_at hl 0 rfl) ?_
  refine lv_iload_n hx hb dX11_slip_1 rfl (lv_at hl 1 rfl) ?_
  refine b_calli (va_runV (As := [.int a1]) (rest := []) ⟨hx, hb, hml, hown, hts⟩ (r_isTrialE l G g hg f ab2 be2 sn wn sa ly rdy fd ss np nf nr na nt sp wi wa va bo ju dr dn sl ax lf a1 hmo hss_ hsp_ hwi_ hwa_ hva_ hbo_ hju_ hdr_ hdn_ hsl_ hax_ hlf_ (by first | assumption | omega | decide) (by first | assumption | omega | decide) (by first | assumption | omega | decide) (by first | assumption | omega | decide) (by first | assumption | omega | decide)) (my_cwV hts ok_X11_isTrial w_680 rfl rfl ⟨Nat.le_of_ble_eq_true rfl, Nat.le_of_ble_eq_true rfl⟩) ⟨bP.blind, va_recv hG.1 hP (ci := 10) (q0 := 315) rfl (wl_at (by decide) hmo), fun U hU hW => ⟨rfl, by rw [hU]; exact hP, kG.warm hW hG⟩⟩ rfl rfl hl.1 rfl (lv_room (Nat.le_of_ble_eq_true rfl)) dX11_slip_2 ⟨Nat.le_of_ble_eq_true rfl, Nat.le_of_ble_eq_true rfl⟩) hS (fun v1 f_1 H locs hq9 hP hS => ?_)
  obtain ⟨sn92, wn93, sa94, ly95, sp96, wi97, wa98, va99, bo910, ju911, dr912, dn913, sl914, ax915, lf916, rdy917, fd918, rfl, hq_1_0, hq_1_1, hq_1_2, hq_1_3, hq_1_4, hq_1_5, hq_1_6, hq_1_7, hq_1_8, hq_1_9, hq_1_10, hq_1_11, hx_1_0, hx_1_1, hx_1_2, hx_1_3, hx_1_4, o_1⟩ := hq9
  have hmo : f_1 315 = eO 10 [.ref (g 316), .ref (g 317), .ref (g 318), .long ab2, .long be2, .int sn92, .ref (g 319), .ref (g 320), .int wn93, .ref (g 321), .ref (g 322), .int sa94, .int ly95, .int rdy917, .int (nI fd918), .ref (g 323), .ref (g 324), .ref (g 325), .ref (g 326), .ref (g 327), .ref (g 328), .ref (g 329), .ref (g 330), .ref (g 331), .ref (g 332)] := hq_1_0
  have hsp_ : f_1 319 = eI G 70 sp96 := hq_1_1
  have hwi_ : f_1 320 = eI G 70 wi97 := hq_1_2
  have hwa_ : f_1 321 = eI G 70 wa98 := hq_1_3
  have hva_ : f_1 322 = eJ G 70 va99 := hq_1_4
  have hbo_ : f_1 323 = eI G 11 bo910 := hq_1_5
  have hju_ : f_1 324 = eI G 11 ju911 := hq_1_6
  have hdr_ : f_1 325 = eI G 264 dr912 := hq_1_7
  have hdn_ : f_1 326 = eI G 11 dn913 := hq_1_8
  have hsl_ : f_1 327 = eI G 330 sl914 := hq_1_9
  have hax_ : f_1 328 = eI G 44 ax915 := hq_1_10
  have hlf_ : f_1 329 = eI G 30 lf916 := hq_1_11
  refine my_ifeq (tgt := 31) hx hb dX11_slip_5 (by decide) (fun c_5 => ?_) (fun c_5 => ?_)
  · refine lv_bipush (v := (-2)) hx hb dX11_slip_31 (by decide) ?_
    refine W_q9 hQ9 ?_
    replace hss_ := ((o_1 316 (by first | decide | omega))).trans hss_
    replace him_ := ((o_1 317 (by first | decide | omega))).trans him_
    replace hkq_ := ((o_1 318 (by first | decide | omega))).trans hkq_
    replace hwh_ := ((o_1 330 (by first | decide | omega))).trans hwh_
    replace hw6_ := ((o_1 331 (by first | decide | omega))).trans hw6_
    replace hb6_ := ((o_1 332 (by first | decide | omega))).trans hb6_
    exact W.iret (v := (-2)) hx hb hr (fun _ hT9 _ => ⟨⟨_, f_1, rfl, (⟨mJ_mk (ab2) (be2) (sn92) (wn93) (sa94) (ly95) (rdy917) (fd918) (np) (nf) (nr) (na) (nt) (sp96) (wi97) (wa98) (va99) (bo910) (ju911) (dr912) (dn913) (sl914) (ax915) (lf916) (wh) (w6) (b6) (hmo) (hss_) (him_) (hkq_) (hsp_) (hwi_) (hwa_) (hva_) (hbo_) (hju_) (hdr_) (hdn_) (hsl_) (hax_) (hlf_) (hwh_) (hw6_) (hb6_) (hst) (by omega) (hx_1_0) (hi0) (hi1) ((fun _ => ⟨hx_1_3, hx_1_4⟩)), ⟨np, nf, nr, na, nt, hst, Or.inl ⟨fun z => c_5 z.1, rfl⟩⟩, fun j hj => (o_1 j (by omega))⟩), by rw [hT9]; exact hP⟩, hS.F hT9⟩) hS.2.2 dX11_slip_33
  · refine lv_aload_n hx hb dX11_slip_8 rfl (lv_at hl 0 rfl) ?_
    refine lv_iconst (v := 0) hx hb dX11_slip_9 (by decide) ?_
    refine lv_iload_n hx hb dX11_slip_10 rfl (lv_at hl 2 rfl) ?_
    replace hss_ := ((o_1 316 (by first | decide | omega))).trans hss_
    refine rd_calli (va_runV (As := [.int 0, .int a2]) (rest := []) ⟨hx, hb, hml, hown, hts⟩ (r_is l G g hg f_1 ab2 be2 sn92 wn93 sa94 ly95 rdy917 (nI fd918) ss 0 np a2 hmo hss_ (by first | assumption | omega | decide) (hst.h0) (by first | assumption | omega | decide)) (my_cwV hts ok_X11_is w_186 rfl rfl ⟨Nat.le_of_ble_eq_true rfl, Nat.le_of_ble_eq_true rfl⟩) ⟨bP.blind, va_recv hG.1 hP (ci := 10) (q0 := 315) rfl (wl_at (by decide) hmo), fun U hU hW => ⟨rfl, by rw [hU]; exact hP, kG.warm hW hG⟩⟩ rfl rfl hl.1 rfl (lv_room (Nat.le_of_ble_eq_true rfl)) dX11_slip_11 ⟨Nat.le_of_ble_eq_true rfl, Nat.le_of_ble_eq_true rfl⟩) (fun r hr9 => ?_)
    subst hr9
    refine my_ifeq (tgt := 31) hx hb dX11_slip_14 (by decide) (fun c_14 => ?_) (fun c_14 => ?_)
    · refine lv_bipush (v := (-2)) hx hb dX11_slip_31 (by decide) ?_
      refine W_q9 hQ9 ?_
      replace him_ := ((o_1 317 (by first | decide | omega))).trans him_
      replace hkq_ := ((o_1 318 (by first | decide | omega))).trans hkq_
      replace hwh_ := ((o_1 330 (by first | decide | omega))).trans hwh_
      replace hw6_ := ((o_1 331 (by first | decide | omega))).trans hw6_
      replace hb6_ := ((o_1 332 (by first | decide | omega))).trans hb6_
      exact W.iret (v := (-2)) hx hb hr (fun _ hT9 _ => ⟨⟨_, f_1, rfl, (⟨mJ_mk (ab2) (be2) (sn92) (wn93) (sa94) (ly95) (rdy917) (fd918) (np) (nf) (nr) (na) (nt) (sp96) (wi97) (wa98) (va99) (bo910) (ju911) (dr912) (dn913) (sl914) (ax915) (lf916) (wh) (w6) (b6) (hmo) (hss_) (him_) (hkq_) (hsp_) (hwi_) (hwa_) (hva_) (hbo_) (hju_) (hdr_) (hdn_) (hsl_) (hax_) (hlf_) (hwh_) (hw6_) (hb6_) (hst) (by omega) (hx_1_0) (hi0) (hi1) ((fun _ => ⟨hx_1_3, hx_1_4⟩)), ⟨np, nf, nr, na, nt, hst, Or.inl ⟨fun z => c_14 z.2, rfl⟩⟩, fun j hj => (o_1 j (by omega))⟩), by rw [hT9]; exact hP⟩, hS.F hT9⟩) hS.2.2 dX11_slip_33
    · obtain ⟨tn, htn, rfl⟩ := inN_nat (by omega) c_5
      obtain ⟨pn, hpn, rfl⟩ := inN_nat (by omega) c_14
      refine lv_aload_n hx hb dX11_slip_17 rfl (lv_at hl 0 rfl) ?_
      refine va_get (D := G.1) (ci := 10) (v := .ref (g 327)) (C := RX11) (T := TX11) (N := 25) hx hb hts inlX11 hown hG.1 hP 315 (wl_at (by decide) hmo) rfl 19 (by decide) (hts (.fieldLink RX11 45 "SwornListsModel" "slips" "[I") w_123) (fun _ h9 => h9) rfl dX11_slip_18 ?_
      refine lv_bipush (v := 30) hx hb dX11_slip_21 (by decide) ?_
      refine lv_iload_n hx hb dX11_slip_23 rfl (lv_at hl 1 rfl) ?_
      refine lv_imul hx hb dX11_slip_24 ?_
      refine my_bei (v := nI (30 * tn)) (pk_mul 30 tn) ?_
      refine lv_iload_n hx hb dX11_slip_25 rfl (lv_at hl 2 rfl) ?_
      refine lv_iadd hx hb dX11_slip_26 ?_
      refine my_bei (v := nI (pn + 30 * tn)) ((nI_add (30 * tn) pn).trans (congrArg nI (show (30 * tn) + pn = pn + 30 * tn by omega))) ?_
      refine va_iald hx hb hG.1 hP 327 0 (wl_at (by decide) hsl_) rfl (vp_in_nI (by omega) (by decide)) dX11_slip_27 ?_
      refine my_bei (v := sl914 (pn + 30 * tn)) (congrArg sl914 (nI_clamp (n := pn + 30 * tn) (by omega))) ?_
      refine lv_goto (tgt := 33) hx hb dX11_slip_28 (by decide) ?_
      refine W_q9 hQ9 ?_
      replace him_ := ((o_1 317 (by first | decide | omega))).trans him_
      replace hkq_ := ((o_1 318 (by first | decide | omega))).trans hkq_
      replace hwh_ := ((o_1 330 (by first | decide | omega))).trans hwh_
      replace hw6_ := ((o_1 331 (by first | decide | omega))).trans hw6_
      replace hb6_ := ((o_1 332 (by first | decide | omega))).trans hb6_
      exact W.iret (v := sl914 (pn + 30 * tn)) hx hb hr (fun _ hT9 _ => ⟨⟨_, f_1, rfl, (⟨mJ_mk (ab2) (be2) (sn92) (wn93) (sa94) (ly95) (rdy917) (fd918) (np) (nf) (nr) (na) (nt) (sp96) (wi97) (wa98) (va99) (bo910) (ju911) (dr912) (dn913) (sl914) (ax915) (lf916) (wh) (w6) (b6) (hmo) (hss_) (him_) (hkq_) (hsp_) (hwi_) (hwa_) (hva_) (hbo_) (hju_) (hdr_) (hdn_) (hsl_) (hax_) (hlf_) (hwh_) (hw6_) (hb6_) (hst) (by omega) (hx_1_0) (hi0) (hi1) ((fun _ => ⟨hx_1_3, hx_1_4⟩)), ⟨np, nf, nr, na, nt, hst, Or.inr ⟨tn, pn, htn, rfl, hpn, rfl, (hx_1_4 tn htn).2.2.2.2.1 pn (by omega)⟩⟩, fun j hj => (o_1 j (by omega))⟩), by rw [hT9]; exact hP⟩, hS.F hT9⟩) hS.2.2 dX11_slip_33
theorem j2_slip (l : Launch) (G : gW) (g : Nat → Nat) (hg : gOK g) (f : Nat → va_E) (ss : Nat → Int32) (im : Nat → Int32) (kq : Nat → Int32) (a1 : Int32) (a2 : Int32) (hI : mJ G g f ss im kq) (htA : ∀ n : Nat, n ≤ 10 → ss 4 = nI n → trOK ss n) : Met l yX11_slip (wsT yX11_slip cX11_slip 3 (some .int)) ({ frames := 8, cells := 0, slots := 0, locals := 194 }) (bP G g f [.ref (g 315), .int a1, .int a2]) (bQi G g (fun (z9 : Int32) (f' : Nat → va_E) => (mJ G g f' ss im kq) ∧ (∃ p9 f9 r9 u9 t9, stOK ss p9 f9 r9 u9 t9 ∧ ((¬ (inN a1 t9 = true ∧ inN a2 p9 = true) ∧ z9 = -2) ∨ (∃ x p, x < t9 ∧ a1 = nI x ∧ p < p9 ∧ a2 = nI p ∧ z9 = slZ (rBx p9 f9 r9 u9 ss x) (pasV (rFt p9 f9 r9 u9 ss x) (rBx p9 f9 r9 u9 ss x)) (kS ss x) p))) ∧ ∀ j, j < 315 → f' j = f j)) 0 0 (gA g) := mJ_elim hI (fun ab2 be2 sn wn sa ly rdy fd np nf nr na nt sp wi wa va bo ju dr dn sl ax lf wh w6 b6 hmo hss_ him_ hkq_ hsp_ hwi_ hwa_ hva_ hbo_ hju_ hdr_ hdn_ hsl_ hax_ hlf_ hwh_ hw6_ hb6_ hst hfo hdn hi0 hi1 hrd => jn2_slip l G g hg f ab2 be2 sn wn sa ly rdy fd ss np nf nr na nt im kq sp wi wa va bo ju dr dn sl ax lf wh w6 b6 a1 a2 hmo hss_ him_ hkq_ hsp_ hwi_ hwa_ hva_ hbo_ hju_ hdr_ hdn_ hsl_ hax_ hlf_ hwh_ hw6_ hb6_ hst hfo hdn hi0 hi1 hrd htA)
set_option maxHeartbeats 4000000 in
set_option maxRecDepth 100000 in
theorem jn2_about (l : Launch) (G : gW) (g : Nat → Nat) (hg : gOK g) (f : Nat → va_E) (ab2 : Int64) (be2 : Int64) (sn : Int32) (wn : Int32) (sa : Int32) (ly : Int32) (rdy : Int32) (fd : Nat) (ss : Nat → Int32) (np : Nat) (nf : Nat) (nr : Nat) (na : Nat) (nt : Nat) (im : Nat → Int32) (kq : Nat → Int32) (sp : Nat → Int32) (wi : Nat → Int32) (wa : Nat → Int32) (va : Nat → Int64) (bo : Nat → Int32) (ju : Nat → Int32) (dr : Nat → Int32) (dn : Nat → Int32) (sl : Nat → Int32) (ax : Nat → Int32) (lf : Nat → Int32) (wh : Nat → Int32) (w6 : Nat → Int32) (b6 : Nat → Int32) (a1 : Int32) (a2 : Int32) (hmo : f 315 = eO 10 [.ref (g 316), .ref (g 317), .ref (g 318), .long ab2, .long be2, .int sn, .ref (g 319), .ref (g 320), .int wn, .ref (g 321), .ref (g 322), .int sa, .int ly, .int rdy, .int (nI fd), .ref (g 323), .ref (g 324), .ref (g 325), .ref (g 326), .ref (g 327), .ref (g 328), .ref (g 329), .ref (g 330), .ref (g 331), .ref (g 332)]) (hss_ : f 316 = eI G 2246 ss) (him_ : f 317 = eI G 4492 im) (hkq_ : f 318 = eZ G 2 kq) (hsp_ : f 319 = eI G 70 sp) (hwi_ : f 320 = eI G 70 wi) (hwa_ : f 321 = eI G 70 wa) (hva_ : f 322 = eJ G 70 va) (hbo_ : f 323 = eI G 11 bo) (hju_ : f 324 = eI G 11 ju) (hdr_ : f 325 = eI G 264 dr) (hdn_ : f 326 = eI G 11 dn) (hsl_ : f 327 = eI G 330 sl) (hax_ : f 328 = eI G 44 ax) (hlf_ : f 329 = eI G 30 lf) (hwh_ : f 330 = eI G 6 wh) (hw6_ : f 331 = eI G 6 w6) (hb6_ : f 332 = eI G 6 b6) (hst : stOK ss np nf nr na nt) (hfo : fd ≤ 10) (hdn : ∀ k, k < 11 → ∃ d, d ≤ 24 ∧ dn k = nI d) (hi0 : stI im 0) (hi1 : stI im 2246) (hrd : ¬ rdy = 0 → fd = nt ∧ ∀ z, z < nt → rHz np nf nr na ss bo ju dr dn sl ax z) (htA : ∀ n : Nat, n ≤ 10 → ss 4 = nI n → trOK ss n) : Met l yX11_about (wsT yX11_about cX11_about 3 (some .int)) ({ frames := 8, cells := 0, slots := 0, locals := 194 }) (bP G g f [.ref (g 315), .int a1, .int a2]) (bQi G g (fun (z9 : Int32) (f' : Nat → va_E) => (mJ G g f' ss im kq) ∧ (∃ p9 f9 r9 u9 t9, stOK ss p9 f9 r9 u9 t9 ∧ ((¬ (inN a1 t9 = true ∧ inB 0 a2 3 = true) ∧ z9 = -2000000000) ∨ (∃ x k, x < t9 ∧ a1 = nI x ∧ k ≤ 3 ∧ a2 = nI k ∧ z9 = abR (rBx p9 f9 r9 u9 ss x) (pasV (rFt p9 f9 r9 u9 ss x) (rBx p9 f9 r9 u9 ss x)) (kS ss x) k))) ∧ ∀ j, j < 315 → f' j = f j)) 0 0 (gA g) := by
  refine Met.ofW (cc := cX11_about) (maxL := 3) (ret := (some .int)) (by decide) rfl ?_
  intro p e s m args below meth c s₁ B hml hv
  obtain ⟨rfl, hP, hG⟩ := hv
  have hx := B.exec
  have hb := B.bytes
  have hr := B.returns
  have hts := my_hts (atoms_spec (ws := wsT yX11_about cX11_about 3 (some .int)) B.pre)
  have hown : s.vm.findClass RX11 = some m.cls := findClass_of_methodNamed B.named
  have hlocks := B.notSynchronized
  have hS : va_S (gA g) s.heap s.heap [] := va_S.rf
  have hl := lv_entry ([.ref (g 315), .int a1, .int a2]) (n := 3) (Nat.le_of_ble_eq_true rfl)
  rw [lg_entry_eq]
  generalize (lg_sl ([.ref (g 315), .int a1, .int a2]) ++ List.replicate (3 - (lg_sl ([.ref (g 315), .int a1, .int a2])).length) Slot.unset).toArray = ls at hl ⊢
  have hl : lv_has ls 3 [(0, .ref (g 315)), (1, .int a1), (2, .int a2)] := hl
  refine W_q8 (fun Q9 hQ9 => ?_)
  have hc0 := hst.c0
  have hc1 := hst.c1
  have hc2 := hst.c2
  have hc3 := hst.c3
  have hc4 := hst.c4
  have htr := htA nt hst.c4 hst.h4
  refine lv_aload_n hx hb dX11_about_0 rfl (lv_at hl 0 rfl) ?_
  refine lv_iload_n hx hb dX11_about_1 rfl (lv_at hl 1 rfl) ?_
  refine b_calli (va_runV (As := [.int a1]) (rest := []) ⟨hx, hb, hml, hown, hts⟩ (r_isTrialE l G g hg f ab2 be2 sn wn sa ly rdy fd ss np nf nr na nt sp wi wa va bo ju dr dn sl ax lf a1 hmo hss_ hsp_ hwi_ hwa_ hva_ hbo_ hju_ hdr_ hdn_ hsl_ hax_ hlf_ (by first | assumption | omega | decide) (by first | assumption | omega | decide) (by first | assumption | omega | decide) (by first | assumption | omega | decide) (by first | assumption | omega | decide)) (my_cwV hts ok_X11_isTrial w_680 rfl rfl ⟨Nat.le_of_ble_eq_true rfl, Nat.le_of_ble_eq_true rfl⟩) ⟨bP.blind, va_recv hG.1 hP (ci := 10) (q0 := 315) rfl (wl_at (by decide) hmo), fun U hU hW => ⟨rfl, by rw [hU]; exact hP, kG.warm hW hG⟩⟩ rfl rfl hl.1 rfl (lv_room (Nat.le_of_ble_eq_true rfl)) dX11_about_2 ⟨Nat.le_of_ble_eq_true rfl, Nat.le_of_ble_eq_true rfl⟩) hS (fun v1 f_1 H locs hq9 hP hS => ?_)
  obtain ⟨sn92, wn93, sa94, ly95, sp96, wi97, wa98, va99, bo910, ju911, dr912, dn913, sl914, ax915, lf916, rdy917, fd918, rfl, hq_1_0, hq_1_1, hq_1_2, hq_1_3, hq_1_4, hq_1_5, hq_1_6, hq_1_7, hq_1_8, hq_1_9, hq_1_10, hq_1_11, hx_1_0, hx_1_1, hx_1_2, hx_1_3, hx_1_4, o_1⟩ := hq9
  have hmo : f_1 315 = eO 10 [.ref (g 316), .ref (g 317), .ref (g 318), .long ab2, .long be2, .int sn92, .ref (g 319), .ref (g 320), .int wn93, .ref (g 321), .ref (g 322), .int sa94, .int ly95, .int rdy917, .int (nI fd918), .ref (g 323), .ref (g 324), .ref (g 325), .ref (g 326), .ref (g 327), .ref (g 328), .ref (g 329), .ref (g 330), .ref (g 331), .ref (g 332)] := hq_1_0
  have hsp_ : f_1 319 = eI G 70 sp96 := hq_1_1
  have hwi_ : f_1 320 = eI G 70 wi97 := hq_1_2
  have hwa_ : f_1 321 = eI G 70 wa98 := hq_1_3
  have hva_ : f_1 322 = eJ G 70 va99 := hq_1_4
  have hbo_ : f_1 323 = eI G 11 bo910 := hq_1_5
  have hju_ : f_1 324 = eI G 11 ju911 := hq_1_6
  have hdr_ : f_1 325 = eI G 264 dr912 := hq_1_7
  have hdn_ : f_1 326 = eI G 11 dn913 := hq_1_8
  have hsl_ : f_1 327 = eI G 330 sl914 := hq_1_9
  have hax_ : f_1 328 = eI G 44 ax915 := hq_1_10
  have hlf_ : f_1 329 = eI G 30 lf916 := hq_1_11
  refine my_ifeq (tgt := 33) hx hb dX11_about_5 (by decide) (fun c_5 => ?_) (fun c_5 => ?_)
  · refine lv_ldc (v := (-2000000000)) hx hb hown (hts (.constant RX11 232 (-2000000000)) w_729) dX11_about_33 ?_
    refine W_q9 hQ9 ?_
    replace hss_ := ((o_1 316 (by first | decide | omega))).trans hss_
    replace him_ := ((o_1 317 (by first | decide | omega))).trans him_
    replace hkq_ := ((o_1 318 (by first | decide | omega))).trans hkq_
    replace hwh_ := ((o_1 330 (by first | decide | omega))).trans hwh_
    replace hw6_ := ((o_1 331 (by first | decide | omega))).trans hw6_
    replace hb6_ := ((o_1 332 (by first | decide | omega))).trans hb6_
    exact W.iret (v := (-2000000000)) hx hb hr (fun _ hT9 _ => ⟨⟨_, f_1, rfl, (⟨mJ_mk (ab2) (be2) (sn92) (wn93) (sa94) (ly95) (rdy917) (fd918) (np) (nf) (nr) (na) (nt) (sp96) (wi97) (wa98) (va99) (bo910) (ju911) (dr912) (dn913) (sl914) (ax915) (lf916) (wh) (w6) (b6) (hmo) (hss_) (him_) (hkq_) (hsp_) (hwi_) (hwa_) (hva_) (hbo_) (hju_) (hdr_) (hdn_) (hsl_) (hax_) (hlf_) (hwh_) (hw6_) (hb6_) (hst) (by omega) (hx_1_0) (hi0) (hi1) ((fun _ => ⟨hx_1_3, hx_1_4⟩)), ⟨np, nf, nr, na, nt, hst, Or.inl ⟨fun z => c_5 z.1, rfl⟩⟩, fun j hj => (o_1 j (by omega))⟩), by rw [hT9]; exact hP⟩, hS.F hT9⟩) hS.2.2 dX11_about_35
  · refine lv_iload_n hx hb dX11_about_8 rfl (lv_at hl 2 rfl) ?_
    refine lv_i2l hx hb dX11_about_9 rfl ?_
    refine lv_lconst (v := 0) hx hb dX11_about_10 (by decide) ?_
    refine my_bel (v := Int32.toInt64 0) (by decide) ?_
    refine lv_ldc2 (v := 3) hx hb hown (hts (.constantLong RX11 77 (3)) w_159) dX11_about_11 ?_
    refine my_bel (v := Int32.toInt64 3) (by decide) ?_
    refine rd_calli (va_runS (As := [.long (Int32.toInt64 a2), .long (Int32.toInt64 0), .long (Int32.toInt64 3)]) (rest := []) ⟨hx, hb, hml, hown, hts⟩ (r_in l G g hg f_1 a2 0 3  ) (my_cwS hts ok_X11_in w_162 rfl rfl ⟨Nat.le_of_ble_eq_true rfl, Nat.le_of_ble_eq_true rfl⟩) ⟨bP.blind, fun U hU hW => ⟨rfl, by rw [hU]; exact hP, kG.warm hW hG⟩⟩ rfl rfl hl.1 rfl (lv_room (Nat.le_of_ble_eq_true rfl)) dX11_about_14 ⟨Nat.le_of_ble_eq_true rfl, Nat.le_of_ble_eq_true rfl⟩) (fun r hr9 => ?_)
    subst hr9
    refine my_ifeq (tgt := 33) hx hb dX11_about_17 (by decide) (fun c_17 => ?_) (fun c_17 => ?_)
    · refine lv_ldc (v := (-2000000000)) hx hb hown (hts (.constant RX11 232 (-2000000000)) w_729) dX11_about_33 ?_
      refine W_q9 hQ9 ?_
      replace hss_ := ((o_1 316 (by first | decide | omega))).trans hss_
      replace him_ := ((o_1 317 (by first | decide | omega))).trans him_
      replace hkq_ := ((o_1 318 (by first | decide | omega))).trans hkq_
      replace hwh_ := ((o_1 330 (by first | decide | omega))).trans hwh_
      replace hw6_ := ((o_1 331 (by first | decide | omega))).trans hw6_
      replace hb6_ := ((o_1 332 (by first | decide | omega))).trans hb6_
      exact W.iret (v := (-2000000000)) hx hb hr (fun _ hT9 _ => ⟨⟨_, f_1, rfl, (⟨mJ_mk (ab2) (be2) (sn92) (wn93) (sa94) (ly95) (rdy917) (fd918) (np) (nf) (nr) (na) (nt) (sp96) (wi97) (wa98) (va99) (bo910) (ju911) (dr912) (dn913) (sl914) (ax915) (lf916) (wh) (w6) (b6) (hmo) (hss_) (him_) (hkq_) (hsp_) (hwi_) (hwa_) (hva_) (hbo_) (hju_) (hdr_) (hdn_) (hsl_) (hax_) (hlf_) (hwh_) (hw6_) (hb6_) (hst) (by omega) (hx_1_0) (hi0) (hi1) ((fun _ => ⟨hx_1_3, hx_1_4⟩)), ⟨np, nf, nr, na, nt, hst, Or.inl ⟨fun z => c_17 z.2, rfl⟩⟩, fun j hj => (o_1 j (by omega))⟩), by rw [hT9]; exact hP⟩, hS.F hT9⟩) hS.2.2 dX11_about_35
    · obtain ⟨tn, htn, rfl⟩ := inN_nat (by omega) c_5
      obtain ⟨wn2, hwn2, rfl⟩ := inB_n (b := 3) (by omega) c_17
      refine lv_aload_n hx hb dX11_about_20 rfl (lv_at hl 0 rfl) ?_
      refine va_get (D := G.1) (ci := 10) (v := .ref (g 328)) (C := RX11) (T := TX11) (N := 25) hx hb hts inlX11 hown hG.1 hP 315 (wl_at (by decide) hmo) rfl 20 (by decide) (hts (.fieldLink RX11 48 "SwornListsModel" "abouts" "[I") w_124) (fun _ h9 => h9) rfl dX11_about_21 ?_
      refine lv_iconst (v := 4) hx hb dX11_about_24 (by decide) ?_
      refine lv_iload_n hx hb dX11_about_25 rfl (lv_at hl 1 rfl) ?_
      refine lv_imul hx hb dX11_about_26 ?_
      refine my_bei (v := nI (4 * tn)) (pk_mul 4 tn) ?_
      refine lv_iload_n hx hb dX11_about_27 rfl (lv_at hl 2 rfl) ?_
      refine lv_iadd hx hb dX11_about_28 ?_
      refine my_bei (v := nI (4 * tn + wn2)) ((nI_add (4 * tn) wn2).trans (congrArg nI (show (4 * tn) + wn2 = 4 * tn + wn2 by omega))) ?_
      refine va_iald hx hb hG.1 hP 328 0 (wl_at (by decide) hax_) rfl (vp_in_nI (by omega) (by decide)) dX11_about_29 ?_
      refine my_bei (v := ax915 (4 * tn + wn2)) (congrArg ax915 (nI_clamp (n := 4 * tn + wn2) (by omega))) ?_
      refine lv_goto (tgt := 35) hx hb dX11_about_30 (by decide) ?_
      refine W_q9 hQ9 ?_
      replace hss_ := ((o_1 316 (by first | decide | omega))).trans hss_
      replace him_ := ((o_1 317 (by first | decide | omega))).trans him_
      replace hkq_ := ((o_1 318 (by first | decide | omega))).trans hkq_
      replace hwh_ := ((o_1 330 (by first | decide | omega))).trans hwh_
      replace hw6_ := ((o_1 331 (by first | decide | omega))).trans hw6_
      replace hb6_ := ((o_1 332 (by first | decide | omega))).trans hb6_
      exact W.iret (v := ax915 (4 * tn + wn2)) hx hb hr (fun _ hT9 _ => ⟨⟨_, f_1, rfl, (⟨mJ_mk (ab2) (be2) (sn92) (wn93) (sa94) (ly95) (rdy917) (fd918) (np) (nf) (nr) (na) (nt) (sp96) (wi97) (wa98) (va99) (bo910) (ju911) (dr912) (dn913) (sl914) (ax915) (lf916) (wh) (w6) (b6) (hmo) (hss_) (him_) (hkq_) (hsp_) (hwi_) (hwa_) (hva_) (hbo_) (hju_) (hdr_) (hdn_) (hsl_) (hax_) (hlf_) (hwh_) (hw6_) (hb6_) (hst) (by omega) (hx_1_0) (hi0) (hi1) ((fun _ => ⟨hx_1_3, hx_1_4⟩)), ⟨np, nf, nr, na, nt, hst, Or.inr ⟨tn, wn2, htn, rfl, hwn2, rfl, (by rw [Nat.add_comm (4 * tn) wn2]; exact rQ_ax (hx_1_4 tn htn) hwn2)⟩⟩, fun j hj => (o_1 j (by omega))⟩), by rw [hT9]; exact hP⟩, hS.F hT9⟩) hS.2.2 dX11_about_35
theorem j2_about (l : Launch) (G : gW) (g : Nat → Nat) (hg : gOK g) (f : Nat → va_E) (ss : Nat → Int32) (im : Nat → Int32) (kq : Nat → Int32) (a1 : Int32) (a2 : Int32) (hI : mJ G g f ss im kq) (htA : ∀ n : Nat, n ≤ 10 → ss 4 = nI n → trOK ss n) : Met l yX11_about (wsT yX11_about cX11_about 3 (some .int)) ({ frames := 8, cells := 0, slots := 0, locals := 194 }) (bP G g f [.ref (g 315), .int a1, .int a2]) (bQi G g (fun (z9 : Int32) (f' : Nat → va_E) => (mJ G g f' ss im kq) ∧ (∃ p9 f9 r9 u9 t9, stOK ss p9 f9 r9 u9 t9 ∧ ((¬ (inN a1 t9 = true ∧ inB 0 a2 3 = true) ∧ z9 = -2000000000) ∨ (∃ x k, x < t9 ∧ a1 = nI x ∧ k ≤ 3 ∧ a2 = nI k ∧ z9 = abR (rBx p9 f9 r9 u9 ss x) (pasV (rFt p9 f9 r9 u9 ss x) (rBx p9 f9 r9 u9 ss x)) (kS ss x) k))) ∧ ∀ j, j < 315 → f' j = f j)) 0 0 (gA g) := mJ_elim hI (fun ab2 be2 sn wn sa ly rdy fd np nf nr na nt sp wi wa va bo ju dr dn sl ax lf wh w6 b6 hmo hss_ him_ hkq_ hsp_ hwi_ hwa_ hva_ hbo_ hju_ hdr_ hdn_ hsl_ hax_ hlf_ hwh_ hw6_ hb6_ hst hfo hdn hi0 hi1 hrd => jn2_about l G g hg f ab2 be2 sn wn sa ly rdy fd ss np nf nr na nt im kq sp wi wa va bo ju dr dn sl ax lf wh w6 b6 a1 a2 hmo hss_ him_ hkq_ hsp_ hwi_ hwa_ hva_ hbo_ hju_ hdr_ hdn_ hsl_ hax_ hlf_ hwh_ hw6_ hb6_ hst hfo hdn hi0 hi1 hrd htA)
set_option maxHeartbeats 4000000 in
set_option maxRecDepth 100000 in
theorem jn2_drawn (l : Launch) (G : gW) (g : Nat → Nat) (hg : gOK g) (f : Nat → va_E) (ab2 : Int64) (be2 : Int64) (sn : Int32) (wn : Int32) (sa : Int32) (ly : Int32) (rdy : Int32) (fd : Nat) (ss : Nat → Int32) (np : Nat) (nf : Nat) (nr : Nat) (na : Nat) (nt : Nat) (im : Nat → Int32) (kq : Nat → Int32) (sp : Nat → Int32) (wi : Nat → Int32) (wa : Nat → Int32) (va : Nat → Int64) (bo : Nat → Int32) (ju : Nat → Int32) (dr : Nat → Int32) (dn : Nat → Int32) (sl : Nat → Int32) (ax : Nat → Int32) (lf : Nat → Int32) (wh : Nat → Int32) (w6 : Nat → Int32) (b6 : Nat → Int32) (a1 : Int32) (a2 : Int32) (hmo : f 315 = eO 10 [.ref (g 316), .ref (g 317), .ref (g 318), .long ab2, .long be2, .int sn, .ref (g 319), .ref (g 320), .int wn, .ref (g 321), .ref (g 322), .int sa, .int ly, .int rdy, .int (nI fd), .ref (g 323), .ref (g 324), .ref (g 325), .ref (g 326), .ref (g 327), .ref (g 328), .ref (g 329), .ref (g 330), .ref (g 331), .ref (g 332)]) (hss_ : f 316 = eI G 2246 ss) (him_ : f 317 = eI G 4492 im) (hkq_ : f 318 = eZ G 2 kq) (hsp_ : f 319 = eI G 70 sp) (hwi_ : f 320 = eI G 70 wi) (hwa_ : f 321 = eI G 70 wa) (hva_ : f 322 = eJ G 70 va) (hbo_ : f 323 = eI G 11 bo) (hju_ : f 324 = eI G 11 ju) (hdr_ : f 325 = eI G 264 dr) (hdn_ : f 326 = eI G 11 dn) (hsl_ : f 327 = eI G 330 sl) (hax_ : f 328 = eI G 44 ax) (hlf_ : f 329 = eI G 30 lf) (hwh_ : f 330 = eI G 6 wh) (hw6_ : f 331 = eI G 6 w6) (hb6_ : f 332 = eI G 6 b6) (hst : stOK ss np nf nr na nt) (hfo : fd ≤ 10) (hdn : ∀ k, k < 11 → ∃ d, d ≤ 24 ∧ dn k = nI d) (hi0 : stI im 0) (hi1 : stI im 2246) (hrd : ¬ rdy = 0 → fd = nt ∧ ∀ z, z < nt → rHz np nf nr na ss bo ju dr dn sl ax z) (htA : ∀ n : Nat, n ≤ 10 → ss 4 = nI n → trOK ss n) : Met l yX11_drawn (wsT yX11_drawn cX11_drawn 3 (some .int)) ({ frames := 8, cells := 0, slots := 0, locals := 194 }) (bP G g f [.ref (g 315), .int a1, .int a2]) (bQi G g (fun (z9 : Int32) (f' : Nat → va_E) => (mJ G g f' ss im kq) ∧ (∃ p9 f9 r9 u9 t9, stOK ss p9 f9 r9 u9 t9 ∧ ((¬ (inN a1 t9 = true ∧ 0 ≤ a2) ∧ z9 = -2) ∨ (∃ x, x < t9 ∧ a1 = nI x ∧ 0 ≤ a2 ∧ z9 = drV (rBx p9 f9 r9 u9 ss x) (kS ss x) a2))) ∧ ∀ j, j < 315 → f' j = f j)) 0 0 (gA g) := by
  refine Met.ofW (cc := cX11_drawn) (maxL := 3) (ret := (some .int)) (by decide) rfl ?_
  intro p e s m args below meth c s₁ B hml hv
  obtain ⟨rfl, hP, hG⟩ := hv
  have hx := B.exec
  have hb := B.bytes
  have hr := B.returns
  have hts := my_hts (atoms_spec (ws := wsT yX11_drawn cX11_drawn 3 (some .int)) B.pre)
  have hown : s.vm.findClass RX11 = some m.cls := findClass_of_methodNamed B.named
  have hlocks := B.notSynchronized
  have hS : va_S (gA g) s.heap s.heap [] := va_S.rf
  have hl := lv_entry ([.ref (g 315), .int a1, .int a2]) (n := 3) (Nat.le_of_ble_eq_true rfl)
  rw [lg_entry_eq]
  generalize (lg_sl ([.ref (g 315), .int a1, .int a2]) ++ List.replicate (3 - (lg_sl ([.ref (g 315), .int a1, .int a2])).length) Slot.unset).toArray = ls at hl ⊢
  have hl : lv_has ls 3 [(0, .ref (g 315)), (1, .int a1), (2, .int a2)] := hl
  refine W_q8 (fun Q9 hQ9 => ?_)
  have hc0 := hst.c0
  have hc1 := hst.c1
  have hc2 := hst.c2
  have hc3 := hst.c3
  have hc4 := hst.c4
  have htr := htA nt hst.c4 hst.h4
  refine lv_aload_n hx hb dX11_drawn_0 rfl (lv_at hl 0 rfl) ?_
  refine lv_iload_n hx hb dX11_drawn_1 rfl (lv_at hl 1 rfl) ?_
  refine b_calli (va_runV (As := [.int a1]) (rest := []) ⟨hx, hb, hml, hown, hts⟩ (r_isTrialE l G g hg f ab2 be2 sn wn sa ly rdy fd ss np nf nr na nt sp wi wa va bo ju dr dn sl ax lf a1 hmo hss_ hsp_ hwi_ hwa_ hva_ hbo_ hju_ hdr_ hdn_ hsl_ hax_ hlf_ (by first | assumption | omega | decide) (by first | assumption | omega | decide) (by first | assumption | omega | decide) (by first | assumption | omega | decide) (by first | assumption | omega | decide)) (my_cwV hts ok_X11_isTrial w_680 rfl rfl ⟨Nat.le_of_ble_eq_true rfl, Nat.le_of_ble_eq_true rfl⟩) ⟨bP.blind, va_recv hG.1 hP (ci := 10) (q0 := 315) rfl (wl_at (by decide) hmo), fun U hU hW => ⟨rfl, by rw [hU]; exact hP, kG.warm hW hG⟩⟩ rfl rfl hl.1 rfl (lv_room (Nat.le_of_ble_eq_true rfl)) dX11_drawn_2 ⟨Nat.le_of_ble_eq_true rfl, Nat.le_of_ble_eq_true rfl⟩) hS (fun v1 f_1 H locs hq9 hP hS => ?_)
  obtain ⟨sn92, wn93, sa94, ly95, sp96, wi97, wa98, va99, bo910, ju911, dr912, dn913, sl914, ax915, lf916, rdy917, fd918, rfl, hq_1_0, hq_1_1, hq_1_2, hq_1_3, hq_1_4, hq_1_5, hq_1_6, hq_1_7, hq_1_8, hq_1_9, hq_1_10, hq_1_11, hx_1_0, hx_1_1, hx_1_2, hx_1_3, hx_1_4, o_1⟩ := hq9
  have hmo : f_1 315 = eO 10 [.ref (g 316), .ref (g 317), .ref (g 318), .long ab2, .long be2, .int sn92, .ref (g 319), .ref (g 320), .int wn93, .ref (g 321), .ref (g 322), .int sa94, .int ly95, .int rdy917, .int (nI fd918), .ref (g 323), .ref (g 324), .ref (g 325), .ref (g 326), .ref (g 327), .ref (g 328), .ref (g 329), .ref (g 330), .ref (g 331), .ref (g 332)] := hq_1_0
  have hsp_ : f_1 319 = eI G 70 sp96 := hq_1_1
  have hwi_ : f_1 320 = eI G 70 wi97 := hq_1_2
  have hwa_ : f_1 321 = eI G 70 wa98 := hq_1_3
  have hva_ : f_1 322 = eJ G 70 va99 := hq_1_4
  have hbo_ : f_1 323 = eI G 11 bo910 := hq_1_5
  have hju_ : f_1 324 = eI G 11 ju911 := hq_1_6
  have hdr_ : f_1 325 = eI G 264 dr912 := hq_1_7
  have hdn_ : f_1 326 = eI G 11 dn913 := hq_1_8
  have hsl_ : f_1 327 = eI G 330 sl914 := hq_1_9
  have hax_ : f_1 328 = eI G 44 ax915 := hq_1_10
  have hlf_ : f_1 329 = eI G 30 lf916 := hq_1_11
  refine my_ifeq (tgt := 12) hx hb dX11_drawn_5 (by decide) (fun c_5 => ?_) (fun c_5 => ?_)
  · refine lv_bipush (v := (-2)) hx hb dX11_drawn_12 (by decide) ?_
    refine W_q9 hQ9 ?_
    replace hss_ := ((o_1 316 (by first | decide | omega))).trans hss_
    replace him_ := ((o_1 317 (by first | decide | omega))).trans him_
    replace hkq_ := ((o_1 318 (by first | decide | omega))).trans hkq_
    replace hwh_ := ((o_1 330 (by first | decide | omega))).trans hwh_
    replace hw6_ := ((o_1 331 (by first | decide | omega))).trans hw6_
    replace hb6_ := ((o_1 332 (by first | decide | omega))).trans hb6_
    exact W.iret (v := (-2)) hx hb hr (fun _ hT9 _ => ⟨⟨_, f_1, rfl, (⟨mJ_mk (ab2) (be2) (sn92) (wn93) (sa94) (ly95) (rdy917) (fd918) (np) (nf) (nr) (na) (nt) (sp96) (wi97) (wa98) (va99) (bo910) (ju911) (dr912) (dn913) (sl914) (ax915) (lf916) (wh) (w6) (b6) (hmo) (hss_) (him_) (hkq_) (hsp_) (hwi_) (hwa_) (hva_) (hbo_) (hju_) (hdr_) (hdn_) (hsl_) (hax_) (hlf_) (hwh_) (hw6_) (hb6_) (hst) (by omega) (hx_1_0) (hi0) (hi1) ((fun _ => ⟨hx_1_3, hx_1_4⟩)), ⟨np, nf, nr, na, nt, hst, Or.inl ⟨fun z => c_5 z.1, rfl⟩⟩, fun j hj => (o_1 j (by omega))⟩), by rw [hT9]; exact hP⟩, hS.F hT9⟩) hS.2.2 dX11_drawn_14
  · refine lv_iload_n hx hb dX11_drawn_8 rfl (lv_at hl 2 rfl) ?_
    refine lv_if_ge (tgt := 15) hx hb dX11_drawn_9 (by decide) (fun c_9 => ?_) (fun c_9 => ?_)
    · obtain ⟨tn, htn, rfl⟩ := inN_nat (by omega) c_5
      obtain ⟨i2, hi2, rfl⟩ := nI_of (Int32.not_lt.mpr c_9)
      have hm5 : (hM (rBx np nf nr na ss tn) (kS ss tn)) ≤ 24 := by
        obtain ⟨_, sq, hsq, e8⟩ := hst.tr tn htn
        refine Nat.le_trans (Nat.min_le_left _ _) ?_
        show (ss (10 * tn + 8 + 1546)).toNatClampNeg ≤ 24
        rw [nI_b9 e8 (by omega)]; exact hsq
      refine lv_iload_n hx hb dX11_drawn_15 rfl (lv_at hl 2 rfl) ?_
      refine lv_aload_n hx hb dX11_drawn_16 rfl (lv_at hl 0 rfl) ?_
      refine va_get (D := G.1) (ci := 10) (v := .ref (g 326)) (C := RX11) (T := TX11) (N := 25) hx hb hts inlX11 hown hG.1 hP 315 (wl_at (by decide) hmo) rfl 18 (by decide) (hts (.fieldLink RX11 42 "SwornListsModel" "drews" "[I") w_122) (fun _ h9 => h9) rfl dX11_drawn_17 ?_
      refine lv_iload_n hx hb dX11_drawn_20 rfl (lv_at hl 1 rfl) ?_
      refine va_iald hx hb hG.1 hP 326 0 (wl_at (by decide) hdn_) rfl (vp_in_nI (by omega) (by decide)) dX11_drawn_21 ?_
      refine my_bei (v := dn913 tn) (congrArg dn913 (nI_clamp (n := tn) (by omega))) ?_
      refine my_bei (v := nI (hM (rBx np nf nr na ss tn) (kS ss tn))) ((hx_1_4 tn htn).2.2.1) ?_
      refine lv_icmp_ge (tgt := 39) hx hb dX11_drawn_22 (by decide) (fun c_22 => ?_) (fun c_22 => ?_)
      · have k_22 : hM (rBx np nf nr na ss tn) (kS ss tn) ≤ i2 := (nI_leI (a := hM (rBx np nf nr na ss tn) (kS ss tn)) (b := i2) (by omega) (by omega)).mp c_22
        refine lv_iconst (v := (-1)) hx hb dX11_drawn_39 (by decide) ?_
        refine W_q9 hQ9 ?_
        replace hss_ := ((o_1 316 (by first | decide | omega))).trans hss_
        replace him_ := ((o_1 317 (by first | decide | omega))).trans him_
        replace hkq_ := ((o_1 318 (by first | decide | omega))).trans hkq_
        replace hwh_ := ((o_1 330 (by first | decide | omega))).trans hwh_
        replace hw6_ := ((o_1 331 (by first | decide | omega))).trans hw6_
        replace hb6_ := ((o_1 332 (by first | decide | omega))).trans hb6_
        exact W.iret (v := (-1)) hx hb hr (fun _ hT9 _ => ⟨⟨_, f_1, rfl, (⟨mJ_mk (ab2) (be2) (sn92) (wn93) (sa94) (ly95) (rdy917) (fd918) (np) (nf) (nr) (na) (nt) (sp96) (wi97) (wa98) (va99) (bo910) (ju911) (dr912) (dn913) (sl914) (ax915) (lf916) (wh) (w6) (b6) (hmo) (hss_) (him_) (hkq_) (hsp_) (hwi_) (hwa_) (hva_) (hbo_) (hju_) (hdr_) (hdn_) (hsl_) (hax_) (hlf_) (hwh_) (hw6_) (hb6_) (hst) (by omega) (hx_1_0) (hi0) (hi1) ((fun _ => ⟨hx_1_3, hx_1_4⟩)), ⟨np, nf, nr, na, nt, hst, Or.inr ⟨tn, htn, rfl, c_9, (if_neg (inN_hi (by omega) c_22)).symm⟩⟩, fun j hj => (o_1 j (by omega))⟩), by rw [hT9]; exact hP⟩, hS.F hT9⟩) hS.2.2 dX11_drawn_40
      · have k_22 : ¬ hM (rBx np nf nr na ss tn) (kS ss tn) ≤ i2 := fun z9 => c_22 ((nI_leI (a := hM (rBx np nf nr na ss tn) (kS ss tn)) (b := i2) (by omega) (by omega)).mpr z9)
        refine lv_aload_n hx hb dX11_drawn_25 rfl (lv_at hl 0 rfl) ?_
        refine va_get (D := G.1) (ci := 10) (v := .ref (g 325)) (C := RX11) (T := TX11) (N := 25) hx hb hts inlX11 hown hG.1 hP 315 (wl_at (by decide) hmo) rfl 17 (by decide) (hts (.fieldLink RX11 39 "SwornListsModel" "drew" "[I") w_121) (fun _ h9 => h9) rfl dX11_drawn_26 ?_
        refine lv_bipush (v := 24) hx hb dX11_drawn_29 (by decide) ?_
        refine lv_iload_n hx hb dX11_drawn_31 rfl (lv_at hl 1 rfl) ?_
        refine lv_imul hx hb dX11_drawn_32 ?_
        refine my_bei (v := nI (24 * tn)) (pk_mul 24 tn) ?_
        refine lv_iload_n hx hb dX11_drawn_33 rfl (lv_at hl 2 rfl) ?_
        refine lv_iadd hx hb dX11_drawn_34 ?_
        refine my_bei (v := nI (i2 + 24 * tn)) ((nI_add (24 * tn) i2).trans (congrArg nI (show (24 * tn) + i2 = i2 + 24 * tn by omega))) ?_
        refine va_iald hx hb hG.1 hP 325 0 (wl_at (by decide) hdr_) rfl (vp_in_nI (by omega) (by decide)) dX11_drawn_35 ?_
        refine my_bei (v := dr912 (i2 + 24 * tn)) (congrArg dr912 (nI_clamp (n := i2 + 24 * tn) (by omega))) ?_
        refine lv_goto (tgt := 40) hx hb dX11_drawn_36 (by decide) ?_
        refine W_q9 hQ9 ?_
        replace hss_ := ((o_1 316 (by first | decide | omega))).trans hss_
        replace him_ := ((o_1 317 (by first | decide | omega))).trans him_
        replace hkq_ := ((o_1 318 (by first | decide | omega))).trans hkq_
        replace hwh_ := ((o_1 330 (by first | decide | omega))).trans hwh_
        replace hw6_ := ((o_1 331 (by first | decide | omega))).trans hw6_
        replace hb6_ := ((o_1 332 (by first | decide | omega))).trans hb6_
        exact W.iret (v := dr912 (i2 + 24 * tn)) hx hb hr (fun _ hT9 _ => ⟨⟨_, f_1, rfl, (⟨mJ_mk (ab2) (be2) (sn92) (wn93) (sa94) (ly95) (rdy917) (fd918) (np) (nf) (nr) (na) (nt) (sp96) (wi97) (wa98) (va99) (bo910) (ju911) (dr912) (dn913) (sl914) (ax915) (lf916) (wh) (w6) (b6) (hmo) (hss_) (him_) (hkq_) (hsp_) (hwi_) (hwa_) (hva_) (hbo_) (hju_) (hdr_) (hdn_) (hsl_) (hax_) (hlf_) (hwh_) (hw6_) (hb6_) (hst) (by omega) (hx_1_0) (hi0) (hi1) ((fun _ => ⟨hx_1_3, hx_1_4⟩)), ⟨np, nf, nr, na, nt, hst, Or.inr ⟨tn, htn, rfl, c_9, ((hx_1_4 tn htn).2.2.2.1 i2 (by omega)).trans (by unfold drV; rw [if_pos (inN_n (by omega) (by omega)), nI_clamp (by omega)])⟩⟩, fun j hj => (o_1 j (by omega))⟩), by rw [hT9]; exact hP⟩, hS.F hT9⟩) hS.2.2 dX11_drawn_40
    · refine lv_bipush (v := (-2)) hx hb dX11_drawn_12 (by decide) ?_
      refine W_q9 hQ9 ?_
      replace hss_ := ((o_1 316 (by first | decide | omega))).trans hss_
      replace him_ := ((o_1 317 (by first | decide | omega))).trans him_
      replace hkq_ := ((o_1 318 (by first | decide | omega))).trans hkq_
      replace hwh_ := ((o_1 330 (by first | decide | omega))).trans hwh_
      replace hw6_ := ((o_1 331 (by first | decide | omega))).trans hw6_
      replace hb6_ := ((o_1 332 (by first | decide | omega))).trans hb6_
      exact W.iret (v := (-2)) hx hb hr (fun _ hT9 _ => ⟨⟨_, f_1, rfl, (⟨mJ_mk (ab2) (be2) (sn92) (wn93) (sa94) (ly95) (rdy917) (fd918) (np) (nf) (nr) (na) (nt) (sp96) (wi97) (wa98) (va99) (bo910) (ju911) (dr912) (dn913) (sl914) (ax915) (lf916) (wh) (w6) (b6) (hmo) (hss_) (him_) (hkq_) (hsp_) (hwi_) (hwa_) (hva_) (hbo_) (hju_) (hdr_) (hdn_) (hsl_) (hax_) (hlf_) (hwh_) (hw6_) (hb6_) (hst) (by omega) (hx_1_0) (hi0) (hi1) ((fun _ => ⟨hx_1_3, hx_1_4⟩)), ⟨np, nf, nr, na, nt, hst, Or.inl ⟨fun z => c_9 z.2, rfl⟩⟩, fun j hj => (o_1 j (by omega))⟩), by rw [hT9]; exact hP⟩, hS.F hT9⟩) hS.2.2 dX11_drawn_14
theorem j2_drawn (l : Launch) (G : gW) (g : Nat → Nat) (hg : gOK g) (f : Nat → va_E) (ss : Nat → Int32) (im : Nat → Int32) (kq : Nat → Int32) (a1 : Int32) (a2 : Int32) (hI : mJ G g f ss im kq) (htA : ∀ n : Nat, n ≤ 10 → ss 4 = nI n → trOK ss n) : Met l yX11_drawn (wsT yX11_drawn cX11_drawn 3 (some .int)) ({ frames := 8, cells := 0, slots := 0, locals := 194 }) (bP G g f [.ref (g 315), .int a1, .int a2]) (bQi G g (fun (z9 : Int32) (f' : Nat → va_E) => (mJ G g f' ss im kq) ∧ (∃ p9 f9 r9 u9 t9, stOK ss p9 f9 r9 u9 t9 ∧ ((¬ (inN a1 t9 = true ∧ 0 ≤ a2) ∧ z9 = -2) ∨ (∃ x, x < t9 ∧ a1 = nI x ∧ 0 ≤ a2 ∧ z9 = drV (rBx p9 f9 r9 u9 ss x) (kS ss x) a2))) ∧ ∀ j, j < 315 → f' j = f j)) 0 0 (gA g) := mJ_elim hI (fun ab2 be2 sn wn sa ly rdy fd np nf nr na nt sp wi wa va bo ju dr dn sl ax lf wh w6 b6 hmo hss_ him_ hkq_ hsp_ hwi_ hwa_ hva_ hbo_ hju_ hdr_ hdn_ hsl_ hax_ hlf_ hwh_ hw6_ hb6_ hst hfo hdn hi0 hi1 hrd => jn2_drawn l G g hg f ab2 be2 sn wn sa ly rdy fd ss np nf nr na nt im kq sp wi wa va bo ju dr dn sl ax lf wh w6 b6 a1 a2 hmo hss_ him_ hkq_ hsp_ hwi_ hwa_ hva_ hbo_ hju_ hdr_ hdn_ hsl_ hax_ hlf_ hwh_ hw6_ hb6_ hst hfo hdn hi0 hi1 hrd htA)
set_option maxHeartbeats 4000000 in
set_option maxRecDepth 100000 in
theorem jn2_bad (l : Launch) (G : gW) (g : Nat → Nat) (hg : gOK g) (f : Nat → va_E) (ab2 : Int64) (be2 : Int64) (sn : Int32) (wn : Int32) (sa : Int32) (ly : Int32) (rdy : Int32) (fd : Nat) (ss : Nat → Int32) (np : Nat) (nf : Nat) (nr : Nat) (na : Nat) (nt : Nat) (im : Nat → Int32) (kq : Nat → Int32) (sp : Nat → Int32) (wi : Nat → Int32) (wa : Nat → Int32) (va : Nat → Int64) (bo : Nat → Int32) (ju : Nat → Int32) (dr : Nat → Int32) (dn : Nat → Int32) (sl : Nat → Int32) (ax : Nat → Int32) (lf : Nat → Int32) (wh : Nat → Int32) (w6 : Nat → Int32) (b6 : Nat → Int32) (a1 : Int32) (hmo : f 315 = eO 10 [.ref (g 316), .ref (g 317), .ref (g 318), .long ab2, .long be2, .int sn, .ref (g 319), .ref (g 320), .int wn, .ref (g 321), .ref (g 322), .int sa, .int ly, .int rdy, .int (nI fd), .ref (g 323), .ref (g 324), .ref (g 325), .ref (g 326), .ref (g 327), .ref (g 328), .ref (g 329), .ref (g 330), .ref (g 331), .ref (g 332)]) (hss_ : f 316 = eI G 2246 ss) (him_ : f 317 = eI G 4492 im) (hkq_ : f 318 = eZ G 2 kq) (hsp_ : f 319 = eI G 70 sp) (hwi_ : f 320 = eI G 70 wi) (hwa_ : f 321 = eI G 70 wa) (hva_ : f 322 = eJ G 70 va) (hbo_ : f 323 = eI G 11 bo) (hju_ : f 324 = eI G 11 ju) (hdr_ : f 325 = eI G 264 dr) (hdn_ : f 326 = eI G 11 dn) (hsl_ : f 327 = eI G 330 sl) (hax_ : f 328 = eI G 44 ax) (hlf_ : f 329 = eI G 30 lf) (hwh_ : f 330 = eI G 6 wh) (hw6_ : f 331 = eI G 6 w6) (hb6_ : f 332 = eI G 6 b6) (hst : stOK ss np nf nr na nt) (hfo : fd ≤ 10) (hdn : ∀ k, k < 11 → ∃ d, d ≤ 24 ∧ dn k = nI d) (hi0 : stI im 0) (hi1 : stI im 2246) (hrd : ¬ rdy = 0 → fd = nt ∧ ∀ z, z < nt → rHz np nf nr na ss bo ju dr dn sl ax z) (htA : ∀ n : Nat, n ≤ 10 → ss 4 = nI n → trOK ss n) : Met l yX11_bad (wsT yX11_bad cX11_bad 4 (some .int)) ({ frames := 7, cells := 0, slots := 0, locals := 173 }) (bP G g f [.ref (g 315), .int a1]) (bQi G g (fun (z9 : Int32) (f' : Nat → va_E) => (mJ G g f' ss im kq) ∧ (∃ p9 f9 r9 u9 t9, stOK ss p9 f9 r9 u9 t9 ∧ ((¬ inB 0 a1 9999 = true ∧ z9 = -2) ∨ (inB 0 a1 9999 = true ∧ z9 = bdV (fun i c => ss (3 * i + c + 130)) (fun t c => ss (10 * t + c + 1546)) (rJr p9 f9 r9 u9 ss) f9 a1 t9))) ∧ ∀ j, j < 315 → f' j = f j)) 0 0 (gA g) := by
  refine Met.ofW (cc := cX11_bad) (maxL := 4) (ret := (some .int)) (by decide) rfl ?_
  intro p e s m args below meth c s₁ B hml hv
  obtain ⟨rfl, hP, hG⟩ := hv
  have hx := B.exec
  have hb := B.bytes
  have hr := B.returns
  have hts := my_hts (atoms_spec (ws := wsT yX11_bad cX11_bad 4 (some .int)) B.pre)
  have hown : s.vm.findClass RX11 = some m.cls := findClass_of_methodNamed B.named
  have hlocks := B.notSynchronized
  have hS : va_S (gA g) s.heap s.heap [] := va_S.rf
  have hl := lv_entry ([.ref (g 315), .int a1]) (n := 4) (Nat.le_of_ble_eq_true rfl)
  rw [lg_entry_eq]
  generalize (lg_sl ([.ref (g 315), .int a1]) ++ List.replicate (4 - (lg_sl ([.ref (g 315), .int a1])).length) Slot.unset).toArray = ls at hl ⊢
  have hl : lv_has ls 4 [(0, .ref (g 315)), (1, .int a1)] := hl
  refine W_q8 (fun Q9 hQ9 => ?_)
  have hc0 := hst.c0
  have hc1 := hst.c1
  have hc2 := hst.c2
  have hc3 := hst.c3
  have hc4 := hst.c4
  have htr := htA nt hst.c4 hst.h4
  refine lv_iload_n hx hb dX11_bad_0 rfl (lv_at hl 1 rfl) ?_
  refine rd_calli (va_runS (As := [.int a1]) (rest := []) ⟨hx, hb, hml, hown, hts⟩ (r_isDay l G g hg f a1  ) (my_cwS hts ok_X11_isDay w_190 rfl rfl ⟨Nat.le_of_ble_eq_true rfl, Nat.le_of_ble_eq_true rfl⟩) ⟨bP.blind, fun U hU hW => ⟨rfl, by rw [hU]; exact hP, kG.warm hW hG⟩⟩ rfl rfl hl.1 rfl (lv_room (Nat.le_of_ble_eq_true rfl)) dX11_bad_1 ⟨Nat.le_of_ble_eq_true rfl, Nat.le_of_ble_eq_true rfl⟩) (fun r hr9 => ?_)
  subst hr9
  refine my_ifne (tgt := 10) hx hb dX11_bad_4 (by decide) (fun c_4 => ?_) (fun c_4 => ?_)
  · refine lv_aload_n hx hb dX11_bad_10 rfl (lv_at hl 0 rfl) ?_
    refine b_callv (va_runV (As := []) (rest := []) ⟨hx, hb, hml, hown, hts⟩ (r_findsE l G g hg f ab2 be2 sn wn sa ly rdy fd ss np nf nr na nt sp wi wa va bo ju dr dn sl ax lf hmo hss_ hsp_ hwi_ hwa_ hva_ hbo_ hju_ hdr_ hdn_ hsl_ hax_ hlf_ (by first | assumption | omega | decide) (by first | assumption | omega | decide) (by first | assumption | omega | decide) (by first | assumption | omega | decide) (by first | assumption | omega | decide)) (my_cwV hts ok_X11_finds w_523 rfl rfl ⟨Nat.le_of_ble_eq_true rfl, Nat.le_of_ble_eq_true rfl⟩) ⟨bP.blind, va_recv hG.1 hP (ci := 10) (q0 := 315) rfl (wl_at (by decide) hmo), fun U hU hW => ⟨rfl, by rw [hU]; exact hP, kG.warm hW hG⟩⟩ rfl rfl hl.1 rfl (lv_room (Nat.le_of_ble_eq_true rfl)) dX11_bad_11 ⟨Nat.le_of_ble_eq_true rfl, Nat.le_of_ble_eq_true rfl⟩) hS (fun f_1 H locs hq9 hP hS => ?_)
    obtain ⟨sn91, wn92, sa93, ly94, sp95, wi96, wa97, va98, bo99, ju910, dr911, dn912, sl913, ax914, lf915, rdy916, fd917, hq_1_0, hq_1_1, hq_1_2, hq_1_3, hq_1_4, hq_1_5, hq_1_6, hq_1_7, hq_1_8, hq_1_9, hq_1_10, hq_1_11, hx_1_0, hx_1_1, hx_1_2, hx_1_3, hx_1_4, o_1⟩ := hq9
    have hmo : f_1 315 = eO 10 [.ref (g 316), .ref (g 317), .ref (g 318), .long ab2, .long be2, .int sn91, .ref (g 319), .ref (g 320), .int wn92, .ref (g 321), .ref (g 322), .int sa93, .int ly94, .int rdy916, .int (nI fd917), .ref (g 323), .ref (g 324), .ref (g 325), .ref (g 326), .ref (g 327), .ref (g 328), .ref (g 329), .ref (g 330), .ref (g 331), .ref (g 332)] := hq_1_0
    have hsp_ : f_1 319 = eI G 70 sp95 := hq_1_1
    have hwi_ : f_1 320 = eI G 70 wi96 := hq_1_2
    have hwa_ : f_1 321 = eI G 70 wa97 := hq_1_3
    have hva_ : f_1 322 = eJ G 70 va98 := hq_1_4
    have hbo_ : f_1 323 = eI G 11 bo99 := hq_1_5
    have hju_ : f_1 324 = eI G 11 ju910 := hq_1_6
    have hdr_ : f_1 325 = eI G 264 dr911 := hq_1_7
    have hdn_ : f_1 326 = eI G 11 dn912 := hq_1_8
    have hsl_ : f_1 327 = eI G 330 sl913 := hq_1_9
    have hax_ : f_1 328 = eI G 44 ax914 := hq_1_10
    have hlf_ : f_1 329 = eI G 30 lf915 := hq_1_11
    refine lv_iconst (v := 0) hx hb dX11_bad_14 (by decide) ?_
    refine lv_istore_n (lv' := [(2, .int 0), (0, .ref (g 315)), (1, .int a1)]) hx hb dX11_bad_15 rfl hl (by decide) rfl (fun ls hl => ?_)
    refine lv_iconst (v := 0) hx hb dX11_bad_16 (by decide) ?_
    refine lv_istore_n (lv' := [(3, .int 0), (2, .int 0), (0, .ref (g 315)), (1, .int a1)]) hx hb dX11_bad_17 rfl hl (by decide) rfl (fun ls hl => ?_)
    replace hss_ := ((o_1 316 (by first | decide | omega))).trans hss_
    replace him_ := ((o_1 317 (by first | decide | omega))).trans him_
    replace hkq_ := ((o_1 318 (by first | decide | omega))).trans hkq_
    replace hwh_ := ((o_1 330 (by first | decide | omega))).trans hwh_
    replace hw6_ := ((o_1 331 (by first | decide | omega))).trans hw6_
    replace hb6_ := ((o_1 332 (by first | decide | omega))).trans hb6_
    have key18 : ∀ (n9_18 : Nat) (i : Nat) (u : Int32) (f_2 : Nat → va_E) (H : Heap) (locs : List Loc) (ls : Array Slot), (i ≤ nt) → (u = bdV (fun i c => ss (3 * i + c + 130)) (fun t c => ss (10 * t + c + 1546)) (rJr np nf nr na ss) nf a1 i) → nt - i < n9_18 → f_2 315 = eO 10 [.ref (g 316), .ref (g 317), .ref (g 318), .long ab2, .long be2, .int sn91, .ref (g 319), .ref (g 320), .int wn92, .ref (g 321), .ref (g 322), .int sa93, .int ly94, .int rdy916, .int (nI fd917), .ref (g 323), .ref (g 324), .ref (g 325), .ref (g 326), .ref (g 327), .ref (g 328), .ref (g 329), .ref (g 330), .ref (g 331), .ref (g 332)] → f_2 316 = eI G 2246 ss → f_2 317 = eI G 4492 im → f_2 318 = eZ G 2 kq → f_2 319 = eI G 70 sp95 → f_2 320 = eI G 70 wi96 → f_2 321 = eI G 70 wa97 → f_2 322 = eJ G 70 va98 → f_2 323 = eI G 11 bo99 → f_2 324 = eI G 11 ju910 → f_2 325 = eI G 264 dr911 → f_2 326 = eI G 11 dn912 → f_2 327 = eI G 330 sl913 → f_2 328 = eI G 44 ax914 → f_2 329 = eI G 30 lf915 → f_2 330 = eI G 6 wh → f_2 331 = eI G 6 w6 → f_2 332 = eI G 6 b6 → (∀ j, (j < 333 ∨ 333 ≤ j) → f_2 j = f_1 j) → va_P G.1 vwCl (wl g f_2) H → va_S (gA g) s.heap H locs → lv_has ls 4 [(0, .ref (g 315)), (1, .int a1), (2, .int u), (3, .int (nI i))] → W p l e (headSpec (wsT yX11_bad cX11_bad 4 (some .int)) ({ frames := 7, cells := 0, slots := 0, locals := 173 })).room s m ([.ref (g 315), .int a1] : List Value).toArray below meth c H locs 0 0 Q9 (F0 m 18 ls []) := by
      intro n9_18
      induction n9_18 with
      | zero => intro i u f_2 H locs ls hi hu hn9_18; exact absurd hn9_18 (Nat.not_lt_zero _)
      | succ n9_18 ih_18 =>
        intro i u f_2 H locs ls hi hu hn9_18 hmo hss_ him_ hkq_ hsp_ hwi_ hwa_ hva_ hbo_ hju_ hdr_ hdn_ hsl_ hax_ hlf_ hwh_ hw6_ hb6_ o_2 hP hS hl
        refine lv_iload_n hx hb dX11_bad_18 rfl (lv_at hl 3 rfl) ?_
        refine lv_aload_n hx hb dX11_bad_19 rfl (lv_at hl 0 rfl) ?_
        refine va_get (D := G.1) (ci := 10) (v := .ref (g 316)) (C := RX11) (T := TX11) (N := 25) hx hb hts inlX11 hown hG.1 hP 315 (wl_at (by decide) hmo) rfl 0 (by decide) (hts (.fieldLink RX11 7 "SwornListsModel" "st" "[I") w_112) (fun _ h9 => h9) rfl dX11_bad_20 ?_
        refine lv_iconst (v := 4) hx hb dX11_bad_23 (by decide) ?_
        refine va_iald hx hb hG.1 hP 316 0 (wl_at (by decide) hss_) rfl (by unfold vp_in; decide) dX11_bad_24 ?_
        refine my_bei (v := ss 4) (rfl) ?_
        refine my_bei (v := nI nt) (hst.h4) ?_
        refine lv_icmp_ge (tgt := 60) hx hb dX11_bad_25 (by decide) (fun c_25 => ?_) (fun c_25 => ?_)
        · have k_25 : nt ≤ i := (nI_leI (a := nt) (b := i) (by omega) (by omega)).mp c_25
          refine lv_iload_n hx hb dX11_bad_60 rfl (lv_at hl 2 rfl) ?_
          refine W_q9 hQ9 ?_
          exact W.iret (v := u) hx hb hr (fun _ hT9 _ => ⟨⟨_, f_2, rfl, (⟨mJ_mk (ab2) (be2) (sn91) (wn92) (sa93) (ly94) (rdy916) (fd917) (np) (nf) (nr) (na) (nt) (sp95) (wi96) (wa97) (va98) (bo99) (ju910) (dr911) (dn912) (sl913) (ax914) (lf915) (wh) (w6) (b6) (hmo) (hss_) (him_) (hkq_) (hsp_) (hwi_) (hwa_) (hva_) (hbo_) (hju_) (hdr_) (hdn_) (hsl_) (hax_) (hlf_) (hwh_) (hw6_) (hb6_) (hst) (by omega) (hx_1_0) (hi0) (hi1) ((fun _ => ⟨hx_1_3, hx_1_4⟩)), ⟨np, nf, nr, na, nt, hst, Or.inr ⟨c_4, by rw [hu, show i = nt by omega]⟩⟩, fun j hj => ((o_2 j (by omega))).trans (o_1 j (by omega))⟩), by rw [hT9]; exact hP⟩, hS.F hT9⟩) hS.2.2 dX11_bad_61
        · have k_25 : ¬ nt ≤ i := fun z9 => c_25 ((nI_leI (a := nt) (b := i) (by omega) (by omega)).mpr z9)
          refine lv_iload_n hx hb dX11_bad_28 rfl (lv_at hl 2 rfl) ?_
          refine lv_aload_n hx hb dX11_bad_29 rfl (lv_at hl 0 rfl) ?_
          refine va_get (D := G.1) (ci := 10) (v := .ref (g 324)) (C := RX11) (T := TX11) (N := 25) hx hb hts inlX11 hown hG.1 hP 315 (wl_at (by decide) hmo) rfl 16 (by decide) (hts (.fieldLink RX11 36 "SwornListsModel" "juries" "[I") w_120) (fun _ h9 => h9) rfl dX11_bad_30 ?_
          refine lv_iload_n hx hb dX11_bad_33 rfl (lv_at hl 3 rfl) ?_
          refine va_iald hx hb hG.1 hP 324 0 (wl_at (by decide) hju_) rfl (vp_in_nI (by omega) (by decide)) dX11_bad_34 ?_
          refine my_bei (v := ju910 i) (congrArg ju910 (nI_clamp (n := i) (by omega))) ?_
          refine lv_aload_n hx hb dX11_bad_35 rfl (lv_at hl 0 rfl) ?_
          refine lv_iload_n hx hb dX11_bad_36 rfl (lv_at hl 3 rfl) ?_
          refine lv_iload_n hx hb dX11_bad_37 rfl (lv_at hl 1 rfl) ?_
          refine rd_calli (va_runV (As := [.int (nI i), .int a1]) (rest := [.int (ju910 i), .int u]) ⟨hx, hb, hml, hown, hts⟩ (r_kinOfE l G g hg f_2 ab2 be2 sn91 wn92 sa93 ly94 rdy916 (nI fd917) ss np nf nr na nt i a1 hmo hss_ (by first | assumption | omega | decide) (by first | assumption | omega | decide)) (my_cwV hts ok_X11_kinOf w_562 rfl rfl ⟨Nat.le_of_ble_eq_true rfl, Nat.le_of_ble_eq_true rfl⟩) ⟨bP.blind, va_recv hG.1 hP (ci := 10) (q0 := 315) rfl (wl_at (by decide) hmo), fun U hU hW => ⟨rfl, by rw [hU]; exact hP, kG.warm hW hG⟩⟩ rfl rfl hl.1 rfl (lv_room (Nat.le_of_ble_eq_true rfl)) dX11_bad_38 ⟨Nat.le_of_ble_eq_true rfl, Nat.le_of_ble_eq_true rfl⟩) (fun r hr9 => ?_)
          subst hr9
          refine lv_iand hx hb dX11_bad_41 ?_
          refine lv_if_eq (tgt := 51) hx hb dX11_bad_42 (by decide) (fun c_42 => ?_) (fun c_42 => ?_)
          · refine lv_iconst (v := 0) hx hb dX11_bad_51 (by decide) ?_
            refine lv_ior hx hb dX11_bad_52 ?_
            refine lv_istore_n (lv' := [(2, .int (u ||| 0)), (0, .ref (g 315)), (1, .int a1), (3, .int (nI i))]) hx hb dX11_bad_53 rfl hl (by decide) rfl (fun ls hl => ?_)
            refine lv_iinc (v := nI (i + 1)) (lv' := [(3, .int (nI (i + 1))), (2, .int (u ||| 0)), (0, .ref (g 315)), (1, .int a1)]) hx hb dX11_bad_54 hl (k := 3) rfl (nI_add i 1) (by decide) rfl (fun ls hl => ?_)
            refine lv_goto (tgt := 18) hx hb dX11_bad_57 (by decide) ?_
            exact ih_18 (i + 1) (u ||| 0) f_2 _ _ _ (by omega) (by rw [or0, hu, bdV_n (F := (fun i c => ss (3 * i + c + 130))) (T := (fun t c => ss (10 * t + c + 1546))) (J := (rJr np nf nr na ss)) (by rw [← rHz_ju (hx_1_4 i (by omega))]; exact c_42)]) (by omega) (hmo) (hss_) (him_) (hkq_) (hsp_) (hwi_) (hwa_) (hva_) (hbo_) (hju_) (hdr_) (hdn_) (hsl_) (hax_) (hlf_) (hwh_) (hw6_) (hb6_) (fun j hj => (o_2 j (by omega))) hP hS (lv_sub hl [2, 3, 1, 0] rfl)
          · refine lv_iconst (v := 1) hx hb dX11_bad_45 (by decide) ?_
            refine lv_iload_n hx hb dX11_bad_46 rfl (lv_at hl 3 rfl) ?_
            refine lv_ishl hx hb dX11_bad_47 ?_
            refine lv_goto (tgt := 52) hx hb dX11_bad_48 (by decide) ?_
            refine lv_ior hx hb dX11_bad_52 ?_
            refine lv_istore_n (lv' := [(2, .int (u ||| (1 <<< ((nI i) &&& 31)))), (0, .ref (g 315)), (1, .int a1), (3, .int (nI i))]) hx hb dX11_bad_53 rfl hl (by decide) rfl (fun ls hl => ?_)
            refine lv_iinc (v := nI (i + 1)) (lv' := [(3, .int (nI (i + 1))), (2, .int (u ||| (1 <<< ((nI i) &&& 31)))), (0, .ref (g 315)), (1, .int a1)]) hx hb dX11_bad_54 hl (k := 3) rfl (nI_add i 1) (by decide) rfl (fun ls hl => ?_)
            refine lv_goto (tgt := 18) hx hb dX11_bad_57 (by decide) ?_
            exact ih_18 (i + 1) (u ||| (1 <<< ((nI i) &&& 31))) f_2 _ _ _ (by omega) (by rw [hu, bdV_y (F := (fun i c => ss (3 * i + c + 130))) (T := (fun t c => ss (10 * t + c + 1546))) (J := (rJr np nf nr na ss)) (by rw [← rHz_ju (hx_1_4 i (by omega))]; exact c_42)]; rfl) (by omega) (hmo) (hss_) (him_) (hkq_) (hsp_) (hwi_) (hwa_) (hva_) (hbo_) (hju_) (hdr_) (hdn_) (hsl_) (hax_) (hlf_) (hwh_) (hw6_) (hb6_) (fun j hj => (o_2 j (by omega))) hP hS (lv_sub hl [2, 3, 1, 0] rfl)
    exact key18 (nt + 1) 0 0 f_1 _ _ _ (Nat.zero_le _) (rfl) (by omega) (hmo) (hss_) (him_) (hkq_) (hsp_) (hwi_) (hwa_) (hva_) (hbo_) (hju_) (hdr_) (hdn_) (hsl_) (hax_) (hlf_) (hwh_) (hw6_) (hb6_) (fun j _ => rfl) hP hS (lv_sub hl [2, 3, 1, 0] rfl)
  · refine lv_bipush (v := (-2)) hx hb dX11_bad_7 (by decide) ?_
    refine W_q9 hQ9 ?_
    exact W.iret (v := (-2)) hx hb hr (fun _ hT9 _ => ⟨⟨_, f, rfl, (⟨mJ_mk (ab2) (be2) (sn) (wn) (sa) (ly) (rdy) (fd) (np) (nf) (nr) (na) (nt) (sp) (wi) (wa) (va) (bo) (ju) (dr) (dn) (sl) (ax) (lf) (wh) (w6) (b6) (hmo) (hss_) (him_) (hkq_) (hsp_) (hwi_) (hwa_) (hva_) (hbo_) (hju_) (hdr_) (hdn_) (hsl_) (hax_) (hlf_) (hwh_) (hw6_) (hb6_) (hst) (by omega) (hdn) (hi0) (hi1) (hrd), ⟨np, nf, nr, na, nt, hst, Or.inl ⟨c_4, rfl⟩⟩, fun j hj => rfl⟩), by rw [hT9]; exact hP⟩, hS.F hT9⟩) hS.2.2 dX11_bad_9
theorem j2_bad (l : Launch) (G : gW) (g : Nat → Nat) (hg : gOK g) (f : Nat → va_E) (ss : Nat → Int32) (im : Nat → Int32) (kq : Nat → Int32) (a1 : Int32) (hI : mJ G g f ss im kq) (htA : ∀ n : Nat, n ≤ 10 → ss 4 = nI n → trOK ss n) : Met l yX11_bad (wsT yX11_bad cX11_bad 4 (some .int)) ({ frames := 7, cells := 0, slots := 0, locals := 173 }) (bP G g f [.ref (g 315), .int a1]) (bQi G g (fun (z9 : Int32) (f' : Nat → va_E) => (mJ G g f' ss im kq) ∧ (∃ p9 f9 r9 u9 t9, stOK ss p9 f9 r9 u9 t9 ∧ ((¬ inB 0 a1 9999 = true ∧ z9 = -2) ∨ (inB 0 a1 9999 = true ∧ z9 = bdV (fun i c => ss (3 * i + c + 130)) (fun t c => ss (10 * t + c + 1546)) (rJr p9 f9 r9 u9 ss) f9 a1 t9))) ∧ ∀ j, j < 315 → f' j = f j)) 0 0 (gA g) := mJ_elim hI (fun ab2 be2 sn wn sa ly rdy fd np nf nr na nt sp wi wa va bo ju dr dn sl ax lf wh w6 b6 hmo hss_ him_ hkq_ hsp_ hwi_ hwa_ hva_ hbo_ hju_ hdr_ hdn_ hsl_ hax_ hlf_ hwh_ hw6_ hb6_ hst hfo hdn hi0 hi1 hrd => jn2_bad l G g hg f ab2 be2 sn wn sa ly rdy fd ss np nf nr na nt im kq sp wi wa va bo ju dr dn sl ax lf wh w6 b6 a1 hmo hss_ him_ hkq_ hsp_ hwi_ hwa_ hva_ hbo_ hju_ hdr_ hdn_ hsl_ hax_ hlf_ hwh_ hw6_ hb6_ hst hfo hdn hi0 hi1 hrd htA)
set_option maxHeartbeats 4000000 in
set_option maxRecDepth 100000 in
theorem jn2_owed (l : Launch) (G : gW) (g : Nat → Nat) (hg : gOK g) (f : Nat → va_E) (ab2 : Int64) (be2 : Int64) (sn : Int32) (wn : Int32) (sa : Int32) (ly : Int32) (rdy : Int32) (fd : Nat) (ss : Nat → Int32) (np : Nat) (nf : Nat) (nr : Nat) (na : Nat) (nt : Nat) (im : Nat → Int32) (kq : Nat → Int32) (sp : Nat → Int32) (wi : Nat → Int32) (wa : Nat → Int32) (va : Nat → Int64) (bo : Nat → Int32) (ju : Nat → Int32) (dr : Nat → Int32) (dn : Nat → Int32) (sl : Nat → Int32) (ax : Nat → Int32) (lf : Nat → Int32) (wh : Nat → Int32) (w6 : Nat → Int32) (b6 : Nat → Int32) (a1 : Int32) (a2 : Int32) (hmo : f 315 = eO 10 [.ref (g 316), .ref (g 317), .ref (g 318), .long ab2, .long be2, .int sn, .ref (g 319), .ref (g 320), .int wn, .ref (g 321), .ref (g 322), .int sa, .int ly, .int rdy, .int (nI fd), .ref (g 323), .ref (g 324), .ref (g 325), .ref (g 326), .ref (g 327), .ref (g 328), .ref (g 329), .ref (g 330), .ref (g 331), .ref (g 332)]) (hss_ : f 316 = eI G 2246 ss) (him_ : f 317 = eI G 4492 im) (hkq_ : f 318 = eZ G 2 kq) (hsp_ : f 319 = eI G 70 sp) (hwi_ : f 320 = eI G 70 wi) (hwa_ : f 321 = eI G 70 wa) (hva_ : f 322 = eJ G 70 va) (hbo_ : f 323 = eI G 11 bo) (hju_ : f 324 = eI G 11 ju) (hdr_ : f 325 = eI G 264 dr) (hdn_ : f 326 = eI G 11 dn) (hsl_ : f 327 = eI G 330 sl) (hax_ : f 328 = eI G 44 ax) (hlf_ : f 329 = eI G 30 lf) (hwh_ : f 330 = eI G 6 wh) (hw6_ : f 331 = eI G 6 w6) (hb6_ : f 332 = eI G 6 b6) (hst : stOK ss np nf nr na nt) (hfo : fd ≤ 10) (hdn : ∀ k, k < 11 → ∃ d, d ≤ 24 ∧ dn k = nI d) (hi0 : stI im 0) (hi1 : stI im 2246) (hrd : ¬ rdy = 0 → fd = nt ∧ ∀ z, z < nt → rHz np nf nr na ss bo ju dr dn sl ax z) (htA : ∀ n : Nat, n ≤ 10 → ss 4 = nI n → trOK ss n) : Met l yX11_owed (wsT yX11_owed cX11_owed 5 (some .int)) ({ frames := 7, cells := 0, slots := 0, locals := 173 }) (bP G g f [.ref (g 315), .int a1, .int a2]) (bQi G g (fun (z9 : Int32) (f' : Nat → va_E) => (mJ G g f' ss im kq) ∧ (∃ p9 f9 r9 u9 t9, stOK ss p9 f9 r9 u9 t9 ∧ ((¬ (inN a1 p9 = true ∧ inB 0 a2 9999 = true) ∧ z9 = -1000000) ∨ (∃ po, po < p9 ∧ a1 = nI po ∧ inB 0 a2 9999 = true ∧ z9 = owV (fun t c => ss (10 * t + c + 1546)) (rJr p9 f9 r9 u9 ss) (fun t => hMi (rBx p9 f9 r9 u9 ss t) (kS ss t)) (ss 5) (ss 6) a2 po t9))) ∧ ∀ j, j < 315 → f' j = f j)) 0 0 (gA g) := by
  refine Met.ofW (cc := cX11_owed) (maxL := 5) (ret := (some .int)) (by decide) rfl ?_
  intro p e s m args below meth c s₁ B hml hv
  obtain ⟨rfl, hP, hG⟩ := hv
  have hx := B.exec
  have hb := B.bytes
  have hr := B.returns
  have hts := my_hts (atoms_spec (ws := wsT yX11_owed cX11_owed 5 (some .int)) B.pre)
  have hown : s.vm.findClass RX11 = some m.cls := findClass_of_methodNamed B.named
  have hlocks := B.notSynchronized
  have hS : va_S (gA g) s.heap s.heap [] := va_S.rf
  have hl := lv_entry ([.ref (g 315), .int a1, .int a2]) (n := 5) (Nat.le_of_ble_eq_true rfl)
  rw [lg_entry_eq]
  generalize (lg_sl ([.ref (g 315), .int a1, .int a2]) ++ List.replicate (5 - (lg_sl ([.ref (g 315), .int a1, .int a2])).length) Slot.unset).toArray = ls at hl ⊢
  have hl : lv_has ls 5 [(0, .ref (g 315)), (1, .int a1), (2, .int a2)] := hl
  refine W_q8 (fun Q9 hQ9 => ?_)
  have hc0 := hst.c0
  have hc1 := hst.c1
  have hc2 := hst.c2
  have hc3 := hst.c3
  have hc4 := hst.c4
  have htr := htA nt hst.c4 hst.h4
  refine lv_aload_n hx hb dX11_owed_0 rfl (lv_at hl 0 rfl) ?_
  refine lv_iconst (v := 0) hx hb dX11_owed_1 (by decide) ?_
  refine lv_iload_n hx hb dX11_owed_2 rfl (lv_at hl 1 rfl) ?_
  refine rd_calli (va_runV (As := [.int 0, .int a1]) (rest := []) ⟨hx, hb, hml, hown, hts⟩ (r_is l G g hg f ab2 be2 sn wn sa ly rdy (nI fd) ss 0 np a1 hmo hss_ (by first | assumption | omega | decide) (hst.h0) (by first | assumption | omega | decide)) (my_cwV hts ok_X11_is w_186 rfl rfl ⟨Nat.le_of_ble_eq_true rfl, Nat.le_of_ble_eq_true rfl⟩) ⟨bP.blind, va_recv hG.1 hP (ci := 10) (q0 := 315) rfl (wl_at (by decide) hmo), fun U hU hW => ⟨rfl, by rw [hU]; exact hP, kG.warm hW hG⟩⟩ rfl rfl hl.1 rfl (lv_room (Nat.le_of_ble_eq_true rfl)) dX11_owed_3 ⟨Nat.le_of_ble_eq_true rfl, Nat.le_of_ble_eq_true rfl⟩) (fun r hr9 => ?_)
  subst hr9
  refine my_ifeq (tgt := 16) hx hb dX11_owed_6 (by decide) (fun c_6 => ?_) (fun c_6 => ?_)
  · refine lv_ldc (v := (-1000000)) hx hb hown (hts (.constant RX11 233 (-1000000)) w_756) dX11_owed_16 ?_
    refine W_q9 hQ9 ?_
    exact W.iret (v := (-1000000)) hx hb hr (fun _ hT9 _ => ⟨⟨_, f, rfl, (⟨mJ_mk (ab2) (be2) (sn) (wn) (sa) (ly) (rdy) (fd) (np) (nf) (nr) (na) (nt) (sp) (wi) (wa) (va) (bo) (ju) (dr) (dn) (sl) (ax) (lf) (wh) (w6) (b6) (hmo) (hss_) (him_) (hkq_) (hsp_) (hwi_) (hwa_) (hva_) (hbo_) (hju_) (hdr_) (hdn_) (hsl_) (hax_) (hlf_) (hwh_) (hw6_) (hb6_) (hst) (by omega) (hdn) (hi0) (hi1) (hrd), ⟨np, nf, nr, na, nt, hst, Or.inl ⟨fun z => c_6 z.1, rfl⟩⟩, fun j hj => rfl⟩), by rw [hT9]; exact hP⟩, hS.F hT9⟩) hS.2.2 dX11_owed_18
  · refine lv_iload_n hx hb dX11_owed_9 rfl (lv_at hl 2 rfl) ?_
    refine rd_calli (va_runS (As := [.int a2]) (rest := []) ⟨hx, hb, hml, hown, hts⟩ (r_isDay l G g hg f a2  ) (my_cwS hts ok_X11_isDay w_190 rfl rfl ⟨Nat.le_of_ble_eq_true rfl, Nat.le_of_ble_eq_true rfl⟩) ⟨bP.blind, fun U hU hW => ⟨rfl, by rw [hU]; exact hP, kG.warm hW hG⟩⟩ rfl rfl hl.1 rfl (lv_room (Nat.le_of_ble_eq_true rfl)) dX11_owed_10 ⟨Nat.le_of_ble_eq_true rfl, Nat.le_of_ble_eq_true rfl⟩) (fun r hr9 => ?_)
    subst hr9
    refine my_ifne (tgt := 19) hx hb dX11_owed_13 (by decide) (fun c_13 => ?_) (fun c_13 => ?_)
    · obtain ⟨pn, hpn, rfl⟩ := inN_nat (by omega) c_6
      refine lv_aload_n hx hb dX11_owed_19 rfl (lv_at hl 0 rfl) ?_
      refine b_callv (va_runV (As := []) (rest := []) ⟨hx, hb, hml, hown, hts⟩ (r_findsE l G g hg f ab2 be2 sn wn sa ly rdy fd ss np nf nr na nt sp wi wa va bo ju dr dn sl ax lf hmo hss_ hsp_ hwi_ hwa_ hva_ hbo_ hju_ hdr_ hdn_ hsl_ hax_ hlf_ (by first | assumption | omega | decide) (by first | assumption | omega | decide) (by first | assumption | omega | decide) (by first | assumption | omega | decide) (by first | assumption | omega | decide)) (my_cwV hts ok_X11_finds w_523 rfl rfl ⟨Nat.le_of_ble_eq_true rfl, Nat.le_of_ble_eq_true rfl⟩) ⟨bP.blind, va_recv hG.1 hP (ci := 10) (q0 := 315) rfl (wl_at (by decide) hmo), fun U hU hW => ⟨rfl, by rw [hU]; exact hP, kG.warm hW hG⟩⟩ rfl rfl hl.1 rfl (lv_room (Nat.le_of_ble_eq_true rfl)) dX11_owed_20 ⟨Nat.le_of_ble_eq_true rfl, Nat.le_of_ble_eq_true rfl⟩) hS (fun f_1 H locs hq9 hP hS => ?_)
      obtain ⟨sn91, wn92, sa93, ly94, sp95, wi96, wa97, va98, bo99, ju910, dr911, dn912, sl913, ax914, lf915, rdy916, fd917, hq_1_0, hq_1_1, hq_1_2, hq_1_3, hq_1_4, hq_1_5, hq_1_6, hq_1_7, hq_1_8, hq_1_9, hq_1_10, hq_1_11, hx_1_0, hx_1_1, hx_1_2, hx_1_3, hx_1_4, o_1⟩ := hq9
      have hmo : f_1 315 = eO 10 [.ref (g 316), .ref (g 317), .ref (g 318), .long ab2, .long be2, .int sn91, .ref (g 319), .ref (g 320), .int wn92, .ref (g 321), .ref (g 322), .int sa93, .int ly94, .int rdy916, .int (nI fd917), .ref (g 323), .ref (g 324), .ref (g 325), .ref (g 326), .ref (g 327), .ref (g 328), .ref (g 329), .ref (g 330), .ref (g 331), .ref (g 332)] := hq_1_0
      have hsp_ : f_1 319 = eI G 70 sp95 := hq_1_1
      have hwi_ : f_1 320 = eI G 70 wi96 := hq_1_2
      have hwa_ : f_1 321 = eI G 70 wa97 := hq_1_3
      have hva_ : f_1 322 = eJ G 70 va98 := hq_1_4
      have hbo_ : f_1 323 = eI G 11 bo99 := hq_1_5
      have hju_ : f_1 324 = eI G 11 ju910 := hq_1_6
      have hdr_ : f_1 325 = eI G 264 dr911 := hq_1_7
      have hdn_ : f_1 326 = eI G 11 dn912 := hq_1_8
      have hsl_ : f_1 327 = eI G 330 sl913 := hq_1_9
      have hax_ : f_1 328 = eI G 44 ax914 := hq_1_10
      have hlf_ : f_1 329 = eI G 30 lf915 := hq_1_11
      refine lv_iconst (v := 0) hx hb dX11_owed_23 (by decide) ?_
      refine lv_istore_n (lv' := [(3, .int 0), (0, .ref (g 315)), (1, .int (nI pn)), (2, .int a2)]) hx hb dX11_owed_24 rfl hl (by decide) rfl (fun ls hl => ?_)
      refine lv_iconst (v := 0) hx hb dX11_owed_25 (by decide) ?_
      refine lv_istore (lv' := [(4, .int 0), (3, .int 0), (0, .ref (g 315)), (1, .int (nI pn)), (2, .int a2)]) hx hb dX11_owed_26 hl (by decide) rfl (fun ls hl => ?_)
      replace hss_ := ((o_1 316 (by first | decide | omega))).trans hss_
      replace him_ := ((o_1 317 (by first | decide | omega))).trans him_
      replace hkq_ := ((o_1 318 (by first | decide | omega))).trans hkq_
      replace hwh_ := ((o_1 330 (by first | decide | omega))).trans hwh_
      replace hw6_ := ((o_1 331 (by first | decide | omega))).trans hw6_
      replace hb6_ := ((o_1 332 (by first | decide | omega))).trans hb6_
      have key18 : ∀ (n9_18 : Nat) (i : Nat) (u : Int32) (f_2 : Nat → va_E) (H : Heap) (locs : List Loc) (ls : Array Slot), (i ≤ nt) → (u = owV (fun t c => ss (10 * t + c + 1546)) (rJr np nf nr na ss) (fun t => hMi (rBx np nf nr na ss t) (kS ss t)) (ss 5) (ss 6) a2 pn i) → nt - i < n9_18 → f_2 315 = eO 10 [.ref (g 316), .ref (g 317), .ref (g 318), .long ab2, .long be2, .int sn91, .ref (g 319), .ref (g 320), .int wn92, .ref (g 321), .ref (g 322), .int sa93, .int ly94, .int rdy916, .int (nI fd917), .ref (g 323), .ref (g 324), .ref (g 325), .ref (g 326), .ref (g 327), .ref (g 328), .ref (g 329), .ref (g 330), .ref (g 331), .ref (g 332)] → f_2 316 = eI G 2246 ss → f_2 317 = eI G 4492 im → f_2 318 = eZ G 2 kq → f_2 319 = eI G 70 sp95 → f_2 320 = eI G 70 wi96 → f_2 321 = eI G 70 wa97 → f_2 322 = eJ G 70 va98 → f_2 323 = eI G 11 bo99 → f_2 324 = eI G 11 ju910 → f_2 325 = eI G 264 dr911 → f_2 326 = eI G 11 dn912 → f_2 327 = eI G 330 sl913 → f_2 328 = eI G 44 ax914 → f_2 329 = eI G 30 lf915 → f_2 330 = eI G 6 wh → f_2 331 = eI G 6 w6 → f_2 332 = eI G 6 b6 → (∀ j, (j < 333 ∨ 333 ≤ j) → f_2 j = f_1 j) → va_P G.1 vwCl (wl g f_2) H → va_S (gA g) s.heap H locs → lv_has ls 5 [(0, .ref (g 315)), (1, .int (nI pn)), (2, .int a2), (3, .int u), (4, .int (nI i))] → W p l e (headSpec (wsT yX11_owed cX11_owed 5 (some .int)) ({ frames := 7, cells := 0, slots := 0, locals := 173 })).room s m ([.ref (g 315), .int (nI pn), .int a2] : List Value).toArray below meth c H locs 0 0 Q9 (F0 m 28 ls []) := by
        intro n9_18
        induction n9_18 with
        | zero => intro i u f_2 H locs ls hi hu hn9_18; exact absurd hn9_18 (Nat.not_lt_zero _)
        | succ n9_18 ih_18 =>
          intro i u f_2 H locs ls hi hu hn9_18 hmo hss_ him_ hkq_ hsp_ hwi_ hwa_ hva_ hbo_ hju_ hdr_ hdn_ hsl_ hax_ hlf_ hwh_ hw6_ hb6_ o_2 hP hS hl
          refine lv_iload hx hb dX11_owed_28 (lv_at hl 4 rfl) ?_
          refine lv_aload_n hx hb dX11_owed_30 rfl (lv_at hl 0 rfl) ?_
          refine va_get (D := G.1) (ci := 10) (v := .ref (g 316)) (C := RX11) (T := TX11) (N := 25) hx hb hts inlX11 hown hG.1 hP 315 (wl_at (by decide) hmo) rfl 0 (by decide) (hts (.fieldLink RX11 7 "SwornListsModel" "st" "[I") w_112) (fun _ h9 => h9) rfl dX11_owed_31 ?_
          refine lv_iconst (v := 4) hx hb dX11_owed_34 (by decide) ?_
          refine va_iald hx hb hG.1 hP 316 0 (wl_at (by decide) hss_) rfl (by unfold vp_in; decide) dX11_owed_35 ?_
          refine my_bei (v := ss 4) (rfl) ?_
          refine my_bei (v := nI nt) (hst.h4) ?_
          refine lv_icmp_ge (tgt := 122) hx hb dX11_owed_36 (by decide) (fun c_36 => ?_) (fun c_36 => ?_)
          · have k_36 : nt ≤ i := (nI_leI (a := nt) (b := i) (by omega) (by omega)).mp c_36
            refine lv_iload_n hx hb dX11_owed_122 rfl (lv_at hl 3 rfl) ?_
            refine W_q9 hQ9 ?_
            exact W.iret (v := u) hx hb hr (fun _ hT9 _ => ⟨⟨_, f_2, rfl, (⟨mJ_mk (ab2) (be2) (sn91) (wn92) (sa93) (ly94) (rdy916) (fd917) (np) (nf) (nr) (na) (nt) (sp95) (wi96) (wa97) (va98) (bo99) (ju910) (dr911) (dn912) (sl913) (ax914) (lf915) (wh) (w6) (b6) (hmo) (hss_) (him_) (hkq_) (hsp_) (hwi_) (hwa_) (hva_) (hbo_) (hju_) (hdr_) (hdn_) (hsl_) (hax_) (hlf_) (hwh_) (hw6_) (hb6_) (hst) (by omega) (hx_1_0) (hi0) (hi1) ((fun _ => ⟨hx_1_3, hx_1_4⟩)), ⟨np, nf, nr, na, nt, hst, Or.inr ⟨pn, hpn, rfl, c_13, by rw [hu, show i = nt by omega]⟩⟩, fun j hj => ((o_2 j (by omega))).trans (o_1 j (by omega))⟩), by rw [hT9]; exact hP⟩, hS.F hT9⟩) hS.2.2 dX11_owed_123
          · have k_36 : ¬ nt ≤ i := fun z9 => c_36 ((nI_leI (a := nt) (b := i) (by omega) (by omega)).mpr z9)
            refine lv_aload_n hx hb dX11_owed_39 rfl (lv_at hl 0 rfl) ?_
            refine lv_iload hx hb dX11_owed_40 (lv_at hl 4 rfl) ?_
            refine lv_iconst (v := 0) hx hb dX11_owed_42 (by decide) ?_
            refine rd_calli (va_runV (As := [.int (nI i), .int 0]) (rest := []) ⟨hx, hb, hml, hown, hts⟩ (r_ofTrial l G g hg f_2 ab2 be2 sn91 wn92 sa93 ly94 rdy916 (nI fd917) ss i 0 hmo hss_ (by first | assumption | omega | decide)) (my_cwV hts ok_X11_ofTrial w_532 rfl rfl ⟨Nat.le_of_ble_eq_true rfl, Nat.le_of_ble_eq_true rfl⟩) ⟨bP.blind, va_recv hG.1 hP (ci := 10) (q0 := 315) rfl (wl_at (by decide) hmo), fun U hU hW => ⟨rfl, by rw [hU]; exact hP, kG.warm hW hG⟩⟩ rfl rfl hl.1 rfl (lv_room (Nat.le_of_ble_eq_true rfl)) dX11_owed_43 ⟨Nat.le_of_ble_eq_true rfl, Nat.le_of_ble_eq_true rfl⟩) (fun r hr9 => ?_)
            subst hr9
            refine my_bei (v := ss (10 * i + 1546)) (congrArg ss (show 10 * i + 0 + 1546 = 10 * i + 1546 by omega)) ?_
            refine lv_iload_n hx hb dX11_owed_46 rfl (lv_at hl 2 rfl) ?_
            refine lv_icmp_gt (tgt := 116) hx hb dX11_owed_47 (by decide) (fun c_47 => ?_) (fun c_47 => ?_)
            · refine lv_iinc (v := nI (i + 1)) (lv' := [(4, .int (nI (i + 1))), (0, .ref (g 315)), (1, .int (nI pn)), (2, .int a2), (3, .int u)]) hx hb dX11_owed_116 hl (k := 4) rfl (nI_add i 1) (by decide) rfl (fun ls hl => ?_)
              refine lv_goto (tgt := 28) hx hb dX11_owed_119 (by decide) ?_
              exact ih_18 (i + 1) u f_2 _ _ _ (by omega) (by rw [hu, owV_n (T := (fun t c => ss (10 * t + c + 1546))) (J := (rJr np nf nr na ss)) (M := (fun t => hMi (rBx np nf nr na ss t) (kS ss t))) (Int32.not_le.mpr c_47)]) (by omega) (hmo) (hss_) (him_) (hkq_) (hsp_) (hwi_) (hwa_) (hva_) (hbo_) (hju_) (hdr_) (hdn_) (hsl_) (hax_) (hlf_) (hwh_) (hw6_) (hb6_) (fun j hj => (o_2 j (by omega))) hP hS (lv_sub hl [1, 2, 3, 4, 0] rfl)
            · refine lv_iload_n hx hb dX11_owed_50 rfl (lv_at hl 3 rfl) ?_
              refine lv_aload_n hx hb dX11_owed_51 rfl (lv_at hl 0 rfl) ?_
              refine va_get (D := G.1) (ci := 10) (v := .ref (g 324)) (C := RX11) (T := TX11) (N := 25) hx hb hts inlX11 hown hG.1 hP 315 (wl_at (by decide) hmo) rfl 16 (by decide) (hts (.fieldLink RX11 36 "SwornListsModel" "juries" "[I") w_120) (fun _ h9 => h9) rfl dX11_owed_52 ?_
              refine lv_iload hx hb dX11_owed_55 (lv_at hl 4 rfl) ?_
              refine va_iald hx hb hG.1 hP 324 0 (wl_at (by decide) hju_) rfl (vp_in_nI (by omega) (by decide)) dX11_owed_57 ?_
              refine my_bei (v := ju910 i) (congrArg ju910 (nI_clamp (n := i) (by omega))) ?_
              refine lv_iload_n hx hb dX11_owed_58 rfl (lv_at hl 1 rfl) ?_
              refine lv_ishr hx hb dX11_owed_59 ?_
              refine lv_iconst (v := 1) hx hb dX11_owed_60 (by decide) ?_
              refine lv_iand hx hb dX11_owed_61 ?_
              refine lv_iconst (v := 1) hx hb dX11_owed_62 (by decide) ?_
              refine lv_icmp_ne (tgt := 83) hx hb dX11_owed_63 (by decide) (fun c_63 => ?_) (fun c_63 => ?_)
              · refine lv_iconst (v := 0) hx hb dX11_owed_83 (by decide) ?_
                refine lv_iadd hx hb dX11_owed_84 ?_
                refine lv_istore_n (lv' := [(3, .int (u + 0)), (0, .ref (g 315)), (1, .int (nI pn)), (2, .int a2), (4, .int (nI i))]) hx hb dX11_owed_85 rfl hl (by decide) rfl (fun ls hl => ?_)
                refine lv_iload_n hx hb dX11_owed_86 rfl (lv_at hl 0 rfl) ?_
                refine lv_aload_n hx hb dX11_owed_87 rfl (lv_at hl 1 rfl) ?_
                refine va_get (D := G.1) (ci := 10) (v := .ref (g 327)) (C := RX11) (T := TX11) (N := 25) hx hb hts inlX11 hown hG.1 hP 315 (wl_at (by decide) hmo) rfl 19 (by decide) (hts (.fieldLink RX11 45 "SwornListsModel" "slips" "[I") w_123) (fun _ h9 => h9) rfl dX11_owed_88 ?_
                refine lv_bipush (v := 30) hx hb dX11_owed_91 (by decide) ?_
                refine lv_iload hx hb dX11_owed_93 (lv_at hl 4 rfl) ?_
                refine lv_imul hx hb dX11_owed_95 ?_
                refine my_bei (v := nI (30 * i)) (pk_mul 30 i) ?_
                refine lv_iload_n hx hb dX11_owed_96 rfl (lv_at hl 2 rfl) ?_
                refine lv_iadd hx hb dX11_owed_97 ?_
                refine my_bei (v := nI (30 * i + pn)) ((nI_add (30 * i) pn).trans (congrArg nI (show (30 * i) + pn = 30 * i + pn by omega))) ?_
                refine va_iald hx hb hG.1 hP 327 0 (wl_at (by decide) hsl_) rfl (vp_in_nI (by omega) (by decide)) dX11_owed_98 ?_
                refine my_bei (v := sl913 (30 * i + pn)) (congrArg sl913 (nI_clamp (n := 30 * i + pn) (by omega))) ?_
                refine lv_iconst (v := 2) hx hb dX11_owed_99 (by decide) ?_
                refine lv_icmp_ne (tgt := 113) hx hb dX11_owed_100 (by decide) (fun c_100 => ?_) (fun c_100 => ?_)
                · refine lv_iconst (v := 0) hx hb dX11_owed_113 (by decide) ?_
                  refine lv_isub hx hb dX11_owed_114 ?_
                  refine lv_istore_n (lv' := [(3, .int ((u + 0) - 0)), (0, .ref (g 315)), (1, .int (nI pn)), (2, .int a2), (4, .int (nI i))]) hx hb dX11_owed_115 rfl hl (by decide) rfl (fun ls hl => ?_)
                  refine lv_iinc (v := nI (i + 1)) (lv' := [(4, .int (nI (i + 1))), (3, .int ((u + 0) - 0)), (0, .ref (g 315)), (1, .int (nI pn)), (2, .int a2)]) hx hb dX11_owed_116 hl (k := 4) rfl (nI_add i 1) (by decide) rfl (fun ls hl => ?_)
                  refine lv_goto (tgt := 28) hx hb dX11_owed_119 (by decide) ?_
                  exact ih_18 (i + 1) ((u + 0) - 0) f_2 _ _ _ (by omega) (by rw [hu, owV_y (T := (fun t c => ss (10 * t + c + 1546))) (J := (rJr np nf nr na ss)) (M := (fun t => hMi (rBx np nf nr na ss t) (kS ss t))) (Int32.not_lt.mp c_47), if_neg (fun z => c_63 ((sr_iff (by omega)).mpr (by rw [rHz_ju (hx_1_4 i (by omega))]; exact z))), if_neg (fun z => c_100 ((rHz_2p (hx_1_4 i (by omega)) (show pn < 30 by omega)).mpr z))]) (by omega) (hmo) (hss_) (him_) (hkq_) (hsp_) (hwi_) (hwa_) (hva_) (hbo_) (hju_) (hdr_) (hdn_) (hsl_) (hax_) (hlf_) (hwh_) (hw6_) (hb6_) (fun j hj => (o_2 j (by omega))) hP hS (lv_sub hl [2, 3, 4, 1, 0] rfl)
                · refine lv_aload_n hx hb dX11_owed_103 rfl (lv_at hl 1 rfl) ?_
                  refine va_get (D := G.1) (ci := 10) (v := .ref (g 316)) (C := RX11) (T := TX11) (N := 25) hx hb hts inlX11 hown hG.1 hP 315 (wl_at (by decide) hmo) rfl 0 (by decide) (hts (.fieldLink RX11 7 "SwornListsModel" "st" "[I") w_112) (fun _ h9 => h9) rfl dX11_owed_104 ?_
                  refine lv_bipush (v := 6) hx hb dX11_owed_107 (by decide) ?_
                  refine va_iald hx hb hG.1 hP 316 0 (wl_at (by decide) hss_) rfl (by unfold vp_in; decide) dX11_owed_109 ?_
                  refine my_bei (v := ss 6) (rfl) ?_
                  refine lv_goto (tgt := 114) hx hb dX11_owed_110 (by decide) ?_
                  refine lv_isub hx hb dX11_owed_114 ?_
                  refine lv_istore_n (lv' := [(3, .int ((u + 0) - (ss 6))), (0, .ref (g 315)), (1, .int (nI pn)), (2, .int a2), (4, .int (nI i))]) hx hb dX11_owed_115 rfl hl (by decide) rfl (fun ls hl => ?_)
                  refine lv_iinc (v := nI (i + 1)) (lv' := [(4, .int (nI (i + 1))), (3, .int ((u + 0) - (ss 6))), (0, .ref (g 315)), (1, .int (nI pn)), (2, .int a2)]) hx hb dX11_owed_116 hl (k := 4) rfl (nI_add i 1) (by decide) rfl (fun ls hl => ?_)
                  refine lv_goto (tgt := 28) hx hb dX11_owed_119 (by decide) ?_
                  exact ih_18 (i + 1) ((u + 0) - (ss 6)) f_2 _ _ _ (by omega) (by rw [hu, owV_y (T := (fun t c => ss (10 * t + c + 1546))) (J := (rJr np nf nr na ss)) (M := (fun t => hMi (rBx np nf nr na ss t) (kS ss t))) (Int32.not_lt.mp c_47), if_neg (fun z => c_63 ((sr_iff (by omega)).mpr (by rw [rHz_ju (hx_1_4 i (by omega))]; exact z))), if_pos ((rHz_2p (hx_1_4 i (by omega)) (show pn < 30 by omega)).mp c_100)]) (by omega) (hmo) (hss_) (him_) (hkq_) (hsp_) (hwi_) (hwa_) (hva_) (hbo_) (hju_) (hdr_) (hdn_) (hsl_) (hax_) (hlf_) (hwh_) (hw6_) (hb6_) (fun j hj => (o_2 j (by omega))) hP hS (lv_sub hl [2, 3, 4, 1, 0] rfl)
              · refine lv_aload_n hx hb dX11_owed_66 rfl (lv_at hl 0 rfl) ?_
                refine va_get (D := G.1) (ci := 10) (v := .ref (g 316)) (C := RX11) (T := TX11) (N := 25) hx hb hts inlX11 hown hG.1 hP 315 (wl_at (by decide) hmo) rfl 0 (by decide) (hts (.fieldLink RX11 7 "SwornListsModel" "st" "[I") w_112) (fun _ h9 => h9) rfl dX11_owed_67 ?_
                refine lv_iconst (v := 5) hx hb dX11_owed_70 (by decide) ?_
                refine va_iald hx hb hG.1 hP 316 0 (wl_at (by decide) hss_) rfl (by unfold vp_in; decide) dX11_owed_71 ?_
                refine my_bei (v := ss 5) (rfl) ?_
                refine lv_aload_n hx hb dX11_owed_72 rfl (lv_at hl 0 rfl) ?_
                refine lv_iload hx hb dX11_owed_73 (lv_at hl 4 rfl) ?_
                refine lv_iconst (v := 1) hx hb dX11_owed_75 (by decide) ?_
                refine rd_calli (va_runV (As := [.int (nI i), .int 1]) (rest := [.int (ss 5), .int u]) ⟨hx, hb, hml, hown, hts⟩ (r_ofTrial l G g hg f_2 ab2 be2 sn91 wn92 sa93 ly94 rdy916 (nI fd917) ss i 1 hmo hss_ (by first | assumption | omega | decide)) (my_cwV hts ok_X11_ofTrial w_532 rfl rfl ⟨Nat.le_of_ble_eq_true rfl, Nat.le_of_ble_eq_true rfl⟩) ⟨bP.blind, va_recv hG.1 hP (ci := 10) (q0 := 315) rfl (wl_at (by decide) hmo), fun U hU hW => ⟨rfl, by rw [hU]; exact hP, kG.warm hW hG⟩⟩ rfl rfl hl.1 rfl (lv_room (Nat.le_of_ble_eq_true rfl)) dX11_owed_76 ⟨Nat.le_of_ble_eq_true rfl, Nat.le_of_ble_eq_true rfl⟩) (fun r hr9 => ?_)
                subst hr9
                refine my_bei (v := ss (10 * i + 1547)) (congrArg ss (show 10 * i + 1 + 1546 = 10 * i + 1547 by omega)) ?_
                refine lv_imul hx hb dX11_owed_79 ?_
                refine lv_goto (tgt := 84) hx hb dX11_owed_80 (by decide) ?_
                refine lv_iadd hx hb dX11_owed_84 ?_
                refine lv_istore_n (lv' := [(3, .int (u + ((ss 5) * (ss (10 * i + 1547))))), (0, .ref (g 315)), (1, .int (nI pn)), (2, .int a2), (4, .int (nI i))]) hx hb dX11_owed_85 rfl hl (by decide) rfl (fun ls hl => ?_)
                refine lv_iload_n hx hb dX11_owed_86 rfl (lv_at hl 0 rfl) ?_
                refine lv_aload_n hx hb dX11_owed_87 rfl (lv_at hl 1 rfl) ?_
                refine va_get (D := G.1) (ci := 10) (v := .ref (g 327)) (C := RX11) (T := TX11) (N := 25) hx hb hts inlX11 hown hG.1 hP 315 (wl_at (by decide) hmo) rfl 19 (by decide) (hts (.fieldLink RX11 45 "SwornListsModel" "slips" "[I") w_123) (fun _ h9 => h9) rfl dX11_owed_88 ?_
                refine lv_bipush (v := 30) hx hb dX11_owed_91 (by decide) ?_
                refine lv_iload hx hb dX11_owed_93 (lv_at hl 4 rfl) ?_
                refine lv_imul hx hb dX11_owed_95 ?_
                refine my_bei (v := nI (30 * i)) (pk_mul 30 i) ?_
                refine lv_iload_n hx hb dX11_owed_96 rfl (lv_at hl 2 rfl) ?_
                refine lv_iadd hx hb dX11_owed_97 ?_
                refine my_bei (v := nI (30 * i + pn)) ((nI_add (30 * i) pn).trans (congrArg nI (show (30 * i) + pn = 30 * i + pn by omega))) ?_
                refine va_iald hx hb hG.1 hP 327 0 (wl_at (by decide) hsl_) rfl (vp_in_nI (by omega) (by decide)) dX11_owed_98 ?_
                refine my_bei (v := sl913 (30 * i + pn)) (congrArg sl913 (nI_clamp (n := 30 * i + pn) (by omega))) ?_
                refine lv_iconst (v := 2) hx hb dX11_owed_99 (by decide) ?_
                refine lv_icmp_ne (tgt := 113) hx hb dX11_owed_100 (by decide) (fun c_100 => ?_) (fun c_100 => ?_)
                · refine lv_iconst (v := 0) hx hb dX11_owed_113 (by decide) ?_
                  refine lv_isub hx hb dX11_owed_114 ?_
                  refine lv_istore_n (lv' := [(3, .int ((u + ((ss 5) * (ss (10 * i + 1547)))) - 0)), (0, .ref (g 315)), (1, .int (nI pn)), (2, .int a2), (4, .int (nI i))]) hx hb dX11_owed_115 rfl hl (by decide) rfl (fun ls hl => ?_)
                  refine lv_iinc (v := nI (i + 1)) (lv' := [(4, .int (nI (i + 1))), (3, .int ((u + ((ss 5) * (ss (10 * i + 1547)))) - 0)), (0, .ref (g 315)), (1, .int (nI pn)), (2, .int a2)]) hx hb dX11_owed_116 hl (k := 4) rfl (nI_add i 1) (by decide) rfl (fun ls hl => ?_)
                  refine lv_goto (tgt := 28) hx hb dX11_owed_119 (by decide) ?_
                  exact ih_18 (i + 1) ((u + ((ss 5) * (ss (10 * i + 1547)))) - 0) f_2 _ _ _ (by omega) (by rw [hu, owV_y (T := (fun t c => ss (10 * t + c + 1546))) (J := (rJr np nf nr na ss)) (M := (fun t => hMi (rBx np nf nr na ss t) (kS ss t))) (Int32.not_lt.mp c_47), if_pos (show bt (rJr np nf nr na ss i) pn = true by rw [← rHz_ju (hx_1_4 i (by omega))]; exact (sr_iff (by omega)).mp c_63), if_neg (fun z => c_100 ((rHz_2p (hx_1_4 i (by omega)) (show pn < 30 by omega)).mpr z))]) (by omega) (hmo) (hss_) (him_) (hkq_) (hsp_) (hwi_) (hwa_) (hva_) (hbo_) (hju_) (hdr_) (hdn_) (hsl_) (hax_) (hlf_) (hwh_) (hw6_) (hb6_) (fun j hj => (o_2 j (by omega))) hP hS (lv_sub hl [2, 3, 4, 1, 0] rfl)
                · refine lv_aload_n hx hb dX11_owed_103 rfl (lv_at hl 1 rfl) ?_
                  refine va_get (D := G.1) (ci := 10) (v := .ref (g 316)) (C := RX11) (T := TX11) (N := 25) hx hb hts inlX11 hown hG.1 hP 315 (wl_at (by decide) hmo) rfl 0 (by decide) (hts (.fieldLink RX11 7 "SwornListsModel" "st" "[I") w_112) (fun _ h9 => h9) rfl dX11_owed_104 ?_
                  refine lv_bipush (v := 6) hx hb dX11_owed_107 (by decide) ?_
                  refine va_iald hx hb hG.1 hP 316 0 (wl_at (by decide) hss_) rfl (by unfold vp_in; decide) dX11_owed_109 ?_
                  refine my_bei (v := ss 6) (rfl) ?_
                  refine lv_goto (tgt := 114) hx hb dX11_owed_110 (by decide) ?_
                  refine lv_isub hx hb dX11_owed_114 ?_
                  refine lv_istore_n (lv' := [(3, .int ((u + ((ss 5) * (ss (10 * i + 1547)))) - (ss 6))), (0, .ref (g 315)), (1, .int (nI pn)), (2, .int a2), (4, .int (nI i))]) hx hb dX11_owed_115 rfl hl (by decide) rfl (fun ls hl => ?_)
                  refine lv_iinc (v := nI (i + 1)) (lv' := [(4, .int (nI (i + 1))), (3, .int ((u + ((ss 5) * (ss (10 * i + 1547)))) - (ss 6))), (0, .ref (g 315)), (1, .int (nI pn)), (2, .int a2)]) hx hb dX11_owed_116 hl (k := 4) rfl (nI_add i 1) (by decide) rfl (fun ls hl => ?_)
                  refine lv_goto (tgt := 28) hx hb dX11_owed_119 (by decide) ?_
                  exact ih_18 (i + 1) ((u + ((ss 5) * (ss (10 * i + 1547)))) - (ss 6)) f_2 _ _ _ (by omega) (by rw [hu, owV_y (T := (fun t c => ss (10 * t + c + 1546))) (J := (rJr np nf nr na ss)) (M := (fun t => hMi (rBx np nf nr na ss t) (kS ss t))) (Int32.not_lt.mp c_47), if_pos (show bt (rJr np nf nr na ss i) pn = true by rw [← rHz_ju (hx_1_4 i (by omega))]; exact (sr_iff (by omega)).mp c_63), if_pos ((rHz_2p (hx_1_4 i (by omega)) (show pn < 30 by omega)).mp c_100)]) (by omega) (hmo) (hss_) (him_) (hkq_) (hsp_) (hwi_) (hwa_) (hva_) (hbo_) (hju_) (hdr_) (hdn_) (hsl_) (hax_) (hlf_) (hwh_) (hw6_) (hb6_) (fun j hj => (o_2 j (by omega))) hP hS (lv_sub hl [2, 3, 4, 1, 0] rfl)
      exact key18 (nt + 1) 0 0 f_1 _ _ _ (Nat.zero_le _) (rfl) (by omega) (hmo) (hss_) (him_) (hkq_) (hsp_) (hwi_) (hwa_) (hva_) (hbo_) (hju_) (hdr_) (hdn_) (hsl_) (hax_) (hlf_) (hwh_) (hw6_) (hb6_) (fun j _ => rfl) hP hS (lv_sub hl [2, 3, 4, 1, 0] rfl)
    · refine lv_ldc (v := (-1000000)) hx hb hown (hts (.constant RX11 233 (-1000000)) w_756) dX11_owed_16 ?_
      refine W_q9 hQ9 ?_
      exact W.iret (v := (-1000000)) hx hb hr (fun _ hT9 _ => ⟨⟨_, f, rfl, (⟨mJ_mk (ab2) (be2) (sn) (wn) (sa) (ly) (rdy) (fd) (np) (nf) (nr) (na) (nt) (sp) (wi) (wa) (va) (bo) (ju) (dr) (dn) (sl) (ax) (lf) (wh) (w6) (b6) (hmo) (hss_) (him_) (hkq_) (hsp_) (hwi_) (hwa_) (hva_) (hbo_) (hju_) (hdr_) (hdn_) (hsl_) (hax_) (hlf_) (hwh_) (hw6_) (hb6_) (hst) (by omega) (hdn) (hi0) (hi1) (hrd), ⟨np, nf, nr, na, nt, hst, Or.inl ⟨fun z => c_13 z.2, rfl⟩⟩, fun j hj => rfl⟩), by rw [hT9]; exact hP⟩, hS.F hT9⟩) hS.2.2 dX11_owed_18
theorem j2_owed (l : Launch) (G : gW) (g : Nat → Nat) (hg : gOK g) (f : Nat → va_E) (ss : Nat → Int32) (im : Nat → Int32) (kq : Nat → Int32) (a1 : Int32) (a2 : Int32) (hI : mJ G g f ss im kq) (htA : ∀ n : Nat, n ≤ 10 → ss 4 = nI n → trOK ss n) : Met l yX11_owed (wsT yX11_owed cX11_owed 5 (some .int)) ({ frames := 7, cells := 0, slots := 0, locals := 173 }) (bP G g f [.ref (g 315), .int a1, .int a2]) (bQi G g (fun (z9 : Int32) (f' : Nat → va_E) => (mJ G g f' ss im kq) ∧ (∃ p9 f9 r9 u9 t9, stOK ss p9 f9 r9 u9 t9 ∧ ((¬ (inN a1 p9 = true ∧ inB 0 a2 9999 = true) ∧ z9 = -1000000) ∨ (∃ po, po < p9 ∧ a1 = nI po ∧ inB 0 a2 9999 = true ∧ z9 = owV (fun t c => ss (10 * t + c + 1546)) (rJr p9 f9 r9 u9 ss) (fun t => hMi (rBx p9 f9 r9 u9 ss t) (kS ss t)) (ss 5) (ss 6) a2 po t9))) ∧ ∀ j, j < 315 → f' j = f j)) 0 0 (gA g) := mJ_elim hI (fun ab2 be2 sn wn sa ly rdy fd np nf nr na nt sp wi wa va bo ju dr dn sl ax lf wh w6 b6 hmo hss_ him_ hkq_ hsp_ hwi_ hwa_ hva_ hbo_ hju_ hdr_ hdn_ hsl_ hax_ hlf_ hwh_ hw6_ hb6_ hst hfo hdn hi0 hi1 hrd => jn2_owed l G g hg f ab2 be2 sn wn sa ly rdy fd ss np nf nr na nt im kq sp wi wa va bo ju dr dn sl ax lf wh w6 b6 a1 a2 hmo hss_ him_ hkq_ hsp_ hwi_ hwa_ hva_ hbo_ hju_ hdr_ hdn_ hsl_ hax_ hlf_ hwh_ hw6_ hb6_ hst hfo hdn hi0 hi1 hrd htA)
set_option maxHeartbeats 4000000 in
set_option maxRecDepth 100000 in
theorem jn2_chance (l : Launch) (G : gW) (g : Nat → Nat) (hg : gOK g) (f : Nat → va_E) (ab2 : Int64) (be2 : Int64) (sn : Int32) (wn : Int32) (sa : Int32) (ly : Int32) (rdy : Int32) (fd : Nat) (ss : Nat → Int32) (np : Nat) (nf : Nat) (nr : Nat) (na : Nat) (nt : Nat) (im : Nat → Int32) (kq : Nat → Int32) (sp : Nat → Int32) (wi : Nat → Int32) (wa : Nat → Int32) (va : Nat → Int64) (bo : Nat → Int32) (ju : Nat → Int32) (dr : Nat → Int32) (dn : Nat → Int32) (sl : Nat → Int32) (ax : Nat → Int32) (lf : Nat → Int32) (wh : Nat → Int32) (w6 : Nat → Int32) (b6 : Nat → Int32) (a1 : Int32) (a2 : Int32) (a3 : Int32) (a4 : Int32) (hmo : f 315 = eO 10 [.ref (g 316), .ref (g 317), .ref (g 318), .long ab2, .long be2, .int sn, .ref (g 319), .ref (g 320), .int wn, .ref (g 321), .ref (g 322), .int sa, .int ly, .int rdy, .int (nI fd), .ref (g 323), .ref (g 324), .ref (g 325), .ref (g 326), .ref (g 327), .ref (g 328), .ref (g 329), .ref (g 330), .ref (g 331), .ref (g 332)]) (hss_ : f 316 = eI G 2246 ss) (him_ : f 317 = eI G 4492 im) (hkq_ : f 318 = eZ G 2 kq) (hsp_ : f 319 = eI G 70 sp) (hwi_ : f 320 = eI G 70 wi) (hwa_ : f 321 = eI G 70 wa) (hva_ : f 322 = eJ G 70 va) (hbo_ : f 323 = eI G 11 bo) (hju_ : f 324 = eI G 11 ju) (hdr_ : f 325 = eI G 264 dr) (hdn_ : f 326 = eI G 11 dn) (hsl_ : f 327 = eI G 330 sl) (hax_ : f 328 = eI G 44 ax) (hlf_ : f 329 = eI G 30 lf) (hwh_ : f 330 = eI G 6 wh) (hw6_ : f 331 = eI G 6 w6) (hb6_ : f 332 = eI G 6 b6) (hst : stOK ss np nf nr na nt) (hfo : fd ≤ 10) (hdn : ∀ k, k < 11 → ∃ d, d ≤ 24 ∧ dn k = nI d) (hi0 : stI im 0) (hi1 : stI im 2246) (hrd : ¬ rdy = 0 → fd = nt ∧ ∀ z, z < nt → rHz np nf nr na ss bo ju dr dn sl ax z) (htA : ∀ n : Nat, n ≤ 10 → ss 4 = nI n → trOK ss n) : Met l yX11_chance (wsT yX11_chance cX11_chance 8 (some .int)) ({ frames := 2, cells := 0, slots := 0, locals := 55 }) (bP G g f [.ref (g 315), .int a1, .int a2, .int a3, .int a4]) (bQi G g (fun (z9 : Int32) (f' : Nat → va_E) => (mJ G g f' ss im kq) ∧ ∀ j, j < 315 → f' j = f j)) 0 0 (gA g) := by
  refine Met.ofW (cc := cX11_chance) (maxL := 8) (ret := (some .int)) (by decide) rfl ?_
  intro p e s m args below meth c s₁ B hml hv
  obtain ⟨rfl, hP, hG⟩ := hv
  have hx := B.exec
  have hb := B.bytes
  have hr := B.returns
  have hts := my_hts (atoms_spec (ws := wsT yX11_chance cX11_chance 8 (some .int)) B.pre)
  have hown : s.vm.findClass RX11 = some m.cls := findClass_of_methodNamed B.named
  have hlocks := B.notSynchronized
  have hS : va_S (gA g) s.heap s.heap [] := va_S.rf
  have hl := lv_entry ([.ref (g 315), .int a1, .int a2, .int a3, .int a4]) (n := 8) (Nat.le_of_ble_eq_true rfl)
  rw [lg_entry_eq]
  generalize (lg_sl ([.ref (g 315), .int a1, .int a2, .int a3, .int a4]) ++ List.replicate (8 - (lg_sl ([.ref (g 315), .int a1, .int a2, .int a3, .int a4])).length) Slot.unset).toArray = ls at hl ⊢
  have hl : lv_has ls 8 [(0, .ref (g 315)), (1, .int a1), (2, .int a2), (3, .int a3), (4, .int a4)] := hl
  refine W_q8 (fun Q9 hQ9 => ?_)
  have hc0 := hst.c0
  have hc1 := hst.c1
  have hc2 := hst.c2
  have hc3 := hst.c3
  have hc4 := hst.c4
  have htr := htA nt hst.c4 hst.h4
  refine lv_iload_n hx hb dX11_chance_0 rfl (lv_at hl 1 rfl) ?_
  refine lv_i2l hx hb dX11_chance_1 rfl ?_
  refine lv_lconst (v := 0) hx hb dX11_chance_2 (by decide) ?_
  refine my_bel (v := Int32.toInt64 0) (by decide) ?_
  refine lv_ldc2 (v := 40) hx hb hown (hts (.constantLong RX11 241 (40)) w_775) dX11_chance_3 ?_
  refine my_bel (v := Int32.toInt64 40) (by decide) ?_
  refine rd_calli (va_runS (As := [.long (Int32.toInt64 a1), .long (Int32.toInt64 0), .long (Int32.toInt64 40)]) (rest := []) ⟨hx, hb, hml, hown, hts⟩ (r_in l G g hg f a1 0 40  ) (my_cwS hts ok_X11_in w_162 rfl rfl ⟨Nat.le_of_ble_eq_true rfl, Nat.le_of_ble_eq_true rfl⟩) ⟨bP.blind, fun U hU hW => ⟨rfl, by rw [hU]; exact hP, kG.warm hW hG⟩⟩ rfl rfl hl.1 rfl (lv_room (Nat.le_of_ble_eq_true rfl)) dX11_chance_6 ⟨Nat.le_of_ble_eq_true rfl, Nat.le_of_ble_eq_true rfl⟩) (fun r hr9 => ?_)
  subst hr9
  refine my_ifeq (tgt := 47) hx hb dX11_chance_9 (by decide) (fun c_9 => ?_) (fun c_9 => ?_)
  · refine lv_bipush (v := (-2)) hx hb dX11_chance_47 (by decide) ?_
    refine W_q9 hQ9 ?_
    exact W.iret (v := (-2)) hx hb hr (fun _ hT9 _ => ⟨⟨_, f, rfl, (⟨mJ_mk (ab2) (be2) (sn) (wn) (sa) (ly) (rdy) (fd) (np) (nf) (nr) (na) (nt) (sp) (wi) (wa) (va) (bo) (ju) (dr) (dn) (sl) (ax) (lf) (wh) (w6) (b6) (hmo) (hss_) (him_) (hkq_) (hsp_) (hwi_) (hwa_) (hva_) (hbo_) (hju_) (hdr_) (hdn_) (hsl_) (hax_) (hlf_) (hwh_) (hw6_) (hb6_) (hst) (by omega) (hdn) (hi0) (hi1) (hrd), fun j hj => rfl⟩), by rw [hT9]; exact hP⟩, hS.F hT9⟩) hS.2.2 dX11_chance_49
  · refine lv_iload_n hx hb dX11_chance_12 rfl (lv_at hl 2 rfl) ?_
    refine lv_i2l hx hb dX11_chance_13 rfl ?_
    refine lv_lconst (v := 0) hx hb dX11_chance_14 (by decide) ?_
    refine my_bel (v := Int32.toInt64 0) (by decide) ?_
    refine lv_iload_n hx hb dX11_chance_15 rfl (lv_at hl 1 rfl) ?_
    refine lv_i2l hx hb dX11_chance_16 rfl ?_
    refine rd_calli (va_runS (As := [.long (Int32.toInt64 a2), .long (Int32.toInt64 0), .long (Int32.toInt64 a1)]) (rest := []) ⟨hx, hb, hml, hown, hts⟩ (r_in l G g hg f a2 0 a1  ) (my_cwS hts ok_X11_in w_162 rfl rfl ⟨Nat.le_of_ble_eq_true rfl, Nat.le_of_ble_eq_true rfl⟩) ⟨bP.blind, fun U hU hW => ⟨rfl, by rw [hU]; exact hP, kG.warm hW hG⟩⟩ rfl rfl hl.1 rfl (lv_room (Nat.le_of_ble_eq_true rfl)) dX11_chance_17 ⟨Nat.le_of_ble_eq_true rfl, Nat.le_of_ble_eq_true rfl⟩) (fun r hr9 => ?_)
    subst hr9
    refine my_ifeq (tgt := 47) hx hb dX11_chance_20 (by decide) (fun c_20 => ?_) (fun c_20 => ?_)
    · refine lv_bipush (v := (-2)) hx hb dX11_chance_47 (by decide) ?_
      refine W_q9 hQ9 ?_
      exact W.iret (v := (-2)) hx hb hr (fun _ hT9 _ => ⟨⟨_, f, rfl, (⟨mJ_mk (ab2) (be2) (sn) (wn) (sa) (ly) (rdy) (fd) (np) (nf) (nr) (na) (nt) (sp) (wi) (wa) (va) (bo) (ju) (dr) (dn) (sl) (ax) (lf) (wh) (w6) (b6) (hmo) (hss_) (him_) (hkq_) (hsp_) (hwi_) (hwa_) (hva_) (hbo_) (hju_) (hdr_) (hdn_) (hsl_) (hax_) (hlf_) (hwh_) (hw6_) (hb6_) (hst) (by omega) (hdn) (hi0) (hi1) (hrd), fun j hj => rfl⟩), by rw [hT9]; exact hP⟩, hS.F hT9⟩) hS.2.2 dX11_chance_49
    · refine lv_iload_n hx hb dX11_chance_23 rfl (lv_at hl 3 rfl) ?_
      refine lv_i2l hx hb dX11_chance_24 rfl ?_
      refine lv_lconst (v := 0) hx hb dX11_chance_25 (by decide) ?_
      refine my_bel (v := Int32.toInt64 0) (by decide) ?_
      refine lv_iload_n hx hb dX11_chance_26 rfl (lv_at hl 1 rfl) ?_
      refine lv_i2l hx hb dX11_chance_27 rfl ?_
      refine rd_calli (va_runS (As := [.long (Int32.toInt64 a3), .long (Int32.toInt64 0), .long (Int32.toInt64 a1)]) (rest := []) ⟨hx, hb, hml, hown, hts⟩ (r_in l G g hg f a3 0 a1  ) (my_cwS hts ok_X11_in w_162 rfl rfl ⟨Nat.le_of_ble_eq_true rfl, Nat.le_of_ble_eq_true rfl⟩) ⟨bP.blind, fun U hU hW => ⟨rfl, by rw [hU]; exact hP, kG.warm hW hG⟩⟩ rfl rfl hl.1 rfl (lv_room (Nat.le_of_ble_eq_true rfl)) dX11_chance_28 ⟨Nat.le_of_ble_eq_true rfl, Nat.le_of_ble_eq_true rfl⟩) (fun r hr9 => ?_)
      subst hr9
      refine my_ifeq (tgt := 47) hx hb dX11_chance_31 (by decide) (fun c_31 => ?_) (fun c_31 => ?_)
      · refine lv_bipush (v := (-2)) hx hb dX11_chance_47 (by decide) ?_
        refine W_q9 hQ9 ?_
        exact W.iret (v := (-2)) hx hb hr (fun _ hT9 _ => ⟨⟨_, f, rfl, (⟨mJ_mk (ab2) (be2) (sn) (wn) (sa) (ly) (rdy) (fd) (np) (nf) (nr) (na) (nt) (sp) (wi) (wa) (va) (bo) (ju) (dr) (dn) (sl) (ax) (lf) (wh) (w6) (b6) (hmo) (hss_) (him_) (hkq_) (hsp_) (hwi_) (hwa_) (hva_) (hbo_) (hju_) (hdr_) (hdn_) (hsl_) (hax_) (hlf_) (hwh_) (hw6_) (hb6_) (hst) (by omega) (hdn) (hi0) (hi1) (hrd), fun j hj => rfl⟩), by rw [hT9]; exact hP⟩, hS.F hT9⟩) hS.2.2 dX11_chance_49
      · refine lv_iload hx hb dX11_chance_34 (lv_at hl 4 rfl) ?_
        refine lv_i2l hx hb dX11_chance_36 rfl ?_
        refine lv_lconst (v := 0) hx hb dX11_chance_37 (by decide) ?_
        refine my_bel (v := Int32.toInt64 0) (by decide) ?_
        refine lv_ldc2 (v := 40) hx hb hown (hts (.constantLong RX11 241 (40)) w_775) dX11_chance_38 ?_
        refine my_bel (v := Int32.toInt64 40) (by decide) ?_
        refine rd_calli (va_runS (As := [.long (Int32.toInt64 a4), .long (Int32.toInt64 0), .long (Int32.toInt64 40)]) (rest := []) ⟨hx, hb, hml, hown, hts⟩ (r_in l G g hg f a4 0 40  ) (my_cwS hts ok_X11_in w_162 rfl rfl ⟨Nat.le_of_ble_eq_true rfl, Nat.le_of_ble_eq_true rfl⟩) ⟨bP.blind, fun U hU hW => ⟨rfl, by rw [hU]; exact hP, kG.warm hW hG⟩⟩ rfl rfl hl.1 rfl (lv_room (Nat.le_of_ble_eq_true rfl)) dX11_chance_41 ⟨Nat.le_of_ble_eq_true rfl, Nat.le_of_ble_eq_true rfl⟩) (fun r hr9 => ?_)
        subst hr9
        refine my_ifne (tgt := 50) hx hb dX11_chance_44 (by decide) (fun c_44 => ?_) (fun c_44 => ?_)
        · obtain ⟨n1, hn1, rfl⟩ := inB_n (b := 40) (by omega) c_9
          obtain ⟨n2, hn2, rfl⟩ := inB_n (b := n1) (by omega) c_20
          obtain ⟨n3, hn3, rfl⟩ := inB_n (b := n1) (by omega) c_31
          obtain ⟨n4, hn4, rfl⟩ := inB_n (b := 40) (by omega) c_44
          refine lv_lconst (v := 0) hx hb dX11_chance_50 (by decide) ?_
          refine lv_lstore (lv' := [(5, .long 0), (0, .ref (g 315)), (1, .int (nI n1)), (2, .int (nI n2)), (3, .int (nI n3)), (4, .int (nI n4))]) hx hb dX11_chance_51 hl (by decide) rfl (fun ls hl => ?_)
          refine lv_iload hx hb dX11_chance_53 (lv_at hl 5 rfl) ?_
          refine lv_istore (lv' := [(7, .int (nI n4)), (5, .long 0), (0, .ref (g 315)), (1, .int (nI n1)), (2, .int (nI n2)), (3, .int (nI n3)), (4, .int (nI n4))]) hx hb dX11_chance_55 hl (by decide) rfl (fun ls hl => ?_)
          have key1 : ∀ (n9_1 : Nat) (i : Nat) (u : Int64) (f_1 : Nat → va_E) (H : Heap) (locs : List Loc) (ls : Array Slot), (i ≤ 41) → 41 - i < n9_1 → f_1 315 = eO 10 [.ref (g 316), .ref (g 317), .ref (g 318), .long ab2, .long be2, .int sn, .ref (g 319), .ref (g 320), .int wn, .ref (g 321), .ref (g 322), .int sa, .int ly, .int rdy, .int (nI fd), .ref (g 323), .ref (g 324), .ref (g 325), .ref (g 326), .ref (g 327), .ref (g 328), .ref (g 329), .ref (g 330), .ref (g 331), .ref (g 332)] → f_1 316 = eI G 2246 ss → f_1 317 = eI G 4492 im → f_1 318 = eZ G 2 kq → f_1 319 = eI G 70 sp → f_1 320 = eI G 70 wi → f_1 321 = eI G 70 wa → f_1 322 = eJ G 70 va → f_1 323 = eI G 11 bo → f_1 324 = eI G 11 ju → f_1 325 = eI G 264 dr → f_1 326 = eI G 11 dn → f_1 327 = eI G 330 sl → f_1 328 = eI G 44 ax → f_1 329 = eI G 30 lf → f_1 330 = eI G 6 wh → f_1 331 = eI G 6 w6 → f_1 332 = eI G 6 b6 → (∀ j, (j < 333 ∨ 333 ≤ j) → f_1 j = f j) → va_P G.1 vwCl (wl g f_1) H → va_S (gA g) s.heap H locs → lv_has ls 8 [(0, .ref (g 315)), (1, .int (nI n1)), (2, .int (nI n2)), (3, .int (nI n3)), (5, .long u), (7, .int (nI i))] → W p l e (headSpec (wsT yX11_chance cX11_chance 8 (some .int)) ({ frames := 2, cells := 0, slots := 0, locals := 55 })).room s m ([.ref (g 315), .int (nI n1), .int (nI n2), .int (nI n3), .int (nI n4)] : List Value).toArray below meth c H locs 0 0 Q9 (F0 m 57 ls []) := by
            intro n9_1
            induction n9_1 with
            | zero => intro i u f_1 H locs ls hi hn9_1; exact absurd hn9_1 (Nat.not_lt_zero _)
            | succ n9_1 ih_1 =>
              intro i u f_1 H locs ls hi hn9_1 hmo hss_ him_ hkq_ hsp_ hwi_ hwa_ hva_ hbo_ hju_ hdr_ hdn_ hsl_ hax_ hlf_ hwh_ hw6_ hb6_ o_1 hP hS hl
              refine lv_iload hx hb dX11_chance_57 (lv_at hl 5 rfl) ?_
              refine lv_iload_n hx hb dX11_chance_59 rfl (lv_at hl 3 rfl) ?_
              refine lv_icmp_gt (tgt := 91) hx hb dX11_chance_60 (by decide) (fun c_60 => ?_) (fun c_60 => ?_)
              · have k_60 : n3 < i := (nI_ltI (a := n3) (b := i) (by omega) (by omega)).mp c_60
                refine lv_aload_n hx hb dX11_chance_91 rfl (lv_at hl 0 rfl) ?_
                refine lv_lload hx hb dX11_chance_92 (lv_at hl 4 rfl) ?_
                refine lv_iload_n hx hb dX11_chance_94 rfl (lv_at hl 1 rfl) ?_
                refine lv_iload_n hx hb dX11_chance_95 rfl (lv_at hl 3 rfl) ?_
                refine rd_calll (va_runS (As := [.int (nI n1), .int (nI n3)]) (rest := [.long u, .ref (g 315)]) ⟨hx, hb, hml, hown, hts⟩ (r_ways l G g hg f_1 (nI n1) (nI n3)  (by rw [nI_toInt (by omega)]; omega)) (my_cwS hts ok_X11_ways w_776 rfl rfl ⟨Nat.le_of_ble_eq_true rfl, Nat.le_of_ble_eq_true rfl⟩) ⟨bP.blind, fun U hU hW => ⟨rfl, by rw [hU]; exact hP, kG.warm hW hG⟩⟩ rfl rfl hl.1 rfl (lv_room (Nat.le_of_ble_eq_true rfl)) dX11_chance_96 ⟨Nat.le_of_ble_eq_true rfl, Nat.le_of_ble_eq_true rfl⟩) (fun v2 _ => ?_)
                refine b_calli (va_runV (As := [.long u, .long v2]) (rest := []) ⟨hx, hb, hml, hown, hts⟩ (r_told l G g hg f_1 ab2 be2 sn wn sa ly rdy fd u v2 hmo ) (my_cwV hts ok_X11_told w_779 rfl rfl ⟨Nat.le_of_ble_eq_true rfl, Nat.le_of_ble_eq_true rfl⟩) ⟨bP.blind, va_recv hG.1 hP (ci := 10) (q0 := 315) rfl (wl_at (by decide) hmo), fun U hU hW => ⟨rfl, by rw [hU]; exact hP, kG.warm hW hG⟩⟩ rfl rfl hl.1 rfl (lv_room (Nat.le_of_ble_eq_true rfl)) dX11_chance_99 ⟨Nat.le_of_ble_eq_true rfl, Nat.le_of_ble_eq_true rfl⟩) hS (fun v3 f_2 H locs hq9 hP hS => ?_)
                obtain ⟨ab94, be95, hq_2_0, o_2⟩ := hq9
                have hmo : f_2 315 = eO 10 [.ref (g 316), .ref (g 317), .ref (g 318), .long ab94, .long be95, .int sn, .ref (g 319), .ref (g 320), .int wn, .ref (g 321), .ref (g 322), .int sa, .int ly, .int rdy, .int (nI fd), .ref (g 323), .ref (g 324), .ref (g 325), .ref (g 326), .ref (g 327), .ref (g 328), .ref (g 329), .ref (g 330), .ref (g 331), .ref (g 332)] := hq_2_0
                refine W_q9 hQ9 ?_
                replace hss_ := ((o_2 316 (by first | decide | omega))).trans hss_
                replace him_ := ((o_2 317 (by first | decide | omega))).trans him_
                replace hkq_ := ((o_2 318 (by first | decide | omega))).trans hkq_
                replace hsp_ := ((o_2 319 (by first | decide | omega))).trans hsp_
                replace hwi_ := ((o_2 320 (by first | decide | omega))).trans hwi_
                replace hwa_ := ((o_2 321 (by first | decide | omega))).trans hwa_
                replace hva_ := ((o_2 322 (by first | decide | omega))).trans hva_
                replace hbo_ := ((o_2 323 (by first | decide | omega))).trans hbo_
                replace hju_ := ((o_2 324 (by first | decide | omega))).trans hju_
                replace hdr_ := ((o_2 325 (by first | decide | omega))).trans hdr_
                replace hdn_ := ((o_2 326 (by first | decide | omega))).trans hdn_
                replace hsl_ := ((o_2 327 (by first | decide | omega))).trans hsl_
                replace hax_ := ((o_2 328 (by first | decide | omega))).trans hax_
                replace hlf_ := ((o_2 329 (by first | decide | omega))).trans hlf_
                replace hwh_ := ((o_2 330 (by first | decide | omega))).trans hwh_
                replace hw6_ := ((o_2 331 (by first | decide | omega))).trans hw6_
                replace hb6_ := ((o_2 332 (by first | decide | omega))).trans hb6_
                exact W.iret (v := v3) hx hb hr (fun _ hT9 _ => ⟨⟨_, f_2, rfl, (⟨mJ_mk (ab94) (be95) (sn) (wn) (sa) (ly) (rdy) (fd) (np) (nf) (nr) (na) (nt) (sp) (wi) (wa) (va) (bo) (ju) (dr) (dn) (sl) (ax) (lf) (wh) (w6) (b6) (hmo) (hss_) (him_) (hkq_) (hsp_) (hwi_) (hwa_) (hva_) (hbo_) (hju_) (hdr_) (hdn_) (hsl_) (hax_) (hlf_) (hwh_) (hw6_) (hb6_) (hst) (by omega) (hdn) (hi0) (hi1) (hrd), fun j hj => ((o_2 j (by omega))).trans (o_1 j (by omega))⟩), by rw [hT9]; exact hP⟩, hS.F hT9⟩) hS.2.2 dX11_chance_102
              · have k_60 : ¬ n3 < i := fun z9 => c_60 ((nI_ltI (a := n3) (b := i) (by omega) (by omega)).mpr z9)
                refine lv_lload hx hb dX11_chance_63 (lv_at hl 4 rfl) ?_
                refine lv_iload_n hx hb dX11_chance_65 rfl (lv_at hl 2 rfl) ?_
                refine lv_iload hx hb dX11_chance_66 (lv_at hl 5 rfl) ?_
                refine rd_calll (va_runS (As := [.int (nI n2), .int (nI i)]) (rest := [.long u]) ⟨hx, hb, hml, hown, hts⟩ (r_ways l G g hg f_1 (nI n2) (nI i)  (by rw [nI_toInt (by omega)]; omega)) (my_cwS hts ok_X11_ways w_776 rfl rfl ⟨Nat.le_of_ble_eq_true rfl, Nat.le_of_ble_eq_true rfl⟩) ⟨bP.blind, fun U hU hW => ⟨rfl, by rw [hU]; exact hP, kG.warm hW hG⟩⟩ rfl rfl hl.1 rfl (lv_room (Nat.le_of_ble_eq_true rfl)) dX11_chance_68 ⟨Nat.le_of_ble_eq_true rfl, Nat.le_of_ble_eq_true rfl⟩) (fun v6 _ => ?_)
                refine lv_iload_n hx hb dX11_chance_71 rfl (lv_at hl 1 rfl) ?_
                refine lv_iload_n hx hb dX11_chance_72 rfl (lv_at hl 2 rfl) ?_
                refine lv_isub hx hb dX11_chance_73 ?_
                refine my_bei (v := nI (n1 - n2)) (pk_sub (a := n1) (b := n2) (by omega)) ?_
                refine lv_iload_n hx hb dX11_chance_74 rfl (lv_at hl 3 rfl) ?_
                refine lv_iload hx hb dX11_chance_75 (lv_at hl 5 rfl) ?_
                refine lv_isub hx hb dX11_chance_77 ?_
                refine my_bei (v := nI (n3 - i)) (pk_sub (a := n3) (b := i) (by omega)) ?_
                refine rd_calll (va_runS (As := [.int (nI (n1 - n2)), .int (nI (n3 - i))]) (rest := [.long v6, .long u]) ⟨hx, hb, hml, hown, hts⟩ (r_ways l G g hg f_1 (nI (n1 - n2)) (nI (n3 - i))  (by rw [nI_toInt (by omega)]; omega)) (my_cwS hts ok_X11_ways w_776 rfl rfl ⟨Nat.le_of_ble_eq_true rfl, Nat.le_of_ble_eq_true rfl⟩) ⟨bP.blind, fun U hU hW => ⟨rfl, by rw [hU]; exact hP, kG.warm hW hG⟩⟩ rfl rfl hl.1 rfl (lv_room (Nat.le_of_ble_eq_true rfl)) dX11_chance_78 ⟨Nat.le_of_ble_eq_true rfl, Nat.le_of_ble_eq_true rfl⟩) (fun v7 _ => ?_)
                refine lv_lmul hx hb dX11_chance_81 ?_
                refine lv_ladd hx hb dX11_chance_82 ?_
                refine lv_lstore (lv' := [(5, .long (u + (v6 * v7))), (0, .ref (g 315)), (1, .int (nI n1)), (2, .int (nI n2)), (3, .int (nI n3)), (7, .int (nI i))]) hx hb dX11_chance_83 hl (by decide) rfl (fun ls hl => ?_)
                refine lv_iinc (v := nI (i + 1)) (lv' := [(7, .int (nI (i + 1))), (5, .long (u + (v6 * v7))), (0, .ref (g 315)), (1, .int (nI n1)), (2, .int (nI n2)), (3, .int (nI n3))]) hx hb dX11_chance_85 hl (k := 5) rfl (nI_add i 1) (by decide) rfl (fun ls hl => ?_)
                refine lv_goto (tgt := 57) hx hb dX11_chance_88 (by decide) ?_
                exact ih_1 (i + 1) (u + (v6 * v7)) f_1 _ _ _ (by omega) (by omega) (hmo) (hss_) (him_) (hkq_) (hsp_) (hwi_) (hwa_) (hva_) (hbo_) (hju_) (hdr_) (hdn_) (hsl_) (hax_) (hlf_) (hwh_) (hw6_) (hb6_) (fun j hj => (o_1 j (by omega))) hP hS (lv_sub hl [2, 3, 4, 5, 1, 0] rfl)
          exact key1 (41 + 1) n4 0 f _ _ _ (by omega) (by omega) (hmo) (hss_) (him_) (hkq_) (hsp_) (hwi_) (hwa_) (hva_) (hbo_) (hju_) (hdr_) (hdn_) (hsl_) (hax_) (hlf_) (hwh_) (hw6_) (hb6_) (fun j _ => rfl) hP hS (lv_sub hl [2, 3, 4, 5, 1, 0] rfl)
        · refine lv_bipush (v := (-2)) hx hb dX11_chance_47 (by decide) ?_
          refine W_q9 hQ9 ?_
          exact W.iret (v := (-2)) hx hb hr (fun _ hT9 _ => ⟨⟨_, f, rfl, (⟨mJ_mk (ab2) (be2) (sn) (wn) (sa) (ly) (rdy) (fd) (np) (nf) (nr) (na) (nt) (sp) (wi) (wa) (va) (bo) (ju) (dr) (dn) (sl) (ax) (lf) (wh) (w6) (b6) (hmo) (hss_) (him_) (hkq_) (hsp_) (hwi_) (hwa_) (hva_) (hbo_) (hju_) (hdr_) (hdn_) (hsl_) (hax_) (hlf_) (hwh_) (hw6_) (hb6_) (hst) (by omega) (hdn) (hi0) (hi1) (hrd), fun j hj => rfl⟩), by rw [hT9]; exact hP⟩, hS.F hT9⟩) hS.2.2 dX11_chance_49
theorem j2_chance (l : Launch) (G : gW) (g : Nat → Nat) (hg : gOK g) (f : Nat → va_E) (ss : Nat → Int32) (im : Nat → Int32) (kq : Nat → Int32) (a1 : Int32) (a2 : Int32) (a3 : Int32) (a4 : Int32) (hI : mJ G g f ss im kq) (htA : ∀ n : Nat, n ≤ 10 → ss 4 = nI n → trOK ss n) : Met l yX11_chance (wsT yX11_chance cX11_chance 8 (some .int)) ({ frames := 2, cells := 0, slots := 0, locals := 55 }) (bP G g f [.ref (g 315), .int a1, .int a2, .int a3, .int a4]) (bQi G g (fun (z9 : Int32) (f' : Nat → va_E) => (mJ G g f' ss im kq) ∧ ∀ j, j < 315 → f' j = f j)) 0 0 (gA g) := mJ_elim hI (fun ab2 be2 sn wn sa ly rdy fd np nf nr na nt sp wi wa va bo ju dr dn sl ax lf wh w6 b6 hmo hss_ him_ hkq_ hsp_ hwi_ hwa_ hva_ hbo_ hju_ hdr_ hdn_ hsl_ hax_ hlf_ hwh_ hw6_ hb6_ hst hfo hdn hi0 hi1 hrd => jn2_chance l G g hg f ab2 be2 sn wn sa ly rdy fd ss np nf nr na nt im kq sp wi wa va bo ju dr dn sl ax lf wh w6 b6 a1 a2 a3 a4 hmo hss_ him_ hkq_ hsp_ hwi_ hwa_ hva_ hbo_ hju_ hdr_ hdn_ hsl_ hax_ hlf_ hwh_ hw6_ hb6_ hst hfo hdn hi0 hi1 hrd htA)
set_option maxHeartbeats 4000000 in
set_option maxRecDepth 100000 in
theorem jn2_twelve (l : Launch) (G : gW) (g : Nat → Nat) (hg : gOK g) (f : Nat → va_E) (ab2 : Int64) (be2 : Int64) (sn : Int32) (wn : Int32) (sa : Int32) (ly : Int32) (rdy : Int32) (fd : Nat) (ss : Nat → Int32) (np : Nat) (nf : Nat) (nr : Nat) (na : Nat) (nt : Nat) (im : Nat → Int32) (kq : Nat → Int32) (sp : Nat → Int32) (wi : Nat → Int32) (wa : Nat → Int32) (va : Nat → Int64) (bo : Nat → Int32) (ju : Nat → Int32) (dr : Nat → Int32) (dn : Nat → Int32) (sl : Nat → Int32) (ax : Nat → Int32) (lf : Nat → Int32) (wh : Nat → Int32) (w6 : Nat → Int32) (b6 : Nat → Int32) (a1 : Int32) (a2 : Int32) (hmo : f 315 = eO 10 [.ref (g 316), .ref (g 317), .ref (g 318), .long ab2, .long be2, .int sn, .ref (g 319), .ref (g 320), .int wn, .ref (g 321), .ref (g 322), .int sa, .int ly, .int rdy, .int (nI fd), .ref (g 323), .ref (g 324), .ref (g 325), .ref (g 326), .ref (g 327), .ref (g 328), .ref (g 329), .ref (g 330), .ref (g 331), .ref (g 332)]) (hss_ : f 316 = eI G 2246 ss) (him_ : f 317 = eI G 4492 im) (hkq_ : f 318 = eZ G 2 kq) (hsp_ : f 319 = eI G 70 sp) (hwi_ : f 320 = eI G 70 wi) (hwa_ : f 321 = eI G 70 wa) (hva_ : f 322 = eJ G 70 va) (hbo_ : f 323 = eI G 11 bo) (hju_ : f 324 = eI G 11 ju) (hdr_ : f 325 = eI G 264 dr) (hdn_ : f 326 = eI G 11 dn) (hsl_ : f 327 = eI G 330 sl) (hax_ : f 328 = eI G 44 ax) (hlf_ : f 329 = eI G 30 lf) (hwh_ : f 330 = eI G 6 wh) (hw6_ : f 331 = eI G 6 w6) (hb6_ : f 332 = eI G 6 b6) (hst : stOK ss np nf nr na nt) (hfo : fd ≤ 10) (hdn : ∀ k, k < 11 → ∃ d, d ≤ 24 ∧ dn k = nI d) (hi0 : stI im 0) (hi1 : stI im 2246) (hrd : ¬ rdy = 0 → fd = nt ∧ ∀ z, z < nt → rHz np nf nr na ss bo ju dr dn sl ax z) (htA : ∀ n : Nat, n ≤ 10 → ss 4 = nI n → trOK ss n) : Met l yX11_twelve (wsT yX11_twelve cX11_twelve 9 (some .int)) ({ frames := 8, cells := 0, slots := 0, locals := 194 }) (bP G g f [.ref (g 315), .int a1, .int a2]) (bQi G g (fun (z9 : Int32) (f' : Nat → va_E) => (mJ G g f' ss im kq) ∧ (∃ p9 f9 r9 u9 t9, stOK ss p9 f9 r9 u9 t9 ∧ ((¬ (inN a1 t9 = true ∧ inB 0 a2 1 = true) ∧ z9 = -2) ∨ (∃ x k, x < t9 ∧ a1 = nI x ∧ k ≤ 1 ∧ a2 = nI k ∧ z9 = twA (fun i c => ss (4 * i + c + 10)) p9 (if k = 0 then rBx p9 f9 r9 u9 ss x else tvP p9 (nvF (fun i c => ss (4 * i + c + 10)) (fun t c => ss (10 * t + c + 1546)) (rJr p9 f9 r9 u9 ss) (ss (10 * x + 1546)) t9) ((fcB (fun i c => ss (54 * i + c + 466)) 0 (ss (10 * x + 1546)) u9).map (rL ss))) (ss (10 * x + 1548))))) ∧ ∀ j, j < 315 → f' j = f j)) 0 0 (gA g) := by
  refine Met.ofW (cc := cX11_twelve) (maxL := 9) (ret := (some .int)) (by decide) rfl ?_
  intro p e s m args below meth c s₁ B hml hv
  obtain ⟨rfl, hP, hG⟩ := hv
  have hx := B.exec
  have hb := B.bytes
  have hr := B.returns
  have hts := my_hts (atoms_spec (ws := wsT yX11_twelve cX11_twelve 9 (some .int)) B.pre)
  have hown : s.vm.findClass RX11 = some m.cls := findClass_of_methodNamed B.named
  have hlocks := B.notSynchronized
  have hS : va_S (gA g) s.heap s.heap [] := va_S.rf
  have hl := lv_entry ([.ref (g 315), .int a1, .int a2]) (n := 9) (Nat.le_of_ble_eq_true rfl)
  rw [lg_entry_eq]
  generalize (lg_sl ([.ref (g 315), .int a1, .int a2]) ++ List.replicate (9 - (lg_sl ([.ref (g 315), .int a1, .int a2])).length) Slot.unset).toArray = ls at hl ⊢
  have hl : lv_has ls 9 [(0, .ref (g 315)), (1, .int a1), (2, .int a2)] := hl
  refine W_q8 (fun Q9 hQ9 => ?_)
  have hc0 := hst.c0
  have hc1 := hst.c1
  have hc2 := hst.c2
  have hc3 := hst.c3
  have hc4 := hst.c4
  have htr := htA nt hst.c4 hst.h4
  refine lv_aload_n hx hb dX11_twelve_0 rfl (lv_at hl 0 rfl) ?_
  refine lv_iload_n hx hb dX11_twelve_1 rfl (lv_at hl 1 rfl) ?_
  refine b_calli (va_runV (As := [.int a1]) (rest := []) ⟨hx, hb, hml, hown, hts⟩ (r_isTrialE l G g hg f ab2 be2 sn wn sa ly rdy fd ss np nf nr na nt sp wi wa va bo ju dr dn sl ax lf a1 hmo hss_ hsp_ hwi_ hwa_ hva_ hbo_ hju_ hdr_ hdn_ hsl_ hax_ hlf_ (by first | assumption | omega | decide) (by first | assumption | omega | decide) (by first | assumption | omega | decide) (by first | assumption | omega | decide) (by first | assumption | omega | decide)) (my_cwV hts ok_X11_isTrial w_680 rfl rfl ⟨Nat.le_of_ble_eq_true rfl, Nat.le_of_ble_eq_true rfl⟩) ⟨bP.blind, va_recv hG.1 hP (ci := 10) (q0 := 315) rfl (wl_at (by decide) hmo), fun U hU hW => ⟨rfl, by rw [hU]; exact hP, kG.warm hW hG⟩⟩ rfl rfl hl.1 rfl (lv_room (Nat.le_of_ble_eq_true rfl)) dX11_twelve_2 ⟨Nat.le_of_ble_eq_true rfl, Nat.le_of_ble_eq_true rfl⟩) hS (fun v1 f_1 H locs hq9 hP hS => ?_)
  obtain ⟨sn92, wn93, sa94, ly95, sp96, wi97, wa98, va99, bo910, ju911, dr912, dn913, sl914, ax915, lf916, rdy917, fd918, rfl, hq_1_0, hq_1_1, hq_1_2, hq_1_3, hq_1_4, hq_1_5, hq_1_6, hq_1_7, hq_1_8, hq_1_9, hq_1_10, hq_1_11, hx_1_0, hx_1_1, hx_1_2, hx_1_3, hx_1_4, o_1⟩ := hq9
  have hmo : f_1 315 = eO 10 [.ref (g 316), .ref (g 317), .ref (g 318), .long ab2, .long be2, .int sn92, .ref (g 319), .ref (g 320), .int wn93, .ref (g 321), .ref (g 322), .int sa94, .int ly95, .int rdy917, .int (nI fd918), .ref (g 323), .ref (g 324), .ref (g 325), .ref (g 326), .ref (g 327), .ref (g 328), .ref (g 329), .ref (g 330), .ref (g 331), .ref (g 332)] := hq_1_0
  have hsp_ : f_1 319 = eI G 70 sp96 := hq_1_1
  have hwi_ : f_1 320 = eI G 70 wi97 := hq_1_2
  have hwa_ : f_1 321 = eI G 70 wa98 := hq_1_3
  have hva_ : f_1 322 = eJ G 70 va99 := hq_1_4
  have hbo_ : f_1 323 = eI G 11 bo910 := hq_1_5
  have hju_ : f_1 324 = eI G 11 ju911 := hq_1_6
  have hdr_ : f_1 325 = eI G 264 dr912 := hq_1_7
  have hdn_ : f_1 326 = eI G 11 dn913 := hq_1_8
  have hsl_ : f_1 327 = eI G 330 sl914 := hq_1_9
  have hax_ : f_1 328 = eI G 44 ax915 := hq_1_10
  have hlf_ : f_1 329 = eI G 30 lf916 := hq_1_11
  refine my_ifeq (tgt := 18) hx hb dX11_twelve_5 (by decide) (fun c_5 => ?_) (fun c_5 => ?_)
  · refine lv_bipush (v := (-2)) hx hb dX11_twelve_18 (by decide) ?_
    refine W_q9 hQ9 ?_
    replace hss_ := ((o_1 316 (by first | decide | omega))).trans hss_
    replace him_ := ((o_1 317 (by first | decide | omega))).trans him_
    replace hkq_ := ((o_1 318 (by first | decide | omega))).trans hkq_
    replace hwh_ := ((o_1 330 (by first | decide | omega))).trans hwh_
    replace hw6_ := ((o_1 331 (by first | decide | omega))).trans hw6_
    replace hb6_ := ((o_1 332 (by first | decide | omega))).trans hb6_
    exact W.iret (v := (-2)) hx hb hr (fun _ hT9 _ => ⟨⟨_, f_1, rfl, (⟨mJ_mk (ab2) (be2) (sn92) (wn93) (sa94) (ly95) (rdy917) (fd918) (np) (nf) (nr) (na) (nt) (sp96) (wi97) (wa98) (va99) (bo910) (ju911) (dr912) (dn913) (sl914) (ax915) (lf916) (wh) (w6) (b6) (hmo) (hss_) (him_) (hkq_) (hsp_) (hwi_) (hwa_) (hva_) (hbo_) (hju_) (hdr_) (hdn_) (hsl_) (hax_) (hlf_) (hwh_) (hw6_) (hb6_) (hst) (by omega) (hx_1_0) (hi0) (hi1) ((fun _ => ⟨hx_1_3, hx_1_4⟩)), ⟨np, nf, nr, na, nt, hst, Or.inl ⟨fun z => c_5 z.1, rfl⟩⟩, fun j hj => (o_1 j (by omega))⟩), by rw [hT9]; exact hP⟩, hS.F hT9⟩) hS.2.2 dX11_twelve_20
  · refine lv_iload_n hx hb dX11_twelve_8 rfl (lv_at hl 2 rfl) ?_
    refine lv_i2l hx hb dX11_twelve_9 rfl ?_
    refine lv_lconst (v := 0) hx hb dX11_twelve_10 (by decide) ?_
    refine my_bel (v := Int32.toInt64 0) (by decide) ?_
    refine lv_lconst (v := 1) hx hb dX11_twelve_11 (by decide) ?_
    refine my_bel (v := Int32.toInt64 1) (by decide) ?_
    refine rd_calli (va_runS (As := [.long (Int32.toInt64 a2), .long (Int32.toInt64 0), .long (Int32.toInt64 1)]) (rest := []) ⟨hx, hb, hml, hown, hts⟩ (r_in l G g hg f_1 a2 0 1  ) (my_cwS hts ok_X11_in w_162 rfl rfl ⟨Nat.le_of_ble_eq_true rfl, Nat.le_of_ble_eq_true rfl⟩) ⟨bP.blind, fun U hU hW => ⟨rfl, by rw [hU]; exact hP, kG.warm hW hG⟩⟩ rfl rfl hl.1 rfl (lv_room (Nat.le_of_ble_eq_true rfl)) dX11_twelve_12 ⟨Nat.le_of_ble_eq_true rfl, Nat.le_of_ble_eq_true rfl⟩) (fun r hr9 => ?_)
    subst hr9
    refine my_ifne (tgt := 21) hx hb dX11_twelve_15 (by decide) (fun c_15 => ?_) (fun c_15 => ?_)
    · rcases inB_01.mp c_15 with e9 | e9
      · subst e9
        obtain ⟨tn, htn, rfl⟩ := inN_nat (by omega) c_5
        obtain ⟨_, _, ks, hks, hk2⟩ := htr.1 tn htn
        refine lv_iload_n hx hb dX11_twelve_21 rfl (lv_at hl 2 rfl) ?_
        refine lv_if_ne (tgt := 34) hx hb dX11_twelve_22 (by decide) (fun c_22 => absurd (by decide) c_22) (fun c_22 => ?_)
        refine lv_aload_n hx hb dX11_twelve_25 rfl (lv_at hl 0 rfl) ?_
        refine va_get (D := G.1) (ci := 10) (v := .ref (g 323)) (C := RX11) (T := TX11) (N := 25) hx hb hts inlX11 hown hG.1 hP 315 (wl_at (by decide) hmo) rfl 15 (by decide) (hts (.fieldLink RX11 33 "SwornListsModel" "boxes" "[I") w_119) (fun _ h9 => h9) rfl dX11_twelve_26 ?_
        refine lv_iload_n hx hb dX11_twelve_29 rfl (lv_at hl 1 rfl) ?_
        obtain ⟨pl, hpl⟩ : ∃ x9, rBx np nf nr na ss tn = x9 := ⟨_, rfl⟩
        have hpb : ∀ k, 30 ≤ k → bt pl k = false := by rw [← hpl]; exact boxV_hi (by omega) rfl
        refine va_iald hx hb hG.1 hP 323 0 (wl_at (by decide) hbo_) rfl (vp_in_nI (by omega) (by decide)) dX11_twelve_30 ?_
        refine my_bei (v := bo910 tn) (congrArg bo910 (nI_clamp (n := tn) (by omega))) ?_
        refine my_bei (v := pl) (((hx_1_4 tn htn).1).trans hpl) ?_
        refine lv_goto (tgt := 46) hx hb dX11_twelve_31 (by decide) ?_
        refine lv_istore_n (lv' := [(3, .int pl), (0, .ref (g 315)), (1, .int (nI tn)), (2, .int 0)]) hx hb dX11_twelve_46 rfl hl (by decide) rfl (fun ls hl => ?_)
        refine lv_lconst (v := 0) hx hb dX11_twelve_47 (by decide) ?_
        refine my_bel (v := lN 0) (rfl) ?_
        refine lv_lstore (lv' := [(4, .long (lN 0)), (3, .int pl), (0, .ref (g 315)), (1, .int (nI tn)), (2, .int 0)]) hx hb dX11_twelve_48 hl (by decide) rfl (fun ls hl => ?_)
        refine lv_iconst (v := 0) hx hb dX11_twelve_50 (by decide) ?_
        refine lv_istore (lv' := [(6, .int 0), (4, .long (lN 0)), (3, .int pl), (0, .ref (g 315)), (1, .int (nI tn)), (2, .int 0)]) hx hb dX11_twelve_51 hl (by decide) rfl (fun ls hl => ?_)
        replace hss_ := ((o_1 316 (by first | decide | omega))).trans hss_
        replace him_ := ((o_1 317 (by first | decide | omega))).trans him_
        replace hkq_ := ((o_1 318 (by first | decide | omega))).trans hkq_
        replace hwh_ := ((o_1 330 (by first | decide | omega))).trans hwh_
        replace hw6_ := ((o_1 331 (by first | decide | omega))).trans hw6_
        replace hb6_ := ((o_1 332 (by first | decide | omega))).trans hb6_
        have key19 : ∀ (n9_19 : Nat) (pa : Nat) (z : Nat) (f_2 : Nat → va_E) (H : Heap) (locs : List Loc) (ls : Array Slot), (pa ≤ 4) → (z = twS (fun i c => ss (4 * i + c + 10)) np pl ks pa) → 4 - pa < n9_19 → f_2 315 = eO 10 [.ref (g 316), .ref (g 317), .ref (g 318), .long ab2, .long be2, .int sn92, .ref (g 319), .ref (g 320), .int wn93, .ref (g 321), .ref (g 322), .int sa94, .int ly95, .int rdy917, .int (nI fd918), .ref (g 323), .ref (g 324), .ref (g 325), .ref (g 326), .ref (g 327), .ref (g 328), .ref (g 329), .ref (g 330), .ref (g 331), .ref (g 332)] → f_2 316 = eI G 2246 ss → f_2 317 = eI G 4492 im → f_2 318 = eZ G 2 kq → f_2 319 = eI G 70 sp96 → f_2 320 = eI G 70 wi97 → f_2 321 = eI G 70 wa98 → f_2 322 = eJ G 70 va99 → f_2 323 = eI G 11 bo910 → f_2 324 = eI G 11 ju911 → f_2 325 = eI G 264 dr912 → f_2 326 = eI G 11 dn913 → f_2 327 = eI G 330 sl914 → f_2 328 = eI G 44 ax915 → f_2 329 = eI G 30 lf916 → f_2 330 = eI G 6 wh → f_2 331 = eI G 6 w6 → f_2 332 = eI G 6 b6 → (∀ j, (j < 333 ∨ 333 ≤ j) → f_2 j = f_1 j) → va_P G.1 vwCl (wl g f_2) H → va_S (gA g) s.heap H locs → lv_has ls 9 [(0, .ref (g 315)), (1, .int (nI tn)), (3, .int pl), (4, .long (lN z)), (6, .int (nI pa))] → W p l e (headSpec (wsT yX11_twelve cX11_twelve 9 (some .int)) ({ frames := 8, cells := 0, slots := 0, locals := 194 })).room s m ([.ref (g 315), .int (nI tn), .int 0] : List Value).toArray below meth c H locs 0 0 Q9 (F0 m 53 ls []) := by
          intro n9_19
          induction n9_19 with
          | zero => intro pa z f_2 H locs ls hi hz hn9_19; exact absurd hn9_19 (Nat.not_lt_zero _)
          | succ n9_19 ih_19 =>
            intro pa z f_2 H locs ls hi hz hn9_19 hmo hss_ him_ hkq_ hsp_ hwi_ hwa_ hva_ hbo_ hju_ hdr_ hdn_ hsl_ hax_ hlf_ hwh_ hw6_ hb6_ o_2 hP hS hl
            refine lv_iload hx hb dX11_twelve_53 (lv_at hl 4 rfl) ?_
            refine lv_iconst (v := 4) hx hb dX11_twelve_55 (by decide) ?_
            refine lv_icmp_ge (tgt := 141) hx hb dX11_twelve_56 (by decide) (fun c_56 => ?_) (fun c_56 => ?_)
            · have k_56 : 4 ≤ pa := (nI_leI (a := 4) (b := pa) (by omega) (by omega)).mp c_56
              have hpa4 : pa = 4 := by omega
              have hzb : z ≤ 4 * 1099511627776 := by
                have h9 := twS_b (P := (fun i c => ss (4 * i + c + 10))) (np := np) (ks := ks) hpb 4
                rw [hz, hpa4]
                exact h9
              refine lv_aload_n hx hb dX11_twelve_141 rfl (lv_at hl 0 rfl) ?_
              refine lv_lload hx hb dX11_twelve_142 (lv_at hl 3 rfl) ?_
              refine lv_iload_n hx hb dX11_twelve_144 rfl (lv_at hl 2 rfl) ?_
              refine rd_calli (va_runS (As := [.int pl]) (rest := [.long (lN z), .ref (g 315)]) ⟨hx, hb, hml, hown, hts⟩ (r_sizeOf l G g hg f_2 pl  ) (my_cwS hts ok_X11_sizeOf w_584 rfl rfl ⟨Nat.le_of_ble_eq_true rfl, Nat.le_of_ble_eq_true rfl⟩) ⟨bP.blind, fun U hU hW => ⟨rfl, by rw [hU]; exact hP, kG.warm hW hG⟩⟩ rfl rfl hl.1 rfl (lv_room (Nat.le_of_ble_eq_true rfl)) dX11_twelve_145 ⟨Nat.le_of_ble_eq_true rfl, Nat.le_of_ble_eq_true rfl⟩) (fun r hr9 => ?_)
              obtain ⟨c920, rfl, hx_3_0, hx_3_1⟩ := hr9
              have hsz : c920 = cnt pl 32 := size_ok hpb hx_3_1
              refine lv_aload_n hx hb dX11_twelve_148 rfl (lv_at hl 0 rfl) ?_
              refine lv_iload_n hx hb dX11_twelve_149 rfl (lv_at hl 1 rfl) ?_
              refine lv_iconst (v := 2) hx hb dX11_twelve_150 (by decide) ?_
              refine rd_calli (va_runV (As := [.int (nI tn), .int 2]) (rest := [.int (nI c920), .long (lN z), .ref (g 315)]) ⟨hx, hb, hml, hown, hts⟩ (r_ofTrial l G g hg f_2 ab2 be2 sn92 wn93 sa94 ly95 rdy917 (nI fd918) ss tn 2 hmo hss_ (by first | assumption | omega | decide)) (my_cwV hts ok_X11_ofTrial w_532 rfl rfl ⟨Nat.le_of_ble_eq_true rfl, Nat.le_of_ble_eq_true rfl⟩) ⟨bP.blind, va_recv hG.1 hP (ci := 10) (q0 := 315) rfl (wl_at (by decide) hmo), fun U hU hW => ⟨rfl, by rw [hU]; exact hP, kG.warm hW hG⟩⟩ rfl rfl hl.1 rfl (lv_room (Nat.le_of_ble_eq_true rfl)) dX11_twelve_151 ⟨Nat.le_of_ble_eq_true rfl, Nat.le_of_ble_eq_true rfl⟩) (fun r hr9 => ?_)
              subst hr9
              refine my_bei (v := ss (10 * tn + 1548)) (congrArg ss (show 10 * tn + 2 + 1546 = 10 * tn + 1548 by omega)) ?_
              refine my_bei (v := nI ks) (hk2) ?_
              refine rd_calll (va_runS (As := [.int (nI c920), .int (nI ks)]) (rest := [.long (lN z), .ref (g 315)]) ⟨hx, hb, hml, hown, hts⟩ (e2_ways l G g hg f_2 c920 ks  (by first | assumption | omega | decide) (by first | assumption | omega | decide)) (my_cwS hts ok_X11_ways w_776 rfl rfl ⟨Nat.le_of_ble_eq_true rfl, Nat.le_of_ble_eq_true rfl⟩) ⟨bP.blind, fun U hU hW => ⟨rfl, by rw [hU]; exact hP, kG.warm hW hG⟩⟩ rfl rfl hl.1 rfl (lv_room (Nat.le_of_ble_eq_true rfl)) dX11_twelve_154 ⟨Nat.le_of_ble_eq_true rfl, Nat.le_of_ble_eq_true rfl⟩) (fun r hr9 => ?_)
              subst hr9
              have hwb := wz_s (A := c920) (T := ks) (by omega)
              refine b_calli (va_runV (As := [.long (lN z), .long (lN (wz c920 ks))]) (rest := []) ⟨hx, hb, hml, hown, hts⟩ (e_told2 l G g hg f_2 ab2 be2 sn92 wn93 sa94 ly95 rdy917 fd918 z (wz c920 ks) hmo (by first | assumption | omega | decide) (by first | assumption | omega | decide)) (my_cwV hts ok_X11_told w_779 rfl rfl ⟨Nat.le_of_ble_eq_true rfl, Nat.le_of_ble_eq_true rfl⟩) ⟨bP.blind, va_recv hG.1 hP (ci := 10) (q0 := 315) rfl (wl_at (by decide) hmo), fun U hU hW => ⟨rfl, by rw [hU]; exact hP, kG.warm hW hG⟩⟩ rfl rfl hl.1 rfl (lv_room (Nat.le_of_ble_eq_true rfl)) dX11_twelve_157 ⟨Nat.le_of_ble_eq_true rfl, Nat.le_of_ble_eq_true rfl⟩) hS (fun v21 f_4 H locs hq9 hP hS => ?_)
              obtain ⟨ab922, be923, rfl, hq_4_0, o_4⟩ := hq9
              have hmo : f_4 315 = eO 10 [.ref (g 316), .ref (g 317), .ref (g 318), .long ab922, .long be923, .int sn92, .ref (g 319), .ref (g 320), .int wn93, .ref (g 321), .ref (g 322), .int sa94, .int ly95, .int rdy917, .int (nI fd918), .ref (g 323), .ref (g 324), .ref (g 325), .ref (g 326), .ref (g 327), .ref (g 328), .ref (g 329), .ref (g 330), .ref (g 331), .ref (g 332)] := hq_4_0
              refine W_q9 hQ9 ?_
              replace hss_ := ((o_4 316 (by first | decide | omega))).trans hss_
              replace him_ := ((o_4 317 (by first | decide | omega))).trans him_
              replace hkq_ := ((o_4 318 (by first | decide | omega))).trans hkq_
              replace hsp_ := ((o_4 319 (by first | decide | omega))).trans hsp_
              replace hwi_ := ((o_4 320 (by first | decide | omega))).trans hwi_
              replace hwa_ := ((o_4 321 (by first | decide | omega))).trans hwa_
              replace hva_ := ((o_4 322 (by first | decide | omega))).trans hva_
              replace hbo_ := ((o_4 323 (by first | decide | omega))).trans hbo_
              replace hju_ := ((o_4 324 (by first | decide | omega))).trans hju_
              replace hdr_ := ((o_4 325 (by first | decide | omega))).trans hdr_
              replace hdn_ := ((o_4 326 (by first | decide | omega))).trans hdn_
              replace hsl_ := ((o_4 327 (by first | decide | omega))).trans hsl_
              replace hax_ := ((o_4 328 (by first | decide | omega))).trans hax_
              replace hlf_ := ((o_4 329 (by first | decide | omega))).trans hlf_
              replace hwh_ := ((o_4 330 (by first | decide | omega))).trans hwh_
              replace hw6_ := ((o_4 331 (by first | decide | omega))).trans hw6_
              replace hb6_ := ((o_4 332 (by first | decide | omega))).trans hb6_
              exact W.iret (v := zo2 z (wz c920 ks)) hx hb hr (fun _ hT9 _ => ⟨⟨_, f_4, rfl, (⟨mJ_mk (ab922) (be923) (sn92) (wn93) (sa94) (ly95) (rdy917) (fd918) (np) (nf) (nr) (na) (nt) (sp96) (wi97) (wa98) (va99) (bo910) (ju911) (dr912) (dn913) (sl914) (ax915) (lf916) (wh) (w6) (b6) (hmo) (hss_) (him_) (hkq_) (hsp_) (hwi_) (hwa_) (hva_) (hbo_) (hju_) (hdr_) (hdn_) (hsl_) (hax_) (hlf_) (hwh_) (hw6_) (hb6_) (hst) (by omega) (hx_1_0) (hi0) (hi1) ((fun _ => ⟨hx_1_3, hx_1_4⟩)), ⟨np, nf, nr, na, nt, hst, Or.inr ⟨tn, 0, htn, rfl, by decide, rfl, tw_end hz hpa4 hsz hk2 hks (hpl.symm.trans (if_pos rfl).symm)⟩⟩, fun j hj => (((o_4 j (by omega))).trans (o_2 j (by omega))).trans (o_1 j (by omega))⟩), by rw [hT9]; exact hP⟩, hS.F hT9⟩) hS.2.2 dX11_twelve_160
            · have k_56 : ¬ 4 ≤ pa := fun z9 => c_56 ((nI_leI (a := 4) (b := pa) (by omega) (by omega)).mpr z9)
              refine lv_iconst (v := 0) hx hb dX11_twelve_59 (by decide) ?_
              refine lv_istore (lv' := [(7, .int 0), (0, .ref (g 315)), (1, .int (nI tn)), (3, .int pl), (4, .long (lN z)), (6, .int (nI pa))]) hx hb dX11_twelve_60 hl (by decide) rfl (fun ls hl => ?_)
              refine lv_iconst (v := 0) hx hb dX11_twelve_62 (by decide) ?_
              refine lv_istore (lv' := [(8, .int 0), (7, .int 0), (0, .ref (g 315)), (1, .int (nI tn)), (3, .int pl), (4, .long (lN z)), (6, .int (nI pa))]) hx hb dX11_twelve_63 hl (by decide) rfl (fun ls hl => ?_)
              have key24 : ∀ (n9_24 : Nat) (i2 : Nat) (c2 : Nat) (f_5 : Nat → va_E) (H : Heap) (locs : List Loc) (ls : Array Slot), (i2 ≤ np) → (c2 ≤ i2) → (c2 = cnt (twP (fun i c => ss (4 * i + c + 10)) np pl pa) i2) → np - i2 < n9_24 → f_5 315 = eO 10 [.ref (g 316), .ref (g 317), .ref (g 318), .long ab2, .long be2, .int sn92, .ref (g 319), .ref (g 320), .int wn93, .ref (g 321), .ref (g 322), .int sa94, .int ly95, .int rdy917, .int (nI fd918), .ref (g 323), .ref (g 324), .ref (g 325), .ref (g 326), .ref (g 327), .ref (g 328), .ref (g 329), .ref (g 330), .ref (g 331), .ref (g 332)] → f_5 316 = eI G 2246 ss → f_5 317 = eI G 4492 im → f_5 318 = eZ G 2 kq → f_5 319 = eI G 70 sp96 → f_5 320 = eI G 70 wi97 → f_5 321 = eI G 70 wa98 → f_5 322 = eJ G 70 va99 → f_5 323 = eI G 11 bo910 → f_5 324 = eI G 11 ju911 → f_5 325 = eI G 264 dr912 → f_5 326 = eI G 11 dn913 → f_5 327 = eI G 330 sl914 → f_5 328 = eI G 44 ax915 → f_5 329 = eI G 30 lf916 → f_5 330 = eI G 6 wh → f_5 331 = eI G 6 w6 → f_5 332 = eI G 6 b6 → (∀ j, (j < 333 ∨ 333 ≤ j) → f_5 j = f_2 j) → va_P G.1 vwCl (wl g f_5) H → va_S (gA g) s.heap H locs → lv_has ls 9 [(0, .ref (g 315)), (1, .int (nI tn)), (3, .int pl), (4, .long (lN z)), (6, .int (nI pa)), (7, .int (nI c2)), (8, .int (nI i2))] → W p l e (headSpec (wsT yX11_twelve cX11_twelve 9 (some .int)) ({ frames := 8, cells := 0, slots := 0, locals := 194 })).room s m ([.ref (g 315), .int (nI tn), .int 0] : List Value).toArray below meth c H locs 0 0 Q9 (F0 m 65 ls []) := by
                intro n9_24
                induction n9_24 with
                | zero => intro i2 c2 f_5 H locs ls hi2 hcl hcc hn9_24; exact absurd hn9_24 (Nat.not_lt_zero _)
                | succ n9_24 ih_24 =>
                  intro i2 c2 f_5 H locs ls hi2 hcl hcc hn9_24 hmo hss_ him_ hkq_ hsp_ hwi_ hwa_ hva_ hbo_ hju_ hdr_ hdn_ hsl_ hax_ hlf_ hwh_ hw6_ hb6_ o_5 hP hS hl
                  refine lv_iload hx hb dX11_twelve_65 (lv_at hl 6 rfl) ?_
                  refine lv_aload_n hx hb dX11_twelve_67 rfl (lv_at hl 0 rfl) ?_
                  refine va_get (D := G.1) (ci := 10) (v := .ref (g 316)) (C := RX11) (T := TX11) (N := 25) hx hb hts inlX11 hown hG.1 hP 315 (wl_at (by decide) hmo) rfl 0 (by decide) (hts (.fieldLink RX11 7 "SwornListsModel" "st" "[I") w_112) (fun _ h9 => h9) rfl dX11_twelve_68 ?_
                  refine lv_iconst (v := 0) hx hb dX11_twelve_71 (by decide) ?_
                  refine va_iald hx hb hG.1 hP 316 0 (wl_at (by decide) hss_) rfl (by unfold vp_in; decide) dX11_twelve_72 ?_
                  refine my_bei (v := ss 0) (rfl) ?_
                  refine my_bei (v := nI np) (hst.h0) ?_
                  refine lv_icmp_ge (tgt := 119) hx hb dX11_twelve_73 (by decide) (fun c_73 => ?_) (fun c_73 => ?_)
                  · have k_73 : np ≤ i2 := (nI_leI (a := np) (b := i2) (by omega) (by omega)).mp c_73
                    have hi2n : i2 = np := by omega
                    have hc2 : c2 = cnt (twP (fun i c => ss (4 * i + c + 10)) np pl pa) 32 := by
                      rw [hcc, hi2n]
                      exact tw_np (by omega)
                    refine lv_lload hx hb dX11_twelve_119 (lv_at hl 3 rfl) ?_
                    refine lv_iload hx hb dX11_twelve_121 (lv_at hl 5 rfl) ?_
                    refine lv_aload_n hx hb dX11_twelve_123 rfl (lv_at hl 0 rfl) ?_
                    refine lv_iload_n hx hb dX11_twelve_124 rfl (lv_at hl 1 rfl) ?_
                    refine lv_iconst (v := 2) hx hb dX11_twelve_125 (by decide) ?_
                    refine rd_calli (va_runV (As := [.int (nI tn), .int 2]) (rest := [.int (nI c2), .long (lN z)]) ⟨hx, hb, hml, hown, hts⟩ (r_ofTrial l G g hg f_5 ab2 be2 sn92 wn93 sa94 ly95 rdy917 (nI fd918) ss tn 2 hmo hss_ (by first | assumption | omega | decide)) (my_cwV hts ok_X11_ofTrial w_532 rfl rfl ⟨Nat.le_of_ble_eq_true rfl, Nat.le_of_ble_eq_true rfl⟩) ⟨bP.blind, va_recv hG.1 hP (ci := 10) (q0 := 315) rfl (wl_at (by decide) hmo), fun U hU hW => ⟨rfl, by rw [hU]; exact hP, kG.warm hW hG⟩⟩ rfl rfl hl.1 rfl (lv_room (Nat.le_of_ble_eq_true rfl)) dX11_twelve_126 ⟨Nat.le_of_ble_eq_true rfl, Nat.le_of_ble_eq_true rfl⟩) (fun r hr9 => ?_)
                    subst hr9
                    refine my_bei (v := ss (10 * tn + 1548)) (congrArg ss (show 10 * tn + 2 + 1546 = 10 * tn + 1548 by omega)) ?_
                    refine my_bei (v := nI ks) (hk2) ?_
                    refine rd_calll (va_runS (As := [.int (nI c2), .int (nI ks)]) (rest := [.long (lN z)]) ⟨hx, hb, hml, hown, hts⟩ (e2_ways l G g hg f_5 c2 ks  (by first | assumption | omega | decide) (by first | assumption | omega | decide)) (my_cwS hts ok_X11_ways w_776 rfl rfl ⟨Nat.le_of_ble_eq_true rfl, Nat.le_of_ble_eq_true rfl⟩) ⟨bP.blind, fun U hU hW => ⟨rfl, by rw [hU]; exact hP, kG.warm hW hG⟩⟩ rfl rfl hl.1 rfl (lv_room (Nat.le_of_ble_eq_true rfl)) dX11_twelve_129 ⟨Nat.le_of_ble_eq_true rfl, Nat.le_of_ble_eq_true rfl⟩) (fun r hr9 => ?_)
                    subst hr9
                    refine lv_ladd hx hb dX11_twelve_132 ?_
                    refine my_bel (v := lN (z + wz c2 ks)) (lN_add _ _) ?_
                    refine lv_lstore (lv' := [(4, .long (lN (z + wz c2 ks))), (0, .ref (g 315)), (1, .int (nI tn)), (3, .int pl), (6, .int (nI pa)), (7, .int (nI c2)), (8, .int (nI i2))]) hx hb dX11_twelve_133 hl (by decide) rfl (fun ls hl => ?_)
                    refine lv_iinc (v := nI (pa + 1)) (lv' := [(6, .int (nI (pa + 1))), (4, .long (lN (z + wz c2 ks))), (0, .ref (g 315)), (1, .int (nI tn)), (3, .int pl), (7, .int (nI c2)), (8, .int (nI i2))]) hx hb dX11_twelve_135 hl (k := 4) rfl (nI_add pa 1) (by decide) rfl (fun ls hl => ?_)
                    refine lv_goto (tgt := 53) hx hb dX11_twelve_138 (by decide) ?_
                    exact ih_19 (pa + 1) (z + wz c2 ks) f_5 _ _ _ (by omega) (by rw [hz, hc2]; rfl) (by omega) (hmo) (hss_) (him_) (hkq_) (hsp_) (hwi_) (hwa_) (hva_) (hbo_) (hju_) (hdr_) (hdn_) (hsl_) (hax_) (hlf_) (hwh_) (hw6_) (hb6_) (fun j hj => ((o_5 j (by omega))).trans (o_2 j (by omega))) hP hS (lv_sub hl [2, 3, 4, 1, 0] rfl)
                  · have k_73 : ¬ np ≤ i2 := fun z9 => c_73 ((nI_leI (a := np) (b := i2) (by omega) (by omega)).mpr z9)
                    refine lv_iload hx hb dX11_twelve_76 (lv_at hl 5 rfl) ?_
                    refine lv_iload_n hx hb dX11_twelve_78 rfl (lv_at hl 2 rfl) ?_
                    refine lv_iload hx hb dX11_twelve_79 (lv_at hl 6 rfl) ?_
                    refine lv_ishr hx hb dX11_twelve_81 ?_
                    refine lv_iconst (v := 1) hx hb dX11_twelve_82 (by decide) ?_
                    refine lv_iand hx hb dX11_twelve_83 ?_
                    refine lv_iconst (v := 1) hx hb dX11_twelve_84 (by decide) ?_
                    refine lv_icmp_ne (tgt := 109) hx hb dX11_twelve_85 (by decide) (fun c_85 => ?_) (fun c_85 => ?_)
                    · refine lv_iconst (v := 0) hx hb dX11_twelve_109 (by decide) ?_
                      refine lv_iadd hx hb dX11_twelve_110 ?_
                      refine my_bei (v := nI c2) ((nI_add c2 0).trans (congrArg nI (show c2 + 0 = c2 by omega))) ?_
                      refine lv_istore (lv' := [(7, .int (nI c2)), (0, .ref (g 315)), (1, .int (nI tn)), (3, .int pl), (4, .long (lN z)), (6, .int (nI pa)), (8, .int (nI i2))]) hx hb dX11_twelve_111 hl (by decide) rfl (fun ls hl => ?_)
                      refine lv_iinc (v := nI (i2 + 1)) (lv' := [(8, .int (nI (i2 + 1))), (7, .int (nI c2)), (0, .ref (g 315)), (1, .int (nI tn)), (3, .int pl), (4, .long (lN z)), (6, .int (nI pa))]) hx hb dX11_twelve_113 hl (k := 6) rfl (nI_add i2 1) (by decide) rfl (fun ls hl => ?_)
                      refine lv_goto (tgt := 65) hx hb dX11_twelve_116 (by decide) ?_
                      exact ih_24 (i2 + 1) c2 f_5 _ _ _ (by omega) (by omega) (by rw [hcc, cnt_n (fun z => c_85 ((sr_iff (by omega)).mpr ((tw_bt (P := (fun i c => ss (4 * i + c + 10))) (k := pa) (pl := pl) (by omega) (show i2 < np by omega)).mp z).1))]) (by omega) (hmo) (hss_) (him_) (hkq_) (hsp_) (hwi_) (hwa_) (hva_) (hbo_) (hju_) (hdr_) (hdn_) (hsl_) (hax_) (hlf_) (hwh_) (hw6_) (hb6_) (fun j hj => (o_5 j (by omega))) hP hS (lv_sub hl [2, 3, 4, 5, 6, 1, 0] rfl)
                    · refine lv_aload_n hx hb dX11_twelve_88 rfl (lv_at hl 0 rfl) ?_
                      refine va_get (D := G.1) (ci := 10) (v := .ref (g 316)) (C := RX11) (T := TX11) (N := 25) hx hb hts inlX11 hown hG.1 hP 315 (wl_at (by decide) hmo) rfl 0 (by decide) (hts (.fieldLink RX11 7 "SwornListsModel" "st" "[I") w_112) (fun _ h9 => h9) rfl dX11_twelve_89 ?_
                      refine lv_bipush (v := 10) hx hb dX11_twelve_92 (by decide) ?_
                      refine lv_iconst (v := 4) hx hb dX11_twelve_94 (by decide) ?_
                      refine lv_iload hx hb dX11_twelve_95 (lv_at hl 6 rfl) ?_
                      refine lv_imul hx hb dX11_twelve_97 ?_
                      refine my_bei (v := nI (4 * i2)) (pk_mul 4 i2) ?_
                      refine lv_iadd hx hb dX11_twelve_98 ?_
                      refine my_bei (v := nI (4 * i2 + 10)) ((nI_add 10 (4 * i2)).trans (congrArg nI (show 10 + (4 * i2) = 4 * i2 + 10 by omega))) ?_
                      refine va_iald hx hb hG.1 hP 316 0 (wl_at (by decide) hss_) rfl (vp_in_nI (by omega) (by decide)) dX11_twelve_99 ?_
                      refine my_bei (v := ss (4 * i2 + 10)) (congrArg ss (nI_clamp (n := 4 * i2 + 10) (by omega))) ?_
                      refine lv_iload hx hb dX11_twelve_100 (lv_at hl 4 rfl) ?_
                      refine lv_icmp_ne (tgt := 109) hx hb dX11_twelve_102 (by decide) (fun c_102 => ?_) (fun c_102 => ?_)
                      · refine lv_iconst (v := 0) hx hb dX11_twelve_109 (by decide) ?_
                        refine lv_iadd hx hb dX11_twelve_110 ?_
                        refine my_bei (v := nI c2) ((nI_add c2 0).trans (congrArg nI (show c2 + 0 = c2 by omega))) ?_
                        refine lv_istore (lv' := [(7, .int (nI c2)), (0, .ref (g 315)), (1, .int (nI tn)), (3, .int pl), (4, .long (lN z)), (6, .int (nI pa)), (8, .int (nI i2))]) hx hb dX11_twelve_111 hl (by decide) rfl (fun ls hl => ?_)
                        refine lv_iinc (v := nI (i2 + 1)) (lv' := [(8, .int (nI (i2 + 1))), (7, .int (nI c2)), (0, .ref (g 315)), (1, .int (nI tn)), (3, .int pl), (4, .long (lN z)), (6, .int (nI pa))]) hx hb dX11_twelve_113 hl (k := 6) rfl (nI_add i2 1) (by decide) rfl (fun ls hl => ?_)
                        refine lv_goto (tgt := 65) hx hb dX11_twelve_116 (by decide) ?_
                        exact ih_24 (i2 + 1) c2 f_5 _ _ _ (by omega) (by omega) (by rw [hcc, cnt_n (fun z => c_102 ((tw_bt (P := (fun i c => ss (4 * i + c + 10))) (k := pa) (pl := pl) (by omega) (show i2 < np by omega)).mp z).2)]) (by omega) (hmo) (hss_) (him_) (hkq_) (hsp_) (hwi_) (hwa_) (hva_) (hbo_) (hju_) (hdr_) (hdn_) (hsl_) (hax_) (hlf_) (hwh_) (hw6_) (hb6_) (fun j hj => (o_5 j (by omega))) hP hS (lv_sub hl [2, 3, 4, 5, 6, 1, 0] rfl)
                      · refine lv_iconst (v := 1) hx hb dX11_twelve_105 (by decide) ?_
                        refine lv_goto (tgt := 110) hx hb dX11_twelve_106 (by decide) ?_
                        refine lv_iadd hx hb dX11_twelve_110 ?_
                        refine my_bei (v := nI (c2 + 1)) (nI_add c2 1) ?_
                        refine lv_istore (lv' := [(7, .int (nI (c2 + 1))), (0, .ref (g 315)), (1, .int (nI tn)), (3, .int pl), (4, .long (lN z)), (6, .int (nI pa)), (8, .int (nI i2))]) hx hb dX11_twelve_111 hl (by decide) rfl (fun ls hl => ?_)
                        refine lv_iinc (v := nI (i2 + 1)) (lv' := [(8, .int (nI (i2 + 1))), (7, .int (nI (c2 + 1))), (0, .ref (g 315)), (1, .int (nI tn)), (3, .int pl), (4, .long (lN z)), (6, .int (nI pa))]) hx hb dX11_twelve_113 hl (k := 6) rfl (nI_add i2 1) (by decide) rfl (fun ls hl => ?_)
                        refine lv_goto (tgt := 65) hx hb dX11_twelve_116 (by decide) ?_
                        exact ih_24 (i2 + 1) (c2 + 1) f_5 _ _ _ (by omega) (by omega) (by rw [hcc, cnt_y ((tw_bt (P := (fun i c => ss (4 * i + c + 10))) (k := pa) (pl := pl) (by omega) (show i2 < np by omega)).mpr ⟨(sr_iff (by omega)).mp c_85, c_102⟩)]) (by omega) (hmo) (hss_) (him_) (hkq_) (hsp_) (hwi_) (hwa_) (hva_) (hbo_) (hju_) (hdr_) (hdn_) (hsl_) (hax_) (hlf_) (hwh_) (hw6_) (hb6_) (fun j hj => (o_5 j (by omega))) hP hS (lv_sub hl [2, 3, 4, 5, 6, 1, 0] rfl)
              exact key24 (np + 1) 0 0 f_2 _ _ _ (by omega) (by omega) (rfl) (by omega) (hmo) (hss_) (him_) (hkq_) (hsp_) (hwi_) (hwa_) (hva_) (hbo_) (hju_) (hdr_) (hdn_) (hsl_) (hax_) (hlf_) (hwh_) (hw6_) (hb6_) (fun j _ => rfl) hP hS (lv_sub hl [2, 3, 4, 5, 6, 1, 0] rfl)
        exact key19 (4 + 1) 0 0 f_1 _ _ _ (by omega) (rfl) (by omega) (hmo) (hss_) (him_) (hkq_) (hsp_) (hwi_) (hwa_) (hva_) (hbo_) (hju_) (hdr_) (hdn_) (hsl_) (hax_) (hlf_) (hwh_) (hw6_) (hb6_) (fun j _ => rfl) hP hS (lv_sub hl [3, 4, 2, 1, 0] rfl)
      · subst e9
        obtain ⟨tn, htn, rfl⟩ := inN_nat (by omega) c_5
        obtain ⟨_, _, ks, hks, hk2⟩ := htr.1 tn htn
        refine lv_iload_n hx hb dX11_twelve_21 rfl (lv_at hl 2 rfl) ?_
        refine lv_if_ne (tgt := 34) hx hb dX11_twelve_22 (by decide) (fun c_22 => ?_) (fun c_22 => absurd c_22 (by decide))
        refine lv_aload_n hx hb dX11_twelve_34 rfl (lv_at hl 0 rfl) ?_
        refine lv_iconst (v := 0) hx hb dX11_twelve_35 (by decide) ?_
        refine lv_aload_n hx hb dX11_twelve_36 rfl (lv_at hl 0 rfl) ?_
        refine lv_iload_n hx hb dX11_twelve_37 rfl (lv_at hl 1 rfl) ?_
        refine lv_iconst (v := 0) hx hb dX11_twelve_38 (by decide) ?_
        replace hss_ := ((o_1 316 (by first | decide | omega))).trans hss_
        refine rd_calli (va_runV (As := [.int (nI tn), .int 0]) (rest := [.int 0, .ref (g 315)]) ⟨hx, hb, hml, hown, hts⟩ (r_ofTrial l G g hg f_1 ab2 be2 sn92 wn93 sa94 ly95 rdy917 (nI fd918) ss tn 0 hmo hss_ (by first | assumption | omega | decide)) (my_cwV hts ok_X11_ofTrial w_532 rfl rfl ⟨Nat.le_of_ble_eq_true rfl, Nat.le_of_ble_eq_true rfl⟩) ⟨bP.blind, va_recv hG.1 hP (ci := 10) (q0 := 315) rfl (wl_at (by decide) hmo), fun U hU hW => ⟨rfl, by rw [hU]; exact hP, kG.warm hW hG⟩⟩ rfl rfl hl.1 rfl (lv_room (Nat.le_of_ble_eq_true rfl)) dX11_twelve_39 ⟨Nat.le_of_ble_eq_true rfl, Nat.le_of_ble_eq_true rfl⟩) (fun r hr9 => ?_)
        subst hr9
        refine my_bei (v := ss (10 * tn + 1546)) (congrArg ss (show 10 * tn + 0 + 1546 = 10 * tn + 1546 by omega)) ?_
        refine lv_iconst (v := (-1)) hx hb dX11_twelve_42 (by decide) ?_
        obtain ⟨pl, hpl⟩ : ∃ x9, tvP np (nvF (fun i c => ss (4 * i + c + 10)) (fun t c => ss (10 * t + c + 1546)) ju911 (ss (10 * tn + 1546)) fd918) ((fcB (fun i c => ss (54 * i + c + 466)) 0 (ss (10 * tn + 1546)) na).map (rL ss)) = x9 := ⟨_, rfl⟩
        have hpb : ∀ k, 30 ≤ k → bt pl k = false := by rw [← hpl]; exact tv_hi (by omega)
        refine b_calli (va_runV (As := [.int 0, .int (ss (10 * tn + 1546)), .int (-1)]) (rest := []) ⟨hx, hb, hml, hown, hts⟩ (r_whomE0 l G g hg f_1 ab2 be2 sn92 wn93 sa94 ly95 rdy917 fd918 ss np nf nr na nt sp96 wi97 wa98 va99 ju911 (ss (10 * tn + 1546)) hmo hss_ hsp_ hwi_ hwa_ hva_ hju_ (by first | assumption | omega | decide) (by first | assumption | omega | decide) (fun o ho => htr.d0 o (by omega)) (fun o o' h1 h2 => htr.2 o o' h1 (by omega))) (my_cwV hts ok_X11_whom w_536 rfl rfl ⟨Nat.le_of_ble_eq_true rfl, Nat.le_of_ble_eq_true rfl⟩) ⟨bP.blind, va_recv hG.1 hP (ci := 10) (q0 := 315) rfl (wl_at (by decide) hmo), fun U hU hW => ⟨rfl, by rw [hU]; exact hP, kG.warm hW hG⟩⟩ rfl rfl hl.1 rfl (lv_room (Nat.le_of_ble_eq_true rfl)) dX11_twelve_43 ⟨Nat.le_of_ble_eq_true rfl, Nat.le_of_ble_eq_true rfl⟩) hS (fun v25 f_6 H locs hq9 hP hS => ?_)
        obtain ⟨sn926, wn927, sa928, ly929, sp930, wi931, wa932, va933, rfl, hq_6_0, hq_6_1, hq_6_2, hq_6_3, hq_6_4, o_6⟩ := hq9
        have hmo : f_6 315 = eO 10 [.ref (g 316), .ref (g 317), .ref (g 318), .long ab2, .long be2, .int sn926, .ref (g 319), .ref (g 320), .int wn927, .ref (g 321), .ref (g 322), .int sa928, .int ly929, .int rdy917, .int (nI fd918), .ref (g 323), .ref (g 324), .ref (g 325), .ref (g 326), .ref (g 327), .ref (g 328), .ref (g 329), .ref (g 330), .ref (g 331), .ref (g 332)] := hq_6_0
        have hsp_ : f_6 319 = eI G 70 sp930 := hq_6_1
        have hwi_ : f_6 320 = eI G 70 wi931 := hq_6_2
        have hwa_ : f_6 321 = eI G 70 wa932 := hq_6_3
        have hva_ : f_6 322 = eJ G 70 va933 := hq_6_4
        refine my_bei (v := pl) ((tv_wh (by omega)).trans hpl) ?_
        refine lv_istore_n (lv' := [(3, .int pl), (0, .ref (g 315)), (1, .int (nI tn)), (2, .int 1)]) hx hb dX11_twelve_46 rfl hl (by decide) rfl (fun ls hl => ?_)
        refine lv_lconst (v := 0) hx hb dX11_twelve_47 (by decide) ?_
        refine my_bel (v := lN 0) (rfl) ?_
        refine lv_lstore (lv' := [(4, .long (lN 0)), (3, .int pl), (0, .ref (g 315)), (1, .int (nI tn)), (2, .int 1)]) hx hb dX11_twelve_48 hl (by decide) rfl (fun ls hl => ?_)
        refine lv_iconst (v := 0) hx hb dX11_twelve_50 (by decide) ?_
        refine lv_istore (lv' := [(6, .int 0), (4, .long (lN 0)), (3, .int pl), (0, .ref (g 315)), (1, .int (nI tn)), (2, .int 1)]) hx hb dX11_twelve_51 hl (by decide) rfl (fun ls hl => ?_)
        replace hss_ := ((o_6 316 (by first | decide | omega))).trans hss_
        replace him_ := ((o_6 317 (by first | decide | omega)).trans ((o_1 317 (by first | decide | omega)))).trans him_
        replace hkq_ := ((o_6 318 (by first | decide | omega)).trans ((o_1 318 (by first | decide | omega)))).trans hkq_
        replace hbo_ := ((o_6 323 (by first | decide | omega))).trans hbo_
        replace hju_ := ((o_6 324 (by first | decide | omega))).trans hju_
        replace hdr_ := ((o_6 325 (by first | decide | omega))).trans hdr_
        replace hdn_ := ((o_6 326 (by first | decide | omega))).trans hdn_
        replace hsl_ := ((o_6 327 (by first | decide | omega))).trans hsl_
        replace hax_ := ((o_6 328 (by first | decide | omega))).trans hax_
        replace hlf_ := ((o_6 329 (by first | decide | omega))).trans hlf_
        replace hwh_ := ((o_6 330 (by first | decide | omega)).trans ((o_1 330 (by first | decide | omega)))).trans hwh_
        replace hw6_ := ((o_6 331 (by first | decide | omega)).trans ((o_1 331 (by first | decide | omega)))).trans hw6_
        replace hb6_ := ((o_6 332 (by first | decide | omega)).trans ((o_1 332 (by first | decide | omega)))).trans hb6_
        have key34 : ∀ (n9_34 : Nat) (pa : Nat) (z : Nat) (f_7 : Nat → va_E) (H : Heap) (locs : List Loc) (ls : Array Slot), (pa ≤ 4) → (z = twS (fun i c => ss (4 * i + c + 10)) np pl ks pa) → 4 - pa < n9_34 → f_7 315 = eO 10 [.ref (g 316), .ref (g 317), .ref (g 318), .long ab2, .long be2, .int sn926, .ref (g 319), .ref (g 320), .int wn927, .ref (g 321), .ref (g 322), .int sa928, .int ly929, .int rdy917, .int (nI fd918), .ref (g 323), .ref (g 324), .ref (g 325), .ref (g 326), .ref (g 327), .ref (g 328), .ref (g 329), .ref (g 330), .ref (g 331), .ref (g 332)] → f_7 316 = eI G 2246 ss → f_7 317 = eI G 4492 im → f_7 318 = eZ G 2 kq → f_7 319 = eI G 70 sp930 → f_7 320 = eI G 70 wi931 → f_7 321 = eI G 70 wa932 → f_7 322 = eJ G 70 va933 → f_7 323 = eI G 11 bo910 → f_7 324 = eI G 11 ju911 → f_7 325 = eI G 264 dr912 → f_7 326 = eI G 11 dn913 → f_7 327 = eI G 330 sl914 → f_7 328 = eI G 44 ax915 → f_7 329 = eI G 30 lf916 → f_7 330 = eI G 6 wh → f_7 331 = eI G 6 w6 → f_7 332 = eI G 6 b6 → (∀ j, (j < 333 ∨ 333 ≤ j) → f_7 j = f_6 j) → va_P G.1 vwCl (wl g f_7) H → va_S (gA g) s.heap H locs → lv_has ls 9 [(0, .ref (g 315)), (1, .int (nI tn)), (3, .int pl), (4, .long (lN z)), (6, .int (nI pa))] → W p l e (headSpec (wsT yX11_twelve cX11_twelve 9 (some .int)) ({ frames := 8, cells := 0, slots := 0, locals := 194 })).room s m ([.ref (g 315), .int (nI tn), .int 1] : List Value).toArray below meth c H locs 0 0 Q9 (F0 m 53 ls []) := by
          intro n9_34
          induction n9_34 with
          | zero => intro pa z f_7 H locs ls hi hz hn9_34; exact absurd hn9_34 (Nat.not_lt_zero _)
          | succ n9_34 ih_34 =>
            intro pa z f_7 H locs ls hi hz hn9_34 hmo hss_ him_ hkq_ hsp_ hwi_ hwa_ hva_ hbo_ hju_ hdr_ hdn_ hsl_ hax_ hlf_ hwh_ hw6_ hb6_ o_7 hP hS hl
            refine lv_iload hx hb dX11_twelve_53 (lv_at hl 4 rfl) ?_
            refine lv_iconst (v := 4) hx hb dX11_twelve_55 (by decide) ?_
            refine lv_icmp_ge (tgt := 141) hx hb dX11_twelve_56 (by decide) (fun c_56 => ?_) (fun c_56 => ?_)
            · have k_56 : 4 ≤ pa := (nI_leI (a := 4) (b := pa) (by omega) (by omega)).mp c_56
              have hpa4 : pa = 4 := by omega
              have hzb : z ≤ 4 * 1099511627776 := by
                have h9 := twS_b (P := (fun i c => ss (4 * i + c + 10))) (np := np) (ks := ks) hpb 4
                rw [hz, hpa4]
                exact h9
              refine lv_aload_n hx hb dX11_twelve_141 rfl (lv_at hl 0 rfl) ?_
              refine lv_lload hx hb dX11_twelve_142 (lv_at hl 3 rfl) ?_
              refine lv_iload_n hx hb dX11_twelve_144 rfl (lv_at hl 2 rfl) ?_
              refine rd_calli (va_runS (As := [.int pl]) (rest := [.long (lN z), .ref (g 315)]) ⟨hx, hb, hml, hown, hts⟩ (r_sizeOf l G g hg f_7 pl  ) (my_cwS hts ok_X11_sizeOf w_584 rfl rfl ⟨Nat.le_of_ble_eq_true rfl, Nat.le_of_ble_eq_true rfl⟩) ⟨bP.blind, fun U hU hW => ⟨rfl, by rw [hU]; exact hP, kG.warm hW hG⟩⟩ rfl rfl hl.1 rfl (lv_room (Nat.le_of_ble_eq_true rfl)) dX11_twelve_145 ⟨Nat.le_of_ble_eq_true rfl, Nat.le_of_ble_eq_true rfl⟩) (fun r hr9 => ?_)
              obtain ⟨c935, rfl, hx_8_0, hx_8_1⟩ := hr9
              have hsz : c935 = cnt pl 32 := size_ok hpb hx_8_1
              refine lv_aload_n hx hb dX11_twelve_148 rfl (lv_at hl 0 rfl) ?_
              refine lv_iload_n hx hb dX11_twelve_149 rfl (lv_at hl 1 rfl) ?_
              refine lv_iconst (v := 2) hx hb dX11_twelve_150 (by decide) ?_
              refine rd_calli (va_runV (As := [.int (nI tn), .int 2]) (rest := [.int (nI c935), .long (lN z), .ref (g 315)]) ⟨hx, hb, hml, hown, hts⟩ (r_ofTrial l G g hg f_7 ab2 be2 sn926 wn927 sa928 ly929 rdy917 (nI fd918) ss tn 2 hmo hss_ (by first | assumption | omega | decide)) (my_cwV hts ok_X11_ofTrial w_532 rfl rfl ⟨Nat.le_of_ble_eq_true rfl, Nat.le_of_ble_eq_true rfl⟩) ⟨bP.blind, va_recv hG.1 hP (ci := 10) (q0 := 315) rfl (wl_at (by decide) hmo), fun U hU hW => ⟨rfl, by rw [hU]; exact hP, kG.warm hW hG⟩⟩ rfl rfl hl.1 rfl (lv_room (Nat.le_of_ble_eq_true rfl)) dX11_twelve_151 ⟨Nat.le_of_ble_eq_true rfl, Nat.le_of_ble_eq_true rfl⟩) (fun r hr9 => ?_)
              subst hr9
              refine my_bei (v := ss (10 * tn + 1548)) (congrArg ss (show 10 * tn + 2 + 1546 = 10 * tn + 1548 by omega)) ?_
              refine my_bei (v := nI ks) (hk2) ?_
              refine rd_calll (va_runS (As := [.int (nI c935), .int (nI ks)]) (rest := [.long (lN z), .ref (g 315)]) ⟨hx, hb, hml, hown, hts⟩ (e2_ways l G g hg f_7 c935 ks  (by first | assumption | omega | decide) (by first | assumption | omega | decide)) (my_cwS hts ok_X11_ways w_776 rfl rfl ⟨Nat.le_of_ble_eq_true rfl, Nat.le_of_ble_eq_true rfl⟩) ⟨bP.blind, fun U hU hW => ⟨rfl, by rw [hU]; exact hP, kG.warm hW hG⟩⟩ rfl rfl hl.1 rfl (lv_room (Nat.le_of_ble_eq_true rfl)) dX11_twelve_154 ⟨Nat.le_of_ble_eq_true rfl, Nat.le_of_ble_eq_true rfl⟩) (fun r hr9 => ?_)
              subst hr9
              have hwb := wz_s (A := c935) (T := ks) (by omega)
              refine b_calli (va_runV (As := [.long (lN z), .long (lN (wz c935 ks))]) (rest := []) ⟨hx, hb, hml, hown, hts⟩ (e_told2 l G g hg f_7 ab2 be2 sn926 wn927 sa928 ly929 rdy917 fd918 z (wz c935 ks) hmo (by first | assumption | omega | decide) (by first | assumption | omega | decide)) (my_cwV hts ok_X11_told w_779 rfl rfl ⟨Nat.le_of_ble_eq_true rfl, Nat.le_of_ble_eq_true rfl⟩) ⟨bP.blind, va_recv hG.1 hP (ci := 10) (q0 := 315) rfl (wl_at (by decide) hmo), fun U hU hW => ⟨rfl, by rw [hU]; exact hP, kG.warm hW hG⟩⟩ rfl rfl hl.1 rfl (lv_room (Nat.le_of_ble_eq_true rfl)) dX11_twelve_157 ⟨Nat.le_of_ble_eq_true rfl, Nat.le_of_ble_eq_true rfl⟩) hS (fun v36 f_9 H locs hq9 hP hS => ?_)
              obtain ⟨ab937, be938, rfl, hq_9_0, o_9⟩ := hq9
              have hmo : f_9 315 = eO 10 [.ref (g 316), .ref (g 317), .ref (g 318), .long ab937, .long be938, .int sn926, .ref (g 319), .ref (g 320), .int wn927, .ref (g 321), .ref (g 322), .int sa928, .int ly929, .int rdy917, .int (nI fd918), .ref (g 323), .ref (g 324), .ref (g 325), .ref (g 326), .ref (g 327), .ref (g 328), .ref (g 329), .ref (g 330), .ref (g 331), .ref (g 332)] := hq_9_0
              refine W_q9 hQ9 ?_
              replace hss_ := ((o_9 316 (by first | decide | omega))).trans hss_
              replace him_ := ((o_9 317 (by first | decide | omega))).trans him_
              replace hkq_ := ((o_9 318 (by first | decide | omega))).trans hkq_
              replace hsp_ := ((o_9 319 (by first | decide | omega))).trans hsp_
              replace hwi_ := ((o_9 320 (by first | decide | omega))).trans hwi_
              replace hwa_ := ((o_9 321 (by first | decide | omega))).trans hwa_
              replace hva_ := ((o_9 322 (by first | decide | omega))).trans hva_
              replace hbo_ := ((o_9 323 (by first | decide | omega))).trans hbo_
              replace hju_ := ((o_9 324 (by first | decide | omega))).trans hju_
              replace hdr_ := ((o_9 325 (by first | decide | omega))).trans hdr_
              replace hdn_ := ((o_9 326 (by first | decide | omega))).trans hdn_
              replace hsl_ := ((o_9 327 (by first | decide | omega))).trans hsl_
              replace hax_ := ((o_9 328 (by first | decide | omega))).trans hax_
              replace hlf_ := ((o_9 329 (by first | decide | omega))).trans hlf_
              replace hwh_ := ((o_9 330 (by first | decide | omega))).trans hwh_
              replace hw6_ := ((o_9 331 (by first | decide | omega))).trans hw6_
              replace hb6_ := ((o_9 332 (by first | decide | omega))).trans hb6_
              exact W.iret (v := zo2 z (wz c935 ks)) hx hb hr (fun _ hT9 _ => ⟨⟨_, f_9, rfl, (⟨mJ_mk (ab937) (be938) (sn926) (wn927) (sa928) (ly929) (rdy917) (fd918) (np) (nf) (nr) (na) (nt) (sp930) (wi931) (wa932) (va933) (bo910) (ju911) (dr912) (dn913) (sl914) (ax915) (lf916) (wh) (w6) (b6) (hmo) (hss_) (him_) (hkq_) (hsp_) (hwi_) (hwa_) (hva_) (hbo_) (hju_) (hdr_) (hdn_) (hsl_) (hax_) (hlf_) (hwh_) (hw6_) (hb6_) (hst) (by omega) (hx_1_0) (hi0) (hi1) ((fun _ => ⟨hx_1_3, hx_1_4⟩)), ⟨np, nf, nr, na, nt, hst, Or.inr ⟨tn, 1, htn, rfl, by decide, rfl, tw_end hz hpa4 hsz hk2 hks (hpl.symm.trans ((tvP_congr (fun p _ => by rw [hx_1_3]; exact nvF_congr (fun _ _ => rfl) (fun _ _ => rfl) (fun z hz => rHz_ju (hx_1_4 z (by omega))))).trans (if_neg (by decide)).symm))⟩⟩, fun j hj => ((((o_9 j (by omega))).trans (o_7 j (by omega))).trans (o_6 j (by omega))).trans (o_1 j (by omega))⟩), by rw [hT9]; exact hP⟩, hS.F hT9⟩) hS.2.2 dX11_twelve_160
            · have k_56 : ¬ 4 ≤ pa := fun z9 => c_56 ((nI_leI (a := 4) (b := pa) (by omega) (by omega)).mpr z9)
              refine lv_iconst (v := 0) hx hb dX11_twelve_59 (by decide) ?_
              refine lv_istore (lv' := [(7, .int 0), (0, .ref (g 315)), (1, .int (nI tn)), (3, .int pl), (4, .long (lN z)), (6, .int (nI pa))]) hx hb dX11_twelve_60 hl (by decide) rfl (fun ls hl => ?_)
              refine lv_iconst (v := 0) hx hb dX11_twelve_62 (by decide) ?_
              refine lv_istore (lv' := [(8, .int 0), (7, .int 0), (0, .ref (g 315)), (1, .int (nI tn)), (3, .int pl), (4, .long (lN z)), (6, .int (nI pa))]) hx hb dX11_twelve_63 hl (by decide) rfl (fun ls hl => ?_)
              have key39 : ∀ (n9_39 : Nat) (i2 : Nat) (c2 : Nat) (f_10 : Nat → va_E) (H : Heap) (locs : List Loc) (ls : Array Slot), (i2 ≤ np) → (c2 ≤ i2) → (c2 = cnt (twP (fun i c => ss (4 * i + c + 10)) np pl pa) i2) → np - i2 < n9_39 → f_10 315 = eO 10 [.ref (g 316), .ref (g 317), .ref (g 318), .long ab2, .long be2, .int sn926, .ref (g 319), .ref (g 320), .int wn927, .ref (g 321), .ref (g 322), .int sa928, .int ly929, .int rdy917, .int (nI fd918), .ref (g 323), .ref (g 324), .ref (g 325), .ref (g 326), .ref (g 327), .ref (g 328), .ref (g 329), .ref (g 330), .ref (g 331), .ref (g 332)] → f_10 316 = eI G 2246 ss → f_10 317 = eI G 4492 im → f_10 318 = eZ G 2 kq → f_10 319 = eI G 70 sp930 → f_10 320 = eI G 70 wi931 → f_10 321 = eI G 70 wa932 → f_10 322 = eJ G 70 va933 → f_10 323 = eI G 11 bo910 → f_10 324 = eI G 11 ju911 → f_10 325 = eI G 264 dr912 → f_10 326 = eI G 11 dn913 → f_10 327 = eI G 330 sl914 → f_10 328 = eI G 44 ax915 → f_10 329 = eI G 30 lf916 → f_10 330 = eI G 6 wh → f_10 331 = eI G 6 w6 → f_10 332 = eI G 6 b6 → (∀ j, (j < 333 ∨ 333 ≤ j) → f_10 j = f_7 j) → va_P G.1 vwCl (wl g f_10) H → va_S (gA g) s.heap H locs → lv_has ls 9 [(0, .ref (g 315)), (1, .int (nI tn)), (3, .int pl), (4, .long (lN z)), (6, .int (nI pa)), (7, .int (nI c2)), (8, .int (nI i2))] → W p l e (headSpec (wsT yX11_twelve cX11_twelve 9 (some .int)) ({ frames := 8, cells := 0, slots := 0, locals := 194 })).room s m ([.ref (g 315), .int (nI tn), .int 1] : List Value).toArray below meth c H locs 0 0 Q9 (F0 m 65 ls []) := by
                intro n9_39
                induction n9_39 with
                | zero => intro i2 c2 f_10 H locs ls hi2 hcl hcc hn9_39; exact absurd hn9_39 (Nat.not_lt_zero _)
                | succ n9_39 ih_39 =>
                  intro i2 c2 f_10 H locs ls hi2 hcl hcc hn9_39 hmo hss_ him_ hkq_ hsp_ hwi_ hwa_ hva_ hbo_ hju_ hdr_ hdn_ hsl_ hax_ hlf_ hwh_ hw6_ hb6_ o_10 hP hS hl
                  refine lv_iload hx hb dX11_twelve_65 (lv_at hl 6 rfl) ?_
                  refine lv_aload_n hx hb dX11_twelve_67 rfl (lv_at hl 0 rfl) ?_
                  refine va_get (D := G.1) (ci := 10) (v := .ref (g 316)) (C := RX11) (T := TX11) (N := 25) hx hb hts inlX11 hown hG.1 hP 315 (wl_at (by decide) hmo) rfl 0 (by decide) (hts (.fieldLink RX11 7 "SwornListsModel" "st" "[I") w_112) (fun _ h9 => h9) rfl dX11_twelve_68 ?_
                  refine lv_iconst (v := 0) hx hb dX11_twelve_71 (by decide) ?_
                  refine va_iald hx hb hG.1 hP 316 0 (wl_at (by decide) hss_) rfl (by unfold vp_in; decide) dX11_twelve_72 ?_
                  refine my_bei (v := ss 0) (rfl) ?_
                  refine my_bei (v := nI np) (hst.h0) ?_
                  refine lv_icmp_ge (tgt := 119) hx hb dX11_twelve_73 (by decide) (fun c_73 => ?_) (fun c_73 => ?_)
                  · have k_73 : np ≤ i2 := (nI_leI (a := np) (b := i2) (by omega) (by omega)).mp c_73
                    have hi2n : i2 = np := by omega
                    have hc2 : c2 = cnt (twP (fun i c => ss (4 * i + c + 10)) np pl pa) 32 := by
                      rw [hcc, hi2n]
                      exact tw_np (by omega)
                    refine lv_lload hx hb dX11_twelve_119 (lv_at hl 3 rfl) ?_
                    refine lv_iload hx hb dX11_twelve_121 (lv_at hl 5 rfl) ?_
                    refine lv_aload_n hx hb dX11_twelve_123 rfl (lv_at hl 0 rfl) ?_
                    refine lv_iload_n hx hb dX11_twelve_124 rfl (lv_at hl 1 rfl) ?_
                    refine lv_iconst (v := 2) hx hb dX11_twelve_125 (by decide) ?_
                    refine rd_calli (va_runV (As := [.int (nI tn), .int 2]) (rest := [.int (nI c2), .long (lN z)]) ⟨hx, hb, hml, hown, hts⟩ (r_ofTrial l G g hg f_10 ab2 be2 sn926 wn927 sa928 ly929 rdy917 (nI fd918) ss tn 2 hmo hss_ (by first | assumption | omega | decide)) (my_cwV hts ok_X11_ofTrial w_532 rfl rfl ⟨Nat.le_of_ble_eq_true rfl, Nat.le_of_ble_eq_true rfl⟩) ⟨bP.blind, va_recv hG.1 hP (ci := 10) (q0 := 315) rfl (wl_at (by decide) hmo), fun U hU hW => ⟨rfl, by rw [hU]; exact hP, kG.warm hW hG⟩⟩ rfl rfl hl.1 rfl (lv_room (Nat.le_of_ble_eq_true rfl)) dX11_twelve_126 ⟨Nat.le_of_ble_eq_true rfl, Nat.le_of_ble_eq_true rfl⟩) (fun r hr9 => ?_)
                    subst hr9
                    refine my_bei (v := ss (10 * tn + 1548)) (congrArg ss (show 10 * tn + 2 + 1546 = 10 * tn + 1548 by omega)) ?_
                    refine my_bei (v := nI ks) (hk2) ?_
                    refine rd_calll (va_runS (As := [.int (nI c2), .int (nI ks)]) (rest := [.long (lN z)]) ⟨hx, hb, hml, hown, hts⟩ (e2_ways l G g hg f_10 c2 ks  (by first | assumption | omega | decide) (by first | assumption | omega | decide)) (my_cwS hts ok_X11_ways w_776 rfl rfl ⟨Nat.le_of_ble_eq_true rfl, Nat.le_of_ble_eq_true rfl⟩) ⟨bP.blind, fun U hU hW => ⟨rfl, by rw [hU]; exact hP, kG.warm hW hG⟩⟩ rfl rfl hl.1 rfl (lv_room (Nat.le_of_ble_eq_true rfl)) dX11_twelve_129 ⟨Nat.le_of_ble_eq_true rfl, Nat.le_of_ble_eq_true rfl⟩) (fun r hr9 => ?_)
                    subst hr9
                    refine lv_ladd hx hb dX11_twelve_132 ?_
                    refine my_bel (v := lN (z + wz c2 ks)) (lN_add _ _) ?_
                    refine lv_lstore (lv' := [(4, .long (lN (z + wz c2 ks))), (0, .ref (g 315)), (1, .int (nI tn)), (3, .int pl), (6, .int (nI pa)), (7, .int (nI c2)), (8, .int (nI i2))]) hx hb dX11_twelve_133 hl (by decide) rfl (fun ls hl => ?_)
                    refine lv_iinc (v := nI (pa + 1)) (lv' := [(6, .int (nI (pa + 1))), (4, .long (lN (z + wz c2 ks))), (0, .ref (g 315)), (1, .int (nI tn)), (3, .int pl), (7, .int (nI c2)), (8, .int (nI i2))]) hx hb dX11_twelve_135 hl (k := 4) rfl (nI_add pa 1) (by decide) rfl (fun ls hl => ?_)
                    refine lv_goto (tgt := 53) hx hb dX11_twelve_138 (by decide) ?_
                    exact ih_34 (pa + 1) (z + wz c2 ks) f_10 _ _ _ (by omega) (by rw [hz, hc2]; rfl) (by omega) (hmo) (hss_) (him_) (hkq_) (hsp_) (hwi_) (hwa_) (hva_) (hbo_) (hju_) (hdr_) (hdn_) (hsl_) (hax_) (hlf_) (hwh_) (hw6_) (hb6_) (fun j hj => ((o_10 j (by omega))).trans (o_7 j (by omega))) hP hS (lv_sub hl [2, 3, 4, 1, 0] rfl)
                  · have k_73 : ¬ np ≤ i2 := fun z9 => c_73 ((nI_leI (a := np) (b := i2) (by omega) (by omega)).mpr z9)
                    refine lv_iload hx hb dX11_twelve_76 (lv_at hl 5 rfl) ?_
                    refine lv_iload_n hx hb dX11_twelve_78 rfl (lv_at hl 2 rfl) ?_
                    refine lv_iload hx hb dX11_twelve_79 (lv_at hl 6 rfl) ?_
                    refine lv_ishr hx hb dX11_twelve_81 ?_
                    refine lv_iconst (v := 1) hx hb dX11_twelve_82 (by decide) ?_
                    refine lv_iand hx hb dX11_twelve_83 ?_
                    refine lv_iconst (v := 1) hx hb dX11_twelve_84 (by decide) ?_
                    refine lv_icmp_ne (tgt := 109) hx hb dX11_twelve_85 (by decide) (fun c_85 => ?_) (fun c_85 => ?_)
                    · refine lv_iconst (v := 0) hx hb dX11_twelve_109 (by decide) ?_
                      refine lv_iadd hx hb dX11_twelve_110 ?_
                      refine my_bei (v := nI c2) ((nI_add c2 0).trans (congrArg nI (show c2 + 0 = c2 by omega))) ?_
                      refine lv_istore (lv' := [(7, .int (nI c2)), (0, .ref (g 315)), (1, .int (nI tn)), (3, .int pl), (4, .long (lN z)), (6, .int (nI pa)), (8, .int (nI i2))]) hx hb dX11_twelve_111 hl (by decide) rfl (fun ls hl => ?_)
                      refine lv_iinc (v := nI (i2 + 1)) (lv' := [(8, .int (nI (i2 + 1))), (7, .int (nI c2)), (0, .ref (g 315)), (1, .int (nI tn)), (3, .int pl), (4, .long (lN z)), (6, .int (nI pa))]) hx hb dX11_twelve_113 hl (k := 6) rfl (nI_add i2 1) (by decide) rfl (fun ls hl => ?_)
                      refine lv_goto (tgt := 65) hx hb dX11_twelve_116 (by decide) ?_
                      exact ih_39 (i2 + 1) c2 f_10 _ _ _ (by omega) (by omega) (by rw [hcc, cnt_n (fun z => c_85 ((sr_iff (by omega)).mpr ((tw_bt (P := (fun i c => ss (4 * i + c + 10))) (k := pa) (pl := pl) (by omega) (show i2 < np by omega)).mp z).1))]) (by omega) (hmo) (hss_) (him_) (hkq_) (hsp_) (hwi_) (hwa_) (hva_) (hbo_) (hju_) (hdr_) (hdn_) (hsl_) (hax_) (hlf_) (hwh_) (hw6_) (hb6_) (fun j hj => (o_10 j (by omega))) hP hS (lv_sub hl [2, 3, 4, 5, 6, 1, 0] rfl)
                    · refine lv_aload_n hx hb dX11_twelve_88 rfl (lv_at hl 0 rfl) ?_
                      refine va_get (D := G.1) (ci := 10) (v := .ref (g 316)) (C := RX11) (T := TX11) (N := 25) hx hb hts inlX11 hown hG.1 hP 315 (wl_at (by decide) hmo) rfl 0 (by decide) (hts (.fieldLink RX11 7 "SwornListsModel" "st" "[I") w_112) (fun _ h9 => h9) rfl dX11_twelve_89 ?_
                      refine lv_bipush (v := 10) hx hb dX11_twelve_92 (by decide) ?_
                      refine lv_iconst (v := 4) hx hb dX11_twelve_94 (by decide) ?_
                      refine lv_iload hx hb dX11_twelve_95 (lv_at hl 6 rfl) ?_
                      refine lv_imul hx hb dX11_twelve_97 ?_
                      refine my_bei (v := nI (4 * i2)) (pk_mul 4 i2) ?_
                      refine lv_iadd hx hb dX11_twelve_98 ?_
                      refine my_bei (v := nI (4 * i2 + 10)) ((nI_add 10 (4 * i2)).trans (congrArg nI (show 10 + (4 * i2) = 4 * i2 + 10 by omega))) ?_
                      refine va_iald hx hb hG.1 hP 316 0 (wl_at (by decide) hss_) rfl (vp_in_nI (by omega) (by decide)) dX11_twelve_99 ?_
                      refine my_bei (v := ss (4 * i2 + 10)) (congrArg ss (nI_clamp (n := 4 * i2 + 10) (by omega))) ?_
                      refine lv_iload hx hb dX11_twelve_100 (lv_at hl 4 rfl) ?_
                      refine lv_icmp_ne (tgt := 109) hx hb dX11_twelve_102 (by decide) (fun c_102 => ?_) (fun c_102 => ?_)
                      · refine lv_iconst (v := 0) hx hb dX11_twelve_109 (by decide) ?_
                        refine lv_iadd hx hb dX11_twelve_110 ?_
                        refine my_bei (v := nI c2) ((nI_add c2 0).trans (congrArg nI (show c2 + 0 = c2 by omega))) ?_
                        refine lv_istore (lv' := [(7, .int (nI c2)), (0, .ref (g 315)), (1, .int (nI tn)), (3, .int pl), (4, .long (lN z)), (6, .int (nI pa)), (8, .int (nI i2))]) hx hb dX11_twelve_111 hl (by decide) rfl (fun ls hl => ?_)
                        refine lv_iinc (v := nI (i2 + 1)) (lv' := [(8, .int (nI (i2 + 1))), (7, .int (nI c2)), (0, .ref (g 315)), (1, .int (nI tn)), (3, .int pl), (4, .long (lN z)), (6, .int (nI pa))]) hx hb dX11_twelve_113 hl (k := 6) rfl (nI_add i2 1) (by decide) rfl (fun ls hl => ?_)
                        refine lv_goto (tgt := 65) hx hb dX11_twelve_116 (by decide) ?_
                        exact ih_39 (i2 + 1) c2 f_10 _ _ _ (by omega) (by omega) (by rw [hcc, cnt_n (fun z => c_102 ((tw_bt (P := (fun i c => ss (4 * i + c + 10))) (k := pa) (pl := pl) (by omega) (show i2 < np by omega)).mp z).2)]) (by omega) (hmo) (hss_) (him_) (hkq_) (hsp_) (hwi_) (hwa_) (hva_) (hbo_) (hju_) (hdr_) (hdn_) (hsl_) (hax_) (hlf_) (hwh_) (hw6_) (hb6_) (fun j hj => (o_10 j (by omega))) hP hS (lv_sub hl [2, 3, 4, 5, 6, 1, 0] rfl)
                      · refine lv_iconst (v := 1) hx hb dX11_twelve_105 (by decide) ?_
                        refine lv_goto (tgt := 110) hx hb dX11_twelve_106 (by decide) ?_
                        refine lv_iadd hx hb dX11_twelve_110 ?_
                        refine my_bei (v := nI (c2 + 1)) (nI_add c2 1) ?_
                        refine lv_istore (lv' := [(7, .int (nI (c2 + 1))), (0, .ref (g 315)), (1, .int (nI tn)), (3, .int pl), (4, .long (lN z)), (6, .int (nI pa)), (8, .int (nI i2))]) hx hb dX11_twelve_111 hl (by decide) rfl (fun ls hl => ?_)
                        refine lv_iinc (v := nI (i2 + 1)) (lv' := [(8, .int (nI (i2 + 1))), (7, .int (nI (c2 + 1))), (0, .ref (g 315)), (1, .int (nI tn)), (3, .int pl), (4, .long (lN z)), (6, .int (nI pa))]) hx hb dX11_twelve_113 hl (k := 6) rfl (nI_add i2 1) (by decide) rfl (fun ls hl => ?_)
                        refine lv_goto (tgt := 65) hx hb dX11_twelve_116 (by decide) ?_
                        exact ih_39 (i2 + 1) (c2 + 1) f_10 _ _ _ (by omega) (by omega) (by rw [hcc, cnt_y ((tw_bt (P := (fun i c => ss (4 * i + c + 10))) (k := pa) (pl := pl) (by omega) (show i2 < np by omega)).mpr ⟨(sr_iff (by omega)).mp c_85, c_102⟩)]) (by omega) (hmo) (hss_) (him_) (hkq_) (hsp_) (hwi_) (hwa_) (hva_) (hbo_) (hju_) (hdr_) (hdn_) (hsl_) (hax_) (hlf_) (hwh_) (hw6_) (hb6_) (fun j hj => (o_10 j (by omega))) hP hS (lv_sub hl [2, 3, 4, 5, 6, 1, 0] rfl)
              exact key39 (np + 1) 0 0 f_7 _ _ _ (by omega) (by omega) (rfl) (by omega) (hmo) (hss_) (him_) (hkq_) (hsp_) (hwi_) (hwa_) (hva_) (hbo_) (hju_) (hdr_) (hdn_) (hsl_) (hax_) (hlf_) (hwh_) (hw6_) (hb6_) (fun j _ => rfl) hP hS (lv_sub hl [2, 3, 4, 5, 6, 1, 0] rfl)
        exact key34 (4 + 1) 0 0 f_6 _ _ _ (by omega) (rfl) (by omega) (hmo) (hss_) (him_) (hkq_) (hsp_) (hwi_) (hwa_) (hva_) (hbo_) (hju_) (hdr_) (hdn_) (hsl_) (hax_) (hlf_) (hwh_) (hw6_) (hb6_) (fun j _ => rfl) hP hS (lv_sub hl [3, 4, 2, 1, 0] rfl)
    · refine lv_bipush (v := (-2)) hx hb dX11_twelve_18 (by decide) ?_
      refine W_q9 hQ9 ?_
      replace hss_ := ((o_1 316 (by first | decide | omega))).trans hss_
      replace him_ := ((o_1 317 (by first | decide | omega))).trans him_
      replace hkq_ := ((o_1 318 (by first | decide | omega))).trans hkq_
      replace hwh_ := ((o_1 330 (by first | decide | omega))).trans hwh_
      replace hw6_ := ((o_1 331 (by first | decide | omega))).trans hw6_
      replace hb6_ := ((o_1 332 (by first | decide | omega))).trans hb6_
      exact W.iret (v := (-2)) hx hb hr (fun _ hT9 _ => ⟨⟨_, f_1, rfl, (⟨mJ_mk (ab2) (be2) (sn92) (wn93) (sa94) (ly95) (rdy917) (fd918) (np) (nf) (nr) (na) (nt) (sp96) (wi97) (wa98) (va99) (bo910) (ju911) (dr912) (dn913) (sl914) (ax915) (lf916) (wh) (w6) (b6) (hmo) (hss_) (him_) (hkq_) (hsp_) (hwi_) (hwa_) (hva_) (hbo_) (hju_) (hdr_) (hdn_) (hsl_) (hax_) (hlf_) (hwh_) (hw6_) (hb6_) (hst) (by omega) (hx_1_0) (hi0) (hi1) ((fun _ => ⟨hx_1_3, hx_1_4⟩)), ⟨np, nf, nr, na, nt, hst, Or.inl ⟨fun z => c_15 z.2, rfl⟩⟩, fun j hj => (o_1 j (by omega))⟩), by rw [hT9]; exact hP⟩, hS.F hT9⟩) hS.2.2 dX11_twelve_20
theorem j2_twelve (l : Launch) (G : gW) (g : Nat → Nat) (hg : gOK g) (f : Nat → va_E) (ss : Nat → Int32) (im : Nat → Int32) (kq : Nat → Int32) (a1 : Int32) (a2 : Int32) (hI : mJ G g f ss im kq) (htA : ∀ n : Nat, n ≤ 10 → ss 4 = nI n → trOK ss n) : Met l yX11_twelve (wsT yX11_twelve cX11_twelve 9 (some .int)) ({ frames := 8, cells := 0, slots := 0, locals := 194 }) (bP G g f [.ref (g 315), .int a1, .int a2]) (bQi G g (fun (z9 : Int32) (f' : Nat → va_E) => (mJ G g f' ss im kq) ∧ (∃ p9 f9 r9 u9 t9, stOK ss p9 f9 r9 u9 t9 ∧ ((¬ (inN a1 t9 = true ∧ inB 0 a2 1 = true) ∧ z9 = -2) ∨ (∃ x k, x < t9 ∧ a1 = nI x ∧ k ≤ 1 ∧ a2 = nI k ∧ z9 = twA (fun i c => ss (4 * i + c + 10)) p9 (if k = 0 then rBx p9 f9 r9 u9 ss x else tvP p9 (nvF (fun i c => ss (4 * i + c + 10)) (fun t c => ss (10 * t + c + 1546)) (rJr p9 f9 r9 u9 ss) (ss (10 * x + 1546)) t9) ((fcB (fun i c => ss (54 * i + c + 466)) 0 (ss (10 * x + 1546)) u9).map (rL ss))) (ss (10 * x + 1548))))) ∧ ∀ j, j < 315 → f' j = f j)) 0 0 (gA g) := mJ_elim hI (fun ab2 be2 sn wn sa ly rdy fd np nf nr na nt sp wi wa va bo ju dr dn sl ax lf wh w6 b6 hmo hss_ him_ hkq_ hsp_ hwi_ hwa_ hva_ hbo_ hju_ hdr_ hdn_ hsl_ hax_ hlf_ hwh_ hw6_ hb6_ hst hfo hdn hi0 hi1 hrd => jn2_twelve l G g hg f ab2 be2 sn wn sa ly rdy fd ss np nf nr na nt im kq sp wi wa va bo ju dr dn sl ax lf wh w6 b6 a1 a2 hmo hss_ him_ hkq_ hsp_ hwi_ hwa_ hva_ hbo_ hju_ hdr_ hdn_ hsl_ hax_ hlf_ hwh_ hw6_ hb6_ hst hfo hdn hi0 hi1 hrd htA)
set_option maxHeartbeats 4000000 in
set_option maxRecDepth 100000 in
theorem jn2_beside (l : Launch) (G : gW) (g : Nat → Nat) (hg : gOK g) (f : Nat → va_E) (ab2 : Int64) (be2 : Int64) (sn : Int32) (wn : Int32) (sa : Int32) (ly : Int32) (rdy : Int32) (fd : Nat) (ss : Nat → Int32) (np : Nat) (nf : Nat) (nr : Nat) (na : Nat) (nt : Nat) (im : Nat → Int32) (kq : Nat → Int32) (sp : Nat → Int32) (wi : Nat → Int32) (wa : Nat → Int32) (va : Nat → Int64) (bo : Nat → Int32) (ju : Nat → Int32) (dr : Nat → Int32) (dn : Nat → Int32) (sl : Nat → Int32) (ax : Nat → Int32) (lf : Nat → Int32) (wh : Nat → Int32) (w6 : Nat → Int32) (b6 : Nat → Int32) (a1 : Int32) (a2 : Int32) (a3 : Int32) (hmo : f 315 = eO 10 [.ref (g 316), .ref (g 317), .ref (g 318), .long ab2, .long be2, .int sn, .ref (g 319), .ref (g 320), .int wn, .ref (g 321), .ref (g 322), .int sa, .int ly, .int rdy, .int (nI fd), .ref (g 323), .ref (g 324), .ref (g 325), .ref (g 326), .ref (g 327), .ref (g 328), .ref (g 329), .ref (g 330), .ref (g 331), .ref (g 332)]) (hss_ : f 316 = eI G 2246 ss) (him_ : f 317 = eI G 4492 im) (hkq_ : f 318 = eZ G 2 kq) (hsp_ : f 319 = eI G 70 sp) (hwi_ : f 320 = eI G 70 wi) (hwa_ : f 321 = eI G 70 wa) (hva_ : f 322 = eJ G 70 va) (hbo_ : f 323 = eI G 11 bo) (hju_ : f 324 = eI G 11 ju) (hdr_ : f 325 = eI G 264 dr) (hdn_ : f 326 = eI G 11 dn) (hsl_ : f 327 = eI G 330 sl) (hax_ : f 328 = eI G 44 ax) (hlf_ : f 329 = eI G 30 lf) (hwh_ : f 330 = eI G 6 wh) (hw6_ : f 331 = eI G 6 w6) (hb6_ : f 332 = eI G 6 b6) (hst : stOK ss np nf nr na nt) (hfo : fd ≤ 10) (hdn : ∀ k, k < 11 → ∃ d, d ≤ 24 ∧ dn k = nI d) (hi0 : stI im 0) (hi1 : stI im 2246) (hrd : ¬ rdy = 0 → fd = nt ∧ ∀ z, z < nt → rHz np nf nr na ss bo ju dr dn sl ax z) (htA : ∀ n : Nat, n ≤ 10 → ss 4 = nI n → trOK ss n) : Met l yX11_beside (wsT yX11_beside cX11_beside 5 (some .int)) ({ frames := 8, cells := 0, slots := 0, locals := 194 }) (bP G g f [.ref (g 315), .int a1, .int a2, .int a3]) (bQi G g (fun (z9 : Int32) (f' : Nat → va_E) => (mJ G g f' ss im kq) ∧ (∃ p9 f9 r9 u9 t9, stOK ss p9 f9 r9 u9 t9 ∧ ((¬ (inN a1 t9 = true ∧ inB 0 a2 3 = true ∧ inB 0 a3 1 = true) ∧ z9 = -2) ∨ (∃ x y k l, x < t9 ∧ a1 = nI x ∧ y ≤ 3 ∧ a2 = nI y ∧ k ≤ 1 ∧ a3 = nI k ∧ l ≤ 50 ∧ ss (51 * y + 262) = nI l ∧ ((¬ rdA l (fun k => ss (51 * y + 262 + k + 1)) = -1 ∧ z9 = -3) ∨ (rdA l (fun k => ss (51 * y + 262 + k + 1)) = -1 ∧ z9 = rJr p9 f9 r9 u9 ss x ^^^ bsV p9 f9 r9 (fun i c => ss (4 * i + c + 10)) (fun i c => ss (3 * i + c + 130)) (fun i c => ss (3 * i + c + 250)) (fun t c => ss (10 * t + c + 1546)) (rJr p9 f9 r9 u9 ss) x (bsO k 0 (rdO l (fun k => ss (51 * y + 262 + k + 1))) ((fcB (fun i c => ss (54 * i + c + 466)) 0 (ss (10 * x + 1546)) u9).map (rL ss))) (bsO k 1 (rdO l (fun k => ss (51 * y + 262 + k + 1))) ((fcB (fun i c => ss (54 * i + c + 466)) 1 (ss (10 * x + 1546)) u9).map (rL ss))) (kS ss x)))))) ∧ ∀ j, j < 315 → f' j = f j)) 0 0 (gA g) := by
  refine Met.ofW (cc := cX11_beside) (maxL := 5) (ret := (some .int)) (by decide) rfl ?_
  intro p e s m args below meth c s₁ B hml hv
  obtain ⟨rfl, hP, hG⟩ := hv
  have hx := B.exec
  have hb := B.bytes
  have hr := B.returns
  have hts := my_hts (atoms_spec (ws := wsT yX11_beside cX11_beside 5 (some .int)) B.pre)
  have hown : s.vm.findClass RX11 = some m.cls := findClass_of_methodNamed B.named
  have hlocks := B.notSynchronized
  have hS : va_S (gA g) s.heap s.heap [] := va_S.rf
  have hl := lv_entry ([.ref (g 315), .int a1, .int a2, .int a3]) (n := 5) (Nat.le_of_ble_eq_true rfl)
  rw [lg_entry_eq]
  generalize (lg_sl ([.ref (g 315), .int a1, .int a2, .int a3]) ++ List.replicate (5 - (lg_sl ([.ref (g 315), .int a1, .int a2, .int a3])).length) Slot.unset).toArray = ls at hl ⊢
  have hl : lv_has ls 5 [(0, .ref (g 315)), (1, .int a1), (2, .int a2), (3, .int a3)] := hl
  refine W_q8 (fun Q9 hQ9 => ?_)
  have hc0 := hst.c0
  have hc1 := hst.c1
  have hc2 := hst.c2
  have hc3 := hst.c3
  have hc4 := hst.c4
  have htr := htA nt hst.c4 hst.h4
  refine lv_aload_n hx hb dX11_beside_0 rfl (lv_at hl 0 rfl) ?_
  refine lv_iload_n hx hb dX11_beside_1 rfl (lv_at hl 1 rfl) ?_
  refine b_calli (va_runV (As := [.int a1]) (rest := []) ⟨hx, hb, hml, hown, hts⟩ (r_isTrialE l G g hg f ab2 be2 sn wn sa ly rdy fd ss np nf nr na nt sp wi wa va bo ju dr dn sl ax lf a1 hmo hss_ hsp_ hwi_ hwa_ hva_ hbo_ hju_ hdr_ hdn_ hsl_ hax_ hlf_ (by first | assumption | omega | decide) (by first | assumption | omega | decide) (by first | assumption | omega | decide) (by first | assumption | omega | decide) (by first | assumption | omega | decide)) (my_cwV hts ok_X11_isTrial w_680 rfl rfl ⟨Nat.le_of_ble_eq_true rfl, Nat.le_of_ble_eq_true rfl⟩) ⟨bP.blind, va_recv hG.1 hP (ci := 10) (q0 := 315) rfl (wl_at (by decide) hmo), fun U hU hW => ⟨rfl, by rw [hU]; exact hP, kG.warm hW hG⟩⟩ rfl rfl hl.1 rfl (lv_room (Nat.le_of_ble_eq_true rfl)) dX11_beside_2 ⟨Nat.le_of_ble_eq_true rfl, Nat.le_of_ble_eq_true rfl⟩) hS (fun v1 f_1 H locs hq9 hP hS => ?_)
  obtain ⟨sn92, wn93, sa94, ly95, sp96, wi97, wa98, va99, bo910, ju911, dr912, dn913, sl914, ax915, lf916, rdy917, fd918, rfl, hq_1_0, hq_1_1, hq_1_2, hq_1_3, hq_1_4, hq_1_5, hq_1_6, hq_1_7, hq_1_8, hq_1_9, hq_1_10, hq_1_11, hx_1_0, hx_1_1, hx_1_2, hx_1_3, hx_1_4, o_1⟩ := hq9
  have hmo : f_1 315 = eO 10 [.ref (g 316), .ref (g 317), .ref (g 318), .long ab2, .long be2, .int sn92, .ref (g 319), .ref (g 320), .int wn93, .ref (g 321), .ref (g 322), .int sa94, .int ly95, .int rdy917, .int (nI fd918), .ref (g 323), .ref (g 324), .ref (g 325), .ref (g 326), .ref (g 327), .ref (g 328), .ref (g 329), .ref (g 330), .ref (g 331), .ref (g 332)] := hq_1_0
  have hsp_ : f_1 319 = eI G 70 sp96 := hq_1_1
  have hwi_ : f_1 320 = eI G 70 wi97 := hq_1_2
  have hwa_ : f_1 321 = eI G 70 wa98 := hq_1_3
  have hva_ : f_1 322 = eJ G 70 va99 := hq_1_4
  have hbo_ : f_1 323 = eI G 11 bo910 := hq_1_5
  have hju_ : f_1 324 = eI G 11 ju911 := hq_1_6
  have hdr_ : f_1 325 = eI G 264 dr912 := hq_1_7
  have hdn_ : f_1 326 = eI G 11 dn913 := hq_1_8
  have hsl_ : f_1 327 = eI G 330 sl914 := hq_1_9
  have hax_ : f_1 328 = eI G 44 ax915 := hq_1_10
  have hlf_ : f_1 329 = eI G 30 lf916 := hq_1_11
  refine my_ifeq (tgt := 25) hx hb dX11_beside_5 (by decide) (fun c_5 => ?_) (fun c_5 => ?_)
  · refine lv_bipush (v := (-2)) hx hb dX11_beside_25 (by decide) ?_
    refine W_q9 hQ9 ?_
    replace hss_ := ((o_1 316 (by first | decide | omega))).trans hss_
    replace him_ := ((o_1 317 (by first | decide | omega))).trans him_
    replace hkq_ := ((o_1 318 (by first | decide | omega))).trans hkq_
    replace hwh_ := ((o_1 330 (by first | decide | omega))).trans hwh_
    replace hw6_ := ((o_1 331 (by first | decide | omega))).trans hw6_
    replace hb6_ := ((o_1 332 (by first | decide | omega))).trans hb6_
    exact W.iret (v := (-2)) hx hb hr (fun _ hT9 _ => ⟨⟨_, f_1, rfl, (⟨mJ_mk (ab2) (be2) (sn92) (wn93) (sa94) (ly95) (rdy917) (fd918) (np) (nf) (nr) (na) (nt) (sp96) (wi97) (wa98) (va99) (bo910) (ju911) (dr912) (dn913) (sl914) (ax915) (lf916) (wh) (w6) (b6) (hmo) (hss_) (him_) (hkq_) (hsp_) (hwi_) (hwa_) (hva_) (hbo_) (hju_) (hdr_) (hdn_) (hsl_) (hax_) (hlf_) (hwh_) (hw6_) (hb6_) (hst) (by omega) (hx_1_0) (hi0) (hi1) ((fun _ => ⟨hx_1_3, hx_1_4⟩)), ⟨np, nf, nr, na, nt, hst, Or.inl ⟨fun z => c_5 z.1, rfl⟩⟩, fun j hj => (o_1 j (by omega))⟩), by rw [hT9]; exact hP⟩, hS.F hT9⟩) hS.2.2 dX11_beside_27
  · refine lv_iload_n hx hb dX11_beside_8 rfl (lv_at hl 2 rfl) ?_
    refine rd_calli (va_runS (As := [.int a2]) (rest := []) ⟨hx, hb, hml, hown, hts⟩ (r_isText l G g hg f_1 a2  ) (my_cwS hts ok_X11_isText w_259 rfl rfl ⟨Nat.le_of_ble_eq_true rfl, Nat.le_of_ble_eq_true rfl⟩) ⟨bP.blind, fun U hU hW => ⟨rfl, by rw [hU]; exact hP, kG.warm hW hG⟩⟩ rfl rfl hl.1 rfl (lv_room (Nat.le_of_ble_eq_true rfl)) dX11_beside_9 ⟨Nat.le_of_ble_eq_true rfl, Nat.le_of_ble_eq_true rfl⟩) (fun r hr9 => ?_)
    subst hr9
    refine my_ifeq (tgt := 25) hx hb dX11_beside_12 (by decide) (fun c_12 => ?_) (fun c_12 => ?_)
    · refine lv_bipush (v := (-2)) hx hb dX11_beside_25 (by decide) ?_
      refine W_q9 hQ9 ?_
      replace hss_ := ((o_1 316 (by first | decide | omega))).trans hss_
      replace him_ := ((o_1 317 (by first | decide | omega))).trans him_
      replace hkq_ := ((o_1 318 (by first | decide | omega))).trans hkq_
      replace hwh_ := ((o_1 330 (by first | decide | omega))).trans hwh_
      replace hw6_ := ((o_1 331 (by first | decide | omega))).trans hw6_
      replace hb6_ := ((o_1 332 (by first | decide | omega))).trans hb6_
      exact W.iret (v := (-2)) hx hb hr (fun _ hT9 _ => ⟨⟨_, f_1, rfl, (⟨mJ_mk (ab2) (be2) (sn92) (wn93) (sa94) (ly95) (rdy917) (fd918) (np) (nf) (nr) (na) (nt) (sp96) (wi97) (wa98) (va99) (bo910) (ju911) (dr912) (dn913) (sl914) (ax915) (lf916) (wh) (w6) (b6) (hmo) (hss_) (him_) (hkq_) (hsp_) (hwi_) (hwa_) (hva_) (hbo_) (hju_) (hdr_) (hdn_) (hsl_) (hax_) (hlf_) (hwh_) (hw6_) (hb6_) (hst) (by omega) (hx_1_0) (hi0) (hi1) ((fun _ => ⟨hx_1_3, hx_1_4⟩)), ⟨np, nf, nr, na, nt, hst, Or.inl ⟨fun z => c_12 z.2.1, rfl⟩⟩, fun j hj => (o_1 j (by omega))⟩), by rw [hT9]; exact hP⟩, hS.F hT9⟩) hS.2.2 dX11_beside_27
    · refine lv_iload_n hx hb dX11_beside_15 rfl (lv_at hl 3 rfl) ?_
      refine lv_i2l hx hb dX11_beside_16 rfl ?_
      refine lv_lconst (v := 0) hx hb dX11_beside_17 (by decide) ?_
      refine my_bel (v := Int32.toInt64 0) (by decide) ?_
      refine lv_lconst (v := 1) hx hb dX11_beside_18 (by decide) ?_
      refine my_bel (v := Int32.toInt64 1) (by decide) ?_
      refine rd_calli (va_runS (As := [.long (Int32.toInt64 a3), .long (Int32.toInt64 0), .long (Int32.toInt64 1)]) (rest := []) ⟨hx, hb, hml, hown, hts⟩ (r_in l G g hg f_1 a3 0 1  ) (my_cwS hts ok_X11_in w_162 rfl rfl ⟨Nat.le_of_ble_eq_true rfl, Nat.le_of_ble_eq_true rfl⟩) ⟨bP.blind, fun U hU hW => ⟨rfl, by rw [hU]; exact hP, kG.warm hW hG⟩⟩ rfl rfl hl.1 rfl (lv_room (Nat.le_of_ble_eq_true rfl)) dX11_beside_19 ⟨Nat.le_of_ble_eq_true rfl, Nat.le_of_ble_eq_true rfl⟩) (fun r hr9 => ?_)
      subst hr9
      refine my_ifne (tgt := 28) hx hb dX11_beside_22 (by decide) (fun c_22 => ?_) (fun c_22 => ?_)
      · rcases inB_01.mp c_22 with e9 | e9
        · subst e9
          obtain ⟨tn, htn, rfl⟩ := inN_nat (by omega) c_5
          obtain ⟨xn, hxn, rfl⟩ := inB_n (b := 3) (by omega) c_12
          obtain ⟨l7, hl7, he7⟩ := hst.tx xn (by omega)
          refine lv_aload_n hx hb dX11_beside_28 rfl (lv_at hl 0 rfl) ?_
          refine lv_sipush (v := 262) hx hb dX11_beside_29 (by decide) ?_
          refine lv_bipush (v := 51) hx hb dX11_beside_32 (by decide) ?_
          refine lv_iload_n hx hb dX11_beside_34 rfl (lv_at hl 2 rfl) ?_
          refine lv_imul hx hb dX11_beside_35 ?_
          refine my_bei (v := nI (51 * xn)) (pk_mul 51 xn) ?_
          refine lv_iadd hx hb dX11_beside_36 ?_
          refine my_bei (v := nI (51 * xn + 262)) ((nI_add 262 (51 * xn)).trans (congrArg nI (show 262 + (51 * xn) = 51 * xn + 262 by omega))) ?_
          replace hss_ := ((o_1 316 (by first | decide | omega))).trans hss_
          refine b_calli (va_runV (As := [.int (nI (51 * xn + 262))]) (rest := []) ⟨hx, hb, hml, hown, hts⟩ (r_reads l G g hg f_1 ab2 be2 sn92 wn93 sa94 ly95 rdy917 (nI fd918) ss sp96 wi97 wa98 (51 * xn + 262) l7 hmo hss_ hsp_ hwi_ hwa_ (by first | assumption | omega | decide) (he7) (by first | assumption | omega | decide)) (my_cwV hts ok_X11_reads w_345 rfl rfl ⟨Nat.le_of_ble_eq_true rfl, Nat.le_of_ble_eq_true rfl⟩) ⟨bP.blind, va_recv hG.1 hP (ci := 10) (q0 := 315) rfl (wl_at (by decide) hmo), fun U hU hW => ⟨rfl, by rw [hU]; exact hP, kG.warm hW hG⟩⟩ rfl rfl hl.1 rfl (lv_room (Nat.le_of_ble_eq_true rfl)) dX11_beside_37 ⟨Nat.le_of_ble_eq_true rfl, Nat.le_of_ble_eq_true rfl⟩) hS (fun v19 f_2 H locs hq9 hP hS => ?_)
          obtain ⟨sn920, wn921, sp922, wi923, wa924, rfl, hq_2_0, hq_2_1, hq_2_2, hq_2_3, hx_2_0, o_2⟩ := hq9
          have hmo : f_2 315 = eO 10 [.ref (g 316), .ref (g 317), .ref (g 318), .long ab2, .long be2, .int (nI sn920), .ref (g 319), .ref (g 320), .int (nI wn921), .ref (g 321), .ref (g 322), .int sa94, .int ly95, .int rdy917, .int (nI fd918), .ref (g 323), .ref (g 324), .ref (g 325), .ref (g 326), .ref (g 327), .ref (g 328), .ref (g 329), .ref (g 330), .ref (g 331), .ref (g 332)] := hq_2_0
          have hsp_ : f_2 319 = eI G 70 sp922 := hq_2_1
          have hwi_ : f_2 320 = eI G 70 wi923 := hq_2_2
          have hwa_ : f_2 321 = eI G 70 wa924 := hq_2_3
          refine lv_iconst (v := (-1)) hx hb dX11_beside_40 (by decide) ?_
          refine lv_icmp_eq (tgt := 47) hx hb dX11_beside_41 (by decide) (fun c_41 => ?_) (fun c_41 => ?_)
          · refine lv_aload_n hx hb dX11_beside_47 rfl (lv_at hl 0 rfl) ?_
            refine va_get (D := G.1) (ci := 10) (v := .int (nI fd918)) (C := RX11) (T := TX11) (N := 25) hx hb hts inlX11 hown hG.1 hP 315 (wl_at (by decide) hmo) rfl 14 (by decide) (hts (.fieldLink RX11 146 "SwornListsModel" "found" "I") w_527) (fun _ h9 => h9) rfl dX11_beside_48 ?_
            refine lv_istore (lv' := [(4, .int (nI fd918)), (0, .ref (g 315)), (1, .int (nI tn)), (2, .int (nI xn)), (3, .int 0)]) hx hb dX11_beside_51 hl (by decide) rfl (fun ls hl => ?_)
            refine lv_aload_n hx hb dX11_beside_53 rfl (lv_at hl 1 rfl) ?_
            refine lv_iload_n hx hb dX11_beside_54 rfl (lv_at hl 2 rfl) ?_
            refine va_put (D := G.1) (ci := 10) (v := .int (nI tn)) (ty := .int) (C := RX11) (T := TX11) (N := 25) hx hb hts inlX11 tyX11 tyX11_ok nmX11 hown hG.1 hP (wl_D hg f_2) hS 315 (wl_at (by decide) hmo) rfl 14 (by decide) (hts (.fieldLink RX11 146 "SwornListsModel" "found" "I") w_527) (fun _ h9 => h9) rfl (by decide +kernel) rfl rfl (Nat.le_of_ble_eq_true rfl) dX11_beside_55 (fun H locs hP _ hS => ?_)
            obtain ⟨f_3, hP, e_3, o_3⟩ := b_put (by decide) hP
            have hmo : f_3 315 = eO 10 [.ref (g 316), .ref (g 317), .ref (g 318), .long ab2, .long be2, .int (nI sn920), .ref (g 319), .ref (g 320), .int (nI wn921), .ref (g 321), .ref (g 322), .int sa94, .int ly95, .int rdy917, .int (nI tn), .ref (g 323), .ref (g 324), .ref (g 325), .ref (g 326), .ref (g 327), .ref (g 328), .ref (g 329), .ref (g 330), .ref (g 331), .ref (g 332)] := e_3
            refine lv_aload_n hx hb dX11_beside_58 rfl (lv_at hl 1 rfl) ?_
            refine lv_iload_n hx hb dX11_beside_59 rfl (lv_at hl 2 rfl) ?_
            refine lv_bipush (v := 10) hx hb dX11_beside_60 (by decide) ?_
            refine lv_iload_n hx hb dX11_beside_62 rfl (lv_at hl 3 rfl) ?_
            refine lv_iload_n hx hb dX11_beside_63 rfl (lv_at hl 4 rfl) ?_
            obtain ⟨⟨q4, hq4, hs4⟩, sq, hsq, hss⟩ := hst.tr tn htn
            obtain ⟨_, _, ks, hks, hk2⟩ := htr.1 tn htn
            replace hss_ := ((o_3 316 (by decide)).trans ((o_2 316 (by first | decide | omega)))).trans hss_
            replace hsp_ := ((o_3 319 (by decide))).trans hsp_
            replace hwi_ := ((o_3 320 (by decide))).trans hwi_
            replace hwa_ := ((o_3 321 (by decide))).trans hwa_
            replace hva_ := ((o_3 322 (by decide)).trans ((o_2 322 (by first | decide | omega)))).trans hva_
            replace hbo_ := ((o_3 323 (by decide)).trans ((o_2 323 (by first | decide | omega)))).trans hbo_
            replace hju_ := ((o_3 324 (by decide)).trans ((o_2 324 (by first | decide | omega)))).trans hju_
            replace hdr_ := ((o_3 325 (by decide)).trans ((o_2 325 (by first | decide | omega)))).trans hdr_
            replace hdn_ := ((o_3 326 (by decide)).trans ((o_2 326 (by first | decide | omega)))).trans hdn_
            replace hsl_ := ((o_3 327 (by decide)).trans ((o_2 327 (by first | decide | omega)))).trans hsl_
            replace hax_ := ((o_3 328 (by decide)).trans ((o_2 328 (by first | decide | omega)))).trans hax_
            replace hlf_ := ((o_3 329 (by decide)).trans ((o_2 329 (by first | decide | omega)))).trans hlf_
            refine b_callv (va_runV (As := [.int (nI tn), .int 10, .int (nI xn), .int 0]) (rest := []) ⟨hx, hb, hml, hown, hts⟩ (r_triesX0 l G g hg f_3 ab2 be2 (nI sn920) (nI wn921) sa94 ly95 rdy917 tn ss np nf nr na nt sp922 wi923 wa924 va99 bo910 ju911 dr912 dn913 sl914 ax915 lf916 tn 10 sq q4 ks (fitT np nf (fun i c => ss (4 * i + c + 10)) (fun i c => ss (3 * i + c + 130)) (fun t c => ss (10 * t + c + 1546)) ju911 tn tn (some (rdO l7 (fun k => ss (51 * xn + 262 + k + 1))))) (boxT np nf nr (fun i c => ss (4 * i + c + 10)) (fun i c => ss (3 * i + c + 130)) (fun i c => ss (3 * i + c + 250)) (fun t c => ss (10 * t + c + 1546)) ju911 tn tn (some (rdO l7 (fun k => ss (51 * xn + 262 + k + 1)))) ((fcB (fun i c => ss (54 * i + c + 466)) 1 (ss (10 * tn + 1546)) na).map (rL ss))) xn l7 hmo hss_ hsp_ hwi_ hwa_ hva_ hbo_ hju_ hdr_ hdn_ hsl_ hax_ hlf_ (by first | assumption | omega | decide) (by first | assumption | omega | decide) (by first | assumption | omega | decide) (by first | assumption | omega | decide) (hx_1_0) (hsq) (hss) (hq4) (hs4) (hk2) (hks) (htr.s1 htn) (htr.s2 htn) (rfl) (rfl) (fun o ho => htr.d0 o (by omega)) (fun o o' h1 h2 => htr.2 o o' h1 (by omega)) (by first | assumption | omega | decide) (he7) (hl7) (c_41)) (my_cwV hts ok_X11_tries w_528 rfl rfl ⟨Nat.le_of_ble_eq_true rfl, Nat.le_of_ble_eq_true rfl⟩) ⟨bP.blind, va_recv hG.1 hP (ci := 10) (q0 := 315) rfl (wl_at (by decide) hmo), fun U hU hW => ⟨rfl, by rw [hU]; exact hP, kG.warm hW hG⟩⟩ rfl rfl hl.1 rfl (lv_room (Nat.le_of_ble_eq_true rfl)) dX11_beside_64 ⟨Nat.le_of_ble_eq_true rfl, Nat.le_of_ble_eq_true rfl⟩) hS (fun f_4 H locs hq9 hP hS => ?_)
            obtain ⟨sn925, wn926, sa927, ly928, sp929, wi930, wa931, va932, bo933, ju934, dr935, dn936, sl937, ax938, lf939, hq_4_0, hq_4_1, hq_4_2, hq_4_3, hq_4_4, hq_4_5, hq_4_6, hq_4_7, hq_4_8, hq_4_9, hq_4_10, hq_4_11, hx_4_0, hx_4_1, hx_4_2, hx_4_3, hx_4_4, hx_4_5, o_4⟩ := hq9
            have hmo : f_4 315 = eO 10 [.ref (g 316), .ref (g 317), .ref (g 318), .long ab2, .long be2, .int sn925, .ref (g 319), .ref (g 320), .int wn926, .ref (g 321), .ref (g 322), .int sa927, .int ly928, .int rdy917, .int (nI tn), .ref (g 323), .ref (g 324), .ref (g 325), .ref (g 326), .ref (g 327), .ref (g 328), .ref (g 329), .ref (g 330), .ref (g 331), .ref (g 332)] := hq_4_0
            have hsp_ : f_4 319 = eI G 70 sp929 := hq_4_1
            have hwi_ : f_4 320 = eI G 70 wi930 := hq_4_2
            have hwa_ : f_4 321 = eI G 70 wa931 := hq_4_3
            have hva_ : f_4 322 = eJ G 70 va932 := hq_4_4
            have hbo_ : f_4 323 = eI G 11 bo933 := hq_4_5
            have hju_ : f_4 324 = eI G 11 ju934 := hq_4_6
            have hdr_ : f_4 325 = eI G 264 dr935 := hq_4_7
            have hdn_ : f_4 326 = eI G 11 dn936 := hq_4_8
            have hsl_ : f_4 327 = eI G 330 sl937 := hq_4_9
            have hax_ : f_4 328 = eI G 44 ax938 := hq_4_10
            have hlf_ : f_4 329 = eI G 30 lf939 := hq_4_11
            refine lv_aload_n hx hb dX11_beside_67 rfl (lv_at hl 1 rfl) ?_
            refine lv_iload hx hb dX11_beside_68 (lv_at hl 0 rfl) ?_
            refine va_put (D := G.1) (ci := 10) (v := .int (nI fd918)) (ty := .int) (C := RX11) (T := TX11) (N := 25) hx hb hts inlX11 tyX11 tyX11_ok nmX11 hown hG.1 hP (wl_D hg f_4) hS 315 (wl_at (by decide) hmo) rfl 14 (by decide) (hts (.fieldLink RX11 146 "SwornListsModel" "found" "I") w_527) (fun _ h9 => h9) rfl (by decide +kernel) rfl rfl (Nat.le_of_ble_eq_true rfl) dX11_beside_70 (fun H locs hP _ hS => ?_)
            obtain ⟨f_5, hP, e_5, o_5⟩ := b_put (by decide) hP
            have hmo : f_5 315 = eO 10 [.ref (g 316), .ref (g 317), .ref (g 318), .long ab2, .long be2, .int sn925, .ref (g 319), .ref (g 320), .int wn926, .ref (g 321), .ref (g 322), .int sa927, .int ly928, .int rdy917, .int (nI fd918), .ref (g 323), .ref (g 324), .ref (g 325), .ref (g 326), .ref (g 327), .ref (g 328), .ref (g 329), .ref (g 330), .ref (g 331), .ref (g 332)] := e_5
            refine lv_aload_n hx hb dX11_beside_73 rfl (lv_at hl 1 rfl) ?_
            refine va_get (D := G.1) (ci := 10) (v := .ref (g 324)) (C := RX11) (T := TX11) (N := 25) hx hb hts inlX11 hown hG.1 hP 315 (wl_at (by decide) hmo) rfl 16 (by decide) (hts (.fieldLink RX11 36 "SwornListsModel" "juries" "[I") w_120) (fun _ h9 => h9) rfl dX11_beside_74 ?_
            refine lv_bipush (v := 10) hx hb dX11_beside_77 (by decide) ?_
            replace hju_ := ((o_5 324 (by decide))).trans hju_
            refine va_iald hx hb hG.1 hP 324 0 (wl_at (by decide) hju_) rfl (by unfold vp_in; decide) dX11_beside_79 ?_
            refine my_bei (v := ju934 10) (rfl) ?_
            refine lv_aload_n hx hb dX11_beside_80 rfl (lv_at hl 1 rfl) ?_
            refine va_get (D := G.1) (ci := 10) (v := .ref (g 324)) (C := RX11) (T := TX11) (N := 25) hx hb hts inlX11 hown hG.1 hP 315 (wl_at (by decide) hmo) rfl 16 (by decide) (hts (.fieldLink RX11 36 "SwornListsModel" "juries" "[I") w_120) (fun _ h9 => h9) rfl dX11_beside_81 ?_
            refine lv_iload_n hx hb dX11_beside_84 rfl (lv_at hl 2 rfl) ?_
            refine va_iald hx hb hG.1 hP 324 0 (wl_at (by decide) hju_) rfl (vp_in_nI (by omega) (by decide)) dX11_beside_85 ?_
            refine my_bei (v := ju934 tn) (congrArg ju934 (nI_clamp (n := tn) (by omega))) ?_
            refine lv_ixor hx hb dX11_beside_86 ?_
            refine W_q9 hQ9 ?_
            replace hss_ := ((o_5 316 (by decide)).trans ((o_4 316 (by first | decide | omega)))).trans hss_
            replace him_ := ((o_5 317 (by decide)).trans ((o_4 317 (by first | decide | omega)).trans ((o_3 317 (by decide)).trans ((o_2 317 (by first | decide | omega)).trans ((o_1 317 (by first | decide | omega))))))).trans him_
            replace hkq_ := ((o_5 318 (by decide)).trans ((o_4 318 (by first | decide | omega)).trans ((o_3 318 (by decide)).trans ((o_2 318 (by first | decide | omega)).trans ((o_1 318 (by first | decide | omega))))))).trans hkq_
            replace hsp_ := ((o_5 319 (by decide))).trans hsp_
            replace hwi_ := ((o_5 320 (by decide))).trans hwi_
            replace hwa_ := ((o_5 321 (by decide))).trans hwa_
            replace hva_ := ((o_5 322 (by decide))).trans hva_
            replace hbo_ := ((o_5 323 (by decide))).trans hbo_
            replace hdr_ := ((o_5 325 (by decide))).trans hdr_
            replace hdn_ := ((o_5 326 (by decide))).trans hdn_
            replace hsl_ := ((o_5 327 (by decide))).trans hsl_
            replace hax_ := ((o_5 328 (by decide))).trans hax_
            replace hlf_ := ((o_5 329 (by decide))).trans hlf_
            replace hwh_ := ((o_5 330 (by decide)).trans ((o_4 330 (by first | decide | omega)).trans ((o_3 330 (by decide)).trans ((o_2 330 (by first | decide | omega)).trans ((o_1 330 (by first | decide | omega))))))).trans hwh_
            replace hw6_ := ((o_5 331 (by decide)).trans ((o_4 331 (by first | decide | omega)).trans ((o_3 331 (by decide)).trans ((o_2 331 (by first | decide | omega)).trans ((o_1 331 (by first | decide | omega))))))).trans hw6_
            replace hb6_ := ((o_5 332 (by decide)).trans ((o_4 332 (by first | decide | omega)).trans ((o_3 332 (by decide)).trans ((o_2 332 (by first | decide | omega)).trans ((o_1 332 (by first | decide | omega))))))).trans hb6_
            exact W.iret (v := (ju934 10) ^^^ (ju934 tn)) hx hb hr (fun _ hT9 _ => ⟨⟨_, f_5, rfl, (⟨mJ_mk (ab2) (be2) (sn925) (wn926) (sa927) (ly928) (rdy917) (fd918) (np) (nf) (nr) (na) (nt) (sp929) (wi930) (wa931) (va932) (bo933) (ju934) (dr935) (dn936) (sl937) (ax938) (lf939) (wh) (w6) (b6) (hmo) (hss_) (him_) (hkq_) (hsp_) (hwi_) (hwa_) (hva_) (hbo_) (hju_) (hdr_) (hdn_) (hsl_) (hax_) (hlf_) (hwh_) (hw6_) (hb6_) (hst) (by omega) (hx_4_1) (hi0) (hi1) ((fun _ => ⟨hx_1_3, fun z hz => rHz_fr hst hz (by omega) (hx_1_4 z hz) hx_4_2 hx_4_3 hx_4_4 hx_4_5⟩)), ⟨np, nf, nr, na, nt, hst, Or.inr ⟨tn, xn, 0, l7, htn, rfl, hxn, rfl, by decide, rfl, hl7, he7, Or.inr ⟨c_41, bes_end (hx_4_0).2.1 (hx_4_2 tn (by omega)).2.1 (rHz_ju (hx_1_4 tn htn)) (fun q hq => rHz_ju (hx_1_4 q (by omega))) bsO_y.symm (bsO_n (by decide)).symm⟩⟩⟩, fun j hj => (((((o_5 j (by omega))).trans (o_4 j (by omega))).trans (o_3 j (by omega))).trans (o_2 j (by omega))).trans (o_1 j (by omega))⟩), by rw [hT9]; exact hP⟩, hS.F hT9⟩) hS.2.2 dX11_beside_87
          · refine lv_bipush (v := (-3)) hx hb dX11_beside_44 (by decide) ?_
            refine W_q9 hQ9 ?_
            replace hss_ := ((o_2 316 (by first | decide | omega))).trans hss_
            replace him_ := ((o_2 317 (by first | decide | omega)).trans ((o_1 317 (by first | decide | omega)))).trans him_
            replace hkq_ := ((o_2 318 (by first | decide | omega)).trans ((o_1 318 (by first | decide | omega)))).trans hkq_
            replace hva_ := ((o_2 322 (by first | decide | omega))).trans hva_
            replace hbo_ := ((o_2 323 (by first | decide | omega))).trans hbo_
            replace hju_ := ((o_2 324 (by first | decide | omega))).trans hju_
            replace hdr_ := ((o_2 325 (by first | decide | omega))).trans hdr_
            replace hdn_ := ((o_2 326 (by first | decide | omega))).trans hdn_
            replace hsl_ := ((o_2 327 (by first | decide | omega))).trans hsl_
            replace hax_ := ((o_2 328 (by first | decide | omega))).trans hax_
            replace hlf_ := ((o_2 329 (by first | decide | omega))).trans hlf_
            replace hwh_ := ((o_2 330 (by first | decide | omega)).trans ((o_1 330 (by first | decide | omega)))).trans hwh_
            replace hw6_ := ((o_2 331 (by first | decide | omega)).trans ((o_1 331 (by first | decide | omega)))).trans hw6_
            replace hb6_ := ((o_2 332 (by first | decide | omega)).trans ((o_1 332 (by first | decide | omega)))).trans hb6_
            exact W.iret (v := (-3)) hx hb hr (fun _ hT9 _ => ⟨⟨_, f_2, rfl, (⟨mJ_mk (ab2) (be2) ((nI sn920)) ((nI wn921)) (sa94) (ly95) (rdy917) (fd918) (np) (nf) (nr) (na) (nt) (sp922) (wi923) (wa924) (va99) (bo910) (ju911) (dr912) (dn913) (sl914) (ax915) (lf916) (wh) (w6) (b6) (hmo) (hss_) (him_) (hkq_) (hsp_) (hwi_) (hwa_) (hva_) (hbo_) (hju_) (hdr_) (hdn_) (hsl_) (hax_) (hlf_) (hwh_) (hw6_) (hb6_) (hst) (by omega) (hx_1_0) (hi0) (hi1) ((fun _ => ⟨hx_1_3, hx_1_4⟩)), ⟨np, nf, nr, na, nt, hst, Or.inr ⟨tn, xn, 0, l7, htn, rfl, hxn, rfl, by decide, rfl, hl7, he7, Or.inl ⟨c_41, rfl⟩⟩⟩, fun j hj => ((o_2 j (by omega))).trans (o_1 j (by omega))⟩), by rw [hT9]; exact hP⟩, hS.F hT9⟩) hS.2.2 dX11_beside_46
        · subst e9
          obtain ⟨tn, htn, rfl⟩ := inN_nat (by omega) c_5
          obtain ⟨xn, hxn, rfl⟩ := inB_n (b := 3) (by omega) c_12
          obtain ⟨l7, hl7, he7⟩ := hst.tx xn (by omega)
          refine lv_aload_n hx hb dX11_beside_28 rfl (lv_at hl 0 rfl) ?_
          refine lv_sipush (v := 262) hx hb dX11_beside_29 (by decide) ?_
          refine lv_bipush (v := 51) hx hb dX11_beside_32 (by decide) ?_
          refine lv_iload_n hx hb dX11_beside_34 rfl (lv_at hl 2 rfl) ?_
          refine lv_imul hx hb dX11_beside_35 ?_
          refine my_bei (v := nI (51 * xn)) (pk_mul 51 xn) ?_
          refine lv_iadd hx hb dX11_beside_36 ?_
          refine my_bei (v := nI (51 * xn + 262)) ((nI_add 262 (51 * xn)).trans (congrArg nI (show 262 + (51 * xn) = 51 * xn + 262 by omega))) ?_
          replace hss_ := ((o_1 316 (by first | decide | omega))).trans hss_
          refine b_calli (va_runV (As := [.int (nI (51 * xn + 262))]) (rest := []) ⟨hx, hb, hml, hown, hts⟩ (r_reads l G g hg f_1 ab2 be2 sn92 wn93 sa94 ly95 rdy917 (nI fd918) ss sp96 wi97 wa98 (51 * xn + 262) l7 hmo hss_ hsp_ hwi_ hwa_ (by first | assumption | omega | decide) (he7) (by first | assumption | omega | decide)) (my_cwV hts ok_X11_reads w_345 rfl rfl ⟨Nat.le_of_ble_eq_true rfl, Nat.le_of_ble_eq_true rfl⟩) ⟨bP.blind, va_recv hG.1 hP (ci := 10) (q0 := 315) rfl (wl_at (by decide) hmo), fun U hU hW => ⟨rfl, by rw [hU]; exact hP, kG.warm hW hG⟩⟩ rfl rfl hl.1 rfl (lv_room (Nat.le_of_ble_eq_true rfl)) dX11_beside_37 ⟨Nat.le_of_ble_eq_true rfl, Nat.le_of_ble_eq_true rfl⟩) hS (fun v40 f_6 H locs hq9 hP hS => ?_)
          obtain ⟨sn941, wn942, sp943, wi944, wa945, rfl, hq_6_0, hq_6_1, hq_6_2, hq_6_3, hx_6_0, o_6⟩ := hq9
          have hmo : f_6 315 = eO 10 [.ref (g 316), .ref (g 317), .ref (g 318), .long ab2, .long be2, .int (nI sn941), .ref (g 319), .ref (g 320), .int (nI wn942), .ref (g 321), .ref (g 322), .int sa94, .int ly95, .int rdy917, .int (nI fd918), .ref (g 323), .ref (g 324), .ref (g 325), .ref (g 326), .ref (g 327), .ref (g 328), .ref (g 329), .ref (g 330), .ref (g 331), .ref (g 332)] := hq_6_0
          have hsp_ : f_6 319 = eI G 70 sp943 := hq_6_1
          have hwi_ : f_6 320 = eI G 70 wi944 := hq_6_2
          have hwa_ : f_6 321 = eI G 70 wa945 := hq_6_3
          refine lv_iconst (v := (-1)) hx hb dX11_beside_40 (by decide) ?_
          refine lv_icmp_eq (tgt := 47) hx hb dX11_beside_41 (by decide) (fun c_41 => ?_) (fun c_41 => ?_)
          · refine lv_aload_n hx hb dX11_beside_47 rfl (lv_at hl 0 rfl) ?_
            refine va_get (D := G.1) (ci := 10) (v := .int (nI fd918)) (C := RX11) (T := TX11) (N := 25) hx hb hts inlX11 hown hG.1 hP 315 (wl_at (by decide) hmo) rfl 14 (by decide) (hts (.fieldLink RX11 146 "SwornListsModel" "found" "I") w_527) (fun _ h9 => h9) rfl dX11_beside_48 ?_
            refine lv_istore (lv' := [(4, .int (nI fd918)), (0, .ref (g 315)), (1, .int (nI tn)), (2, .int (nI xn)), (3, .int 1)]) hx hb dX11_beside_51 hl (by decide) rfl (fun ls hl => ?_)
            refine lv_aload_n hx hb dX11_beside_53 rfl (lv_at hl 1 rfl) ?_
            refine lv_iload_n hx hb dX11_beside_54 rfl (lv_at hl 2 rfl) ?_
            refine va_put (D := G.1) (ci := 10) (v := .int (nI tn)) (ty := .int) (C := RX11) (T := TX11) (N := 25) hx hb hts inlX11 tyX11 tyX11_ok nmX11 hown hG.1 hP (wl_D hg f_6) hS 315 (wl_at (by decide) hmo) rfl 14 (by decide) (hts (.fieldLink RX11 146 "SwornListsModel" "found" "I") w_527) (fun _ h9 => h9) rfl (by decide +kernel) rfl rfl (Nat.le_of_ble_eq_true rfl) dX11_beside_55 (fun H locs hP _ hS => ?_)
            obtain ⟨f_7, hP, e_7, o_7⟩ := b_put (by decide) hP
            have hmo : f_7 315 = eO 10 [.ref (g 316), .ref (g 317), .ref (g 318), .long ab2, .long be2, .int (nI sn941), .ref (g 319), .ref (g 320), .int (nI wn942), .ref (g 321), .ref (g 322), .int sa94, .int ly95, .int rdy917, .int (nI tn), .ref (g 323), .ref (g 324), .ref (g 325), .ref (g 326), .ref (g 327), .ref (g 328), .ref (g 329), .ref (g 330), .ref (g 331), .ref (g 332)] := e_7
            refine lv_aload_n hx hb dX11_beside_58 rfl (lv_at hl 1 rfl) ?_
            refine lv_iload_n hx hb dX11_beside_59 rfl (lv_at hl 2 rfl) ?_
            refine lv_bipush (v := 10) hx hb dX11_beside_60 (by decide) ?_
            refine lv_iload_n hx hb dX11_beside_62 rfl (lv_at hl 3 rfl) ?_
            refine lv_iload_n hx hb dX11_beside_63 rfl (lv_at hl 4 rfl) ?_
            obtain ⟨⟨q4, hq4, hs4⟩, sq, hsq, hss⟩ := hst.tr tn htn
            obtain ⟨_, _, ks, hks, hk2⟩ := htr.1 tn htn
            replace hss_ := ((o_7 316 (by decide)).trans ((o_6 316 (by first | decide | omega)))).trans hss_
            replace hsp_ := ((o_7 319 (by decide))).trans hsp_
            replace hwi_ := ((o_7 320 (by decide))).trans hwi_
            replace hwa_ := ((o_7 321 (by decide))).trans hwa_
            replace hva_ := ((o_7 322 (by decide)).trans ((o_6 322 (by first | decide | omega)))).trans hva_
            replace hbo_ := ((o_7 323 (by decide)).trans ((o_6 323 (by first | decide | omega)))).trans hbo_
            replace hju_ := ((o_7 324 (by decide)).trans ((o_6 324 (by first | decide | omega)))).trans hju_
            replace hdr_ := ((o_7 325 (by decide)).trans ((o_6 325 (by first | decide | omega)))).trans hdr_
            replace hdn_ := ((o_7 326 (by decide)).trans ((o_6 326 (by first | decide | omega)))).trans hdn_
            replace hsl_ := ((o_7 327 (by decide)).trans ((o_6 327 (by first | decide | omega)))).trans hsl_
            replace hax_ := ((o_7 328 (by decide)).trans ((o_6 328 (by first | decide | omega)))).trans hax_
            replace hlf_ := ((o_7 329 (by decide)).trans ((o_6 329 (by first | decide | omega)))).trans hlf_
            refine b_callv (va_runV (As := [.int (nI tn), .int 10, .int (nI xn), .int 1]) (rest := []) ⟨hx, hb, hml, hown, hts⟩ (r_triesX1 l G g hg f_7 ab2 be2 (nI sn941) (nI wn942) sa94 ly95 rdy917 tn ss np nf nr na nt sp943 wi944 wa945 va99 bo910 ju911 dr912 dn913 sl914 ax915 lf916 tn 10 sq q4 ks (fitT np nf (fun i c => ss (4 * i + c + 10)) (fun i c => ss (3 * i + c + 130)) (fun t c => ss (10 * t + c + 1546)) ju911 tn tn ((fcB (fun i c => ss (54 * i + c + 466)) 0 (ss (10 * tn + 1546)) na).map (rL ss))) (boxT np nf nr (fun i c => ss (4 * i + c + 10)) (fun i c => ss (3 * i + c + 130)) (fun i c => ss (3 * i + c + 250)) (fun t c => ss (10 * t + c + 1546)) ju911 tn tn ((fcB (fun i c => ss (54 * i + c + 466)) 0 (ss (10 * tn + 1546)) na).map (rL ss)) (some (rdO l7 (fun k => ss (51 * xn + 262 + k + 1))))) xn l7 hmo hss_ hsp_ hwi_ hwa_ hva_ hbo_ hju_ hdr_ hdn_ hsl_ hax_ hlf_ (by first | assumption | omega | decide) (by first | assumption | omega | decide) (by first | assumption | omega | decide) (by first | assumption | omega | decide) (hx_1_0) (hsq) (hss) (hq4) (hs4) (hk2) (hks) (htr.s1 htn) (htr.s2 htn) (rfl) (rfl) (fun o ho => htr.d0 o (by omega)) (fun o o' h1 h2 => htr.2 o o' h1 (by omega)) (by first | assumption | omega | decide) (he7) (hl7) (c_41)) (my_cwV hts ok_X11_tries w_528 rfl rfl ⟨Nat.le_of_ble_eq_true rfl, Nat.le_of_ble_eq_true rfl⟩) ⟨bP.blind, va_recv hG.1 hP (ci := 10) (q0 := 315) rfl (wl_at (by decide) hmo), fun U hU hW => ⟨rfl, by rw [hU]; exact hP, kG.warm hW hG⟩⟩ rfl rfl hl.1 rfl (lv_room (Nat.le_of_ble_eq_true rfl)) dX11_beside_64 ⟨Nat.le_of_ble_eq_true rfl, Nat.le_of_ble_eq_true rfl⟩) hS (fun f_8 H locs hq9 hP hS => ?_)
            obtain ⟨sn946, wn947, sa948, ly949, sp950, wi951, wa952, va953, bo954, ju955, dr956, dn957, sl958, ax959, lf960, hq_8_0, hq_8_1, hq_8_2, hq_8_3, hq_8_4, hq_8_5, hq_8_6, hq_8_7, hq_8_8, hq_8_9, hq_8_10, hq_8_11, hx_8_0, hx_8_1, hx_8_2, hx_8_3, hx_8_4, hx_8_5, o_8⟩ := hq9
            have hmo : f_8 315 = eO 10 [.ref (g 316), .ref (g 317), .ref (g 318), .long ab2, .long be2, .int sn946, .ref (g 319), .ref (g 320), .int wn947, .ref (g 321), .ref (g 322), .int sa948, .int ly949, .int rdy917, .int (nI tn), .ref (g 323), .ref (g 324), .ref (g 325), .ref (g 326), .ref (g 327), .ref (g 328), .ref (g 329), .ref (g 330), .ref (g 331), .ref (g 332)] := hq_8_0
            have hsp_ : f_8 319 = eI G 70 sp950 := hq_8_1
            have hwi_ : f_8 320 = eI G 70 wi951 := hq_8_2
            have hwa_ : f_8 321 = eI G 70 wa952 := hq_8_3
            have hva_ : f_8 322 = eJ G 70 va953 := hq_8_4
            have hbo_ : f_8 323 = eI G 11 bo954 := hq_8_5
            have hju_ : f_8 324 = eI G 11 ju955 := hq_8_6
            have hdr_ : f_8 325 = eI G 264 dr956 := hq_8_7
            have hdn_ : f_8 326 = eI G 11 dn957 := hq_8_8
            have hsl_ : f_8 327 = eI G 330 sl958 := hq_8_9
            have hax_ : f_8 328 = eI G 44 ax959 := hq_8_10
            have hlf_ : f_8 329 = eI G 30 lf960 := hq_8_11
            refine lv_aload_n hx hb dX11_beside_67 rfl (lv_at hl 1 rfl) ?_
            refine lv_iload hx hb dX11_beside_68 (lv_at hl 0 rfl) ?_
            refine va_put (D := G.1) (ci := 10) (v := .int (nI fd918)) (ty := .int) (C := RX11) (T := TX11) (N := 25) hx hb hts inlX11 tyX11 tyX11_ok nmX11 hown hG.1 hP (wl_D hg f_8) hS 315 (wl_at (by decide) hmo) rfl 14 (by decide) (hts (.fieldLink RX11 146 "SwornListsModel" "found" "I") w_527) (fun _ h9 => h9) rfl (by decide +kernel) rfl rfl (Nat.le_of_ble_eq_true rfl) dX11_beside_70 (fun H locs hP _ hS => ?_)
            obtain ⟨f_9, hP, e_9, o_9⟩ := b_put (by decide) hP
            have hmo : f_9 315 = eO 10 [.ref (g 316), .ref (g 317), .ref (g 318), .long ab2, .long be2, .int sn946, .ref (g 319), .ref (g 320), .int wn947, .ref (g 321), .ref (g 322), .int sa948, .int ly949, .int rdy917, .int (nI fd918), .ref (g 323), .ref (g 324), .ref (g 325), .ref (g 326), .ref (g 327), .ref (g 328), .ref (g 329), .ref (g 330), .ref (g 331), .ref (g 332)] := e_9
            refine lv_aload_n hx hb dX11_beside_73 rfl (lv_at hl 1 rfl) ?_
            refine va_get (D := G.1) (ci := 10) (v := .ref (g 324)) (C := RX11) (T := TX11) (N := 25) hx hb hts inlX11 hown hG.1 hP 315 (wl_at (by decide) hmo) rfl 16 (by decide) (hts (.fieldLink RX11 36 "SwornListsModel" "juries" "[I") w_120) (fun _ h9 => h9) rfl dX11_beside_74 ?_
            refine lv_bipush (v := 10) hx hb dX11_beside_77 (by decide) ?_
            replace hju_ := ((o_9 324 (by decide))).trans hju_
            refine va_iald hx hb hG.1 hP 324 0 (wl_at (by decide) hju_) rfl (by unfold vp_in; decide) dX11_beside_79 ?_
            refine my_bei (v := ju955 10) (rfl) ?_
            refine lv_aload_n hx hb dX11_beside_80 rfl (lv_at hl 1 rfl) ?_
            refine va_get (D := G.1) (ci := 10) (v := .ref (g 324)) (C := RX11) (T := TX11) (N := 25) hx hb hts inlX11 hown hG.1 hP 315 (wl_at (by decide) hmo) rfl 16 (by decide) (hts (.fieldLink RX11 36 "SwornListsModel" "juries" "[I") w_120) (fun _ h9 => h9) rfl dX11_beside_81 ?_
            refine lv_iload_n hx hb dX11_beside_84 rfl (lv_at hl 2 rfl) ?_
            refine va_iald hx hb hG.1 hP 324 0 (wl_at (by decide) hju_) rfl (vp_in_nI (by omega) (by decide)) dX11_beside_85 ?_
            refine my_bei (v := ju955 tn) (congrArg ju955 (nI_clamp (n := tn) (by omega))) ?_
            refine lv_ixor hx hb dX11_beside_86 ?_
            refine W_q9 hQ9 ?_
            replace hss_ := ((o_9 316 (by decide)).trans ((o_8 316 (by first | decide | omega)))).trans hss_
            replace him_ := ((o_9 317 (by decide)).trans ((o_8 317 (by first | decide | omega)).trans ((o_7 317 (by decide)).trans ((o_6 317 (by first | decide | omega)).trans ((o_1 317 (by first | decide | omega))))))).trans him_
            replace hkq_ := ((o_9 318 (by decide)).trans ((o_8 318 (by first | decide | omega)).trans ((o_7 318 (by decide)).trans ((o_6 318 (by first | decide | omega)).trans ((o_1 318 (by first | decide | omega))))))).trans hkq_
            replace hsp_ := ((o_9 319 (by decide))).trans hsp_
            replace hwi_ := ((o_9 320 (by decide))).trans hwi_
            replace hwa_ := ((o_9 321 (by decide))).trans hwa_
            replace hva_ := ((o_9 322 (by decide))).trans hva_
            replace hbo_ := ((o_9 323 (by decide))).trans hbo_
            replace hdr_ := ((o_9 325 (by decide))).trans hdr_
            replace hdn_ := ((o_9 326 (by decide))).trans hdn_
            replace hsl_ := ((o_9 327 (by decide))).trans hsl_
            replace hax_ := ((o_9 328 (by decide))).trans hax_
            replace hlf_ := ((o_9 329 (by decide))).trans hlf_
            replace hwh_ := ((o_9 330 (by decide)).trans ((o_8 330 (by first | decide | omega)).trans ((o_7 330 (by decide)).trans ((o_6 330 (by first | decide | omega)).trans ((o_1 330 (by first | decide | omega))))))).trans hwh_
            replace hw6_ := ((o_9 331 (by decide)).trans ((o_8 331 (by first | decide | omega)).trans ((o_7 331 (by decide)).trans ((o_6 331 (by first | decide | omega)).trans ((o_1 331 (by first | decide | omega))))))).trans hw6_
            replace hb6_ := ((o_9 332 (by decide)).trans ((o_8 332 (by first | decide | omega)).trans ((o_7 332 (by decide)).trans ((o_6 332 (by first | decide | omega)).trans ((o_1 332 (by first | decide | omega))))))).trans hb6_
            exact W.iret (v := (ju955 10) ^^^ (ju955 tn)) hx hb hr (fun _ hT9 _ => ⟨⟨_, f_9, rfl, (⟨mJ_mk (ab2) (be2) (sn946) (wn947) (sa948) (ly949) (rdy917) (fd918) (np) (nf) (nr) (na) (nt) (sp950) (wi951) (wa952) (va953) (bo954) (ju955) (dr956) (dn957) (sl958) (ax959) (lf960) (wh) (w6) (b6) (hmo) (hss_) (him_) (hkq_) (hsp_) (hwi_) (hwa_) (hva_) (hbo_) (hju_) (hdr_) (hdn_) (hsl_) (hax_) (hlf_) (hwh_) (hw6_) (hb6_) (hst) (by omega) (hx_8_1) (hi0) (hi1) ((fun _ => ⟨hx_1_3, fun z hz => rHz_fr hst hz (by omega) (hx_1_4 z hz) hx_8_2 hx_8_3 hx_8_4 hx_8_5⟩)), ⟨np, nf, nr, na, nt, hst, Or.inr ⟨tn, xn, 1, l7, htn, rfl, hxn, rfl, by decide, rfl, hl7, he7, Or.inr ⟨c_41, bes_end (hx_8_0).2.1 (hx_8_2 tn (by omega)).2.1 (rHz_ju (hx_1_4 tn htn)) (fun q hq => rHz_ju (hx_1_4 q (by omega))) (bsO_n (by decide)).symm bsO_y.symm⟩⟩⟩, fun j hj => (((((o_9 j (by omega))).trans (o_8 j (by omega))).trans (o_7 j (by omega))).trans (o_6 j (by omega))).trans (o_1 j (by omega))⟩), by rw [hT9]; exact hP⟩, hS.F hT9⟩) hS.2.2 dX11_beside_87
          · refine lv_bipush (v := (-3)) hx hb dX11_beside_44 (by decide) ?_
            refine W_q9 hQ9 ?_
            replace hss_ := ((o_6 316 (by first | decide | omega))).trans hss_
            replace him_ := ((o_6 317 (by first | decide | omega)).trans ((o_1 317 (by first | decide | omega)))).trans him_
            replace hkq_ := ((o_6 318 (by first | decide | omega)).trans ((o_1 318 (by first | decide | omega)))).trans hkq_
            replace hva_ := ((o_6 322 (by first | decide | omega))).trans hva_
            replace hbo_ := ((o_6 323 (by first | decide | omega))).trans hbo_
            replace hju_ := ((o_6 324 (by first | decide | omega))).trans hju_
            replace hdr_ := ((o_6 325 (by first | decide | omega))).trans hdr_
            replace hdn_ := ((o_6 326 (by first | decide | omega))).trans hdn_
            replace hsl_ := ((o_6 327 (by first | decide | omega))).trans hsl_
            replace hax_ := ((o_6 328 (by first | decide | omega))).trans hax_
            replace hlf_ := ((o_6 329 (by first | decide | omega))).trans hlf_
            replace hwh_ := ((o_6 330 (by first | decide | omega)).trans ((o_1 330 (by first | decide | omega)))).trans hwh_
            replace hw6_ := ((o_6 331 (by first | decide | omega)).trans ((o_1 331 (by first | decide | omega)))).trans hw6_
            replace hb6_ := ((o_6 332 (by first | decide | omega)).trans ((o_1 332 (by first | decide | omega)))).trans hb6_
            exact W.iret (v := (-3)) hx hb hr (fun _ hT9 _ => ⟨⟨_, f_6, rfl, (⟨mJ_mk (ab2) (be2) ((nI sn941)) ((nI wn942)) (sa94) (ly95) (rdy917) (fd918) (np) (nf) (nr) (na) (nt) (sp943) (wi944) (wa945) (va99) (bo910) (ju911) (dr912) (dn913) (sl914) (ax915) (lf916) (wh) (w6) (b6) (hmo) (hss_) (him_) (hkq_) (hsp_) (hwi_) (hwa_) (hva_) (hbo_) (hju_) (hdr_) (hdn_) (hsl_) (hax_) (hlf_) (hwh_) (hw6_) (hb6_) (hst) (by omega) (hx_1_0) (hi0) (hi1) ((fun _ => ⟨hx_1_3, hx_1_4⟩)), ⟨np, nf, nr, na, nt, hst, Or.inr ⟨tn, xn, 1, l7, htn, rfl, hxn, rfl, by decide, rfl, hl7, he7, Or.inl ⟨c_41, rfl⟩⟩⟩, fun j hj => ((o_6 j (by omega))).trans (o_1 j (by omega))⟩), by rw [hT9]; exact hP⟩, hS.F hT9⟩) hS.2.2 dX11_beside_46
      · refine lv_bipush (v := (-2)) hx hb dX11_beside_25 (by decide) ?_
        refine W_q9 hQ9 ?_
        replace hss_ := ((o_1 316 (by first | decide | omega))).trans hss_
        replace him_ := ((o_1 317 (by first | decide | omega))).trans him_
        replace hkq_ := ((o_1 318 (by first | decide | omega))).trans hkq_
        replace hwh_ := ((o_1 330 (by first | decide | omega))).trans hwh_
        replace hw6_ := ((o_1 331 (by first | decide | omega))).trans hw6_
        replace hb6_ := ((o_1 332 (by first | decide | omega))).trans hb6_
        exact W.iret (v := (-2)) hx hb hr (fun _ hT9 _ => ⟨⟨_, f_1, rfl, (⟨mJ_mk (ab2) (be2) (sn92) (wn93) (sa94) (ly95) (rdy917) (fd918) (np) (nf) (nr) (na) (nt) (sp96) (wi97) (wa98) (va99) (bo910) (ju911) (dr912) (dn913) (sl914) (ax915) (lf916) (wh) (w6) (b6) (hmo) (hss_) (him_) (hkq_) (hsp_) (hwi_) (hwa_) (hva_) (hbo_) (hju_) (hdr_) (hdn_) (hsl_) (hax_) (hlf_) (hwh_) (hw6_) (hb6_) (hst) (by omega) (hx_1_0) (hi0) (hi1) ((fun _ => ⟨hx_1_3, hx_1_4⟩)), ⟨np, nf, nr, na, nt, hst, Or.inl ⟨fun z => c_22 z.2.2, rfl⟩⟩, fun j hj => (o_1 j (by omega))⟩), by rw [hT9]; exact hP⟩, hS.F hT9⟩) hS.2.2 dX11_beside_27
theorem j2_beside (l : Launch) (G : gW) (g : Nat → Nat) (hg : gOK g) (f : Nat → va_E) (ss : Nat → Int32) (im : Nat → Int32) (kq : Nat → Int32) (a1 : Int32) (a2 : Int32) (a3 : Int32) (hI : mJ G g f ss im kq) (htA : ∀ n : Nat, n ≤ 10 → ss 4 = nI n → trOK ss n) : Met l yX11_beside (wsT yX11_beside cX11_beside 5 (some .int)) ({ frames := 8, cells := 0, slots := 0, locals := 194 }) (bP G g f [.ref (g 315), .int a1, .int a2, .int a3]) (bQi G g (fun (z9 : Int32) (f' : Nat → va_E) => (mJ G g f' ss im kq) ∧ (∃ p9 f9 r9 u9 t9, stOK ss p9 f9 r9 u9 t9 ∧ ((¬ (inN a1 t9 = true ∧ inB 0 a2 3 = true ∧ inB 0 a3 1 = true) ∧ z9 = -2) ∨ (∃ x y k l, x < t9 ∧ a1 = nI x ∧ y ≤ 3 ∧ a2 = nI y ∧ k ≤ 1 ∧ a3 = nI k ∧ l ≤ 50 ∧ ss (51 * y + 262) = nI l ∧ ((¬ rdA l (fun k => ss (51 * y + 262 + k + 1)) = -1 ∧ z9 = -3) ∨ (rdA l (fun k => ss (51 * y + 262 + k + 1)) = -1 ∧ z9 = rJr p9 f9 r9 u9 ss x ^^^ bsV p9 f9 r9 (fun i c => ss (4 * i + c + 10)) (fun i c => ss (3 * i + c + 130)) (fun i c => ss (3 * i + c + 250)) (fun t c => ss (10 * t + c + 1546)) (rJr p9 f9 r9 u9 ss) x (bsO k 0 (rdO l (fun k => ss (51 * y + 262 + k + 1))) ((fcB (fun i c => ss (54 * i + c + 466)) 0 (ss (10 * x + 1546)) u9).map (rL ss))) (bsO k 1 (rdO l (fun k => ss (51 * y + 262 + k + 1))) ((fcB (fun i c => ss (54 * i + c + 466)) 1 (ss (10 * x + 1546)) u9).map (rL ss))) (kS ss x)))))) ∧ ∀ j, j < 315 → f' j = f j)) 0 0 (gA g) := mJ_elim hI (fun ab2 be2 sn wn sa ly rdy fd np nf nr na nt sp wi wa va bo ju dr dn sl ax lf wh w6 b6 hmo hss_ him_ hkq_ hsp_ hwi_ hwa_ hva_ hbo_ hju_ hdr_ hdn_ hsl_ hax_ hlf_ hwh_ hw6_ hb6_ hst hfo hdn hi0 hi1 hrd => jn2_beside l G g hg f ab2 be2 sn wn sa ly rdy fd ss np nf nr na nt im kq sp wi wa va bo ju dr dn sl ax lf wh w6 b6 a1 a2 a3 hmo hss_ him_ hkq_ hsp_ hwi_ hwa_ hva_ hbo_ hju_ hdr_ hdn_ hsl_ hax_ hlf_ hwh_ hw6_ hb6_ hst hfo hdn hi0 hi1 hrd htA)
set_option maxHeartbeats 4000000 in
set_option maxRecDepth 100000 in
theorem jn2_turn (l : Launch) (G : gW) (g : Nat → Nat) (hg : gOK g) (f : Nat → va_E) (ab2 : Int64) (be2 : Int64) (sn : Int32) (wn : Int32) (sa : Int32) (ly : Int32) (rdy : Int32) (fd : Nat) (ss : Nat → Int32) (np : Nat) (nf : Nat) (nr : Nat) (na : Nat) (nt : Nat) (im : Nat → Int32) (kq : Nat → Int32) (sp : Nat → Int32) (wi : Nat → Int32) (wa : Nat → Int32) (va : Nat → Int64) (bo : Nat → Int32) (ju : Nat → Int32) (dr : Nat → Int32) (dn : Nat → Int32) (sl : Nat → Int32) (ax : Nat → Int32) (lf : Nat → Int32) (wh : Nat → Int32) (w6 : Nat → Int32) (b6 : Nat → Int32) (a1 : Int32) (a2 : Int32) (hmo : f 315 = eO 10 [.ref (g 316), .ref (g 317), .ref (g 318), .long ab2, .long be2, .int sn, .ref (g 319), .ref (g 320), .int wn, .ref (g 321), .ref (g 322), .int sa, .int ly, .int rdy, .int (nI fd), .ref (g 323), .ref (g 324), .ref (g 325), .ref (g 326), .ref (g 327), .ref (g 328), .ref (g 329), .ref (g 330), .ref (g 331), .ref (g 332)]) (hss_ : f 316 = eI G 2246 ss) (him_ : f 317 = eI G 4492 im) (hkq_ : f 318 = eZ G 2 kq) (hsp_ : f 319 = eI G 70 sp) (hwi_ : f 320 = eI G 70 wi) (hwa_ : f 321 = eI G 70 wa) (hva_ : f 322 = eJ G 70 va) (hbo_ : f 323 = eI G 11 bo) (hju_ : f 324 = eI G 11 ju) (hdr_ : f 325 = eI G 264 dr) (hdn_ : f 326 = eI G 11 dn) (hsl_ : f 327 = eI G 330 sl) (hax_ : f 328 = eI G 44 ax) (hlf_ : f 329 = eI G 30 lf) (hwh_ : f 330 = eI G 6 wh) (hw6_ : f 331 = eI G 6 w6) (hb6_ : f 332 = eI G 6 b6) (hst : stOK ss np nf nr na nt) (hfo : fd ≤ 10) (hdn : ∀ k, k < 11 → ∃ d, d ≤ 24 ∧ dn k = nI d) (hi0 : stI im 0) (hi1 : stI im 2246) (hrd : ¬ rdy = 0 → fd = nt ∧ ∀ z, z < nt → rHz np nf nr na ss bo ju dr dn sl ax z) (htA : ∀ n : Nat, n ≤ 10 → ss 4 = nI n → trOK ss n) : Met l yX11_turn (wsT yX11_turn cX11_turn 9 (some .int)) ({ frames := 7, cells := 0, slots := 0, locals := 173 }) (bP G g f [.ref (g 315), .int a1, .int a2]) (bQi G g (fun (z9 : Int32) (f' : Nat → va_E) => (mJ G g f' ss im kq) ∧ (∃ p9 f9 r9 u9 t9, stOK ss p9 f9 r9 u9 t9 ∧ ((¬ (inB 0 a1 3 = true ∧ inB 0 a2 9999 = true) ∧ z9 = -2) ∨ ((inB 0 a1 3 = true ∧ inB 0 a2 9999 = true) ∧ z9 = tuV p9 t9 (fun i c => ss (4 * i + c + 10)) (fun t c => ss (10 * t + c + 1546)) (rJr p9 f9 r9 u9 ss) a2 (rlV p9 r9 (fun i c => ss (3 * i + c + 250)) a2 &&& sO (fun i => decide ((fun i c => ss (4 * i + c + 10)) i 0 = a1)) p9) ((fcB (fun i c => ss (54 * i + c + 466)) 0 a2 u9).map (rL ss))))) ∧ ∀ j, j < 315 → f' j = f j)) 0 0 (gA g) := by
  refine Met.ofW (cc := cX11_turn) (maxL := 9) (ret := (some .int)) (by decide) rfl ?_
  intro p e s m args below meth c s₁ B hml hv
  obtain ⟨rfl, hP, hG⟩ := hv
  have hx := B.exec
  have hb := B.bytes
  have hr := B.returns
  have hts := my_hts (atoms_spec (ws := wsT yX11_turn cX11_turn 9 (some .int)) B.pre)
  have hown : s.vm.findClass RX11 = some m.cls := findClass_of_methodNamed B.named
  have hlocks := B.notSynchronized
  have hS : va_S (gA g) s.heap s.heap [] := va_S.rf
  have hl := lv_entry ([.ref (g 315), .int a1, .int a2]) (n := 9) (Nat.le_of_ble_eq_true rfl)
  rw [lg_entry_eq]
  generalize (lg_sl ([.ref (g 315), .int a1, .int a2]) ++ List.replicate (9 - (lg_sl ([.ref (g 315), .int a1, .int a2])).length) Slot.unset).toArray = ls at hl ⊢
  have hl : lv_has ls 9 [(0, .ref (g 315)), (1, .int a1), (2, .int a2)] := hl
  refine W_q8 (fun Q9 hQ9 => ?_)
  have hc0 := hst.c0
  have hc1 := hst.c1
  have hc2 := hst.c2
  have hc3 := hst.c3
  have hc4 := hst.c4
  have htr := htA nt hst.c4 hst.h4
  refine lv_iload_n hx hb dX11_turn_0 rfl (lv_at hl 1 rfl) ?_
  refine lv_i2l hx hb dX11_turn_1 rfl ?_
  refine lv_lconst (v := 0) hx hb dX11_turn_2 (by decide) ?_
  refine my_bel (v := Int32.toInt64 0) (by decide) ?_
  refine lv_ldc2 (v := 3) hx hb hown (hts (.constantLong RX11 77 (3)) w_159) dX11_turn_3 ?_
  refine my_bel (v := Int32.toInt64 3) (by decide) ?_
  refine rd_calli (va_runS (As := [.long (Int32.toInt64 a1), .long (Int32.toInt64 0), .long (Int32.toInt64 3)]) (rest := []) ⟨hx, hb, hml, hown, hts⟩ (r_in l G g hg f a1 0 3  ) (my_cwS hts ok_X11_in w_162 rfl rfl ⟨Nat.le_of_ble_eq_true rfl, Nat.le_of_ble_eq_true rfl⟩) ⟨bP.blind, fun U hU hW => ⟨rfl, by rw [hU]; exact hP, kG.warm hW hG⟩⟩ rfl rfl hl.1 rfl (lv_room (Nat.le_of_ble_eq_true rfl)) dX11_turn_6 ⟨Nat.le_of_ble_eq_true rfl, Nat.le_of_ble_eq_true rfl⟩) (fun r hr9 => ?_)
  subst hr9
  refine my_ifeq (tgt := 19) hx hb dX11_turn_9 (by decide) (fun c_9 => ?_) (fun c_9 => ?_)
  · refine lv_bipush (v := (-2)) hx hb dX11_turn_19 (by decide) ?_
    refine W_q9 hQ9 ?_
    exact W.iret (v := (-2)) hx hb hr (fun _ hT9 _ => ⟨⟨_, f, rfl, (⟨mJ_mk (ab2) (be2) (sn) (wn) (sa) (ly) (rdy) (fd) (np) (nf) (nr) (na) (nt) (sp) (wi) (wa) (va) (bo) (ju) (dr) (dn) (sl) (ax) (lf) (wh) (w6) (b6) (hmo) (hss_) (him_) (hkq_) (hsp_) (hwi_) (hwa_) (hva_) (hbo_) (hju_) (hdr_) (hdn_) (hsl_) (hax_) (hlf_) (hwh_) (hw6_) (hb6_) (hst) (by omega) (hdn) (hi0) (hi1) (hrd), ⟨np, nf, nr, na, nt, hst, Or.inl ⟨fun z => c_9 z.1, rfl⟩⟩, fun j hj => rfl⟩), by rw [hT9]; exact hP⟩, hS.F hT9⟩) hS.2.2 dX11_turn_21
  · refine lv_iload_n hx hb dX11_turn_12 rfl (lv_at hl 2 rfl) ?_
    refine rd_calli (va_runS (As := [.int a2]) (rest := []) ⟨hx, hb, hml, hown, hts⟩ (r_isDay l G g hg f a2  ) (my_cwS hts ok_X11_isDay w_190 rfl rfl ⟨Nat.le_of_ble_eq_true rfl, Nat.le_of_ble_eq_true rfl⟩) ⟨bP.blind, fun U hU hW => ⟨rfl, by rw [hU]; exact hP, kG.warm hW hG⟩⟩ rfl rfl hl.1 rfl (lv_room (Nat.le_of_ble_eq_true rfl)) dX11_turn_13 ⟨Nat.le_of_ble_eq_true rfl, Nat.le_of_ble_eq_true rfl⟩) (fun r hr9 => ?_)
    subst hr9
    refine my_ifne (tgt := 22) hx hb dX11_turn_16 (by decide) (fun c_16 => ?_) (fun c_16 => ?_)
    · refine lv_aload_n hx hb dX11_turn_22 rfl (lv_at hl 0 rfl) ?_
      refine b_callv (va_runV (As := []) (rest := []) ⟨hx, hb, hml, hown, hts⟩ (r_findsE l G g hg f ab2 be2 sn wn sa ly rdy fd ss np nf nr na nt sp wi wa va bo ju dr dn sl ax lf hmo hss_ hsp_ hwi_ hwa_ hva_ hbo_ hju_ hdr_ hdn_ hsl_ hax_ hlf_ (by first | assumption | omega | decide) (by first | assumption | omega | decide) (by first | assumption | omega | decide) (by first | assumption | omega | decide) (by first | assumption | omega | decide)) (my_cwV hts ok_X11_finds w_523 rfl rfl ⟨Nat.le_of_ble_eq_true rfl, Nat.le_of_ble_eq_true rfl⟩) ⟨bP.blind, va_recv hG.1 hP (ci := 10) (q0 := 315) rfl (wl_at (by decide) hmo), fun U hU hW => ⟨rfl, by rw [hU]; exact hP, kG.warm hW hG⟩⟩ rfl rfl hl.1 rfl (lv_room (Nat.le_of_ble_eq_true rfl)) dX11_turn_23 ⟨Nat.le_of_ble_eq_true rfl, Nat.le_of_ble_eq_true rfl⟩) hS (fun f_1 H locs hq9 hP hS => ?_)
      obtain ⟨sn91, wn92, sa93, ly94, sp95, wi96, wa97, va98, bo99, ju910, dr911, dn912, sl913, ax914, lf915, rdy916, fd917, hq_1_0, hq_1_1, hq_1_2, hq_1_3, hq_1_4, hq_1_5, hq_1_6, hq_1_7, hq_1_8, hq_1_9, hq_1_10, hq_1_11, hx_1_0, hx_1_1, hx_1_2, hx_1_3, hx_1_4, o_1⟩ := hq9
      have hmo : f_1 315 = eO 10 [.ref (g 316), .ref (g 317), .ref (g 318), .long ab2, .long be2, .int sn91, .ref (g 319), .ref (g 320), .int wn92, .ref (g 321), .ref (g 322), .int sa93, .int ly94, .int rdy916, .int (nI fd917), .ref (g 323), .ref (g 324), .ref (g 325), .ref (g 326), .ref (g 327), .ref (g 328), .ref (g 329), .ref (g 330), .ref (g 331), .ref (g 332)] := hq_1_0
      have hsp_ : f_1 319 = eI G 70 sp95 := hq_1_1
      have hwi_ : f_1 320 = eI G 70 wi96 := hq_1_2
      have hwa_ : f_1 321 = eI G 70 wa97 := hq_1_3
      have hva_ : f_1 322 = eJ G 70 va98 := hq_1_4
      have hbo_ : f_1 323 = eI G 11 bo99 := hq_1_5
      have hju_ : f_1 324 = eI G 11 ju910 := hq_1_6
      have hdr_ : f_1 325 = eI G 264 dr911 := hq_1_7
      have hdn_ : f_1 326 = eI G 11 dn912 := hq_1_8
      have hsl_ : f_1 327 = eI G 330 sl913 := hq_1_9
      have hax_ : f_1 328 = eI G 44 ax914 := hq_1_10
      have hlf_ : f_1 329 = eI G 30 lf915 := hq_1_11
      refine lv_aload_n hx hb dX11_turn_26 rfl (lv_at hl 0 rfl) ?_
      refine lv_iload_n hx hb dX11_turn_27 rfl (lv_at hl 2 rfl) ?_
      replace hss_ := ((o_1 316 (by first | decide | omega))).trans hss_
      refine rd_calli (va_runV (As := [.int a2]) (rest := []) ⟨hx, hb, hml, hown, hts⟩ (r_theRollE l G g hg f_1 ab2 be2 sn91 wn92 sa93 ly94 rdy916 (nI fd917) ss np nf nr na nt a2 hmo hss_ (by first | assumption | omega | decide)) (my_cwV hts ok_X11_theRoll w_234 rfl rfl ⟨Nat.le_of_ble_eq_true rfl, Nat.le_of_ble_eq_true rfl⟩) ⟨bP.blind, va_recv hG.1 hP (ci := 10) (q0 := 315) rfl (wl_at (by decide) hmo), fun U hU hW => ⟨rfl, by rw [hU]; exact hP, kG.warm hW hG⟩⟩ rfl rfl hl.1 rfl (lv_room (Nat.le_of_ble_eq_true rfl)) dX11_turn_28 ⟨Nat.le_of_ble_eq_true rfl, Nat.le_of_ble_eq_true rfl⟩) (fun r hr9 => ?_)
      subst hr9
      refine lv_aload_n hx hb dX11_turn_31 rfl (lv_at hl 0 rfl) ?_
      refine lv_iconst (v := 0) hx hb dX11_turn_32 (by decide) ?_
      refine lv_iload_n hx hb dX11_turn_33 rfl (lv_at hl 2 rfl) ?_
      refine lv_iconst (v := (-1)) hx hb dX11_turn_34 (by decide) ?_
      refine b_calli (va_runV (As := [.int 0, .int a2, .int (-1)]) (rest := [.int (rlV np nr (fun i c => ss (3 * i + c + 250)) a2)]) ⟨hx, hb, hml, hown, hts⟩ (r_whomE0 l G g hg f_1 ab2 be2 sn91 wn92 sa93 ly94 rdy916 fd917 ss np nf nr na nt sp95 wi96 wa97 va98 ju910 a2 hmo hss_ hsp_ hwi_ hwa_ hva_ hju_ (by first | assumption | omega | decide) (by first | assumption | omega | decide) (fun o ho => htr.d0 o (by omega)) (fun o o' h1 h2 => htr.2 o o' h1 (by omega))) (my_cwV hts ok_X11_whom w_536 rfl rfl ⟨Nat.le_of_ble_eq_true rfl, Nat.le_of_ble_eq_true rfl⟩) ⟨bP.blind, va_recv hG.1 hP (ci := 10) (q0 := 315) rfl (wl_at (by decide) hmo), fun U hU hW => ⟨rfl, by rw [hU]; exact hP, kG.warm hW hG⟩⟩ rfl rfl hl.1 rfl (lv_room (Nat.le_of_ble_eq_true rfl)) dX11_turn_35 ⟨Nat.le_of_ble_eq_true rfl, Nat.le_of_ble_eq_true rfl⟩) hS (fun v18 f_2 H locs hq9 hP hS => ?_)
      obtain ⟨sn919, wn920, sa921, ly922, sp923, wi924, wa925, va926, rfl, hq_2_0, hq_2_1, hq_2_2, hq_2_3, hq_2_4, o_2⟩ := hq9
      have hmo : f_2 315 = eO 10 [.ref (g 316), .ref (g 317), .ref (g 318), .long ab2, .long be2, .int sn919, .ref (g 319), .ref (g 320), .int wn920, .ref (g 321), .ref (g 322), .int sa921, .int ly922, .int rdy916, .int (nI fd917), .ref (g 323), .ref (g 324), .ref (g 325), .ref (g 326), .ref (g 327), .ref (g 328), .ref (g 329), .ref (g 330), .ref (g 331), .ref (g 332)] := hq_2_0
      have hsp_ : f_2 319 = eI G 70 sp923 := hq_2_1
      have hwi_ : f_2 320 = eI G 70 wi924 := hq_2_2
      have hwa_ : f_2 321 = eI G 70 wa925 := hq_2_3
      have hva_ : f_2 322 = eJ G 70 va926 := hq_2_4
      refine lv_iand hx hb dX11_turn_38 ?_
      refine lv_istore_n (lv' := [(3, .int ((rlV np nr (fun i c => ss (3 * i + c + 250)) a2) &&& (whV np (nvF (fun i c => ss (4 * i + c + 10)) (fun t c => ss (10 * t + c + 1546)) ju910 a2 fd917) ((1 <<< (nI np &&& 31)) - 1) ((fcB (fun i c => ss (54 * i + c + 466)) 0 a2 na).map (rL ss))))), (0, .ref (g 315)), (1, .int a1), (2, .int a2)]) hx hb dX11_turn_39 rfl hl (by decide) rfl (fun ls hl => ?_)
      refine lv_iconst (v := (-1)) hx hb dX11_turn_40 (by decide) ?_
      refine lv_istore (lv' := [(4, .int (-1)), (3, .int ((rlV np nr (fun i c => ss (3 * i + c + 250)) a2) &&& (whV np (nvF (fun i c => ss (4 * i + c + 10)) (fun t c => ss (10 * t + c + 1546)) ju910 a2 fd917) ((1 <<< (nI np &&& 31)) - 1) ((fcB (fun i c => ss (54 * i + c + 466)) 0 a2 na).map (rL ss))))), (0, .ref (g 315)), (1, .int a1), (2, .int a2)]) hx hb dX11_turn_41 hl (by decide) rfl (fun ls hl => ?_)
      refine lv_iconst (v := 0) hx hb dX11_turn_43 (by decide) ?_
      refine lv_istore (lv' := [(5, .int 0), (4, .int (-1)), (3, .int ((rlV np nr (fun i c => ss (3 * i + c + 250)) a2) &&& (whV np (nvF (fun i c => ss (4 * i + c + 10)) (fun t c => ss (10 * t + c + 1546)) ju910 a2 fd917) ((1 <<< (nI np &&& 31)) - 1) ((fcB (fun i c => ss (54 * i + c + 466)) 0 a2 na).map (rL ss))))), (0, .ref (g 315)), (1, .int a1), (2, .int a2)]) hx hb dX11_turn_44 hl (by decide) rfl (fun ls hl => ?_)
      refine lv_iconst (v := 0) hx hb dX11_turn_46 (by decide) ?_
      refine lv_istore (lv' := [(6, .int 0), (5, .int 0), (4, .int (-1)), (3, .int ((rlV np nr (fun i c => ss (3 * i + c + 250)) a2) &&& (whV np (nvF (fun i c => ss (4 * i + c + 10)) (fun t c => ss (10 * t + c + 1546)) ju910 a2 fd917) ((1 <<< (nI np &&& 31)) - 1) ((fcB (fun i c => ss (54 * i + c + 466)) 0 a2 na).map (rL ss))))), (0, .ref (g 315)), (1, .int a1), (2, .int a2)]) hx hb dX11_turn_47 hl (by decide) rfl (fun ls hl => ?_)
      refine lv_iconst (v := 0) hx hb dX11_turn_49 (by decide) ?_
      refine lv_istore (lv' := [(7, .int 0), (6, .int 0), (5, .int 0), (4, .int (-1)), (3, .int ((rlV np nr (fun i c => ss (3 * i + c + 250)) a2) &&& (whV np (nvF (fun i c => ss (4 * i + c + 10)) (fun t c => ss (10 * t + c + 1546)) ju910 a2 fd917) ((1 <<< (nI np &&& 31)) - 1) ((fcB (fun i c => ss (54 * i + c + 466)) 0 a2 na).map (rL ss))))), (0, .ref (g 315)), (1, .int a1), (2, .int a2)]) hx hb dX11_turn_50 hl (by decide) rfl (fun ls hl => ?_)
      replace hss_ := ((o_2 316 (by first | decide | omega))).trans hss_
      replace him_ := ((o_2 317 (by first | decide | omega)).trans ((o_1 317 (by first | decide | omega)))).trans him_
      replace hkq_ := ((o_2 318 (by first | decide | omega)).trans ((o_1 318 (by first | decide | omega)))).trans hkq_
      replace hbo_ := ((o_2 323 (by first | decide | omega))).trans hbo_
      replace hju_ := ((o_2 324 (by first | decide | omega))).trans hju_
      replace hdr_ := ((o_2 325 (by first | decide | omega))).trans hdr_
      replace hdn_ := ((o_2 326 (by first | decide | omega))).trans hdn_
      replace hsl_ := ((o_2 327 (by first | decide | omega))).trans hsl_
      replace hax_ := ((o_2 328 (by first | decide | omega))).trans hax_
      replace hlf_ := ((o_2 329 (by first | decide | omega))).trans hlf_
      replace hwh_ := ((o_2 330 (by first | decide | omega)).trans ((o_1 330 (by first | decide | omega)))).trans hwh_
      replace hw6_ := ((o_2 331 (by first | decide | omega)).trans ((o_1 331 (by first | decide | omega)))).trans hw6_
      replace hb6_ := ((o_2 332 (by first | decide | omega)).trans ((o_1 332 (by first | decide | omega)))).trans hb6_
      have key27 : ∀ (n9_27 : Nat) (o1 : Option Nat) (i : Nat) (w : Int32) (u2 : Int32) (sa1 : Int32) (ly1 : Int32) (f_3 : Nat → va_E) (H : Heap) (locs : List Loc) (ls : Array Slot), (i ≤ np) → (∀ z, o1 = some z → z < np) → (tnF (fun i => bt ((rlV np nr (fun i c => ss (3 * i + c + 250)) a2) &&& (whV np (nvF (fun i c => ss (4 * i + c + 10)) (fun t c => ss (10 * t + c + 1546)) ju910 a2 fd917) ((1 <<< (nI np &&& 31)) - 1) ((fcB (fun i c => ss (54 * i + c + 466)) 0 a2 na).map (rL ss)))) i && decide ((fun i c => ss (4 * i + c + 10)) i 0 = a1)) (ahB (fun t c => ss (10 * t + c + 1546)) ju910 a2 fd917) i = o1) → (∀ z, o1 = some z → w = nI (satN (fun t c => ss (10 * t + c + 1546)) ju910 a2 z fd917) ∧ (sinV (fun t c => ss (10 * t + c + 1546)) ju910 a2 z fd917) = u2) → np - i < n9_27 → f_3 315 = eO 10 [.ref (g 316), .ref (g 317), .ref (g 318), .long ab2, .long be2, .int sn919, .ref (g 319), .ref (g 320), .int wn920, .ref (g 321), .ref (g 322), .int sa1, .int ly1, .int rdy916, .int (nI fd917), .ref (g 323), .ref (g 324), .ref (g 325), .ref (g 326), .ref (g 327), .ref (g 328), .ref (g 329), .ref (g 330), .ref (g 331), .ref (g 332)] → f_3 316 = eI G 2246 ss → f_3 317 = eI G 4492 im → f_3 318 = eZ G 2 kq → f_3 319 = eI G 70 sp923 → f_3 320 = eI G 70 wi924 → f_3 321 = eI G 70 wa925 → f_3 322 = eJ G 70 va926 → f_3 323 = eI G 11 bo99 → f_3 324 = eI G 11 ju910 → f_3 325 = eI G 264 dr911 → f_3 326 = eI G 11 dn912 → f_3 327 = eI G 330 sl913 → f_3 328 = eI G 44 ax914 → f_3 329 = eI G 30 lf915 → f_3 330 = eI G 6 wh → f_3 331 = eI G 6 w6 → f_3 332 = eI G 6 b6 → (∀ j, j ≠ 315 → f_3 j = f_2 j) → va_P G.1 vwCl (wl g f_3) H → va_S (gA g) s.heap H locs → lv_has ls 9 [(0, .ref (g 315)), (1, .int a1), (2, .int a2), (3, .int ((rlV np nr (fun i c => ss (3 * i + c + 250)) a2) &&& (whV np (nvF (fun i c => ss (4 * i + c + 10)) (fun t c => ss (10 * t + c + 1546)) ju910 a2 fd917) ((1 <<< (nI np &&& 31)) - 1) ((fcB (fun i c => ss (54 * i + c + 466)) 0 a2 na).map (rL ss))))), (4, .int (fo o1)), (5, .int w), (6, .int u2), (7, .int (nI i))] → W p l e (headSpec (wsT yX11_turn cX11_turn 9 (some .int)) ({ frames := 7, cells := 0, slots := 0, locals := 173 })).room s m ([.ref (g 315), .int a1, .int a2] : List Value).toArray below meth c H locs 0 0 Q9 (F0 m 52 ls []) := by
        intro n9_27
        induction n9_27 with
        | zero => intro o1 i w u2 sa1 ly1 f_3 H locs ls hi ho hB hlw hn9_27; exact absurd hn9_27 (Nat.not_lt_zero _)
        | succ n9_27 ih_27 =>
          intro o1 i w u2 sa1 ly1 f_3 H locs ls hi ho hB hlw hn9_27 hmo hss_ him_ hkq_ hsp_ hwi_ hwa_ hva_ hbo_ hju_ hdr_ hdn_ hsl_ hax_ hlf_ hwh_ hw6_ hb6_ o_3 hP hS hl
          refine lv_iload hx hb dX11_turn_52 (lv_at hl 7 rfl) ?_
          refine lv_aload_n hx hb dX11_turn_54 rfl (lv_at hl 0 rfl) ?_
          refine va_get (D := G.1) (ci := 10) (v := .ref (g 316)) (C := RX11) (T := TX11) (N := 25) hx hb hts inlX11 hown hG.1 hP 315 (wl_at (by decide) hmo) rfl 0 (by decide) (hts (.fieldLink RX11 7 "SwornListsModel" "st" "[I") w_112) (fun _ h9 => h9) rfl dX11_turn_55 ?_
          refine lv_iconst (v := 0) hx hb dX11_turn_58 (by decide) ?_
          refine va_iald hx hb hG.1 hP 316 0 (wl_at (by decide) hss_) rfl (by unfold vp_in; decide) dX11_turn_59 ?_
          refine my_bei (v := ss 0) (rfl) ?_
          refine my_bei (v := nI np) (hst.h0) ?_
          refine lv_icmp_ge (tgt := 171) hx hb dX11_turn_60 (by decide) (fun c_60 => ?_) (fun c_60 => ?_)
          · have k_60 : np ≤ i := (nI_leI (a := np) (b := i) (by omega) (by omega)).mp c_60
            have hin : i = np := by omega
            rw [hin] at hB
            refine lv_iload hx hb dX11_turn_171 (lv_at hl 4 rfl) ?_
            refine W_q9 hQ9 ?_
            exact W.iret (v := fo o1) hx hb hr (fun _ hT9 _ => ⟨⟨_, f_3, rfl, (⟨mJ_mk (ab2) (be2) (sn919) (wn920) (sa1) (ly1) (rdy916) (fd917) (np) (nf) (nr) (na) (nt) (sp923) (wi924) (wa925) (va926) (bo99) (ju910) (dr911) (dn912) (sl913) (ax914) (lf915) (wh) (w6) (b6) (hmo) (hss_) (him_) (hkq_) (hsp_) (hwi_) (hwa_) (hva_) (hbo_) (hju_) (hdr_) (hdn_) (hsl_) (hax_) (hlf_) (hwh_) (hw6_) (hb6_) (hst) (by omega) (hx_1_0) (hi0) (hi1) ((fun _ => ⟨hx_1_3, hx_1_4⟩)), ⟨np, nf, nr, na, nt, hst, Or.inr ⟨⟨c_9, c_16⟩, turn_end (by omega) (by omega) hx_1_3 (fun z hz => rHz_ju (hx_1_4 z (by omega))) hB⟩⟩, fun j hj => (((o_3 j (by omega))).trans (o_2 j (by omega))).trans (o_1 j (by omega))⟩), by rw [hT9]; exact hP⟩, hS.F hT9⟩) hS.2.2 dX11_turn_173
          · have k_60 : ¬ np ≤ i := fun z9 => c_60 ((nI_leI (a := np) (b := i) (by omega) (by omega)).mpr z9)
            refine lv_iload_n hx hb dX11_turn_63 rfl (lv_at hl 3 rfl) ?_
            refine lv_iload hx hb dX11_turn_64 (lv_at hl 7 rfl) ?_
            refine lv_ishr hx hb dX11_turn_66 ?_
            refine lv_iconst (v := 1) hx hb dX11_turn_67 (by decide) ?_
            refine lv_iand hx hb dX11_turn_68 ?_
            refine lv_iconst (v := 1) hx hb dX11_turn_69 (by decide) ?_
            refine lv_icmp_ne (tgt := 165) hx hb dX11_turn_70 (by decide) (fun c_70 => ?_) (fun c_70 => ?_)
            · refine lv_iinc (v := nI (i + 1)) (lv' := [(7, .int (nI (i + 1))), (0, .ref (g 315)), (1, .int a1), (2, .int a2), (3, .int ((rlV np nr (fun i c => ss (3 * i + c + 250)) a2) &&& (whV np (nvF (fun i c => ss (4 * i + c + 10)) (fun t c => ss (10 * t + c + 1546)) ju910 a2 fd917) ((1 <<< (nI np &&& 31)) - 1) ((fcB (fun i c => ss (54 * i + c + 466)) 0 a2 na).map (rL ss))))), (4, .int (fo o1)), (5, .int w), (6, .int u2)]) hx hb dX11_turn_165 hl (k := 7) rfl (nI_add i 1) (by decide) rfl (fun ls hl => ?_)
              refine lv_goto (tgt := 52) hx hb dX11_turn_168 (by decide) ?_
              exact ih_27 o1 (i + 1) w u2 sa1 ly1 f_3 _ _ _ (by omega) (ho) (tnF_n (Q := (fun i => bt ((rlV np nr (fun i c => ss (3 * i + c + 250)) a2) &&& (whV np (nvF (fun i c => ss (4 * i + c + 10)) (fun t c => ss (10 * t + c + 1546)) ju910 a2 fd917) ((1 <<< (nI np &&& 31)) - 1) ((fcB (fun i c => ss (54 * i + c + 466)) 0 a2 na).map (rL ss)))) i && decide ((fun i c => ss (4 * i + c + 10)) i 0 = a1))) (ah := (ahB (fun t c => ss (10 * t + c + 1546)) ju910 a2 fd917)) hB (fun z => c_70 ((sr_iff (by omega)).mpr ((Bool.and_eq_true _ _).mp z.1).1))) (hlw) (by omega) (hmo) (hss_) (him_) (hkq_) (hsp_) (hwi_) (hwa_) (hva_) (hbo_) (hju_) (hdr_) (hdn_) (hsl_) (hax_) (hlf_) (hwh_) (hw6_) (hb6_) (fun j hj => (o_3 j (by omega))) hP hS (lv_sub hl [1, 2, 3, 4, 5, 6, 7, 0] rfl)
            · refine lv_aload_n hx hb dX11_turn_73 rfl (lv_at hl 0 rfl) ?_
              refine va_get (D := G.1) (ci := 10) (v := .ref (g 316)) (C := RX11) (T := TX11) (N := 25) hx hb hts inlX11 hown hG.1 hP 315 (wl_at (by decide) hmo) rfl 0 (by decide) (hts (.fieldLink RX11 7 "SwornListsModel" "st" "[I") w_112) (fun _ h9 => h9) rfl dX11_turn_74 ?_
              refine lv_bipush (v := 10) hx hb dX11_turn_77 (by decide) ?_
              refine lv_iconst (v := 4) hx hb dX11_turn_79 (by decide) ?_
              refine lv_iload hx hb dX11_turn_80 (lv_at hl 7 rfl) ?_
              refine lv_imul hx hb dX11_turn_82 ?_
              refine my_bei (v := nI (4 * i)) (pk_mul 4 i) ?_
              refine lv_iadd hx hb dX11_turn_83 ?_
              refine my_bei (v := nI (4 * i + 10)) ((nI_add 10 (4 * i)).trans (congrArg nI (show 10 + (4 * i) = 4 * i + 10 by omega))) ?_
              refine va_iald hx hb hG.1 hP 316 0 (wl_at (by decide) hss_) rfl (vp_in_nI (by omega) (by decide)) dX11_turn_84 ?_
              refine my_bei (v := ss (4 * i + 10)) (congrArg ss (nI_clamp (n := 4 * i + 10) (by omega))) ?_
              refine lv_iload_n hx hb dX11_turn_85 rfl (lv_at hl 1 rfl) ?_
              refine lv_icmp_ne (tgt := 165) hx hb dX11_turn_86 (by decide) (fun c_86 => ?_) (fun c_86 => ?_)
              · refine lv_iinc (v := nI (i + 1)) (lv' := [(7, .int (nI (i + 1))), (0, .ref (g 315)), (1, .int a1), (2, .int a2), (3, .int ((rlV np nr (fun i c => ss (3 * i + c + 250)) a2) &&& (whV np (nvF (fun i c => ss (4 * i + c + 10)) (fun t c => ss (10 * t + c + 1546)) ju910 a2 fd917) ((1 <<< (nI np &&& 31)) - 1) ((fcB (fun i c => ss (54 * i + c + 466)) 0 a2 na).map (rL ss))))), (4, .int (fo o1)), (5, .int w), (6, .int u2)]) hx hb dX11_turn_165 hl (k := 7) rfl (nI_add i 1) (by decide) rfl (fun ls hl => ?_)
                refine lv_goto (tgt := 52) hx hb dX11_turn_168 (by decide) ?_
                exact ih_27 o1 (i + 1) w u2 sa1 ly1 f_3 _ _ _ (by omega) (ho) (tnF_n (Q := (fun i => bt ((rlV np nr (fun i c => ss (3 * i + c + 250)) a2) &&& (whV np (nvF (fun i c => ss (4 * i + c + 10)) (fun t c => ss (10 * t + c + 1546)) ju910 a2 fd917) ((1 <<< (nI np &&& 31)) - 1) ((fcB (fun i c => ss (54 * i + c + 466)) 0 a2 na).map (rL ss)))) i && decide ((fun i c => ss (4 * i + c + 10)) i 0 = a1))) (ah := (ahB (fun t c => ss (10 * t + c + 1546)) ju910 a2 fd917)) hB (fun z => c_86 (of_decide_eq_true ((Bool.and_eq_true _ _).mp z.1).2))) (hlw) (by omega) (hmo) (hss_) (him_) (hkq_) (hsp_) (hwi_) (hwa_) (hva_) (hbo_) (hju_) (hdr_) (hdn_) (hsl_) (hax_) (hlf_) (hwh_) (hw6_) (hb6_) (fun j hj => (o_3 j (by omega))) hP hS (lv_sub hl [1, 2, 3, 4, 5, 6, 7, 0] rfl)
              · refine lv_aload_n hx hb dX11_turn_89 rfl (lv_at hl 0 rfl) ?_
                refine lv_iload hx hb dX11_turn_90 (lv_at hl 7 rfl) ?_
                refine lv_iload_n hx hb dX11_turn_92 rfl (lv_at hl 2 rfl) ?_
                refine b_callv (va_runV (As := [.int (nI i), .int a2]) (rest := []) ⟨hx, hb, hml, hown, hts⟩ (r_findSatE l G g hg f_3 ab2 be2 sn919 wn920 sa1 ly1 rdy916 fd917 ss ju910 i a2 hmo hss_ hju_ (by first | assumption | omega | decide) (by first | assumption | omega | decide) (fun o ho => htr.d0 o (by omega)) (fun o o' h1 h2 => htr.2 o o' h1 (by omega))) (my_cwV hts ok_X11_findSat w_548 rfl rfl ⟨Nat.le_of_ble_eq_true rfl, Nat.le_of_ble_eq_true rfl⟩) ⟨bP.blind, va_recv hG.1 hP (ci := 10) (q0 := 315) rfl (wl_at (by decide) hmo), fun U hU hW => ⟨rfl, by rw [hU]; exact hP, kG.warm hW hG⟩⟩ rfl rfl hl.1 rfl (lv_room (Nat.le_of_ble_eq_true rfl)) dX11_turn_93 ⟨Nat.le_of_ble_eq_true rfl, Nat.le_of_ble_eq_true rfl⟩) hS (fun f_4 H locs hq9 hP hS => ?_)
                obtain ⟨sa928, ly929, hq_4_0, hx_4_0, hx_4_1, o_4⟩ := hq9
                have hmo : f_4 315 = eO 10 [.ref (g 316), .ref (g 317), .ref (g 318), .long ab2, .long be2, .int sn919, .ref (g 319), .ref (g 320), .int wn920, .ref (g 321), .ref (g 322), .int (nI sa928), .int ly929, .int rdy916, .int (nI fd917), .ref (g 323), .ref (g 324), .ref (g 325), .ref (g 326), .ref (g 327), .ref (g 328), .ref (g 329), .ref (g 330), .ref (g 331), .ref (g 332)] := hq_4_0
                have hf0 := hx_4_0
                have hsx := satN_le (T := (fun t c => ss (10 * t + c + 1546))) (J := ju910) (day := a2) (p := i) fd917
                refine lv_aload_n hx hb dX11_turn_96 rfl (lv_at hl 0 rfl) ?_
                refine va_get (D := G.1) (ci := 10) (v := .int (nI sa928)) (C := RX11) (T := TX11) (N := 25) hx hb hts inlX11 hown hG.1 hP 315 (wl_at (by decide) hmo) rfl 11 (by decide) (hts (.fieldLink RX11 140 "SwornListsModel" "sat" "I") w_552) (fun _ h9 => h9) rfl dX11_turn_97 ?_
                refine lv_if_ne (tgt := 109) hx hb dX11_turn_100 (by decide) (fun c_100 => ?_) (fun c_100 => ?_)
                · have k_100 : ¬ sa928 = 0 := fun z9 => c_100 ((nI_eq (a := sa928) (b := 0) (by omega) (by omega)).mpr z9)
                  refine lv_iload_n hx hb dX11_turn_109 rfl (lv_at hl 2 rfl) ?_
                  refine lv_bipush (v := 100) hx hb dX11_turn_110 (by decide) ?_
                  refine lv_idiv hx hb dX11_turn_112 (by decide) ?_
                  refine lv_aload_n hx hb dX11_turn_113 rfl (lv_at hl 0 rfl) ?_
                  refine va_get (D := G.1) (ci := 10) (v := .int ly929) (C := RX11) (T := TX11) (N := 25) hx hb hts inlX11 hown hG.1 hP 315 (wl_at (by decide) hmo) rfl 12 (by decide) (hts (.fieldLink RX11 143 "SwornListsModel" "lastYear" "I") w_553) (fun _ h9 => h9) rfl dX11_turn_114 ?_
                  refine lv_isub hx hb dX11_turn_117 ?_
                  refine my_bei (v := (sinV (fun t c => ss (10 * t + c + 1546)) ju910 a2 i fd917)) ((hx_4_1.2 k_100).symm) ?_
                  refine lv_istore (lv' := [(8, .int (sinV (fun t c => ss (10 * t + c + 1546)) ju910 a2 i fd917)), (0, .ref (g 315)), (1, .int a1), (2, .int a2), (3, .int ((rlV np nr (fun i c => ss (3 * i + c + 250)) a2) &&& (whV np (nvF (fun i c => ss (4 * i + c + 10)) (fun t c => ss (10 * t + c + 1546)) ju910 a2 fd917) ((1 <<< (nI np &&& 31)) - 1) ((fcB (fun i c => ss (54 * i + c + 466)) 0 a2 na).map (rL ss))))), (4, .int (fo o1)), (5, .int w), (6, .int u2), (7, .int (nI i))]) hx hb dX11_turn_118 hl (by decide) rfl (fun ls hl => ?_)
                  refine lv_iload hx hb dX11_turn_120 (lv_at hl 5 rfl) ?_
                  refine lv_iconst (v := (-1)) hx hb dX11_turn_122 (by decide) ?_
                  refine lv_icmp_eq (tgt := 151) hx hb dX11_turn_123 (by decide) (fun c_123 => ?_) (fun c_123 => ?_)
                  · refine lv_iload hx hb dX11_turn_151 (lv_at hl 8 rfl) ?_
                    refine lv_istore (lv' := [(4, .int (nI i)), (8, .int (sinV (fun t c => ss (10 * t + c + 1546)) ju910 a2 i fd917)), (0, .ref (g 315)), (1, .int a1), (2, .int a2), (3, .int ((rlV np nr (fun i c => ss (3 * i + c + 250)) a2) &&& (whV np (nvF (fun i c => ss (4 * i + c + 10)) (fun t c => ss (10 * t + c + 1546)) ju910 a2 fd917) ((1 <<< (nI np &&& 31)) - 1) ((fcB (fun i c => ss (54 * i + c + 466)) 0 a2 na).map (rL ss))))), (5, .int w), (6, .int u2), (7, .int (nI i))]) hx hb dX11_turn_153 hl (by decide) rfl (fun ls hl => ?_)
                    refine lv_aload_n hx hb dX11_turn_155 rfl (lv_at hl 2 rfl) ?_
                    refine va_get (D := G.1) (ci := 10) (v := .int (nI sa928)) (C := RX11) (T := TX11) (N := 25) hx hb hts inlX11 hown hG.1 hP 315 (wl_at (by decide) hmo) rfl 11 (by decide) (hts (.fieldLink RX11 140 "SwornListsModel" "sat" "I") w_552) (fun _ h9 => h9) rfl dX11_turn_156 ?_
                    refine lv_istore (lv' := [(5, .int (nI sa928)), (4, .int (nI i)), (8, .int (sinV (fun t c => ss (10 * t + c + 1546)) ju910 a2 i fd917)), (0, .ref (g 315)), (1, .int a1), (2, .int a2), (3, .int ((rlV np nr (fun i c => ss (3 * i + c + 250)) a2) &&& (whV np (nvF (fun i c => ss (4 * i + c + 10)) (fun t c => ss (10 * t + c + 1546)) ju910 a2 fd917) ((1 <<< (nI np &&& 31)) - 1) ((fcB (fun i c => ss (54 * i + c + 466)) 0 a2 na).map (rL ss))))), (6, .int u2), (7, .int (nI i))]) hx hb dX11_turn_159 hl (by decide) rfl (fun ls hl => ?_)
                    refine lv_iload hx hb dX11_turn_161 (lv_at hl 2 rfl) ?_
                    refine lv_istore (lv' := [(6, .int (sinV (fun t c => ss (10 * t + c + 1546)) ju910 a2 i fd917)), (5, .int (nI sa928)), (4, .int (nI i)), (8, .int (sinV (fun t c => ss (10 * t + c + 1546)) ju910 a2 i fd917)), (0, .ref (g 315)), (1, .int a1), (2, .int a2), (3, .int ((rlV np nr (fun i c => ss (3 * i + c + 250)) a2) &&& (whV np (nvF (fun i c => ss (4 * i + c + 10)) (fun t c => ss (10 * t + c + 1546)) ju910 a2 fd917) ((1 <<< (nI np &&& 31)) - 1) ((fcB (fun i c => ss (54 * i + c + 466)) 0 a2 na).map (rL ss))))), (7, .int (nI i))]) hx hb dX11_turn_163 hl (by decide) rfl (fun ls hl => ?_)
                    refine lv_iinc (v := nI (i + 1)) (lv' := [(7, .int (nI (i + 1))), (6, .int (sinV (fun t c => ss (10 * t + c + 1546)) ju910 a2 i fd917)), (5, .int (nI sa928)), (4, .int (nI i)), (8, .int (sinV (fun t c => ss (10 * t + c + 1546)) ju910 a2 i fd917)), (0, .ref (g 315)), (1, .int a1), (2, .int a2), (3, .int ((rlV np nr (fun i c => ss (3 * i + c + 250)) a2) &&& (whV np (nvF (fun i c => ss (4 * i + c + 10)) (fun t c => ss (10 * t + c + 1546)) ju910 a2 fd917) ((1 <<< (nI np &&& 31)) - 1) ((fcB (fun i c => ss (54 * i + c + 466)) 0 a2 na).map (rL ss)))))]) hx hb dX11_turn_165 hl (k := 8) rfl (nI_add i 1) (by decide) rfl (fun ls hl => ?_)
                    refine lv_goto (tgt := 52) hx hb dX11_turn_168 (by decide) ?_
                    replace hss_ := ((o_4 316 (by first | decide | omega))).trans hss_
                    replace him_ := ((o_4 317 (by first | decide | omega))).trans him_
                    replace hkq_ := ((o_4 318 (by first | decide | omega))).trans hkq_
                    replace hsp_ := ((o_4 319 (by first | decide | omega))).trans hsp_
                    replace hwi_ := ((o_4 320 (by first | decide | omega))).trans hwi_
                    replace hwa_ := ((o_4 321 (by first | decide | omega))).trans hwa_
                    replace hva_ := ((o_4 322 (by first | decide | omega))).trans hva_
                    replace hbo_ := ((o_4 323 (by first | decide | omega))).trans hbo_
                    replace hju_ := ((o_4 324 (by first | decide | omega))).trans hju_
                    replace hdr_ := ((o_4 325 (by first | decide | omega))).trans hdr_
                    replace hdn_ := ((o_4 326 (by first | decide | omega))).trans hdn_
                    replace hsl_ := ((o_4 327 (by first | decide | omega))).trans hsl_
                    replace hax_ := ((o_4 328 (by first | decide | omega))).trans hax_
                    replace hlf_ := ((o_4 329 (by first | decide | omega))).trans hlf_
                    replace hwh_ := ((o_4 330 (by first | decide | omega))).trans hwh_
                    replace hw6_ := ((o_4 331 (by first | decide | omega))).trans hw6_
                    replace hb6_ := ((o_4 332 (by first | decide | omega))).trans hb6_
                    exact ih_27 (some i) (i + 1) (nI sa928) (sinV (fun t c => ss (10 * t + c + 1546)) ju910 a2 i fd917) (nI sa928) ly929 f_4 _ _ _ (by omega) (fun z hz => by cases hz; omega) (tnF_y (Q := (fun i => bt ((rlV np nr (fun i c => ss (3 * i + c + 250)) a2) &&& (whV np (nvF (fun i c => ss (4 * i + c + 10)) (fun t c => ss (10 * t + c + 1546)) ju910 a2 fd917) ((1 <<< (nI np &&& 31)) - 1) ((fcB (fun i c => ss (54 * i + c + 466)) 0 a2 na).map (rL ss)))) i && decide ((fun i c => ss (4 * i + c + 10)) i 0 = a1))) (ah := (ahB (fun t c => ss (10 * t + c + 1546)) ju910 a2 fd917)) (hB.trans (fo_none (by omega) ho c_123)) ((Bool.and_eq_true _ _).mpr ⟨(sr_iff (by omega)).mp c_70, decide_eq_true c_86⟩) rfl) ((fun z hz => by cases hz; exact ⟨by rw [← hf0], rfl⟩)) (by omega) (hmo) (hss_) (him_) (hkq_) (hsp_) (hwi_) (hwa_) (hva_) (hbo_) (hju_) (hdr_) (hdn_) (hsl_) (hax_) (hlf_) (hwh_) (hw6_) (hb6_) (fun j hj => ((o_4 j (by omega))).trans (o_3 j (by omega))) hP hS (lv_sub hl [5, 6, 7, 8, 3, 2, 1, 0] rfl)
                  · obtain ⟨b9, rfl⟩ : ∃ b, o1 = some b := by
                      cases o1 with
                      | none => exact absurd rfl c_123
                      | some z => exact ⟨z, rfl⟩
                    have hb9 := ho b9 rfl
                    obtain ⟨hw9, hu9⟩ := hlw b9 rfl
                    have hsy := satN_le (T := (fun t c => ss (10 * t + c + 1546))) (J := ju910) (day := a2) (p := b9) fd917
                    have hlt9 : nI sa928 < w → (satN (fun t c => ss (10 * t + c + 1546)) ju910 a2 i fd917) < (satN (fun t c => ss (10 * t + c + 1546)) ju910 a2 b9 fd917) := fun z => by
                      rw [hw9, hf0] at z
                      exact (nI_ltI (by omega) (by omega)).mp z
                    have hlt8 : (satN (fun t c => ss (10 * t + c + 1546)) ju910 a2 i fd917) < (satN (fun t c => ss (10 * t + c + 1546)) ju910 a2 b9 fd917) → nI sa928 < w := fun z => by
                      rw [hw9, hf0]
                      exact (nI_ltI (by omega) (by omega)).mpr z
                    have heq9 : nI sa928 = w → (satN (fun t c => ss (10 * t + c + 1546)) ju910 a2 i fd917) = (satN (fun t c => ss (10 * t + c + 1546)) ju910 a2 b9 fd917) := fun z => by
                      rw [hw9, hf0] at z
                      exact (nI_eq (by omega) (by omega)).mp z
                    have heq8 : (satN (fun t c => ss (10 * t + c + 1546)) ju910 a2 i fd917) = (satN (fun t c => ss (10 * t + c + 1546)) ju910 a2 b9 fd917) → nI sa928 = w := fun z => by
                      rw [hw9, hf0, z]
                    refine lv_aload_n hx hb dX11_turn_126 rfl (lv_at hl 1 rfl) ?_
                    refine va_get (D := G.1) (ci := 10) (v := .int (nI sa928)) (C := RX11) (T := TX11) (N := 25) hx hb hts inlX11 hown hG.1 hP 315 (wl_at (by decide) hmo) rfl 11 (by decide) (hts (.fieldLink RX11 140 "SwornListsModel" "sat" "I") w_552) (fun _ h9 => h9) rfl dX11_turn_127 ?_
                    refine lv_iload hx hb dX11_turn_130 (lv_at hl 6 rfl) ?_
                    refine lv_icmp_lt (tgt := 151) hx hb dX11_turn_132 (by decide) (fun c_132 => ?_) (fun c_132 => ?_)
                    · refine lv_iload hx hb dX11_turn_151 (lv_at hl 8 rfl) ?_
                      refine lv_istore (lv' := [(4, .int (nI i)), (8, .int (sinV (fun t c => ss (10 * t + c + 1546)) ju910 a2 i fd917)), (0, .ref (g 315)), (1, .int a1), (2, .int a2), (3, .int ((rlV np nr (fun i c => ss (3 * i + c + 250)) a2) &&& (whV np (nvF (fun i c => ss (4 * i + c + 10)) (fun t c => ss (10 * t + c + 1546)) ju910 a2 fd917) ((1 <<< (nI np &&& 31)) - 1) ((fcB (fun i c => ss (54 * i + c + 466)) 0 a2 na).map (rL ss))))), (5, .int w), (6, .int u2), (7, .int (nI i))]) hx hb dX11_turn_153 hl (by decide) rfl (fun ls hl => ?_)
                      refine lv_aload_n hx hb dX11_turn_155 rfl (lv_at hl 2 rfl) ?_
                      refine va_get (D := G.1) (ci := 10) (v := .int (nI sa928)) (C := RX11) (T := TX11) (N := 25) hx hb hts inlX11 hown hG.1 hP 315 (wl_at (by decide) hmo) rfl 11 (by decide) (hts (.fieldLink RX11 140 "SwornListsModel" "sat" "I") w_552) (fun _ h9 => h9) rfl dX11_turn_156 ?_
                      refine lv_istore (lv' := [(5, .int (nI sa928)), (4, .int (nI i)), (8, .int (sinV (fun t c => ss (10 * t + c + 1546)) ju910 a2 i fd917)), (0, .ref (g 315)), (1, .int a1), (2, .int a2), (3, .int ((rlV np nr (fun i c => ss (3 * i + c + 250)) a2) &&& (whV np (nvF (fun i c => ss (4 * i + c + 10)) (fun t c => ss (10 * t + c + 1546)) ju910 a2 fd917) ((1 <<< (nI np &&& 31)) - 1) ((fcB (fun i c => ss (54 * i + c + 466)) 0 a2 na).map (rL ss))))), (6, .int u2), (7, .int (nI i))]) hx hb dX11_turn_159 hl (by decide) rfl (fun ls hl => ?_)
                      refine lv_iload hx hb dX11_turn_161 (lv_at hl 2 rfl) ?_
                      refine lv_istore (lv' := [(6, .int (sinV (fun t c => ss (10 * t + c + 1546)) ju910 a2 i fd917)), (5, .int (nI sa928)), (4, .int (nI i)), (8, .int (sinV (fun t c => ss (10 * t + c + 1546)) ju910 a2 i fd917)), (0, .ref (g 315)), (1, .int a1), (2, .int a2), (3, .int ((rlV np nr (fun i c => ss (3 * i + c + 250)) a2) &&& (whV np (nvF (fun i c => ss (4 * i + c + 10)) (fun t c => ss (10 * t + c + 1546)) ju910 a2 fd917) ((1 <<< (nI np &&& 31)) - 1) ((fcB (fun i c => ss (54 * i + c + 466)) 0 a2 na).map (rL ss))))), (7, .int (nI i))]) hx hb dX11_turn_163 hl (by decide) rfl (fun ls hl => ?_)
                      refine lv_iinc (v := nI (i + 1)) (lv' := [(7, .int (nI (i + 1))), (6, .int (sinV (fun t c => ss (10 * t + c + 1546)) ju910 a2 i fd917)), (5, .int (nI sa928)), (4, .int (nI i)), (8, .int (sinV (fun t c => ss (10 * t + c + 1546)) ju910 a2 i fd917)), (0, .ref (g 315)), (1, .int a1), (2, .int a2), (3, .int ((rlV np nr (fun i c => ss (3 * i + c + 250)) a2) &&& (whV np (nvF (fun i c => ss (4 * i + c + 10)) (fun t c => ss (10 * t + c + 1546)) ju910 a2 fd917) ((1 <<< (nI np &&& 31)) - 1) ((fcB (fun i c => ss (54 * i + c + 466)) 0 a2 na).map (rL ss)))))]) hx hb dX11_turn_165 hl (k := 8) rfl (nI_add i 1) (by decide) rfl (fun ls hl => ?_)
                      refine lv_goto (tgt := 52) hx hb dX11_turn_168 (by decide) ?_
                      replace hss_ := ((o_4 316 (by first | decide | omega))).trans hss_
                      replace him_ := ((o_4 317 (by first | decide | omega))).trans him_
                      replace hkq_ := ((o_4 318 (by first | decide | omega))).trans hkq_
                      replace hsp_ := ((o_4 319 (by first | decide | omega))).trans hsp_
                      replace hwi_ := ((o_4 320 (by first | decide | omega))).trans hwi_
                      replace hwa_ := ((o_4 321 (by first | decide | omega))).trans hwa_
                      replace hva_ := ((o_4 322 (by first | decide | omega))).trans hva_
                      replace hbo_ := ((o_4 323 (by first | decide | omega))).trans hbo_
                      replace hju_ := ((o_4 324 (by first | decide | omega))).trans hju_
                      replace hdr_ := ((o_4 325 (by first | decide | omega))).trans hdr_
                      replace hdn_ := ((o_4 326 (by first | decide | omega))).trans hdn_
                      replace hsl_ := ((o_4 327 (by first | decide | omega))).trans hsl_
                      replace hax_ := ((o_4 328 (by first | decide | omega))).trans hax_
                      replace hlf_ := ((o_4 329 (by first | decide | omega))).trans hlf_
                      replace hwh_ := ((o_4 330 (by first | decide | omega))).trans hwh_
                      replace hw6_ := ((o_4 331 (by first | decide | omega))).trans hw6_
                      replace hb6_ := ((o_4 332 (by first | decide | omega))).trans hb6_
                      exact ih_27 (some i) (i + 1) (nI sa928) (sinV (fun t c => ss (10 * t + c + 1546)) ju910 a2 i fd917) (nI sa928) ly929 f_4 _ _ _ (by omega) (fun z hz => by cases hz; omega) (tnF_y (Q := (fun i => bt ((rlV np nr (fun i c => ss (3 * i + c + 250)) a2) &&& (whV np (nvF (fun i c => ss (4 * i + c + 10)) (fun t c => ss (10 * t + c + 1546)) ju910 a2 fd917) ((1 <<< (nI np &&& 31)) - 1) ((fcB (fun i c => ss (54 * i + c + 466)) 0 a2 na).map (rL ss)))) i && decide ((fun i c => ss (4 * i + c + 10)) i 0 = a1))) (ah := (ahB (fun t c => ss (10 * t + c + 1546)) ju910 a2 fd917)) hB ((Bool.and_eq_true _ _).mpr ⟨(sr_iff (by omega)).mp c_70, decide_eq_true c_86⟩) (ahB_iff.mpr (Or.inl (hlt9 c_132)))) ((fun z hz => by cases hz; exact ⟨by rw [← hf0], rfl⟩)) (by omega) (hmo) (hss_) (him_) (hkq_) (hsp_) (hwi_) (hwa_) (hva_) (hbo_) (hju_) (hdr_) (hdn_) (hsl_) (hax_) (hlf_) (hwh_) (hw6_) (hb6_) (fun j hj => ((o_4 j (by omega))).trans (o_3 j (by omega))) hP hS (lv_sub hl [5, 6, 7, 8, 3, 2, 1, 0] rfl)
                    · refine lv_aload_n hx hb dX11_turn_135 rfl (lv_at hl 1 rfl) ?_
                      refine va_get (D := G.1) (ci := 10) (v := .int (nI sa928)) (C := RX11) (T := TX11) (N := 25) hx hb hts inlX11 hown hG.1 hP 315 (wl_at (by decide) hmo) rfl 11 (by decide) (hts (.fieldLink RX11 140 "SwornListsModel" "sat" "I") w_552) (fun _ h9 => h9) rfl dX11_turn_136 ?_
                      refine lv_iload hx hb dX11_turn_139 (lv_at hl 6 rfl) ?_
                      refine lv_icmp_ne (tgt := 165) hx hb dX11_turn_141 (by decide) (fun c_141 => ?_) (fun c_141 => ?_)
                      · refine lv_iinc (v := nI (i + 1)) (lv' := [(7, .int (nI (i + 1))), (8, .int (sinV (fun t c => ss (10 * t + c + 1546)) ju910 a2 i fd917)), (0, .ref (g 315)), (1, .int a1), (2, .int a2), (3, .int ((rlV np nr (fun i c => ss (3 * i + c + 250)) a2) &&& (whV np (nvF (fun i c => ss (4 * i + c + 10)) (fun t c => ss (10 * t + c + 1546)) ju910 a2 fd917) ((1 <<< (nI np &&& 31)) - 1) ((fcB (fun i c => ss (54 * i + c + 466)) 0 a2 na).map (rL ss))))), (4, .int (nI b9)), (5, .int w), (6, .int u2)]) hx hb dX11_turn_165 hl (k := 8) rfl (nI_add i 1) (by decide) rfl (fun ls hl => ?_)
                        refine lv_goto (tgt := 52) hx hb dX11_turn_168 (by decide) ?_
                        replace hss_ := ((o_4 316 (by first | decide | omega))).trans hss_
                        replace him_ := ((o_4 317 (by first | decide | omega))).trans him_
                        replace hkq_ := ((o_4 318 (by first | decide | omega))).trans hkq_
                        replace hsp_ := ((o_4 319 (by first | decide | omega))).trans hsp_
                        replace hwi_ := ((o_4 320 (by first | decide | omega))).trans hwi_
                        replace hwa_ := ((o_4 321 (by first | decide | omega))).trans hwa_
                        replace hva_ := ((o_4 322 (by first | decide | omega))).trans hva_
                        replace hbo_ := ((o_4 323 (by first | decide | omega))).trans hbo_
                        replace hju_ := ((o_4 324 (by first | decide | omega))).trans hju_
                        replace hdr_ := ((o_4 325 (by first | decide | omega))).trans hdr_
                        replace hdn_ := ((o_4 326 (by first | decide | omega))).trans hdn_
                        replace hsl_ := ((o_4 327 (by first | decide | omega))).trans hsl_
                        replace hax_ := ((o_4 328 (by first | decide | omega))).trans hax_
                        replace hlf_ := ((o_4 329 (by first | decide | omega))).trans hlf_
                        replace hwh_ := ((o_4 330 (by first | decide | omega))).trans hwh_
                        replace hw6_ := ((o_4 331 (by first | decide | omega))).trans hw6_
                        replace hb6_ := ((o_4 332 (by first | decide | omega))).trans hb6_
                        exact ih_27 (some b9) (i + 1) w u2 (nI sa928) ly929 f_4 _ _ _ (by omega) (ho) (tnF_n (Q := (fun i => bt ((rlV np nr (fun i c => ss (3 * i + c + 250)) a2) &&& (whV np (nvF (fun i c => ss (4 * i + c + 10)) (fun t c => ss (10 * t + c + 1546)) ju910 a2 fd917) ((1 <<< (nI np &&& 31)) - 1) ((fcB (fun i c => ss (54 * i + c + 466)) 0 a2 na).map (rL ss)))) i && decide ((fun i c => ss (4 * i + c + 10)) i 0 = a1))) (ah := (ahB (fun t c => ss (10 * t + c + 1546)) ju910 a2 fd917)) hB (fun z => ((ahB_iff (T := (fun t c => ss (10 * t + c + 1546))) (J := ju910) (q := a2) (nt := fd917) (p := i) (r := b9)).mp z.2).elim (fun y => c_132 (hlt8 y)) (fun y => c_141 (heq8 y.1)))) (hlw) (by omega) (hmo) (hss_) (him_) (hkq_) (hsp_) (hwi_) (hwa_) (hva_) (hbo_) (hju_) (hdr_) (hdn_) (hsl_) (hax_) (hlf_) (hwh_) (hw6_) (hb6_) (fun j hj => ((o_4 j (by omega))).trans (o_3 j (by omega))) hP hS (lv_sub hl [2, 3, 4, 5, 6, 7, 8, 0] rfl)
                      · refine lv_iload hx hb dX11_turn_144 (lv_at hl 0 rfl) ?_
                        refine lv_iload hx hb dX11_turn_146 (lv_at hl 7 rfl) ?_
                        refine lv_icmp_le (tgt := 165) hx hb dX11_turn_148 (by decide) (fun c_148 => ?_) (fun c_148 => ?_)
                        · refine lv_iinc (v := nI (i + 1)) (lv' := [(7, .int (nI (i + 1))), (8, .int (sinV (fun t c => ss (10 * t + c + 1546)) ju910 a2 i fd917)), (0, .ref (g 315)), (1, .int a1), (2, .int a2), (3, .int ((rlV np nr (fun i c => ss (3 * i + c + 250)) a2) &&& (whV np (nvF (fun i c => ss (4 * i + c + 10)) (fun t c => ss (10 * t + c + 1546)) ju910 a2 fd917) ((1 <<< (nI np &&& 31)) - 1) ((fcB (fun i c => ss (54 * i + c + 466)) 0 a2 na).map (rL ss))))), (4, .int (nI b9)), (5, .int w), (6, .int u2)]) hx hb dX11_turn_165 hl (k := 8) rfl (nI_add i 1) (by decide) rfl (fun ls hl => ?_)
                          refine lv_goto (tgt := 52) hx hb dX11_turn_168 (by decide) ?_
                          replace hss_ := ((o_4 316 (by first | decide | omega))).trans hss_
                          replace him_ := ((o_4 317 (by first | decide | omega))).trans him_
                          replace hkq_ := ((o_4 318 (by first | decide | omega))).trans hkq_
                          replace hsp_ := ((o_4 319 (by first | decide | omega))).trans hsp_
                          replace hwi_ := ((o_4 320 (by first | decide | omega))).trans hwi_
                          replace hwa_ := ((o_4 321 (by first | decide | omega))).trans hwa_
                          replace hva_ := ((o_4 322 (by first | decide | omega))).trans hva_
                          replace hbo_ := ((o_4 323 (by first | decide | omega))).trans hbo_
                          replace hju_ := ((o_4 324 (by first | decide | omega))).trans hju_
                          replace hdr_ := ((o_4 325 (by first | decide | omega))).trans hdr_
                          replace hdn_ := ((o_4 326 (by first | decide | omega))).trans hdn_
                          replace hsl_ := ((o_4 327 (by first | decide | omega))).trans hsl_
                          replace hax_ := ((o_4 328 (by first | decide | omega))).trans hax_
                          replace hlf_ := ((o_4 329 (by first | decide | omega))).trans hlf_
                          replace hwh_ := ((o_4 330 (by first | decide | omega))).trans hwh_
                          replace hw6_ := ((o_4 331 (by first | decide | omega))).trans hw6_
                          replace hb6_ := ((o_4 332 (by first | decide | omega))).trans hb6_
                          exact ih_27 (some b9) (i + 1) w u2 (nI sa928) ly929 f_4 _ _ _ (by omega) (ho) (tnF_n (Q := (fun i => bt ((rlV np nr (fun i c => ss (3 * i + c + 250)) a2) &&& (whV np (nvF (fun i c => ss (4 * i + c + 10)) (fun t c => ss (10 * t + c + 1546)) ju910 a2 fd917) ((1 <<< (nI np &&& 31)) - 1) ((fcB (fun i c => ss (54 * i + c + 466)) 0 a2 na).map (rL ss)))) i && decide ((fun i c => ss (4 * i + c + 10)) i 0 = a1))) (ah := (ahB (fun t c => ss (10 * t + c + 1546)) ju910 a2 fd917)) hB (fun z => ((ahB_iff (T := (fun t c => ss (10 * t + c + 1546))) (J := ju910) (q := a2) (nt := fd917) (p := i) (r := b9)).mp z.2).elim (fun y => c_132 (hlt8 y)) (fun y => absurd y.2 (Int32.not_lt.mpr (by rw [hu9]; exact c_148))))) (hlw) (by omega) (hmo) (hss_) (him_) (hkq_) (hsp_) (hwi_) (hwa_) (hva_) (hbo_) (hju_) (hdr_) (hdn_) (hsl_) (hax_) (hlf_) (hwh_) (hw6_) (hb6_) (fun j hj => ((o_4 j (by omega))).trans (o_3 j (by omega))) hP hS (lv_sub hl [2, 3, 4, 5, 6, 7, 8, 0] rfl)
                        · refine lv_iload hx hb dX11_turn_151 (lv_at hl 8 rfl) ?_
                          refine lv_istore (lv' := [(4, .int (nI i)), (8, .int (sinV (fun t c => ss (10 * t + c + 1546)) ju910 a2 i fd917)), (0, .ref (g 315)), (1, .int a1), (2, .int a2), (3, .int ((rlV np nr (fun i c => ss (3 * i + c + 250)) a2) &&& (whV np (nvF (fun i c => ss (4 * i + c + 10)) (fun t c => ss (10 * t + c + 1546)) ju910 a2 fd917) ((1 <<< (nI np &&& 31)) - 1) ((fcB (fun i c => ss (54 * i + c + 466)) 0 a2 na).map (rL ss))))), (5, .int w), (6, .int u2), (7, .int (nI i))]) hx hb dX11_turn_153 hl (by decide) rfl (fun ls hl => ?_)
                          refine lv_aload_n hx hb dX11_turn_155 rfl (lv_at hl 2 rfl) ?_
                          refine va_get (D := G.1) (ci := 10) (v := .int (nI sa928)) (C := RX11) (T := TX11) (N := 25) hx hb hts inlX11 hown hG.1 hP 315 (wl_at (by decide) hmo) rfl 11 (by decide) (hts (.fieldLink RX11 140 "SwornListsModel" "sat" "I") w_552) (fun _ h9 => h9) rfl dX11_turn_156 ?_
                          refine lv_istore (lv' := [(5, .int (nI sa928)), (4, .int (nI i)), (8, .int (sinV (fun t c => ss (10 * t + c + 1546)) ju910 a2 i fd917)), (0, .ref (g 315)), (1, .int a1), (2, .int a2), (3, .int ((rlV np nr (fun i c => ss (3 * i + c + 250)) a2) &&& (whV np (nvF (fun i c => ss (4 * i + c + 10)) (fun t c => ss (10 * t + c + 1546)) ju910 a2 fd917) ((1 <<< (nI np &&& 31)) - 1) ((fcB (fun i c => ss (54 * i + c + 466)) 0 a2 na).map (rL ss))))), (6, .int u2), (7, .int (nI i))]) hx hb dX11_turn_159 hl (by decide) rfl (fun ls hl => ?_)
                          refine lv_iload hx hb dX11_turn_161 (lv_at hl 2 rfl) ?_
                          refine lv_istore (lv' := [(6, .int (sinV (fun t c => ss (10 * t + c + 1546)) ju910 a2 i fd917)), (5, .int (nI sa928)), (4, .int (nI i)), (8, .int (sinV (fun t c => ss (10 * t + c + 1546)) ju910 a2 i fd917)), (0, .ref (g 315)), (1, .int a1), (2, .int a2), (3, .int ((rlV np nr (fun i c => ss (3 * i + c + 250)) a2) &&& (whV np (nvF (fun i c => ss (4 * i + c + 10)) (fun t c => ss (10 * t + c + 1546)) ju910 a2 fd917) ((1 <<< (nI np &&& 31)) - 1) ((fcB (fun i c => ss (54 * i + c + 466)) 0 a2 na).map (rL ss))))), (7, .int (nI i))]) hx hb dX11_turn_163 hl (by decide) rfl (fun ls hl => ?_)
                          refine lv_iinc (v := nI (i + 1)) (lv' := [(7, .int (nI (i + 1))), (6, .int (sinV (fun t c => ss (10 * t + c + 1546)) ju910 a2 i fd917)), (5, .int (nI sa928)), (4, .int (nI i)), (8, .int (sinV (fun t c => ss (10 * t + c + 1546)) ju910 a2 i fd917)), (0, .ref (g 315)), (1, .int a1), (2, .int a2), (3, .int ((rlV np nr (fun i c => ss (3 * i + c + 250)) a2) &&& (whV np (nvF (fun i c => ss (4 * i + c + 10)) (fun t c => ss (10 * t + c + 1546)) ju910 a2 fd917) ((1 <<< (nI np &&& 31)) - 1) ((fcB (fun i c => ss (54 * i + c + 466)) 0 a2 na).map (rL ss)))))]) hx hb dX11_turn_165 hl (k := 8) rfl (nI_add i 1) (by decide) rfl (fun ls hl => ?_)
                          refine lv_goto (tgt := 52) hx hb dX11_turn_168 (by decide) ?_
                          replace hss_ := ((o_4 316 (by first | decide | omega))).trans hss_
                          replace him_ := ((o_4 317 (by first | decide | omega))).trans him_
                          replace hkq_ := ((o_4 318 (by first | decide | omega))).trans hkq_
                          replace hsp_ := ((o_4 319 (by first | decide | omega))).trans hsp_
                          replace hwi_ := ((o_4 320 (by first | decide | omega))).trans hwi_
                          replace hwa_ := ((o_4 321 (by first | decide | omega))).trans hwa_
                          replace hva_ := ((o_4 322 (by first | decide | omega))).trans hva_
                          replace hbo_ := ((o_4 323 (by first | decide | omega))).trans hbo_
                          replace hju_ := ((o_4 324 (by first | decide | omega))).trans hju_
                          replace hdr_ := ((o_4 325 (by first | decide | omega))).trans hdr_
                          replace hdn_ := ((o_4 326 (by first | decide | omega))).trans hdn_
                          replace hsl_ := ((o_4 327 (by first | decide | omega))).trans hsl_
                          replace hax_ := ((o_4 328 (by first | decide | omega))).trans hax_
                          replace hlf_ := ((o_4 329 (by first | decide | omega))).trans hlf_
                          replace hwh_ := ((o_4 330 (by first | decide | omega))).trans hwh_
                          replace hw6_ := ((o_4 331 (by first | decide | omega))).trans hw6_
                          replace hb6_ := ((o_4 332 (by first | decide | omega))).trans hb6_
                          exact ih_27 (some i) (i + 1) (nI sa928) (sinV (fun t c => ss (10 * t + c + 1546)) ju910 a2 i fd917) (nI sa928) ly929 f_4 _ _ _ (by omega) (fun z hz => by cases hz; omega) (tnF_y (Q := (fun i => bt ((rlV np nr (fun i c => ss (3 * i + c + 250)) a2) &&& (whV np (nvF (fun i c => ss (4 * i + c + 10)) (fun t c => ss (10 * t + c + 1546)) ju910 a2 fd917) ((1 <<< (nI np &&& 31)) - 1) ((fcB (fun i c => ss (54 * i + c + 466)) 0 a2 na).map (rL ss)))) i && decide ((fun i c => ss (4 * i + c + 10)) i 0 = a1))) (ah := (ahB (fun t c => ss (10 * t + c + 1546)) ju910 a2 fd917)) hB ((Bool.and_eq_true _ _).mpr ⟨(sr_iff (by omega)).mp c_70, decide_eq_true c_86⟩) (ahB_iff.mpr (Or.inr ⟨heq9 c_141, by rw [hu9]; exact Int32.not_le.mp c_148⟩))) ((fun z hz => by cases hz; exact ⟨by rw [← hf0], rfl⟩)) (by omega) (hmo) (hss_) (him_) (hkq_) (hsp_) (hwi_) (hwa_) (hva_) (hbo_) (hju_) (hdr_) (hdn_) (hsl_) (hax_) (hlf_) (hwh_) (hw6_) (hb6_) (fun j hj => ((o_4 j (by omega))).trans (o_3 j (by omega))) hP hS (lv_sub hl [5, 6, 7, 8, 3, 2, 1, 0] rfl)
                · have k_100 : sa928 = 0 := (nI_eq (a := sa928) (b := 0) (by omega) (by omega)).mp c_100
                  refine lv_sipush (v := 999) hx hb dX11_turn_103 (by decide) ?_
                  refine my_bei (v := (sinV (fun t c => ss (10 * t + c + 1546)) ju910 a2 i fd917)) ((hx_4_1.1 k_100).symm) ?_
                  refine lv_goto (tgt := 118) hx hb dX11_turn_106 (by decide) ?_
                  refine lv_istore (lv' := [(8, .int (sinV (fun t c => ss (10 * t + c + 1546)) ju910 a2 i fd917)), (0, .ref (g 315)), (1, .int a1), (2, .int a2), (3, .int ((rlV np nr (fun i c => ss (3 * i + c + 250)) a2) &&& (whV np (nvF (fun i c => ss (4 * i + c + 10)) (fun t c => ss (10 * t + c + 1546)) ju910 a2 fd917) ((1 <<< (nI np &&& 31)) - 1) ((fcB (fun i c => ss (54 * i + c + 466)) 0 a2 na).map (rL ss))))), (4, .int (fo o1)), (5, .int w), (6, .int u2), (7, .int (nI i))]) hx hb dX11_turn_118 hl (by decide) rfl (fun ls hl => ?_)
                  refine lv_iload hx hb dX11_turn_120 (lv_at hl 5 rfl) ?_
                  refine lv_iconst (v := (-1)) hx hb dX11_turn_122 (by decide) ?_
                  refine lv_icmp_eq (tgt := 151) hx hb dX11_turn_123 (by decide) (fun c_123 => ?_) (fun c_123 => ?_)
                  · refine lv_iload hx hb dX11_turn_151 (lv_at hl 8 rfl) ?_
                    refine lv_istore (lv' := [(4, .int (nI i)), (8, .int (sinV (fun t c => ss (10 * t + c + 1546)) ju910 a2 i fd917)), (0, .ref (g 315)), (1, .int a1), (2, .int a2), (3, .int ((rlV np nr (fun i c => ss (3 * i + c + 250)) a2) &&& (whV np (nvF (fun i c => ss (4 * i + c + 10)) (fun t c => ss (10 * t + c + 1546)) ju910 a2 fd917) ((1 <<< (nI np &&& 31)) - 1) ((fcB (fun i c => ss (54 * i + c + 466)) 0 a2 na).map (rL ss))))), (5, .int w), (6, .int u2), (7, .int (nI i))]) hx hb dX11_turn_153 hl (by decide) rfl (fun ls hl => ?_)
                    refine lv_aload_n hx hb dX11_turn_155 rfl (lv_at hl 2 rfl) ?_
                    refine va_get (D := G.1) (ci := 10) (v := .int (nI sa928)) (C := RX11) (T := TX11) (N := 25) hx hb hts inlX11 hown hG.1 hP 315 (wl_at (by decide) hmo) rfl 11 (by decide) (hts (.fieldLink RX11 140 "SwornListsModel" "sat" "I") w_552) (fun _ h9 => h9) rfl dX11_turn_156 ?_
                    refine lv_istore (lv' := [(5, .int (nI sa928)), (4, .int (nI i)), (8, .int (sinV (fun t c => ss (10 * t + c + 1546)) ju910 a2 i fd917)), (0, .ref (g 315)), (1, .int a1), (2, .int a2), (3, .int ((rlV np nr (fun i c => ss (3 * i + c + 250)) a2) &&& (whV np (nvF (fun i c => ss (4 * i + c + 10)) (fun t c => ss (10 * t + c + 1546)) ju910 a2 fd917) ((1 <<< (nI np &&& 31)) - 1) ((fcB (fun i c => ss (54 * i + c + 466)) 0 a2 na).map (rL ss))))), (6, .int u2), (7, .int (nI i))]) hx hb dX11_turn_159 hl (by decide) rfl (fun ls hl => ?_)
                    refine lv_iload hx hb dX11_turn_161 (lv_at hl 2 rfl) ?_
                    refine lv_istore (lv' := [(6, .int (sinV (fun t c => ss (10 * t + c + 1546)) ju910 a2 i fd917)), (5, .int (nI sa928)), (4, .int (nI i)), (8, .int (sinV (fun t c => ss (10 * t + c + 1546)) ju910 a2 i fd917)), (0, .ref (g 315)), (1, .int a1), (2, .int a2), (3, .int ((rlV np nr (fun i c => ss (3 * i + c + 250)) a2) &&& (whV np (nvF (fun i c => ss (4 * i + c + 10)) (fun t c => ss (10 * t + c + 1546)) ju910 a2 fd917) ((1 <<< (nI np &&& 31)) - 1) ((fcB (fun i c => ss (54 * i + c + 466)) 0 a2 na).map (rL ss))))), (7, .int (nI i))]) hx hb dX11_turn_163 hl (by decide) rfl (fun ls hl => ?_)
                    refine lv_iinc (v := nI (i + 1)) (lv' := [(7, .int (nI (i + 1))), (6, .int (sinV (fun t c => ss (10 * t + c + 1546)) ju910 a2 i fd917)), (5, .int (nI sa928)), (4, .int (nI i)), (8, .int (sinV (fun t c => ss (10 * t + c + 1546)) ju910 a2 i fd917)), (0, .ref (g 315)), (1, .int a1), (2, .int a2), (3, .int ((rlV np nr (fun i c => ss (3 * i + c + 250)) a2) &&& (whV np (nvF (fun i c => ss (4 * i + c + 10)) (fun t c => ss (10 * t + c + 1546)) ju910 a2 fd917) ((1 <<< (nI np &&& 31)) - 1) ((fcB (fun i c => ss (54 * i + c + 466)) 0 a2 na).map (rL ss)))))]) hx hb dX11_turn_165 hl (k := 8) rfl (nI_add i 1) (by decide) rfl (fun ls hl => ?_)
                    refine lv_goto (tgt := 52) hx hb dX11_turn_168 (by decide) ?_
                    replace hss_ := ((o_4 316 (by first | decide | omega))).trans hss_
                    replace him_ := ((o_4 317 (by first | decide | omega))).trans him_
                    replace hkq_ := ((o_4 318 (by first | decide | omega))).trans hkq_
                    replace hsp_ := ((o_4 319 (by first | decide | omega))).trans hsp_
                    replace hwi_ := ((o_4 320 (by first | decide | omega))).trans hwi_
                    replace hwa_ := ((o_4 321 (by first | decide | omega))).trans hwa_
                    replace hva_ := ((o_4 322 (by first | decide | omega))).trans hva_
                    replace hbo_ := ((o_4 323 (by first | decide | omega))).trans hbo_
                    replace hju_ := ((o_4 324 (by first | decide | omega))).trans hju_
                    replace hdr_ := ((o_4 325 (by first | decide | omega))).trans hdr_
                    replace hdn_ := ((o_4 326 (by first | decide | omega))).trans hdn_
                    replace hsl_ := ((o_4 327 (by first | decide | omega))).trans hsl_
                    replace hax_ := ((o_4 328 (by first | decide | omega))).trans hax_
                    replace hlf_ := ((o_4 329 (by first | decide | omega))).trans hlf_
                    replace hwh_ := ((o_4 330 (by first | decide | omega))).trans hwh_
                    replace hw6_ := ((o_4 331 (by first | decide | omega))).trans hw6_
                    replace hb6_ := ((o_4 332 (by first | decide | omega))).trans hb6_
                    exact ih_27 (some i) (i + 1) (nI sa928) (sinV (fun t c => ss (10 * t + c + 1546)) ju910 a2 i fd917) (nI sa928) ly929 f_4 _ _ _ (by omega) (fun z hz => by cases hz; omega) (tnF_y (Q := (fun i => bt ((rlV np nr (fun i c => ss (3 * i + c + 250)) a2) &&& (whV np (nvF (fun i c => ss (4 * i + c + 10)) (fun t c => ss (10 * t + c + 1546)) ju910 a2 fd917) ((1 <<< (nI np &&& 31)) - 1) ((fcB (fun i c => ss (54 * i + c + 466)) 0 a2 na).map (rL ss)))) i && decide ((fun i c => ss (4 * i + c + 10)) i 0 = a1))) (ah := (ahB (fun t c => ss (10 * t + c + 1546)) ju910 a2 fd917)) (hB.trans (fo_none (by omega) ho c_123)) ((Bool.and_eq_true _ _).mpr ⟨(sr_iff (by omega)).mp c_70, decide_eq_true c_86⟩) rfl) ((fun z hz => by cases hz; exact ⟨by rw [← hf0], rfl⟩)) (by omega) (hmo) (hss_) (him_) (hkq_) (hsp_) (hwi_) (hwa_) (hva_) (hbo_) (hju_) (hdr_) (hdn_) (hsl_) (hax_) (hlf_) (hwh_) (hw6_) (hb6_) (fun j hj => ((o_4 j (by omega))).trans (o_3 j (by omega))) hP hS (lv_sub hl [5, 6, 7, 8, 3, 2, 1, 0] rfl)
                  · obtain ⟨b9, rfl⟩ : ∃ b, o1 = some b := by
                      cases o1 with
                      | none => exact absurd rfl c_123
                      | some z => exact ⟨z, rfl⟩
                    have hb9 := ho b9 rfl
                    obtain ⟨hw9, hu9⟩ := hlw b9 rfl
                    have hsy := satN_le (T := (fun t c => ss (10 * t + c + 1546))) (J := ju910) (day := a2) (p := b9) fd917
                    have hlt9 : nI sa928 < w → (satN (fun t c => ss (10 * t + c + 1546)) ju910 a2 i fd917) < (satN (fun t c => ss (10 * t + c + 1546)) ju910 a2 b9 fd917) := fun z => by
                      rw [hw9, hf0] at z
                      exact (nI_ltI (by omega) (by omega)).mp z
                    have hlt8 : (satN (fun t c => ss (10 * t + c + 1546)) ju910 a2 i fd917) < (satN (fun t c => ss (10 * t + c + 1546)) ju910 a2 b9 fd917) → nI sa928 < w := fun z => by
                      rw [hw9, hf0]
                      exact (nI_ltI (by omega) (by omega)).mpr z
                    have heq9 : nI sa928 = w → (satN (fun t c => ss (10 * t + c + 1546)) ju910 a2 i fd917) = (satN (fun t c => ss (10 * t + c + 1546)) ju910 a2 b9 fd917) := fun z => by
                      rw [hw9, hf0] at z
                      exact (nI_eq (by omega) (by omega)).mp z
                    have heq8 : (satN (fun t c => ss (10 * t + c + 1546)) ju910 a2 i fd917) = (satN (fun t c => ss (10 * t + c + 1546)) ju910 a2 b9 fd917) → nI sa928 = w := fun z => by
                      rw [hw9, hf0, z]
                    refine lv_aload_n hx hb dX11_turn_126 rfl (lv_at hl 1 rfl) ?_
                    refine va_get (D := G.1) (ci := 10) (v := .int (nI sa928)) (C := RX11) (T := TX11) (N := 25) hx hb hts inlX11 hown hG.1 hP 315 (wl_at (by decide) hmo) rfl 11 (by decide) (hts (.fieldLink RX11 140 "SwornListsModel" "sat" "I") w_552) (fun _ h9 => h9) rfl dX11_turn_127 ?_
                    refine lv_iload hx hb dX11_turn_130 (lv_at hl 6 rfl) ?_
                    refine lv_icmp_lt (tgt := 151) hx hb dX11_turn_132 (by decide) (fun c_132 => ?_) (fun c_132 => ?_)
                    · refine lv_iload hx hb dX11_turn_151 (lv_at hl 8 rfl) ?_
                      refine lv_istore (lv' := [(4, .int (nI i)), (8, .int (sinV (fun t c => ss (10 * t + c + 1546)) ju910 a2 i fd917)), (0, .ref (g 315)), (1, .int a1), (2, .int a2), (3, .int ((rlV np nr (fun i c => ss (3 * i + c + 250)) a2) &&& (whV np (nvF (fun i c => ss (4 * i + c + 10)) (fun t c => ss (10 * t + c + 1546)) ju910 a2 fd917) ((1 <<< (nI np &&& 31)) - 1) ((fcB (fun i c => ss (54 * i + c + 466)) 0 a2 na).map (rL ss))))), (5, .int w), (6, .int u2), (7, .int (nI i))]) hx hb dX11_turn_153 hl (by decide) rfl (fun ls hl => ?_)
                      refine lv_aload_n hx hb dX11_turn_155 rfl (lv_at hl 2 rfl) ?_
                      refine va_get (D := G.1) (ci := 10) (v := .int (nI sa928)) (C := RX11) (T := TX11) (N := 25) hx hb hts inlX11 hown hG.1 hP 315 (wl_at (by decide) hmo) rfl 11 (by decide) (hts (.fieldLink RX11 140 "SwornListsModel" "sat" "I") w_552) (fun _ h9 => h9) rfl dX11_turn_156 ?_
                      refine lv_istore (lv' := [(5, .int (nI sa928)), (4, .int (nI i)), (8, .int (sinV (fun t c => ss (10 * t + c + 1546)) ju910 a2 i fd917)), (0, .ref (g 315)), (1, .int a1), (2, .int a2), (3, .int ((rlV np nr (fun i c => ss (3 * i + c + 250)) a2) &&& (whV np (nvF (fun i c => ss (4 * i + c + 10)) (fun t c => ss (10 * t + c + 1546)) ju910 a2 fd917) ((1 <<< (nI np &&& 31)) - 1) ((fcB (fun i c => ss (54 * i + c + 466)) 0 a2 na).map (rL ss))))), (6, .int u2), (7, .int (nI i))]) hx hb dX11_turn_159 hl (by decide) rfl (fun ls hl => ?_)
                      refine lv_iload hx hb dX11_turn_161 (lv_at hl 2 rfl) ?_
                      refine lv_istore (lv' := [(6, .int (sinV (fun t c => ss (10 * t + c + 1546)) ju910 a2 i fd917)), (5, .int (nI sa928)), (4, .int (nI i)), (8, .int (sinV (fun t c => ss (10 * t + c + 1546)) ju910 a2 i fd917)), (0, .ref (g 315)), (1, .int a1), (2, .int a2), (3, .int ((rlV np nr (fun i c => ss (3 * i + c + 250)) a2) &&& (whV np (nvF (fun i c => ss (4 * i + c + 10)) (fun t c => ss (10 * t + c + 1546)) ju910 a2 fd917) ((1 <<< (nI np &&& 31)) - 1) ((fcB (fun i c => ss (54 * i + c + 466)) 0 a2 na).map (rL ss))))), (7, .int (nI i))]) hx hb dX11_turn_163 hl (by decide) rfl (fun ls hl => ?_)
                      refine lv_iinc (v := nI (i + 1)) (lv' := [(7, .int (nI (i + 1))), (6, .int (sinV (fun t c => ss (10 * t + c + 1546)) ju910 a2 i fd917)), (5, .int (nI sa928)), (4, .int (nI i)), (8, .int (sinV (fun t c => ss (10 * t + c + 1546)) ju910 a2 i fd917)), (0, .ref (g 315)), (1, .int a1), (2, .int a2), (3, .int ((rlV np nr (fun i c => ss (3 * i + c + 250)) a2) &&& (whV np (nvF (fun i c => ss (4 * i + c + 10)) (fun t c => ss (10 * t + c + 1546)) ju910 a2 fd917) ((1 <<< (nI np &&& 31)) - 1) ((fcB (fun i c => ss (54 * i + c + 466)) 0 a2 na).map (rL ss)))))]) hx hb dX11_turn_165 hl (k := 8) rfl (nI_add i 1) (by decide) rfl (fun ls hl => ?_)
                      refine lv_goto (tgt := 52) hx hb dX11_turn_168 (by decide) ?_
                      replace hss_ := ((o_4 316 (by first | decide | omega))).trans hss_
                      replace him_ := ((o_4 317 (by first | decide | omega))).trans him_
                      replace hkq_ := ((o_4 318 (by first | decide | omega))).trans hkq_
                      replace hsp_ := ((o_4 319 (by first | decide | omega))).trans hsp_
                      replace hwi_ := ((o_4 320 (by first | decide | omega))).trans hwi_
                      replace hwa_ := ((o_4 321 (by first | decide | omega))).trans hwa_
                      replace hva_ := ((o_4 322 (by first | decide | omega))).trans hva_
                      replace hbo_ := ((o_4 323 (by first | decide | omega))).trans hbo_
                      replace hju_ := ((o_4 324 (by first | decide | omega))).trans hju_
                      replace hdr_ := ((o_4 325 (by first | decide | omega))).trans hdr_
                      replace hdn_ := ((o_4 326 (by first | decide | omega))).trans hdn_
                      replace hsl_ := ((o_4 327 (by first | decide | omega))).trans hsl_
                      replace hax_ := ((o_4 328 (by first | decide | omega))).trans hax_
                      replace hlf_ := ((o_4 329 (by first | decide | omega))).trans hlf_
                      replace hwh_ := ((o_4 330 (by first | decide | omega))).trans hwh_
                      replace hw6_ := ((o_4 331 (by first | decide | omega))).trans hw6_
                      replace hb6_ := ((o_4 332 (by first | decide | omega))).trans hb6_
                      exact ih_27 (some i) (i + 1) (nI sa928) (sinV (fun t c => ss (10 * t + c + 1546)) ju910 a2 i fd917) (nI sa928) ly929 f_4 _ _ _ (by omega) (fun z hz => by cases hz; omega) (tnF_y (Q := (fun i => bt ((rlV np nr (fun i c => ss (3 * i + c + 250)) a2) &&& (whV np (nvF (fun i c => ss (4 * i + c + 10)) (fun t c => ss (10 * t + c + 1546)) ju910 a2 fd917) ((1 <<< (nI np &&& 31)) - 1) ((fcB (fun i c => ss (54 * i + c + 466)) 0 a2 na).map (rL ss)))) i && decide ((fun i c => ss (4 * i + c + 10)) i 0 = a1))) (ah := (ahB (fun t c => ss (10 * t + c + 1546)) ju910 a2 fd917)) hB ((Bool.and_eq_true _ _).mpr ⟨(sr_iff (by omega)).mp c_70, decide_eq_true c_86⟩) (ahB_iff.mpr (Or.inl (hlt9 c_132)))) ((fun z hz => by cases hz; exact ⟨by rw [← hf0], rfl⟩)) (by omega) (hmo) (hss_) (him_) (hkq_) (hsp_) (hwi_) (hwa_) (hva_) (hbo_) (hju_) (hdr_) (hdn_) (hsl_) (hax_) (hlf_) (hwh_) (hw6_) (hb6_) (fun j hj => ((o_4 j (by omega))).trans (o_3 j (by omega))) hP hS (lv_sub hl [5, 6, 7, 8, 3, 2, 1, 0] rfl)
                    · refine lv_aload_n hx hb dX11_turn_135 rfl (lv_at hl 1 rfl) ?_
                      refine va_get (D := G.1) (ci := 10) (v := .int (nI sa928)) (C := RX11) (T := TX11) (N := 25) hx hb hts inlX11 hown hG.1 hP 315 (wl_at (by decide) hmo) rfl 11 (by decide) (hts (.fieldLink RX11 140 "SwornListsModel" "sat" "I") w_552) (fun _ h9 => h9) rfl dX11_turn_136 ?_
                      refine lv_iload hx hb dX11_turn_139 (lv_at hl 6 rfl) ?_
                      refine lv_icmp_ne (tgt := 165) hx hb dX11_turn_141 (by decide) (fun c_141 => ?_) (fun c_141 => ?_)
                      · refine lv_iinc (v := nI (i + 1)) (lv' := [(7, .int (nI (i + 1))), (8, .int (sinV (fun t c => ss (10 * t + c + 1546)) ju910 a2 i fd917)), (0, .ref (g 315)), (1, .int a1), (2, .int a2), (3, .int ((rlV np nr (fun i c => ss (3 * i + c + 250)) a2) &&& (whV np (nvF (fun i c => ss (4 * i + c + 10)) (fun t c => ss (10 * t + c + 1546)) ju910 a2 fd917) ((1 <<< (nI np &&& 31)) - 1) ((fcB (fun i c => ss (54 * i + c + 466)) 0 a2 na).map (rL ss))))), (4, .int (nI b9)), (5, .int w), (6, .int u2)]) hx hb dX11_turn_165 hl (k := 8) rfl (nI_add i 1) (by decide) rfl (fun ls hl => ?_)
                        refine lv_goto (tgt := 52) hx hb dX11_turn_168 (by decide) ?_
                        replace hss_ := ((o_4 316 (by first | decide | omega))).trans hss_
                        replace him_ := ((o_4 317 (by first | decide | omega))).trans him_
                        replace hkq_ := ((o_4 318 (by first | decide | omega))).trans hkq_
                        replace hsp_ := ((o_4 319 (by first | decide | omega))).trans hsp_
                        replace hwi_ := ((o_4 320 (by first | decide | omega))).trans hwi_
                        replace hwa_ := ((o_4 321 (by first | decide | omega))).trans hwa_
                        replace hva_ := ((o_4 322 (by first | decide | omega))).trans hva_
                        replace hbo_ := ((o_4 323 (by first | decide | omega))).trans hbo_
                        replace hju_ := ((o_4 324 (by first | decide | omega))).trans hju_
                        replace hdr_ := ((o_4 325 (by first | decide | omega))).trans hdr_
                        replace hdn_ := ((o_4 326 (by first | decide | omega))).trans hdn_
                        replace hsl_ := ((o_4 327 (by first | decide | omega))).trans hsl_
                        replace hax_ := ((o_4 328 (by first | decide | omega))).trans hax_
                        replace hlf_ := ((o_4 329 (by first | decide | omega))).trans hlf_
                        replace hwh_ := ((o_4 330 (by first | decide | omega))).trans hwh_
                        replace hw6_ := ((o_4 331 (by first | decide | omega))).trans hw6_
                        replace hb6_ := ((o_4 332 (by first | decide | omega))).trans hb6_
                        exact ih_27 (some b9) (i + 1) w u2 (nI sa928) ly929 f_4 _ _ _ (by omega) (ho) (tnF_n (Q := (fun i => bt ((rlV np nr (fun i c => ss (3 * i + c + 250)) a2) &&& (whV np (nvF (fun i c => ss (4 * i + c + 10)) (fun t c => ss (10 * t + c + 1546)) ju910 a2 fd917) ((1 <<< (nI np &&& 31)) - 1) ((fcB (fun i c => ss (54 * i + c + 466)) 0 a2 na).map (rL ss)))) i && decide ((fun i c => ss (4 * i + c + 10)) i 0 = a1))) (ah := (ahB (fun t c => ss (10 * t + c + 1546)) ju910 a2 fd917)) hB (fun z => ((ahB_iff (T := (fun t c => ss (10 * t + c + 1546))) (J := ju910) (q := a2) (nt := fd917) (p := i) (r := b9)).mp z.2).elim (fun y => c_132 (hlt8 y)) (fun y => c_141 (heq8 y.1)))) (hlw) (by omega) (hmo) (hss_) (him_) (hkq_) (hsp_) (hwi_) (hwa_) (hva_) (hbo_) (hju_) (hdr_) (hdn_) (hsl_) (hax_) (hlf_) (hwh_) (hw6_) (hb6_) (fun j hj => ((o_4 j (by omega))).trans (o_3 j (by omega))) hP hS (lv_sub hl [2, 3, 4, 5, 6, 7, 8, 0] rfl)
                      · refine lv_iload hx hb dX11_turn_144 (lv_at hl 0 rfl) ?_
                        refine lv_iload hx hb dX11_turn_146 (lv_at hl 7 rfl) ?_
                        refine lv_icmp_le (tgt := 165) hx hb dX11_turn_148 (by decide) (fun c_148 => ?_) (fun c_148 => ?_)
                        · refine lv_iinc (v := nI (i + 1)) (lv' := [(7, .int (nI (i + 1))), (8, .int (sinV (fun t c => ss (10 * t + c + 1546)) ju910 a2 i fd917)), (0, .ref (g 315)), (1, .int a1), (2, .int a2), (3, .int ((rlV np nr (fun i c => ss (3 * i + c + 250)) a2) &&& (whV np (nvF (fun i c => ss (4 * i + c + 10)) (fun t c => ss (10 * t + c + 1546)) ju910 a2 fd917) ((1 <<< (nI np &&& 31)) - 1) ((fcB (fun i c => ss (54 * i + c + 466)) 0 a2 na).map (rL ss))))), (4, .int (nI b9)), (5, .int w), (6, .int u2)]) hx hb dX11_turn_165 hl (k := 8) rfl (nI_add i 1) (by decide) rfl (fun ls hl => ?_)
                          refine lv_goto (tgt := 52) hx hb dX11_turn_168 (by decide) ?_
                          replace hss_ := ((o_4 316 (by first | decide | omega))).trans hss_
                          replace him_ := ((o_4 317 (by first | decide | omega))).trans him_
                          replace hkq_ := ((o_4 318 (by first | decide | omega))).trans hkq_
                          replace hsp_ := ((o_4 319 (by first | decide | omega))).trans hsp_
                          replace hwi_ := ((o_4 320 (by first | decide | omega))).trans hwi_
                          replace hwa_ := ((o_4 321 (by first | decide | omega))).trans hwa_
                          replace hva_ := ((o_4 322 (by first | decide | omega))).trans hva_
                          replace hbo_ := ((o_4 323 (by first | decide | omega))).trans hbo_
                          replace hju_ := ((o_4 324 (by first | decide | omega))).trans hju_
                          replace hdr_ := ((o_4 325 (by first | decide | omega))).trans hdr_
                          replace hdn_ := ((o_4 326 (by first | decide | omega))).trans hdn_
                          replace hsl_ := ((o_4 327 (by first | decide | omega))).trans hsl_
                          replace hax_ := ((o_4 328 (by first | decide | omega))).trans hax_
                          replace hlf_ := ((o_4 329 (by first | decide | omega))).trans hlf_
                          replace hwh_ := ((o_4 330 (by first | decide | omega))).trans hwh_
                          replace hw6_ := ((o_4 331 (by first | decide | omega))).trans hw6_
                          replace hb6_ := ((o_4 332 (by first | decide | omega))).trans hb6_
                          exact ih_27 (some b9) (i + 1) w u2 (nI sa928) ly929 f_4 _ _ _ (by omega) (ho) (tnF_n (Q := (fun i => bt ((rlV np nr (fun i c => ss (3 * i + c + 250)) a2) &&& (whV np (nvF (fun i c => ss (4 * i + c + 10)) (fun t c => ss (10 * t + c + 1546)) ju910 a2 fd917) ((1 <<< (nI np &&& 31)) - 1) ((fcB (fun i c => ss (54 * i + c + 466)) 0 a2 na).map (rL ss)))) i && decide ((fun i c => ss (4 * i + c + 10)) i 0 = a1))) (ah := (ahB (fun t c => ss (10 * t + c + 1546)) ju910 a2 fd917)) hB (fun z => ((ahB_iff (T := (fun t c => ss (10 * t + c + 1546))) (J := ju910) (q := a2) (nt := fd917) (p := i) (r := b9)).mp z.2).elim (fun y => c_132 (hlt8 y)) (fun y => absurd y.2 (Int32.not_lt.mpr (by rw [hu9]; exact c_148))))) (hlw) (by omega) (hmo) (hss_) (him_) (hkq_) (hsp_) (hwi_) (hwa_) (hva_) (hbo_) (hju_) (hdr_) (hdn_) (hsl_) (hax_) (hlf_) (hwh_) (hw6_) (hb6_) (fun j hj => ((o_4 j (by omega))).trans (o_3 j (by omega))) hP hS (lv_sub hl [2, 3, 4, 5, 6, 7, 8, 0] rfl)
                        · refine lv_iload hx hb dX11_turn_151 (lv_at hl 8 rfl) ?_
                          refine lv_istore (lv' := [(4, .int (nI i)), (8, .int (sinV (fun t c => ss (10 * t + c + 1546)) ju910 a2 i fd917)), (0, .ref (g 315)), (1, .int a1), (2, .int a2), (3, .int ((rlV np nr (fun i c => ss (3 * i + c + 250)) a2) &&& (whV np (nvF (fun i c => ss (4 * i + c + 10)) (fun t c => ss (10 * t + c + 1546)) ju910 a2 fd917) ((1 <<< (nI np &&& 31)) - 1) ((fcB (fun i c => ss (54 * i + c + 466)) 0 a2 na).map (rL ss))))), (5, .int w), (6, .int u2), (7, .int (nI i))]) hx hb dX11_turn_153 hl (by decide) rfl (fun ls hl => ?_)
                          refine lv_aload_n hx hb dX11_turn_155 rfl (lv_at hl 2 rfl) ?_
                          refine va_get (D := G.1) (ci := 10) (v := .int (nI sa928)) (C := RX11) (T := TX11) (N := 25) hx hb hts inlX11 hown hG.1 hP 315 (wl_at (by decide) hmo) rfl 11 (by decide) (hts (.fieldLink RX11 140 "SwornListsModel" "sat" "I") w_552) (fun _ h9 => h9) rfl dX11_turn_156 ?_
                          refine lv_istore (lv' := [(5, .int (nI sa928)), (4, .int (nI i)), (8, .int (sinV (fun t c => ss (10 * t + c + 1546)) ju910 a2 i fd917)), (0, .ref (g 315)), (1, .int a1), (2, .int a2), (3, .int ((rlV np nr (fun i c => ss (3 * i + c + 250)) a2) &&& (whV np (nvF (fun i c => ss (4 * i + c + 10)) (fun t c => ss (10 * t + c + 1546)) ju910 a2 fd917) ((1 <<< (nI np &&& 31)) - 1) ((fcB (fun i c => ss (54 * i + c + 466)) 0 a2 na).map (rL ss))))), (6, .int u2), (7, .int (nI i))]) hx hb dX11_turn_159 hl (by decide) rfl (fun ls hl => ?_)
                          refine lv_iload hx hb dX11_turn_161 (lv_at hl 2 rfl) ?_
                          refine lv_istore (lv' := [(6, .int (sinV (fun t c => ss (10 * t + c + 1546)) ju910 a2 i fd917)), (5, .int (nI sa928)), (4, .int (nI i)), (8, .int (sinV (fun t c => ss (10 * t + c + 1546)) ju910 a2 i fd917)), (0, .ref (g 315)), (1, .int a1), (2, .int a2), (3, .int ((rlV np nr (fun i c => ss (3 * i + c + 250)) a2) &&& (whV np (nvF (fun i c => ss (4 * i + c + 10)) (fun t c => ss (10 * t + c + 1546)) ju910 a2 fd917) ((1 <<< (nI np &&& 31)) - 1) ((fcB (fun i c => ss (54 * i + c + 466)) 0 a2 na).map (rL ss))))), (7, .int (nI i))]) hx hb dX11_turn_163 hl (by decide) rfl (fun ls hl => ?_)
                          refine lv_iinc (v := nI (i + 1)) (lv' := [(7, .int (nI (i + 1))), (6, .int (sinV (fun t c => ss (10 * t + c + 1546)) ju910 a2 i fd917)), (5, .int (nI sa928)), (4, .int (nI i)), (8, .int (sinV (fun t c => ss (10 * t + c + 1546)) ju910 a2 i fd917)), (0, .ref (g 315)), (1, .int a1), (2, .int a2), (3, .int ((rlV np nr (fun i c => ss (3 * i + c + 250)) a2) &&& (whV np (nvF (fun i c => ss (4 * i + c + 10)) (fun t c => ss (10 * t + c + 1546)) ju910 a2 fd917) ((1 <<< (nI np &&& 31)) - 1) ((fcB (fun i c => ss (54 * i + c + 466)) 0 a2 na).map (rL ss)))))]) hx hb dX11_turn_165 hl (k := 8) rfl (nI_add i 1) (by decide) rfl (fun ls hl => ?_)
                          refine lv_goto (tgt := 52) hx hb dX11_turn_168 (by decide) ?_
                          replace hss_ := ((o_4 316 (by first | decide | omega))).trans hss_
                          replace him_ := ((o_4 317 (by first | decide | omega))).trans him_
                          replace hkq_ := ((o_4 318 (by first | decide | omega))).trans hkq_
                          replace hsp_ := ((o_4 319 (by first | decide | omega))).trans hsp_
                          replace hwi_ := ((o_4 320 (by first | decide | omega))).trans hwi_
                          replace hwa_ := ((o_4 321 (by first | decide | omega))).trans hwa_
                          replace hva_ := ((o_4 322 (by first | decide | omega))).trans hva_
                          replace hbo_ := ((o_4 323 (by first | decide | omega))).trans hbo_
                          replace hju_ := ((o_4 324 (by first | decide | omega))).trans hju_
                          replace hdr_ := ((o_4 325 (by first | decide | omega))).trans hdr_
                          replace hdn_ := ((o_4 326 (by first | decide | omega))).trans hdn_
                          replace hsl_ := ((o_4 327 (by first | decide | omega))).trans hsl_
                          replace hax_ := ((o_4 328 (by first | decide | omega))).trans hax_
                          replace hlf_ := ((o_4 329 (by first | decide | omega))).trans hlf_
                          replace hwh_ := ((o_4 330 (by first | decide | omega))).trans hwh_
                          replace hw6_ := ((o_4 331 (by first | decide | omega))).trans hw6_
                          replace hb6_ := ((o_4 332 (by first | decide | omega))).trans hb6_
                          exact ih_27 (some i) (i + 1) (nI sa928) (sinV (fun t c => ss (10 * t + c + 1546)) ju910 a2 i fd917) (nI sa928) ly929 f_4 _ _ _ (by omega) (fun z hz => by cases hz; omega) (tnF_y (Q := (fun i => bt ((rlV np nr (fun i c => ss (3 * i + c + 250)) a2) &&& (whV np (nvF (fun i c => ss (4 * i + c + 10)) (fun t c => ss (10 * t + c + 1546)) ju910 a2 fd917) ((1 <<< (nI np &&& 31)) - 1) ((fcB (fun i c => ss (54 * i + c + 466)) 0 a2 na).map (rL ss)))) i && decide ((fun i c => ss (4 * i + c + 10)) i 0 = a1))) (ah := (ahB (fun t c => ss (10 * t + c + 1546)) ju910 a2 fd917)) hB ((Bool.and_eq_true _ _).mpr ⟨(sr_iff (by omega)).mp c_70, decide_eq_true c_86⟩) (ahB_iff.mpr (Or.inr ⟨heq9 c_141, by rw [hu9]; exact Int32.not_le.mp c_148⟩))) ((fun z hz => by cases hz; exact ⟨by rw [← hf0], rfl⟩)) (by omega) (hmo) (hss_) (him_) (hkq_) (hsp_) (hwi_) (hwa_) (hva_) (hbo_) (hju_) (hdr_) (hdn_) (hsl_) (hax_) (hlf_) (hwh_) (hw6_) (hb6_) (fun j hj => ((o_4 j (by omega))).trans (o_3 j (by omega))) hP hS (lv_sub hl [5, 6, 7, 8, 3, 2, 1, 0] rfl)
      exact key27 (np + 1) none 0 0 0 sa921 ly922 f_2 _ _ _ (Nat.zero_le _) (fun z hz => by cases hz) (rfl) (fun z hz => by cases hz) (by omega) (hmo) (hss_) (him_) (hkq_) (hsp_) (hwi_) (hwa_) (hva_) (hbo_) (hju_) (hdr_) (hdn_) (hsl_) (hax_) (hlf_) (hwh_) (hw6_) (hb6_) (fun j _ => rfl) hP hS (lv_sub hl [5, 6, 7, 4, 3, 2, 1, 0] rfl)
    · refine lv_bipush (v := (-2)) hx hb dX11_turn_19 (by decide) ?_
      refine W_q9 hQ9 ?_
      exact W.iret (v := (-2)) hx hb hr (fun _ hT9 _ => ⟨⟨_, f, rfl, (⟨mJ_mk (ab2) (be2) (sn) (wn) (sa) (ly) (rdy) (fd) (np) (nf) (nr) (na) (nt) (sp) (wi) (wa) (va) (bo) (ju) (dr) (dn) (sl) (ax) (lf) (wh) (w6) (b6) (hmo) (hss_) (him_) (hkq_) (hsp_) (hwi_) (hwa_) (hva_) (hbo_) (hju_) (hdr_) (hdn_) (hsl_) (hax_) (hlf_) (hwh_) (hw6_) (hb6_) (hst) (by omega) (hdn) (hi0) (hi1) (hrd), ⟨np, nf, nr, na, nt, hst, Or.inl ⟨fun z => c_16 z.2, rfl⟩⟩, fun j hj => rfl⟩), by rw [hT9]; exact hP⟩, hS.F hT9⟩) hS.2.2 dX11_turn_21
theorem j2_turn (l : Launch) (G : gW) (g : Nat → Nat) (hg : gOK g) (f : Nat → va_E) (ss : Nat → Int32) (im : Nat → Int32) (kq : Nat → Int32) (a1 : Int32) (a2 : Int32) (hI : mJ G g f ss im kq) (htA : ∀ n : Nat, n ≤ 10 → ss 4 = nI n → trOK ss n) : Met l yX11_turn (wsT yX11_turn cX11_turn 9 (some .int)) ({ frames := 7, cells := 0, slots := 0, locals := 173 }) (bP G g f [.ref (g 315), .int a1, .int a2]) (bQi G g (fun (z9 : Int32) (f' : Nat → va_E) => (mJ G g f' ss im kq) ∧ (∃ p9 f9 r9 u9 t9, stOK ss p9 f9 r9 u9 t9 ∧ ((¬ (inB 0 a1 3 = true ∧ inB 0 a2 9999 = true) ∧ z9 = -2) ∨ ((inB 0 a1 3 = true ∧ inB 0 a2 9999 = true) ∧ z9 = tuV p9 t9 (fun i c => ss (4 * i + c + 10)) (fun t c => ss (10 * t + c + 1546)) (rJr p9 f9 r9 u9 ss) a2 (rlV p9 r9 (fun i c => ss (3 * i + c + 250)) a2 &&& sO (fun i => decide ((fun i c => ss (4 * i + c + 10)) i 0 = a1)) p9) ((fcB (fun i c => ss (54 * i + c + 466)) 0 a2 u9).map (rL ss))))) ∧ ∀ j, j < 315 → f' j = f j)) 0 0 (gA g) := mJ_elim hI (fun ab2 be2 sn wn sa ly rdy fd np nf nr na nt sp wi wa va bo ju dr dn sl ax lf wh w6 b6 hmo hss_ him_ hkq_ hsp_ hwi_ hwa_ hva_ hbo_ hju_ hdr_ hdn_ hsl_ hax_ hlf_ hwh_ hw6_ hb6_ hst hfo hdn hi0 hi1 hrd => jn2_turn l G g hg f ab2 be2 sn wn sa ly rdy fd ss np nf nr na nt im kq sp wi wa va bo ju dr dn sl ax lf wh w6 b6 a1 a2 hmo hss_ him_ hkq_ hsp_ hwi_ hwa_ hva_ hbo_ hju_ hdr_ hdn_ hsl_ hax_ hlf_ hwh_ hw6_ hb6_ hst hfo hdn hi0 hi1 hrd htA)
set_option maxHeartbeats 4000000 in
set_option maxRecDepth 100000 in
theorem jn2_count (l : Launch) (G : gW) (g : Nat → Nat) (hg : gOK g) (f : Nat → va_E) (ab2 : Int64) (be2 : Int64) (sn : Int32) (wn : Int32) (sa : Int32) (ly : Int32) (rdy : Int32) (fd : Nat) (ss : Nat → Int32) (np : Nat) (nf : Nat) (nr : Nat) (na : Nat) (nt : Nat) (im : Nat → Int32) (kq : Nat → Int32) (sp : Nat → Int32) (wi : Nat → Int32) (wa : Nat → Int32) (va : Nat → Int64) (bo : Nat → Int32) (ju : Nat → Int32) (dr : Nat → Int32) (dn : Nat → Int32) (sl : Nat → Int32) (ax : Nat → Int32) (lf : Nat → Int32) (wh : Nat → Int32) (w6 : Nat → Int32) (b6 : Nat → Int32) (a1 : Int32) (hmo : f 315 = eO 10 [.ref (g 316), .ref (g 317), .ref (g 318), .long ab2, .long be2, .int sn, .ref (g 319), .ref (g 320), .int wn, .ref (g 321), .ref (g 322), .int sa, .int ly, .int rdy, .int (nI fd), .ref (g 323), .ref (g 324), .ref (g 325), .ref (g 326), .ref (g 327), .ref (g 328), .ref (g 329), .ref (g 330), .ref (g 331), .ref (g 332)]) (hss_ : f 316 = eI G 2246 ss) (him_ : f 317 = eI G 4492 im) (hkq_ : f 318 = eZ G 2 kq) (hsp_ : f 319 = eI G 70 sp) (hwi_ : f 320 = eI G 70 wi) (hwa_ : f 321 = eI G 70 wa) (hva_ : f 322 = eJ G 70 va) (hbo_ : f 323 = eI G 11 bo) (hju_ : f 324 = eI G 11 ju) (hdr_ : f 325 = eI G 264 dr) (hdn_ : f 326 = eI G 11 dn) (hsl_ : f 327 = eI G 330 sl) (hax_ : f 328 = eI G 44 ax) (hlf_ : f 329 = eI G 30 lf) (hwh_ : f 330 = eI G 6 wh) (hw6_ : f 331 = eI G 6 w6) (hb6_ : f 332 = eI G 6 b6) (hst : stOK ss np nf nr na nt) (hfo : fd ≤ 10) (hdn : ∀ k, k < 11 → ∃ d, d ≤ 24 ∧ dn k = nI d) (hi0 : stI im 0) (hi1 : stI im 2246) (hrd : ¬ rdy = 0 → fd = nt ∧ ∀ z, z < nt → rHz np nf nr na ss bo ju dr dn sl ax z) (htA : ∀ n : Nat, n ≤ 10 → ss 4 = nI n → trOK ss n) : Met l yX11_count (wsT yX11_count cX11_count 2 (some .int)) ({ frames := 8, cells := 0, slots := 0, locals := 196 }) (bP G g f [.ref (g 315), .int a1]) (bQi G g (fun (z9 : Int32) (f' : Nat → va_E) => (mJ G g f' ss im kq) ∧ (∃ p9 f9 r9 u9 t9, stOK ss p9 f9 r9 u9 t9 ∧ ((¬ inB 0 a1 5 = true ∧ z9 = -2) ∨ (inB 0 a1 5 = true ∧ z9 = cnV p9 f9 r9 u9 t9 (jcn (rJr p9 f9 r9 u9 ss) t9) a1))) ∧ ∀ j, j < 315 → f' j = f j)) 0 0 (gA g) := by
  refine Met.ofW (cc := cX11_count) (maxL := 2) (ret := (some .int)) (by decide) rfl ?_
  intro p e s m args below meth c s₁ B hml hv
  obtain ⟨rfl, hP, hG⟩ := hv
  have hx := B.exec
  have hb := B.bytes
  have hr := B.returns
  have hts := my_hts (atoms_spec (ws := wsT yX11_count cX11_count 2 (some .int)) B.pre)
  have hown : s.vm.findClass RX11 = some m.cls := findClass_of_methodNamed B.named
  have hlocks := B.notSynchronized
  have hS : va_S (gA g) s.heap s.heap [] := va_S.rf
  have hl := lv_entry ([.ref (g 315), .int a1]) (n := 2) (Nat.le_of_ble_eq_true rfl)
  rw [lg_entry_eq]
  generalize (lg_sl ([.ref (g 315), .int a1]) ++ List.replicate (2 - (lg_sl ([.ref (g 315), .int a1])).length) Slot.unset).toArray = ls at hl ⊢
  have hl : lv_has ls 2 [(0, .ref (g 315)), (1, .int a1)] := hl
  refine W_q8 (fun Q9 hQ9 => ?_)
  have hc0 := hst.c0
  have hc1 := hst.c1
  have hc2 := hst.c2
  have hc3 := hst.c3
  have hc4 := hst.c4
  have htr := htA nt hst.c4 hst.h4
  refine lv_iload_n hx hb dX11_count_0 rfl (lv_at hl 1 rfl) ?_
  refine lv_i2l hx hb dX11_count_1 rfl ?_
  refine lv_lconst (v := 0) hx hb dX11_count_2 (by decide) ?_
  refine my_bel (v := Int32.toInt64 0) (by decide) ?_
  refine lv_ldc2 (v := 5) hx hb hown (hts (.constantLong RX11 256 (5)) w_938) dX11_count_3 ?_
  refine my_bel (v := Int32.toInt64 5) (by decide) ?_
  refine rd_calli (va_runS (As := [.long (Int32.toInt64 a1), .long (Int32.toInt64 0), .long (Int32.toInt64 5)]) (rest := []) ⟨hx, hb, hml, hown, hts⟩ (r_in l G g hg f a1 0 5  ) (my_cwS hts ok_X11_in w_162 rfl rfl ⟨Nat.le_of_ble_eq_true rfl, Nat.le_of_ble_eq_true rfl⟩) ⟨bP.blind, fun U hU hW => ⟨rfl, by rw [hU]; exact hP, kG.warm hW hG⟩⟩ rfl rfl hl.1 rfl (lv_room (Nat.le_of_ble_eq_true rfl)) dX11_count_6 ⟨Nat.le_of_ble_eq_true rfl, Nat.le_of_ble_eq_true rfl⟩) (fun r hr9 => ?_)
  subst hr9
  refine my_ifeq (tgt := 20) hx hb dX11_count_9 (by decide) (fun c_9 => ?_) (fun c_9 => ?_)
  · refine lv_bipush (v := (-2)) hx hb dX11_count_20 (by decide) ?_
    refine W_q9 hQ9 ?_
    exact W.iret (v := (-2)) hx hb hr (fun _ hT9 _ => ⟨⟨_, f, rfl, (⟨mJ_mk (ab2) (be2) (sn) (wn) (sa) (ly) (rdy) (fd) (np) (nf) (nr) (na) (nt) (sp) (wi) (wa) (va) (bo) (ju) (dr) (dn) (sl) (ax) (lf) (wh) (w6) (b6) (hmo) (hss_) (him_) (hkq_) (hsp_) (hwi_) (hwa_) (hva_) (hbo_) (hju_) (hdr_) (hdn_) (hsl_) (hax_) (hlf_) (hwh_) (hw6_) (hb6_) (hst) (by omega) (hdn) (hi0) (hi1) (hrd), ⟨np, nf, nr, na, nt, hst, Or.inl ⟨c_9, rfl⟩⟩, fun j hj => rfl⟩), by rw [hT9]; exact hP⟩, hS.F hT9⟩) hS.2.2 dX11_count_22
  · obtain ⟨wq, hwq, rfl⟩ := inB_n (b := 5) (by omega) c_9
    refine lv_aload_n hx hb dX11_count_12 rfl (lv_at hl 0 rfl) ?_
    refine lv_iload_n hx hb dX11_count_13 rfl (lv_at hl 1 rfl) ?_
    refine b_calli (va_runV (As := [.int (nI wq)]) (rest := []) ⟨hx, hb, hml, hown, hts⟩ (r_countOfF l G g hg f ab2 be2 sn wn sa ly rdy fd ss np nf nr na nt sp wi wa va bo ju dr dn sl ax lf wq hmo hss_ hsp_ hwi_ hwa_ hva_ hbo_ hju_ hdr_ hdn_ hsl_ hax_ hlf_ (by first | assumption | omega | decide) (by first | assumption | omega | decide) (by first | assumption | omega | decide) (by first | assumption | omega | decide) (by first | assumption | omega | decide) (by first | assumption | omega | decide)) (my_cwV hts ok_X11_countOf w_939 rfl rfl ⟨Nat.le_of_ble_eq_true rfl, Nat.le_of_ble_eq_true rfl⟩) ⟨bP.blind, va_recv hG.1 hP (ci := 10) (q0 := 315) rfl (wl_at (by decide) hmo), fun U hU hW => ⟨rfl, by rw [hU]; exact hP, kG.warm hW hG⟩⟩ rfl rfl hl.1 rfl (lv_room (Nat.le_of_ble_eq_true rfl)) dX11_count_14 ⟨Nat.le_of_ble_eq_true rfl, Nat.le_of_ble_eq_true rfl⟩) hS (fun v1 f_1 H locs hq9 hP hS => ?_)
    obtain ⟨sn92, wn93, sa94, ly95, sp96, wi97, wa98, va99, bo910, ju911, dr912, dn913, sl914, ax915, lf916, rdy917, fd918, hq_1_0, hq_1_1, hq_1_2, hq_1_3, hq_1_4, hq_1_5, hq_1_6, hq_1_7, hq_1_8, hq_1_9, hq_1_10, hq_1_11, hx_1_0, hx_1_1, hx_1_2, hx_1_3, hx_1_4, hx_1_5, o_1⟩ := hq9
    have hmo : f_1 315 = eO 10 [.ref (g 316), .ref (g 317), .ref (g 318), .long ab2, .long be2, .int sn92, .ref (g 319), .ref (g 320), .int wn93, .ref (g 321), .ref (g 322), .int sa94, .int ly95, .int rdy917, .int (nI fd918), .ref (g 323), .ref (g 324), .ref (g 325), .ref (g 326), .ref (g 327), .ref (g 328), .ref (g 329), .ref (g 330), .ref (g 331), .ref (g 332)] := hq_1_0
    have hsp_ : f_1 319 = eI G 70 sp96 := hq_1_1
    have hwi_ : f_1 320 = eI G 70 wi97 := hq_1_2
    have hwa_ : f_1 321 = eI G 70 wa98 := hq_1_3
    have hva_ : f_1 322 = eJ G 70 va99 := hq_1_4
    have hbo_ : f_1 323 = eI G 11 bo910 := hq_1_5
    have hju_ : f_1 324 = eI G 11 ju911 := hq_1_6
    have hdr_ : f_1 325 = eI G 264 dr912 := hq_1_7
    have hdn_ : f_1 326 = eI G 11 dn913 := hq_1_8
    have hsl_ : f_1 327 = eI G 330 sl914 := hq_1_9
    have hax_ : f_1 328 = eI G 44 ax915 := hq_1_10
    have hlf_ : f_1 329 = eI G 30 lf916 := hq_1_11
    refine lv_goto (tgt := 22) hx hb dX11_count_17 (by decide) ?_
    refine W_q9 hQ9 ?_
    replace hss_ := ((o_1 316 (by first | decide | omega))).trans hss_
    replace him_ := ((o_1 317 (by first | decide | omega))).trans him_
    replace hkq_ := ((o_1 318 (by first | decide | omega))).trans hkq_
    replace hwh_ := ((o_1 330 (by first | decide | omega))).trans hwh_
    replace hw6_ := ((o_1 331 (by first | decide | omega))).trans hw6_
    replace hb6_ := ((o_1 332 (by first | decide | omega))).trans hb6_
    exact W.iret (v := v1) hx hb hr (fun _ hT9 _ => ⟨⟨_, f_1, rfl, (⟨mJ_mk (ab2) (be2) (sn92) (wn93) (sa94) (ly95) (rdy917) (fd918) (np) (nf) (nr) (na) (nt) (sp96) (wi97) (wa98) (va99) (bo910) (ju911) (dr912) (dn913) (sl914) (ax915) (lf916) (wh) (w6) (b6) (hmo) (hss_) (him_) (hkq_) (hsp_) (hwi_) (hwa_) (hva_) (hbo_) (hju_) (hdr_) (hdn_) (hsl_) (hax_) (hlf_) (hwh_) (hw6_) (hb6_) (hst) (by omega) (hx_1_0) (hi0) (hi1) ((fun _ => ⟨hx_1_3, hx_1_4⟩)), ⟨np, nf, nr, na, nt, hst, Or.inr ⟨c_9, hx_1_5⟩⟩, fun j hj => (o_1 j (by omega))⟩), by rw [hT9]; exact hP⟩, hS.F hT9⟩) hS.2.2 dX11_count_22
theorem j2_count (l : Launch) (G : gW) (g : Nat → Nat) (hg : gOK g) (f : Nat → va_E) (ss : Nat → Int32) (im : Nat → Int32) (kq : Nat → Int32) (a1 : Int32) (hI : mJ G g f ss im kq) (htA : ∀ n : Nat, n ≤ 10 → ss 4 = nI n → trOK ss n) : Met l yX11_count (wsT yX11_count cX11_count 2 (some .int)) ({ frames := 8, cells := 0, slots := 0, locals := 196 }) (bP G g f [.ref (g 315), .int a1]) (bQi G g (fun (z9 : Int32) (f' : Nat → va_E) => (mJ G g f' ss im kq) ∧ (∃ p9 f9 r9 u9 t9, stOK ss p9 f9 r9 u9 t9 ∧ ((¬ inB 0 a1 5 = true ∧ z9 = -2) ∨ (inB 0 a1 5 = true ∧ z9 = cnV p9 f9 r9 u9 t9 (jcn (rJr p9 f9 r9 u9 ss) t9) a1))) ∧ ∀ j, j < 315 → f' j = f j)) 0 0 (gA g) := mJ_elim hI (fun ab2 be2 sn wn sa ly rdy fd np nf nr na nt sp wi wa va bo ju dr dn sl ax lf wh w6 b6 hmo hss_ him_ hkq_ hsp_ hwi_ hwa_ hva_ hbo_ hju_ hdr_ hdn_ hsl_ hax_ hlf_ hwh_ hw6_ hb6_ hst hfo hdn hi0 hi1 hrd => jn2_count l G g hg f ab2 be2 sn wn sa ly rdy fd ss np nf nr na nt im kq sp wi wa va bo ju dr dn sl ax lf wh w6 b6 a1 hmo hss_ him_ hkq_ hsp_ hwi_ hwa_ hva_ hbo_ hju_ hdr_ hdn_ hsl_ hax_ hlf_ hwh_ hw6_ hb6_ hst hfo hdn hi0 hi1 hrd htA)


set_option maxHeartbeats 4000000 in
set_option maxRecDepth 100000 in
theorem r_findsE (l : Launch) (G : gW) (g : Nat → Nat) (hg : gOK g) (f : Nat → va_E) (ab2 : Int64) (be2 : Int64) (sn : Int32) (wn : Int32) (sa : Int32) (ly : Int32) (rdy : Int32) (fd : Nat) (ss : Nat → Int32) (np : Nat) (nf : Nat) (nr : Nat) (na : Nat) (nt : Nat) (sp : Nat → Int32) (wi : Nat → Int32) (wa : Nat → Int32) (va : Nat → Int64) (bo : Nat → Int32) (ju : Nat → Int32) (dr : Nat → Int32) (dn : Nat → Int32) (sl : Nat → Int32) (ax : Nat → Int32) (lf : Nat → Int32) (hmo : f 315 = eO 10 [.ref (g 316), .ref (g 317), .ref (g 318), .long ab2, .long be2, .int sn, .ref (g 319), .ref (g 320), .int wn, .ref (g 321), .ref (g 322), .int sa, .int ly, .int rdy, .int (nI fd), .ref (g 323), .ref (g 324), .ref (g 325), .ref (g 326), .ref (g 327), .ref (g 328), .ref (g 329), .ref (g 330), .ref (g 331), .ref (g 332)]) (hss_ : f 316 = eI G 2246 ss) (hsp_ : f 319 = eI G 70 sp) (hwi_ : f 320 = eI G 70 wi) (hwa_ : f 321 = eI G 70 wa) (hva_ : f 322 = eJ G 70 va) (hbo_ : f 323 = eI G 11 bo) (hju_ : f 324 = eI G 11 ju) (hdr_ : f 325 = eI G 264 dr) (hdn_ : f 326 = eI G 11 dn) (hsl_ : f 327 = eI G 330 sl) (hax_ : f 328 = eI G 44 ax) (hlf_ : f 329 = eI G 30 lf) (hst : stOK ss np nf nr na nt) (hfo : fd ≤ 10) (hdn : ∀ k, k < 11 → ∃ d, d ≤ 24 ∧ dn k = nI d) (htr : trOK ss nt) (hrd : ¬ rdy = 0 → fd = nt ∧ ∀ z, z < nt → rHz np nf nr na ss bo ju dr dn sl ax z) : Met l yX11_finds (wsT yX11_finds cX11_finds 2 none) ({ frames := 6, cells := 0, slots := 0, locals := 152 }) (bP G g f [.ref (g 315)]) (bQv G g (fun (f' : Nat → va_E) => ∃ sn9 : Int32, ∃ wn9 : Int32, ∃ sa9 : Int32, ∃ ly9 : Int32, ∃ sp9 : Nat → Int32, ∃ wi9 : Nat → Int32, ∃ wa9 : Nat → Int32, ∃ va9 : Nat → Int64, ∃ bo9 : Nat → Int32, ∃ ju9 : Nat → Int32, ∃ dr9 : Nat → Int32, ∃ dn9 : Nat → Int32, ∃ sl9 : Nat → Int32, ∃ ax9 : Nat → Int32, ∃ lf9 : Nat → Int32, ∃ rdy9 : Int32, ∃ fd9 : Nat, f' 315 = eO 10 [.ref (g 316), .ref (g 317), .ref (g 318), .long ab2, .long be2, .int sn9, .ref (g 319), .ref (g 320), .int wn9, .ref (g 321), .ref (g 322), .int sa9, .int ly9, .int rdy9, .int (nI fd9), .ref (g 323), .ref (g 324), .ref (g 325), .ref (g 326), .ref (g 327), .ref (g 328), .ref (g 329), .ref (g 330), .ref (g 331), .ref (g 332)] ∧ f' 319 = eI G 70 sp9 ∧ f' 320 = eI G 70 wi9 ∧ f' 321 = eI G 70 wa9 ∧ f' 322 = eJ G 70 va9 ∧ f' 323 = eI G 11 bo9 ∧ f' 324 = eI G 11 ju9 ∧ f' 325 = eI G 264 dr9 ∧ f' 326 = eI G 11 dn9 ∧ f' 327 = eI G 330 sl9 ∧ f' 328 = eI G 44 ax9 ∧ f' 329 = eI G 30 lf9 ∧ (∀ k, k < 11 → ∃ d, d ≤ 24 ∧ dn9 k = nI d) ∧ (fd9 ≤ 10) ∧ (¬ rdy9 = 0) ∧ (fd9 = nt) ∧ (∀ z, z < nt → rHz np nf nr na ss bo9 ju9 dr9 dn9 sl9 ax9 z) ∧ ∀ j, (j < 315 ∨ (316 ≤ j ∧ j ≤ 318) ∨ 330 ≤ j) → f' j = f j)) 0 0 (gA g) := by
  refine Met.ofW (cc := cX11_finds) (maxL := 2) (ret := none) (by decide) rfl ?_
  intro p e s m args below meth c s₁ B hml hv
  obtain ⟨rfl, hP, hG⟩ := hv
  have hx := B.exec
  have hb := B.bytes
  have hr := B.returns
  have hts := my_hts (atoms_spec (ws := wsT yX11_finds cX11_finds 2 none) B.pre)
  have hown : s.vm.findClass RX11 = some m.cls := findClass_of_methodNamed B.named
  have hlocks := B.notSynchronized
  have hS : va_S (gA g) s.heap s.heap [] := va_S.rf
  have hl := lv_entry ([.ref (g 315)]) (n := 2) (Nat.le_of_ble_eq_true rfl)
  rw [lg_entry_eq]
  generalize (lg_sl ([.ref (g 315)]) ++ List.replicate (2 - (lg_sl ([.ref (g 315)])).length) Slot.unset).toArray = ls at hl ⊢
  have hl : lv_has ls 2 [(0, .ref (g 315))] := hl
  refine W_q8 (fun Q9 hQ9 => ?_)
  have hc0 := hst.c0
  have hc1 := hst.c1
  have hc2 := hst.c2
  have hc3 := hst.c3
  have hc4 := hst.c4
  refine lv_aload_n hx hb dX11_finds_0 rfl (lv_at hl 0 rfl) ?_
  refine va_get (D := G.1) (ci := 10) (v := .int rdy) (C := RX11) (T := TX11) (N := 25) hx hb hts inlX11 hown hG.1 hP 315 (wl_at (by decide) hmo) rfl 13 (by decide) (hts (.fieldLink RX11 71 "SwornListsModel" "isReady" "Z") w_169) (fun _ h9 => h9) rfl dX11_finds_1 ?_
  refine lv_if_eq (tgt := 8) hx hb dX11_finds_4 (by decide) (fun c_4 => ?_) (fun c_4 => ?_)
  · refine lv_aload_n hx hb dX11_finds_8 rfl (lv_at hl 0 rfl) ?_
    refine lv_iconst (v := 1) hx hb dX11_finds_9 (by decide) ?_
    refine va_put (D := G.1) (ci := 10) (v := .int 1) (ty := .boolean) (C := RX11) (T := TX11) (N := 25) hx hb hts inlX11 tyX11 tyX11_ok nmX11 hown hG.1 hP (wl_D hg f) hS 315 (wl_at (by decide) hmo) rfl 13 (by decide) (hts (.fieldLink RX11 71 "SwornListsModel" "isReady" "Z") w_169) (fun _ h9 => h9) rfl (by decide +kernel) rfl rfl (Nat.le_of_ble_eq_true rfl) dX11_finds_10 (fun H locs hP _ hS => ?_)
    obtain ⟨f_1, hP, e_1, o_1⟩ := b_put (by decide) hP
    have hmo : f_1 315 = eO 10 [.ref (g 316), .ref (g 317), .ref (g 318), .long ab2, .long be2, .int sn, .ref (g 319), .ref (g 320), .int wn, .ref (g 321), .ref (g 322), .int sa, .int ly, .int 1, .int (nI fd), .ref (g 323), .ref (g 324), .ref (g 325), .ref (g 326), .ref (g 327), .ref (g 328), .ref (g 329), .ref (g 330), .ref (g 331), .ref (g 332)] := e_1
    refine lv_aload_n hx hb dX11_finds_13 rfl (lv_at hl 0 rfl) ?_
    refine lv_iconst (v := 0) hx hb dX11_finds_14 (by decide) ?_
    refine va_put (D := G.1) (ci := 10) (v := .int 0) (ty := .int) (C := RX11) (T := TX11) (N := 25) hx hb hts inlX11 tyX11 tyX11_ok nmX11 hown hG.1 hP (wl_D hg f_1) hS 315 (wl_at (by decide) hmo) rfl 14 (by decide) (hts (.fieldLink RX11 146 "SwornListsModel" "found" "I") w_527) (fun _ h9 => h9) rfl (by decide +kernel) rfl rfl (Nat.le_of_ble_eq_true rfl) dX11_finds_15 (fun H locs hP _ hS => ?_)
    obtain ⟨f_2, hP, e_2, o_2⟩ := b_put (by decide) hP
    have hmo : f_2 315 = eO 10 [.ref (g 316), .ref (g 317), .ref (g 318), .long ab2, .long be2, .int sn, .ref (g 319), .ref (g 320), .int wn, .ref (g 321), .ref (g 322), .int sa, .int ly, .int 1, .int 0, .ref (g 323), .ref (g 324), .ref (g 325), .ref (g 326), .ref (g 327), .ref (g 328), .ref (g 329), .ref (g 330), .ref (g 331), .ref (g 332)] := e_2
    refine lv_iconst (v := 0) hx hb dX11_finds_18 (by decide) ?_
    refine lv_istore_n (lv' := [(1, .int 0), (0, .ref (g 315))]) hx hb dX11_finds_19 rfl hl (by decide) rfl (fun ls hl => ?_)
    replace hss_ := ((o_2 316 (by decide)).trans ((o_1 316 (by decide)))).trans hss_
    replace hsp_ := ((o_2 319 (by decide)).trans ((o_1 319 (by decide)))).trans hsp_
    replace hwi_ := ((o_2 320 (by decide)).trans ((o_1 320 (by decide)))).trans hwi_
    replace hwa_ := ((o_2 321 (by decide)).trans ((o_1 321 (by decide)))).trans hwa_
    replace hva_ := ((o_2 322 (by decide)).trans ((o_1 322 (by decide)))).trans hva_
    replace hbo_ := ((o_2 323 (by decide)).trans ((o_1 323 (by decide)))).trans hbo_
    replace hju_ := ((o_2 324 (by decide)).trans ((o_1 324 (by decide)))).trans hju_
    replace hdr_ := ((o_2 325 (by decide)).trans ((o_1 325 (by decide)))).trans hdr_
    replace hdn_ := ((o_2 326 (by decide)).trans ((o_1 326 (by decide)))).trans hdn_
    replace hsl_ := ((o_2 327 (by decide)).trans ((o_1 327 (by decide)))).trans hsl_
    replace hax_ := ((o_2 328 (by decide)).trans ((o_1 328 (by decide)))).trans hax_
    replace hlf_ := ((o_2 329 (by decide)).trans ((o_1 329 (by decide)))).trans hlf_
    have key1 : ∀ (n9_1 : Nat) (t5 : Nat) (sn1 : Int32) (wn1 : Int32) (sa1 : Int32) (ly1 : Int32) (sp1 : Nat → Int32) (wi1 : Nat → Int32) (wa1 : Nat → Int32) (va1 : Nat → Int64) (bo1 : Nat → Int32) (ju1 : Nat → Int32) (dr1 : Nat → Int32) (dn1 : Nat → Int32) (sl1 : Nat → Int32) (ax1 : Nat → Int32) (lf1 : Nat → Int32) (f_3 : Nat → va_E) (H : Heap) (locs : List Loc) (ls : Array Slot), (t5 ≤ nt) → (∀ k, k < 11 → ∃ d, d ≤ 24 ∧ dn1 k = nI d) → (∀ z, z < t5 → rHz np nf nr na ss bo1 ju1 dr1 dn1 sl1 ax1 z) → nt - t5 < n9_1 → f_3 315 = eO 10 [.ref (g 316), .ref (g 317), .ref (g 318), .long ab2, .long be2, .int sn1, .ref (g 319), .ref (g 320), .int wn1, .ref (g 321), .ref (g 322), .int sa1, .int ly1, .int 1, .int (nI t5), .ref (g 323), .ref (g 324), .ref (g 325), .ref (g 326), .ref (g 327), .ref (g 328), .ref (g 329), .ref (g 330), .ref (g 331), .ref (g 332)] → f_3 316 = eI G 2246 ss → f_3 319 = eI G 70 sp1 → f_3 320 = eI G 70 wi1 → f_3 321 = eI G 70 wa1 → f_3 322 = eJ G 70 va1 → f_3 323 = eI G 11 bo1 → f_3 324 = eI G 11 ju1 → f_3 325 = eI G 264 dr1 → f_3 326 = eI G 11 dn1 → f_3 327 = eI G 330 sl1 → f_3 328 = eI G 44 ax1 → f_3 329 = eI G 30 lf1 → (∀ j, (j < 315 ∨ (316 ≤ j ∧ j ≤ 318) ∨ 330 ≤ j) → f_3 j = f_2 j) → va_P G.1 vwCl (wl g f_3) H → va_S (gA g) s.heap H locs → lv_has ls 2 [(0, .ref (g 315)), (1, .int (nI t5))] → W p l e (headSpec (wsT yX11_finds cX11_finds 2 none) ({ frames := 6, cells := 0, slots := 0, locals := 152 })).room s m ([.ref (g 315)] : List Value).toArray below meth c H locs 0 0 Q9 (F0 m 20 ls []) := by
      intro n9_1
      induction n9_1 with
      | zero => intro t5 sn1 wn1 sa1 ly1 sp1 wi1 wa1 va1 bo1 ju1 dr1 dn1 sl1 ax1 lf1 f_3 H locs ls hi hdn1 hR1 hn9_1; exact absurd hn9_1 (Nat.not_lt_zero _)
      | succ n9_1 ih_1 =>
        intro t5 sn1 wn1 sa1 ly1 sp1 wi1 wa1 va1 bo1 ju1 dr1 dn1 sl1 ax1 lf1 f_3 H locs ls hi hdn1 hR1 hn9_1 hmo hss_ hsp_ hwi_ hwa_ hva_ hbo_ hju_ hdr_ hdn_ hsl_ hax_ hlf_ o_3 hP hS hl
        refine lv_iload_n hx hb dX11_finds_20 rfl (lv_at hl 1 rfl) ?_
        refine lv_aload_n hx hb dX11_finds_21 rfl (lv_at hl 0 rfl) ?_
        refine va_get (D := G.1) (ci := 10) (v := .ref (g 316)) (C := RX11) (T := TX11) (N := 25) hx hb hts inlX11 hown hG.1 hP 315 (wl_at (by decide) hmo) rfl 0 (by decide) (hts (.fieldLink RX11 7 "SwornListsModel" "st" "[I") w_112) (fun _ h9 => h9) rfl dX11_finds_22 ?_
        refine lv_iconst (v := 4) hx hb dX11_finds_25 (by decide) ?_
        refine va_iald hx hb hG.1 hP 316 0 (wl_at (by decide) hss_) rfl (by unfold vp_in; decide) dX11_finds_26 ?_
        refine my_bei (v := ss 4) (rfl) ?_
        refine my_bei (v := nI nt) (hst.h4) ?_
        refine lv_icmp_ge (tgt := 51) hx hb dX11_finds_27 (by decide) (fun c_27 => ?_) (fun c_27 => ?_)
        · have k_27 : nt ≤ t5 := (nI_leI (a := nt) (b := t5) (by omega) (by omega)).mp c_27
          refine W_q9 hQ9 ?_
          exact W.vret hx hb hr (fun _ hT9 _ => ⟨⟨f_3, rfl, (⟨sn1, wn1, sa1, ly1, sp1, wi1, wa1, va1, bo1, ju1, dr1, dn1, sl1, ax1, lf1, 1, t5, hmo, hsp_, hwi_, hwa_, hva_, hbo_, hju_, hdr_, hdn_, hsl_, hax_, hlf_, hdn1, by omega, by decide, by omega, fun z hz => hR1 z (by omega), fun j hj => (((o_3 j (by omega))).trans (o_2 j (by omega))).trans (o_1 j (by omega))⟩), by rw [hT9]; exact hP⟩, hS.F hT9⟩) hS.2.2 dX11_finds_51
        · have k_27 : ¬ nt ≤ t5 := fun z9 => c_27 ((nI_leI (a := nt) (b := t5) (by omega) (by omega)).mpr z9)
          have ht9 : t5 < nt := by omega
          obtain ⟨⟨q4, hq4, hs4⟩, sq, hsq, hss⟩ := hst.tr t5 ht9
          obtain ⟨_, _, ks, hks, hk2⟩ := htr.1 t5 ht9
          have hJ9 : ∀ q, q < t5 → ju1 q = rJr np nf nr na ss q := fun q hq => rHz_ju (hR1 q hq)
          refine lv_aload_n hx hb dX11_finds_30 rfl (lv_at hl 0 rfl) ?_
          refine lv_iload_n hx hb dX11_finds_31 rfl (lv_at hl 1 rfl) ?_
          refine lv_iload_n hx hb dX11_finds_32 rfl (lv_at hl 1 rfl) ?_
          refine lv_iconst (v := (-1)) hx hb dX11_finds_33 (by decide) ?_
          refine lv_iconst (v := (-1)) hx hb dX11_finds_34 (by decide) ?_
          refine b_callv (va_runV (As := [.int (nI t5), .int (nI t5), .int (-1), .int (-1)]) (rest := []) ⟨hx, hb, hml, hown, hts⟩ (r_triesE l G g hg f_3 ab2 be2 sn1 wn1 sa1 ly1 1 t5 ss np nf nr na nt sp1 wi1 wa1 va1 bo1 ju1 dr1 dn1 sl1 ax1 lf1 t5 t5 sq q4 ks (rFt np nf nr na ss t5) (rBx np nf nr na ss t5) hmo hss_ hsp_ hwi_ hwa_ hva_ hbo_ hju_ hdr_ hdn_ hsl_ hax_ hlf_ (by first | assumption | omega | decide) (by first | assumption | omega | decide) (by first | assumption | omega | decide) (by first | assumption | omega | decide) (hdn1) (hsq) (hss) (hq4) (hs4) (hk2) (hks) (htr.s1 ht9) (htr.s2 ht9) (rFt_at hJ9) (rBx_at hJ9) (fun o ho => htr.d0 o (by omega)) (fun o o' h1 h2 => htr.2 o o' h1 (by omega))) (my_cwV hts ok_X11_tries w_528 rfl rfl ⟨Nat.le_of_ble_eq_true rfl, Nat.le_of_ble_eq_true rfl⟩) ⟨bP.blind, va_recv hG.1 hP (ci := 10) (q0 := 315) rfl (wl_at (by decide) hmo), fun U hU hW => ⟨rfl, by rw [hU]; exact hP, kG.warm hW hG⟩⟩ rfl rfl hl.1 rfl (lv_room (Nat.le_of_ble_eq_true rfl)) dX11_finds_35 ⟨Nat.le_of_ble_eq_true rfl, Nat.le_of_ble_eq_true rfl⟩) hS (fun f_4 H locs hq9 hP hS => ?_)
          obtain ⟨sn92, wn93, sa94, ly95, sp96, wi97, wa98, va99, bo910, ju911, dr912, dn913, sl914, ax915, lf916, hq_4_0, hq_4_1, hq_4_2, hq_4_3, hq_4_4, hq_4_5, hq_4_6, hq_4_7, hq_4_8, hq_4_9, hq_4_10, hq_4_11, hx_4_0, hx_4_1, hx_4_2, hx_4_3, hx_4_4, hx_4_5, o_4⟩ := hq9
          have hmo : f_4 315 = eO 10 [.ref (g 316), .ref (g 317), .ref (g 318), .long ab2, .long be2, .int sn92, .ref (g 319), .ref (g 320), .int wn93, .ref (g 321), .ref (g 322), .int sa94, .int ly95, .int 1, .int (nI t5), .ref (g 323), .ref (g 324), .ref (g 325), .ref (g 326), .ref (g 327), .ref (g 328), .ref (g 329), .ref (g 330), .ref (g 331), .ref (g 332)] := hq_4_0
          have hsp_ : f_4 319 = eI G 70 sp96 := hq_4_1
          have hwi_ : f_4 320 = eI G 70 wi97 := hq_4_2
          have hwa_ : f_4 321 = eI G 70 wa98 := hq_4_3
          have hva_ : f_4 322 = eJ G 70 va99 := hq_4_4
          have hbo_ : f_4 323 = eI G 11 bo910 := hq_4_5
          have hju_ : f_4 324 = eI G 11 ju911 := hq_4_6
          have hdr_ : f_4 325 = eI G 264 dr912 := hq_4_7
          have hdn_ : f_4 326 = eI G 11 dn913 := hq_4_8
          have hsl_ : f_4 327 = eI G 330 sl914 := hq_4_9
          have hax_ : f_4 328 = eI G 44 ax915 := hq_4_10
          have hlf_ : f_4 329 = eI G 30 lf916 := hq_4_11
          refine lv_aload_n hx hb dX11_finds_38 rfl (lv_at hl 0 rfl) ?_
          refine lv_iload_n hx hb dX11_finds_39 rfl (lv_at hl 1 rfl) ?_
          refine lv_iconst (v := 1) hx hb dX11_finds_40 (by decide) ?_
          refine lv_iadd hx hb dX11_finds_41 ?_
          refine my_bei (v := nI (t5 + 1)) (nI_add t5 1) ?_
          refine va_put (D := G.1) (ci := 10) (v := .int (nI (t5 + 1))) (ty := .int) (C := RX11) (T := TX11) (N := 25) hx hb hts inlX11 tyX11 tyX11_ok nmX11 hown hG.1 hP (wl_D hg f_4) hS 315 (wl_at (by decide) hmo) rfl 14 (by decide) (hts (.fieldLink RX11 146 "SwornListsModel" "found" "I") w_527) (fun _ h9 => h9) rfl (by decide +kernel) rfl rfl (Nat.le_of_ble_eq_true rfl) dX11_finds_42 (fun H locs hP _ hS => ?_)
          obtain ⟨f_5, hP, e_5, o_5⟩ := b_put (by decide) hP
          have hmo : f_5 315 = eO 10 [.ref (g 316), .ref (g 317), .ref (g 318), .long ab2, .long be2, .int sn92, .ref (g 319), .ref (g 320), .int wn93, .ref (g 321), .ref (g 322), .int sa94, .int ly95, .int 1, .int (nI (t5 + 1)), .ref (g 323), .ref (g 324), .ref (g 325), .ref (g 326), .ref (g 327), .ref (g 328), .ref (g 329), .ref (g 330), .ref (g 331), .ref (g 332)] := e_5
          refine lv_iinc (v := nI (t5 + 1)) (lv' := [(1, .int (nI (t5 + 1))), (0, .ref (g 315))]) hx hb dX11_finds_45 hl (k := 1) rfl (nI_add t5 1) (by decide) rfl (fun ls hl => ?_)
          refine lv_goto (tgt := 20) hx hb dX11_finds_48 (by decide) ?_
          replace hss_ := ((o_5 316 (by decide)).trans ((o_4 316 (by first | decide | omega)))).trans hss_
          replace hsp_ := ((o_5 319 (by decide))).trans hsp_
          replace hwi_ := ((o_5 320 (by decide))).trans hwi_
          replace hwa_ := ((o_5 321 (by decide))).trans hwa_
          replace hva_ := ((o_5 322 (by decide))).trans hva_
          replace hbo_ := ((o_5 323 (by decide))).trans hbo_
          replace hju_ := ((o_5 324 (by decide))).trans hju_
          replace hdr_ := ((o_5 325 (by decide))).trans hdr_
          replace hdn_ := ((o_5 326 (by decide))).trans hdn_
          replace hsl_ := ((o_5 327 (by decide))).trans hsl_
          replace hax_ := ((o_5 328 (by decide))).trans hax_
          replace hlf_ := ((o_5 329 (by decide))).trans hlf_
          exact ih_1 (t5 + 1) sn92 wn93 sa94 ly95 sp96 wi97 wa98 va99 bo910 ju911 dr912 dn913 sl914 ax915 lf916 f_5 _ _ _ (by omega) (hx_4_1) (rHz_new hst ht9 hR1 hx_4_0 hx_4_2 hx_4_3 hx_4_4 hx_4_5) (by omega) (hmo) (hss_) (hsp_) (hwi_) (hwa_) (hva_) (hbo_) (hju_) (hdr_) (hdn_) (hsl_) (hax_) (hlf_) (fun j hj => (((o_5 j (by omega))).trans (o_4 j (by omega))).trans (o_3 j (by omega))) hP hS (lv_sub hl [1, 0] rfl)
    exact key1 (nt + 1) 0 sn wn sa ly sp wi wa va bo ju dr dn sl ax lf f_2 _ _ _ (Nat.zero_le _) (hdn) (fun z hz => absurd hz (Nat.not_lt_zero _)) (by omega) (hmo) (hss_) (hsp_) (hwi_) (hwa_) (hva_) (hbo_) (hju_) (hdr_) (hdn_) (hsl_) (hax_) (hlf_) (fun j _ => rfl) hP hS (lv_sub hl [1, 0] rfl)
  · refine W_q9 hQ9 ?_
    exact W.vret hx hb hr (fun _ hT9 _ => ⟨⟨f, rfl, (⟨sn, wn, sa, ly, sp, wi, wa, va, bo, ju, dr, dn, sl, ax, lf, rdy, fd, hmo, hsp_, hwi_, hwa_, hva_, hbo_, hju_, hdr_, hdn_, hsl_, hax_, hlf_, hdn, by omega, c_4, (hrd c_4).1, (hrd c_4).2, fun j hj => rfl⟩), by rw [hT9]; exact hP⟩, hS.F hT9⟩) hS.2.2 dX11_finds_7
set_option maxHeartbeats 4000000 in
set_option maxRecDepth 100000 in
theorem r_isTrialE (l : Launch) (G : gW) (g : Nat → Nat) (hg : gOK g) (f : Nat → va_E) (ab2 : Int64) (be2 : Int64) (sn : Int32) (wn : Int32) (sa : Int32) (ly : Int32) (rdy : Int32) (fd : Nat) (ss : Nat → Int32) (np : Nat) (nf : Nat) (nr : Nat) (na : Nat) (nt : Nat) (sp : Nat → Int32) (wi : Nat → Int32) (wa : Nat → Int32) (va : Nat → Int64) (bo : Nat → Int32) (ju : Nat → Int32) (dr : Nat → Int32) (dn : Nat → Int32) (sl : Nat → Int32) (ax : Nat → Int32) (lf : Nat → Int32) (n : Int32) (hmo : f 315 = eO 10 [.ref (g 316), .ref (g 317), .ref (g 318), .long ab2, .long be2, .int sn, .ref (g 319), .ref (g 320), .int wn, .ref (g 321), .ref (g 322), .int sa, .int ly, .int rdy, .int (nI fd), .ref (g 323), .ref (g 324), .ref (g 325), .ref (g 326), .ref (g 327), .ref (g 328), .ref (g 329), .ref (g 330), .ref (g 331), .ref (g 332)]) (hss_ : f 316 = eI G 2246 ss) (hsp_ : f 319 = eI G 70 sp) (hwi_ : f 320 = eI G 70 wi) (hwa_ : f 321 = eI G 70 wa) (hva_ : f 322 = eJ G 70 va) (hbo_ : f 323 = eI G 11 bo) (hju_ : f 324 = eI G 11 ju) (hdr_ : f 325 = eI G 264 dr) (hdn_ : f 326 = eI G 11 dn) (hsl_ : f 327 = eI G 330 sl) (hax_ : f 328 = eI G 44 ax) (hlf_ : f 329 = eI G 30 lf) (hst : stOK ss np nf nr na nt) (hfo : fd ≤ 10) (hdn : ∀ k, k < 11 → ∃ d, d ≤ 24 ∧ dn k = nI d) (htr : trOK ss nt) (hrd : ¬ rdy = 0 → fd = nt ∧ ∀ z, z < nt → rHz np nf nr na ss bo ju dr dn sl ax z) : Met l yX11_isTrial (wsT yX11_isTrial cX11_isTrial 2 (some .boolean)) ({ frames := 7, cells := 0, slots := 0, locals := 173 }) (bP G g f [.ref (g 315), .int n]) (bQi G g (fun (z9 : Int32) (f' : Nat → va_E) => ∃ sn9 : Int32, ∃ wn9 : Int32, ∃ sa9 : Int32, ∃ ly9 : Int32, ∃ sp9 : Nat → Int32, ∃ wi9 : Nat → Int32, ∃ wa9 : Nat → Int32, ∃ va9 : Nat → Int64, ∃ bo9 : Nat → Int32, ∃ ju9 : Nat → Int32, ∃ dr9 : Nat → Int32, ∃ dn9 : Nat → Int32, ∃ sl9 : Nat → Int32, ∃ ax9 : Nat → Int32, ∃ lf9 : Nat → Int32, ∃ rdy9 : Int32, ∃ fd9 : Nat, z9 = b2 (inN n nt = true) ∧ f' 315 = eO 10 [.ref (g 316), .ref (g 317), .ref (g 318), .long ab2, .long be2, .int sn9, .ref (g 319), .ref (g 320), .int wn9, .ref (g 321), .ref (g 322), .int sa9, .int ly9, .int rdy9, .int (nI fd9), .ref (g 323), .ref (g 324), .ref (g 325), .ref (g 326), .ref (g 327), .ref (g 328), .ref (g 329), .ref (g 330), .ref (g 331), .ref (g 332)] ∧ f' 319 = eI G 70 sp9 ∧ f' 320 = eI G 70 wi9 ∧ f' 321 = eI G 70 wa9 ∧ f' 322 = eJ G 70 va9 ∧ f' 323 = eI G 11 bo9 ∧ f' 324 = eI G 11 ju9 ∧ f' 325 = eI G 264 dr9 ∧ f' 326 = eI G 11 dn9 ∧ f' 327 = eI G 330 sl9 ∧ f' 328 = eI G 44 ax9 ∧ f' 329 = eI G 30 lf9 ∧ (∀ k, k < 11 → ∃ d, d ≤ 24 ∧ dn9 k = nI d) ∧ (fd9 ≤ 10) ∧ (¬ rdy9 = 0) ∧ (fd9 = nt) ∧ (∀ z, z < nt → rHz np nf nr na ss bo9 ju9 dr9 dn9 sl9 ax9 z) ∧ ∀ j, (j < 315 ∨ (316 ≤ j ∧ j ≤ 318) ∨ 330 ≤ j) → f' j = f j)) 0 0 (gA g) := by
  refine Met.ofW (cc := cX11_isTrial) (maxL := 2) (ret := (some .boolean)) (by decide) rfl ?_
  intro p e s m args below meth c s₁ B hml hv
  obtain ⟨rfl, hP, hG⟩ := hv
  have hx := B.exec
  have hb := B.bytes
  have hr := B.returns
  have hts := my_hts (atoms_spec (ws := wsT yX11_isTrial cX11_isTrial 2 (some .boolean)) B.pre)
  have hown : s.vm.findClass RX11 = some m.cls := findClass_of_methodNamed B.named
  have hlocks := B.notSynchronized
  have hS : va_S (gA g) s.heap s.heap [] := va_S.rf
  have hl := lv_entry ([.ref (g 315), .int n]) (n := 2) (Nat.le_of_ble_eq_true rfl)
  rw [lg_entry_eq]
  generalize (lg_sl ([.ref (g 315), .int n]) ++ List.replicate (2 - (lg_sl ([.ref (g 315), .int n])).length) Slot.unset).toArray = ls at hl ⊢
  have hl : lv_has ls 2 [(0, .ref (g 315)), (1, .int n)] := hl
  refine W_q8 (fun Q9 hQ9 => ?_)
  have hc0 := hst.c0
  have hc1 := hst.c1
  have hc2 := hst.c2
  have hc3 := hst.c3
  have hc4 := hst.c4
  refine lv_aload_n hx hb dX11_isTrial_0 rfl (lv_at hl 0 rfl) ?_
  refine b_callv (va_runV (As := []) (rest := []) ⟨hx, hb, hml, hown, hts⟩ (r_findsE l G g hg f ab2 be2 sn wn sa ly rdy fd ss np nf nr na nt sp wi wa va bo ju dr dn sl ax lf hmo hss_ hsp_ hwi_ hwa_ hva_ hbo_ hju_ hdr_ hdn_ hsl_ hax_ hlf_ (by first | assumption | omega | decide) (by first | assumption | omega | decide) (by first | assumption | omega | decide) (by first | assumption | omega | decide) (by first | assumption | omega | decide)) (my_cwV hts ok_X11_finds w_523 rfl rfl ⟨Nat.le_of_ble_eq_true rfl, Nat.le_of_ble_eq_true rfl⟩) ⟨bP.blind, va_recv hG.1 hP (ci := 10) (q0 := 315) rfl (wl_at (by decide) hmo), fun U hU hW => ⟨rfl, by rw [hU]; exact hP, kG.warm hW hG⟩⟩ rfl rfl hl.1 rfl (lv_room (Nat.le_of_ble_eq_true rfl)) dX11_isTrial_1 ⟨Nat.le_of_ble_eq_true rfl, Nat.le_of_ble_eq_true rfl⟩) hS (fun f_1 H locs hq9 hP hS => ?_)
  obtain ⟨sn91, wn92, sa93, ly94, sp95, wi96, wa97, va98, bo99, ju910, dr911, dn912, sl913, ax914, lf915, rdy916, fd917, hq_1_0, hq_1_1, hq_1_2, hq_1_3, hq_1_4, hq_1_5, hq_1_6, hq_1_7, hq_1_8, hq_1_9, hq_1_10, hq_1_11, hx_1_0, hx_1_1, hx_1_2, hx_1_3, hx_1_4, o_1⟩ := hq9
  have hmo : f_1 315 = eO 10 [.ref (g 316), .ref (g 317), .ref (g 318), .long ab2, .long be2, .int sn91, .ref (g 319), .ref (g 320), .int wn92, .ref (g 321), .ref (g 322), .int sa93, .int ly94, .int rdy916, .int (nI fd917), .ref (g 323), .ref (g 324), .ref (g 325), .ref (g 326), .ref (g 327), .ref (g 328), .ref (g 329), .ref (g 330), .ref (g 331), .ref (g 332)] := hq_1_0
  have hsp_ : f_1 319 = eI G 70 sp95 := hq_1_1
  have hwi_ : f_1 320 = eI G 70 wi96 := hq_1_2
  have hwa_ : f_1 321 = eI G 70 wa97 := hq_1_3
  have hva_ : f_1 322 = eJ G 70 va98 := hq_1_4
  have hbo_ : f_1 323 = eI G 11 bo99 := hq_1_5
  have hju_ : f_1 324 = eI G 11 ju910 := hq_1_6
  have hdr_ : f_1 325 = eI G 264 dr911 := hq_1_7
  have hdn_ : f_1 326 = eI G 11 dn912 := hq_1_8
  have hsl_ : f_1 327 = eI G 330 sl913 := hq_1_9
  have hax_ : f_1 328 = eI G 44 ax914 := hq_1_10
  have hlf_ : f_1 329 = eI G 30 lf915 := hq_1_11
  refine lv_aload_n hx hb dX11_isTrial_4 rfl (lv_at hl 0 rfl) ?_
  refine lv_iconst (v := 4) hx hb dX11_isTrial_5 (by decide) ?_
  refine lv_iload_n hx hb dX11_isTrial_6 rfl (lv_at hl 1 rfl) ?_
  replace hss_ := ((o_1 316 (by first | decide | omega))).trans hss_
  refine rd_calli (va_runV (As := [.int 4, .int n]) (rest := []) ⟨hx, hb, hml, hown, hts⟩ (r_is l G g hg f_1 ab2 be2 sn91 wn92 sa93 ly94 rdy916 (nI fd917) ss 4 nt n hmo hss_ (by first | assumption | omega | decide) (hst.h4) (by first | assumption | omega | decide)) (my_cwV hts ok_X11_is w_186 rfl rfl ⟨Nat.le_of_ble_eq_true rfl, Nat.le_of_ble_eq_true rfl⟩) ⟨bP.blind, va_recv hG.1 hP (ci := 10) (q0 := 315) rfl (wl_at (by decide) hmo), fun U hU hW => ⟨rfl, by rw [hU]; exact hP, kG.warm hW hG⟩⟩ rfl rfl hl.1 rfl (lv_room (Nat.le_of_ble_eq_true rfl)) dX11_isTrial_7 ⟨Nat.le_of_ble_eq_true rfl, Nat.le_of_ble_eq_true rfl⟩) (fun r hr9 => ?_)
  subst hr9
  refine W_q9 hQ9 ?_
  exact W.zret (v := b2 (inN n nt = true)) hx hb hr (b2_nar) (fun _ hT9 _ => ⟨⟨_, f_1, rfl, (⟨sn91, wn92, sa93, ly94, sp95, wi96, wa97, va98, bo99, ju910, dr911, dn912, sl913, ax914, lf915, rdy916, fd917, rfl, hmo, hsp_, hwi_, hwa_, hva_, hbo_, hju_, hdr_, hdn_, hsl_, hax_, hlf_, hx_1_0, hx_1_1, hx_1_2, hx_1_3, hx_1_4, fun j hj => (o_1 j (by omega))⟩), by rw [hT9]; exact hP⟩, hS.F hT9⟩) hS.2.2 dX11_isTrial_10


set_option maxHeartbeats 4000000 in
set_option maxRecDepth 100000 in
theorem jn2_image (l : Launch) (G : gW) (g : Nat → Nat) (hg : gOK g) (f : Nat → va_E) (ab2 : Int64) (be2 : Int64) (sn : Int32) (wn : Int32) (sa : Int32) (ly : Int32) (rdy : Int32) (fd : Nat) (ss : Nat → Int32) (np : Nat) (nf : Nat) (nr : Nat) (na : Nat) (nt : Nat) (im : Nat → Int32) (kq : Nat → Int32) (sp : Nat → Int32) (wi : Nat → Int32) (wa : Nat → Int32) (va : Nat → Int64) (bo : Nat → Int32) (ju : Nat → Int32) (dr : Nat → Int32) (dn : Nat → Int32) (sl : Nat → Int32) (ax : Nat → Int32) (lf : Nat → Int32) (wh : Nat → Int32) (w6 : Nat → Int32) (b6 : Nat → Int32) (a1 : Int32) (hmo : f 315 = eO 10 [.ref (g 316), .ref (g 317), .ref (g 318), .long ab2, .long be2, .int sn, .ref (g 319), .ref (g 320), .int wn, .ref (g 321), .ref (g 322), .int sa, .int ly, .int rdy, .int (nI fd), .ref (g 323), .ref (g 324), .ref (g 325), .ref (g 326), .ref (g 327), .ref (g 328), .ref (g 329), .ref (g 330), .ref (g 331), .ref (g 332)]) (hss_ : f 316 = eI G 2246 ss) (him_ : f 317 = eI G 4492 im) (hkq_ : f 318 = eZ G 2 kq) (hsp_ : f 319 = eI G 70 sp) (hwi_ : f 320 = eI G 70 wi) (hwa_ : f 321 = eI G 70 wa) (hva_ : f 322 = eJ G 70 va) (hbo_ : f 323 = eI G 11 bo) (hju_ : f 324 = eI G 11 ju) (hdr_ : f 325 = eI G 264 dr) (hdn_ : f 326 = eI G 11 dn) (hsl_ : f 327 = eI G 330 sl) (hax_ : f 328 = eI G 44 ax) (hlf_ : f 329 = eI G 30 lf) (hwh_ : f 330 = eI G 6 wh) (hw6_ : f 331 = eI G 6 w6) (hb6_ : f 332 = eI G 6 b6) (hst : stOK ss np nf nr na nt) (hfo : fd ≤ 10) (hdn : ∀ k, k < 11 → ∃ d, d ≤ 24 ∧ dn k = nI d) (hi0 : stI im 0) (hi1 : stI im 2246) (hrd : ¬ rdy = 0 → fd = nt ∧ ∀ z, z < nt → rHz np nf nr na ss bo ju dr dn sl ax z) (htA : ∀ n : Nat, n ≤ 10 → ss 4 = nI n → trOK ss n) : Met l yX11_image (wsT yX11_image cX11_image 3 (some .int)) ({ frames := 1, cells := 0, slots := 0, locals := 25 }) (bP G g f [.ref (g 315), .int a1]) (bQi G g (fun (z9 : Int32) (f' : Nat → va_E) => ∃ im9 : Nat → Int32, ∃ kq9 : Nat → Int32, (mJ G g f' ss im9 kq9) ∧ (∃ p9 f9 r9 u9 t9, stOK ss p9 f9 r9 u9 t9 ∧ ((¬ inB 0 a1 1 = true ∧ z9 = -2 ∧ im9 = im ∧ kq9 = kq) ∨ ((a1 : Int32) = 0 ∧ z9 = 1 ∧ (∀ q, q < 2246 → im9 q = ss q) ∧ (∀ j, 2246 ≤ j → im9 j = im j) ∧ kq9 = upd kq 0 (vp_nar .boolean 1)) ∨ ((a1 : Int32) = 1 ∧ z9 = 1 ∧ (∀ q, q < 2246 → im9 (q + 2246) = ss q) ∧ (∀ j, j < 2246 → im9 j = im j) ∧ kq9 = upd kq 1 (vp_nar .boolean 1)))) ∧ ∀ j, j < 315 → f' j = f j)) 0 0 (gA g) := by
  refine Met.ofW (cc := cX11_image) (maxL := 3) (ret := (some .int)) (by decide) rfl ?_
  intro p e s m args below meth c s₁ B hml hv
  obtain ⟨rfl, hP, hG⟩ := hv
  have hx := B.exec
  have hb := B.bytes
  have hr := B.returns
  have hts := my_hts (atoms_spec (ws := wsT yX11_image cX11_image 3 (some .int)) B.pre)
  have hown : s.vm.findClass RX11 = some m.cls := findClass_of_methodNamed B.named
  have hlocks := B.notSynchronized
  have hS : va_S (gA g) s.heap s.heap [] := va_S.rf
  have hl := lv_entry ([.ref (g 315), .int a1]) (n := 3) (Nat.le_of_ble_eq_true rfl)
  rw [lg_entry_eq]
  generalize (lg_sl ([.ref (g 315), .int a1]) ++ List.replicate (3 - (lg_sl ([.ref (g 315), .int a1])).length) Slot.unset).toArray = ls at hl ⊢
  have hl : lv_has ls 3 [(0, .ref (g 315)), (1, .int a1)] := hl
  refine W_q8 (fun Q9 hQ9 => ?_)
  have hc0 := hst.c0
  have hc1 := hst.c1
  have hc2 := hst.c2
  have hc3 := hst.c3
  have hc4 := hst.c4
  have htr := htA nt hst.c4 hst.h4
  refine lv_iload_n hx hb dX11_image_0 rfl (lv_at hl 1 rfl) ?_
  refine lv_i2l hx hb dX11_image_1 rfl ?_
  refine lv_lconst (v := 0) hx hb dX11_image_2 (by decide) ?_
  refine my_bel (v := Int32.toInt64 0) (by decide) ?_
  refine lv_lconst (v := 1) hx hb dX11_image_3 (by decide) ?_
  refine my_bel (v := Int32.toInt64 1) (by decide) ?_
  refine rd_calli (va_runS (As := [.long (Int32.toInt64 a1), .long (Int32.toInt64 0), .long (Int32.toInt64 1)]) (rest := []) ⟨hx, hb, hml, hown, hts⟩ (r_in l G g hg f a1 0 1  ) (my_cwS hts ok_X11_in w_162 rfl rfl ⟨Nat.le_of_ble_eq_true rfl, Nat.le_of_ble_eq_true rfl⟩) ⟨bP.blind, fun U hU hW => ⟨rfl, by rw [hU]; exact hP, kG.warm hW hG⟩⟩ rfl rfl hl.1 rfl (lv_room (Nat.le_of_ble_eq_true rfl)) dX11_image_4 ⟨Nat.le_of_ble_eq_true rfl, Nat.le_of_ble_eq_true rfl⟩) (fun r hr9 => ?_)
  subst hr9
  refine my_ifne (tgt := 13) hx hb dX11_image_7 (by decide) (fun c_7 => ?_) (fun c_7 => ?_)
  · rcases inB_01.mp c_7 with e9 | e9
    · subst e9
      refine lv_aload_n hx hb dX11_image_13 rfl (lv_at hl 0 rfl) ?_
      refine va_get (D := G.1) (ci := 10) (v := .ref (g 318)) (C := RX11) (T := TX11) (N := 25) hx hb hts inlX11 hown hG.1 hP 315 (wl_at (by decide) hmo) rfl 2 (by decide) (hts (.fieldLink RX11 16 "SwornListsModel" "isKept" "[Z") w_114) (fun _ h9 => h9) rfl dX11_image_14 ?_
      refine lv_iload_n hx hb dX11_image_17 rfl (lv_at hl 1 rfl) ?_
      refine lv_iconst (v := 1) hx hb dX11_image_18 (by decide) ?_
      refine va_zast hx hb hG.1 hP (wl_D hg f) hS 318 2 (wl_at (by decide) hkq_) rfl (by unfold vp_in; decide) dX11_image_19 (fun H locs hP _ hS => ?_)
      have hP := (congrArg (fun z9 => va_P G.1 vwCl ((wl g f).set 318 (g 318, eZ G 2 ((upd kq z9 (vp_nar .boolean 1))))) H) (show Int32.toNatClampNeg 0 = 0 from rfl)).mp hP
      obtain ⟨f_1, hP, e_1, o_1⟩ := b_put (by decide) hP
      have hkq_ : f_1 318 = eZ G 2 (upd kq 0 (vp_nar .boolean 1)) := e_1
      refine lv_iconst (v := 0) hx hb dX11_image_20 (by decide) ?_
      refine lv_istore_n (lv' := [(2, .int 0), (0, .ref (g 315)), (1, .int 0)]) hx hb dX11_image_21 rfl hl (by decide) rfl (fun ls hl => ?_)
      replace hmo := ((o_1 315 (by decide))).trans hmo
      replace hss_ := ((o_1 316 (by decide))).trans hss_
      replace him_ := ((o_1 317 (by decide))).trans him_
      replace hsp_ := ((o_1 319 (by decide))).trans hsp_
      replace hwi_ := ((o_1 320 (by decide))).trans hwi_
      replace hwa_ := ((o_1 321 (by decide))).trans hwa_
      replace hva_ := ((o_1 322 (by decide))).trans hva_
      replace hbo_ := ((o_1 323 (by decide))).trans hbo_
      replace hju_ := ((o_1 324 (by decide))).trans hju_
      replace hdr_ := ((o_1 325 (by decide))).trans hdr_
      replace hdn_ := ((o_1 326 (by decide))).trans hdn_
      replace hsl_ := ((o_1 327 (by decide))).trans hsl_
      replace hax_ := ((o_1 328 (by decide))).trans hax_
      replace hlf_ := ((o_1 329 (by decide))).trans hlf_
      replace hwh_ := ((o_1 330 (by decide))).trans hwh_
      replace hw6_ := ((o_1 331 (by decide))).trans hw6_
      replace hb6_ := ((o_1 332 (by decide))).trans hb6_
      have key1 : ∀ (n9_1 : Nat) (i : Nat) (im4 : Nat → Int32) (f_2 : Nat → va_E) (H : Heap) (locs : List Loc) (ls : Array Slot), (i ≤ 2246) → (∀ j, (∀ q, q < i → j ≠ (fun q => q) q) → im4 j = im j) → (∀ q, q < i → im4 ((fun q => q) q) = ss q) → 2246 - i < n9_1 → f_2 315 = eO 10 [.ref (g 316), .ref (g 317), .ref (g 318), .long ab2, .long be2, .int sn, .ref (g 319), .ref (g 320), .int wn, .ref (g 321), .ref (g 322), .int sa, .int ly, .int rdy, .int (nI fd), .ref (g 323), .ref (g 324), .ref (g 325), .ref (g 326), .ref (g 327), .ref (g 328), .ref (g 329), .ref (g 330), .ref (g 331), .ref (g 332)] → f_2 316 = eI G 2246 ss → f_2 317 = eI G 4492 im4 → f_2 318 = eZ G 2 (upd kq 0 (vp_nar .boolean 1)) → f_2 319 = eI G 70 sp → f_2 320 = eI G 70 wi → f_2 321 = eI G 70 wa → f_2 322 = eJ G 70 va → f_2 323 = eI G 11 bo → f_2 324 = eI G 11 ju → f_2 325 = eI G 264 dr → f_2 326 = eI G 11 dn → f_2 327 = eI G 330 sl → f_2 328 = eI G 44 ax → f_2 329 = eI G 30 lf → f_2 330 = eI G 6 wh → f_2 331 = eI G 6 w6 → f_2 332 = eI G 6 b6 → (∀ j, j ≠ 317 → f_2 j = f_1 j) → va_P G.1 vwCl (wl g f_2) H → va_S (gA g) s.heap H locs → lv_has ls 3 [(0, .ref (g 315)), (1, .int 0), (2, .int (nI i))] → W p l e (headSpec (wsT yX11_image cX11_image 3 (some .int)) ({ frames := 1, cells := 0, slots := 0, locals := 25 })).room s m ([.ref (g 315), .int 0] : List Value).toArray below meth c H locs 0 0 Q9 (F0 m 22 ls []) := by
        intro n9_1
        induction n9_1 with
        | zero => intro i im4 f_2 H locs ls hi ha4 hb4 hn9_1; exact absurd hn9_1 (Nat.not_lt_zero _)
        | succ n9_1 ih_1 =>
          intro i im4 f_2 H locs ls hi ha4 hb4 hn9_1 hmo hss_ him_ hkq_ hsp_ hwi_ hwa_ hva_ hbo_ hju_ hdr_ hdn_ hsl_ hax_ hlf_ hwh_ hw6_ hb6_ o_2 hP hS hl
          refine lv_iload_n hx hb dX11_image_22 rfl (lv_at hl 2 rfl) ?_
          refine lv_sipush (v := 2246) hx hb dX11_image_23 (by decide) ?_
          refine lv_icmp_ge (tgt := 53) hx hb dX11_image_26 (by decide) (fun c_26 => ?_) (fun c_26 => ?_)
          · have k_26 : 2246 ≤ i := (nI_leI (a := 2246) (b := i) (by omega) (by omega)).mp c_26
            refine lv_iconst (v := 1) hx hb dX11_image_53 (by decide) ?_
            refine W_q9 hQ9 ?_
            exact W.iret (v := 1) hx hb hr (fun _ hT9 _ => ⟨⟨_, f_2, rfl, (⟨im4, (upd kq 0 (vp_nar .boolean 1)), mJ_mk (ab2) (be2) (sn) (wn) (sa) (ly) (rdy) (fd) (np) (nf) (nr) (na) (nt) (sp) (wi) (wa) (va) (bo) (ju) (dr) (dn) (sl) (ax) (lf) (wh) (w6) (b6) (hmo) (hss_) (him_) (hkq_) (hsp_) (hwi_) (hwa_) (hva_) (hbo_) (hju_) (hdr_) (hdn_) (hsl_) (hax_) (hlf_) (hwh_) (hw6_) (hb6_) (hst) (by omega) (hdn) (stI_new hst (fun k hk => hb4 k (by omega))) (stI_of hi1 (fun k hk => ha4 _ (fun q hq => by show _ ≠ q; omega))) (hrd), ⟨np, nf, nr, na, nt, hst, Or.inr (Or.inl ⟨rfl, rfl, fun q hq => hb4 q (by omega), fun j hj => ha4 j (fun q hq => by show _ ≠ q; omega), rfl⟩)⟩, fun j hj => ((o_2 j (by omega))).trans (o_1 j (by omega))⟩), by rw [hT9]; exact hP⟩, hS.F hT9⟩) hS.2.2 dX11_image_54
          · have k_26 : ¬ 2246 ≤ i := fun z9 => c_26 ((nI_leI (a := 2246) (b := i) (by omega) (by omega)).mpr z9)
            refine lv_aload_n hx hb dX11_image_29 rfl (lv_at hl 0 rfl) ?_
            refine va_get (D := G.1) (ci := 10) (v := .ref (g 317)) (C := RX11) (T := TX11) (N := 25) hx hb hts inlX11 hown hG.1 hP 315 (wl_at (by decide) hmo) rfl 1 (by decide) (hts (.fieldLink RX11 13 "SwornListsModel" "images" "[I") w_113) (fun _ h9 => h9) rfl dX11_image_30 ?_
            refine lv_sipush (v := 2246) hx hb dX11_image_33 (by decide) ?_
            refine lv_iload_n hx hb dX11_image_36 rfl (lv_at hl 1 rfl) ?_
            refine lv_imul hx hb dX11_image_37 ?_
            refine my_bei (v := 0) (by decide) ?_
            refine lv_iload_n hx hb dX11_image_38 rfl (lv_at hl 2 rfl) ?_
            refine lv_iadd hx hb dX11_image_39 ?_
            refine my_bei (v := nI i) ((nI_add 0 i).trans (congrArg nI (show 0 + i = i by omega))) ?_
            refine lv_aload_n hx hb dX11_image_40 rfl (lv_at hl 0 rfl) ?_
            refine va_get (D := G.1) (ci := 10) (v := .ref (g 316)) (C := RX11) (T := TX11) (N := 25) hx hb hts inlX11 hown hG.1 hP 315 (wl_at (by decide) hmo) rfl 0 (by decide) (hts (.fieldLink RX11 7 "SwornListsModel" "st" "[I") w_112) (fun _ h9 => h9) rfl dX11_image_41 ?_
            refine lv_iload_n hx hb dX11_image_44 rfl (lv_at hl 2 rfl) ?_
            refine va_iald hx hb hG.1 hP 316 0 (wl_at (by decide) hss_) rfl (vp_in_nI (by omega) (by decide)) dX11_image_45 ?_
            refine my_bei (v := ss i) (congrArg ss (nI_clamp (n := i) (by omega))) ?_
            refine va_iast hx hb hG.1 hP (wl_D hg f_2) hS 317 0 (wl_at (by decide) him_) rfl (vp_in_nI (by omega) (by decide)) dX11_image_46 (fun H locs hP _ hS => ?_)
            have hP := (congrArg (fun z9 => va_P G.1 vwCl ((wl g f_2).set 317 (g 317, eI G 4492 ((upd im4 z9 (ss i))))) H) (show Int32.toNatClampNeg (nI i) = i from nI_clamp (by omega))).mp hP
            obtain ⟨f_3, hP, e_3, o_3⟩ := b_put (by decide) hP
            have him_ : f_3 317 = eI G 4492 (upd im4 i (ss i)) := e_3
            refine lv_iinc (v := nI (i + 1)) (lv' := [(2, .int (nI (i + 1))), (0, .ref (g 315)), (1, .int 0)]) hx hb dX11_image_47 hl (k := 2) rfl (nI_add i 1) (by decide) rfl (fun ls hl => ?_)
            refine lv_goto (tgt := 22) hx hb dX11_image_50 (by decide) ?_
            replace hmo := ((o_3 315 (by decide))).trans hmo
            replace hss_ := ((o_3 316 (by decide))).trans hss_
            replace hkq_ := ((o_3 318 (by decide))).trans hkq_
            replace hsp_ := ((o_3 319 (by decide))).trans hsp_
            replace hwi_ := ((o_3 320 (by decide))).trans hwi_
            replace hwa_ := ((o_3 321 (by decide))).trans hwa_
            replace hva_ := ((o_3 322 (by decide))).trans hva_
            replace hbo_ := ((o_3 323 (by decide))).trans hbo_
            replace hju_ := ((o_3 324 (by decide))).trans hju_
            replace hdr_ := ((o_3 325 (by decide))).trans hdr_
            replace hdn_ := ((o_3 326 (by decide))).trans hdn_
            replace hsl_ := ((o_3 327 (by decide))).trans hsl_
            replace hax_ := ((o_3 328 (by decide))).trans hax_
            replace hlf_ := ((o_3 329 (by decide))).trans hlf_
            replace hwh_ := ((o_3 330 (by decide))).trans hwh_
            replace hw6_ := ((o_3 331 (by decide))).trans hw6_
            replace hb6_ := ((o_3 332 (by decide))).trans hb6_
            exact ih_1 (i + 1) (upd im4 i (ss i)) f_3 _ _ _ (by omega) (fill_a (P := (fun q => q)) ha4) (fill_b (P := (fun q => q)) (v := ss) (fun i j h => by have h : i = j := h; omega) hb4 rfl) (by omega) (hmo) (hss_) (him_) (hkq_) (hsp_) (hwi_) (hwa_) (hva_) (hbo_) (hju_) (hdr_) (hdn_) (hsl_) (hax_) (hlf_) (hwh_) (hw6_) (hb6_) (fun j hj => ((o_3 j (by omega))).trans (o_2 j (by omega))) hP hS (lv_sub hl [1, 2, 0] rfl)
      exact key1 (2246 + 1) 0 im f_1 _ _ _ (by omega) (fun _ _ => rfl) (fun q hq => absurd hq (Nat.not_lt_zero _)) (by omega) (hmo) (hss_) (him_) (hkq_) (hsp_) (hwi_) (hwa_) (hva_) (hbo_) (hju_) (hdr_) (hdn_) (hsl_) (hax_) (hlf_) (hwh_) (hw6_) (hb6_) (fun j _ => rfl) hP hS (lv_sub hl [1, 2, 0] rfl)
    · subst e9
      refine lv_aload_n hx hb dX11_image_13 rfl (lv_at hl 0 rfl) ?_
      refine va_get (D := G.1) (ci := 10) (v := .ref (g 318)) (C := RX11) (T := TX11) (N := 25) hx hb hts inlX11 hown hG.1 hP 315 (wl_at (by decide) hmo) rfl 2 (by decide) (hts (.fieldLink RX11 16 "SwornListsModel" "isKept" "[Z") w_114) (fun _ h9 => h9) rfl dX11_image_14 ?_
      refine lv_iload_n hx hb dX11_image_17 rfl (lv_at hl 1 rfl) ?_
      refine lv_iconst (v := 1) hx hb dX11_image_18 (by decide) ?_
      refine va_zast hx hb hG.1 hP (wl_D hg f) hS 318 2 (wl_at (by decide) hkq_) rfl (by unfold vp_in; decide) dX11_image_19 (fun H locs hP _ hS => ?_)
      have hP := (congrArg (fun z9 => va_P G.1 vwCl ((wl g f).set 318 (g 318, eZ G 2 ((upd kq z9 (vp_nar .boolean 1))))) H) (show Int32.toNatClampNeg 1 = 1 from rfl)).mp hP
      obtain ⟨f_4, hP, e_4, o_4⟩ := b_put (by decide) hP
      have hkq_ : f_4 318 = eZ G 2 (upd kq 1 (vp_nar .boolean 1)) := e_4
      refine lv_iconst (v := 0) hx hb dX11_image_20 (by decide) ?_
      refine lv_istore_n (lv' := [(2, .int 0), (0, .ref (g 315)), (1, .int 1)]) hx hb dX11_image_21 rfl hl (by decide) rfl (fun ls hl => ?_)
      replace hmo := ((o_4 315 (by decide))).trans hmo
      replace hss_ := ((o_4 316 (by decide))).trans hss_
      replace him_ := ((o_4 317 (by decide))).trans him_
      replace hsp_ := ((o_4 319 (by decide))).trans hsp_
      replace hwi_ := ((o_4 320 (by decide))).trans hwi_
      replace hwa_ := ((o_4 321 (by decide))).trans hwa_
      replace hva_ := ((o_4 322 (by decide))).trans hva_
      replace hbo_ := ((o_4 323 (by decide))).trans hbo_
      replace hju_ := ((o_4 324 (by decide))).trans hju_
      replace hdr_ := ((o_4 325 (by decide))).trans hdr_
      replace hdn_ := ((o_4 326 (by decide))).trans hdn_
      replace hsl_ := ((o_4 327 (by decide))).trans hsl_
      replace hax_ := ((o_4 328 (by decide))).trans hax_
      replace hlf_ := ((o_4 329 (by decide))).trans hlf_
      replace hwh_ := ((o_4 330 (by decide))).trans hwh_
      replace hw6_ := ((o_4 331 (by decide))).trans hw6_
      replace hb6_ := ((o_4 332 (by decide))).trans hb6_
      have key2 : ∀ (n9_2 : Nat) (i : Nat) (im4 : Nat → Int32) (f_5 : Nat → va_E) (H : Heap) (locs : List Loc) (ls : Array Slot), (i ≤ 2246) → (∀ j, (∀ q, q < i → j ≠ (fun q => q + 2246) q) → im4 j = im j) → (∀ q, q < i → im4 ((fun q => q + 2246) q) = ss q) → 2246 - i < n9_2 → f_5 315 = eO 10 [.ref (g 316), .ref (g 317), .ref (g 318), .long ab2, .long be2, .int sn, .ref (g 319), .ref (g 320), .int wn, .ref (g 321), .ref (g 322), .int sa, .int ly, .int rdy, .int (nI fd), .ref (g 323), .ref (g 324), .ref (g 325), .ref (g 326), .ref (g 327), .ref (g 328), .ref (g 329), .ref (g 330), .ref (g 331), .ref (g 332)] → f_5 316 = eI G 2246 ss → f_5 317 = eI G 4492 im4 → f_5 318 = eZ G 2 (upd kq 1 (vp_nar .boolean 1)) → f_5 319 = eI G 70 sp → f_5 320 = eI G 70 wi → f_5 321 = eI G 70 wa → f_5 322 = eJ G 70 va → f_5 323 = eI G 11 bo → f_5 324 = eI G 11 ju → f_5 325 = eI G 264 dr → f_5 326 = eI G 11 dn → f_5 327 = eI G 330 sl → f_5 328 = eI G 44 ax → f_5 329 = eI G 30 lf → f_5 330 = eI G 6 wh → f_5 331 = eI G 6 w6 → f_5 332 = eI G 6 b6 → (∀ j, j ≠ 317 → f_5 j = f_4 j) → va_P G.1 vwCl (wl g f_5) H → va_S (gA g) s.heap H locs → lv_has ls 3 [(0, .ref (g 315)), (1, .int 1), (2, .int (nI i))] → W p l e (headSpec (wsT yX11_image cX11_image 3 (some .int)) ({ frames := 1, cells := 0, slots := 0, locals := 25 })).room s m ([.ref (g 315), .int 1] : List Value).toArray below meth c H locs 0 0 Q9 (F0 m 22 ls []) := by
        intro n9_2
        induction n9_2 with
        | zero => intro i im4 f_5 H locs ls hi ha4 hb4 hn9_2; exact absurd hn9_2 (Nat.not_lt_zero _)
        | succ n9_2 ih_2 =>
          intro i im4 f_5 H locs ls hi ha4 hb4 hn9_2 hmo hss_ him_ hkq_ hsp_ hwi_ hwa_ hva_ hbo_ hju_ hdr_ hdn_ hsl_ hax_ hlf_ hwh_ hw6_ hb6_ o_5 hP hS hl
          refine lv_iload_n hx hb dX11_image_22 rfl (lv_at hl 2 rfl) ?_
          refine lv_sipush (v := 2246) hx hb dX11_image_23 (by decide) ?_
          refine lv_icmp_ge (tgt := 53) hx hb dX11_image_26 (by decide) (fun c_26 => ?_) (fun c_26 => ?_)
          · have k_26 : 2246 ≤ i := (nI_leI (a := 2246) (b := i) (by omega) (by omega)).mp c_26
            refine lv_iconst (v := 1) hx hb dX11_image_53 (by decide) ?_
            refine W_q9 hQ9 ?_
            exact W.iret (v := 1) hx hb hr (fun _ hT9 _ => ⟨⟨_, f_5, rfl, (⟨im4, (upd kq 1 (vp_nar .boolean 1)), mJ_mk (ab2) (be2) (sn) (wn) (sa) (ly) (rdy) (fd) (np) (nf) (nr) (na) (nt) (sp) (wi) (wa) (va) (bo) (ju) (dr) (dn) (sl) (ax) (lf) (wh) (w6) (b6) (hmo) (hss_) (him_) (hkq_) (hsp_) (hwi_) (hwa_) (hva_) (hbo_) (hju_) (hdr_) (hdn_) (hsl_) (hax_) (hlf_) (hwh_) (hw6_) (hb6_) (hst) (by omega) (hdn) (stI_of hi0 (fun k hk => ha4 _ (fun q hq => by show _ ≠ q + 2246; omega))) (stI_new hst (fun k hk => hb4 k (by omega))) (hrd), ⟨np, nf, nr, na, nt, hst, Or.inr (Or.inr ⟨rfl, rfl, fun q hq => hb4 q (by omega), fun j hj => ha4 j (fun q hq => by show _ ≠ q + 2246; omega), rfl⟩)⟩, fun j hj => ((o_5 j (by omega))).trans (o_4 j (by omega))⟩), by rw [hT9]; exact hP⟩, hS.F hT9⟩) hS.2.2 dX11_image_54
          · have k_26 : ¬ 2246 ≤ i := fun z9 => c_26 ((nI_leI (a := 2246) (b := i) (by omega) (by omega)).mpr z9)
            refine lv_aload_n hx hb dX11_image_29 rfl (lv_at hl 0 rfl) ?_
            refine va_get (D := G.1) (ci := 10) (v := .ref (g 317)) (C := RX11) (T := TX11) (N := 25) hx hb hts inlX11 hown hG.1 hP 315 (wl_at (by decide) hmo) rfl 1 (by decide) (hts (.fieldLink RX11 13 "SwornListsModel" "images" "[I") w_113) (fun _ h9 => h9) rfl dX11_image_30 ?_
            refine lv_sipush (v := 2246) hx hb dX11_image_33 (by decide) ?_
            refine lv_iload_n hx hb dX11_image_36 rfl (lv_at hl 1 rfl) ?_
            refine lv_imul hx hb dX11_image_37 ?_
            refine my_bei (v := 2246) (by decide) ?_
            refine lv_iload_n hx hb dX11_image_38 rfl (lv_at hl 2 rfl) ?_
            refine lv_iadd hx hb dX11_image_39 ?_
            refine my_bei (v := nI (i + 2246)) ((nI_add 2246 i).trans (congrArg nI (show 2246 + i = i + 2246 by omega))) ?_
            refine lv_aload_n hx hb dX11_image_40 rfl (lv_at hl 0 rfl) ?_
            refine va_get (D := G.1) (ci := 10) (v := .ref (g 316)) (C := RX11) (T := TX11) (N := 25) hx hb hts inlX11 hown hG.1 hP 315 (wl_at (by decide) hmo) rfl 0 (by decide) (hts (.fieldLink RX11 7 "SwornListsModel" "st" "[I") w_112) (fun _ h9 => h9) rfl dX11_image_41 ?_
            refine lv_iload_n hx hb dX11_image_44 rfl (lv_at hl 2 rfl) ?_
            refine va_iald hx hb hG.1 hP 316 0 (wl_at (by decide) hss_) rfl (vp_in_nI (by omega) (by decide)) dX11_image_45 ?_
            refine my_bei (v := ss i) (congrArg ss (nI_clamp (n := i) (by omega))) ?_
            refine va_iast hx hb hG.1 hP (wl_D hg f_5) hS 317 0 (wl_at (by decide) him_) rfl (vp_in_nI (by omega) (by decide)) dX11_image_46 (fun H locs hP _ hS => ?_)
            have hP := (congrArg (fun z9 => va_P G.1 vwCl ((wl g f_5).set 317 (g 317, eI G 4492 ((upd im4 z9 (ss i))))) H) (show Int32.toNatClampNeg (nI (i + 2246)) = i + 2246 from nI_clamp (by omega))).mp hP
            obtain ⟨f_6, hP, e_6, o_6⟩ := b_put (by decide) hP
            have him_ : f_6 317 = eI G 4492 (upd im4 (i + 2246) (ss i)) := e_6
            refine lv_iinc (v := nI (i + 1)) (lv' := [(2, .int (nI (i + 1))), (0, .ref (g 315)), (1, .int 1)]) hx hb dX11_image_47 hl (k := 2) rfl (nI_add i 1) (by decide) rfl (fun ls hl => ?_)
            refine lv_goto (tgt := 22) hx hb dX11_image_50 (by decide) ?_
            replace hmo := ((o_6 315 (by decide))).trans hmo
            replace hss_ := ((o_6 316 (by decide))).trans hss_
            replace hkq_ := ((o_6 318 (by decide))).trans hkq_
            replace hsp_ := ((o_6 319 (by decide))).trans hsp_
            replace hwi_ := ((o_6 320 (by decide))).trans hwi_
            replace hwa_ := ((o_6 321 (by decide))).trans hwa_
            replace hva_ := ((o_6 322 (by decide))).trans hva_
            replace hbo_ := ((o_6 323 (by decide))).trans hbo_
            replace hju_ := ((o_6 324 (by decide))).trans hju_
            replace hdr_ := ((o_6 325 (by decide))).trans hdr_
            replace hdn_ := ((o_6 326 (by decide))).trans hdn_
            replace hsl_ := ((o_6 327 (by decide))).trans hsl_
            replace hax_ := ((o_6 328 (by decide))).trans hax_
            replace hlf_ := ((o_6 329 (by decide))).trans hlf_
            replace hwh_ := ((o_6 330 (by decide))).trans hwh_
            replace hw6_ := ((o_6 331 (by decide))).trans hw6_
            replace hb6_ := ((o_6 332 (by decide))).trans hb6_
            exact ih_2 (i + 1) (upd im4 (i + 2246) (ss i)) f_6 _ _ _ (by omega) (fill_a (P := (fun q => q + 2246)) ha4) (fill_b (P := (fun q => q + 2246)) (v := ss) (fun i j h => by have h : i + 2246 = j + 2246 := h; omega) hb4 rfl) (by omega) (hmo) (hss_) (him_) (hkq_) (hsp_) (hwi_) (hwa_) (hva_) (hbo_) (hju_) (hdr_) (hdn_) (hsl_) (hax_) (hlf_) (hwh_) (hw6_) (hb6_) (fun j hj => ((o_6 j (by omega))).trans (o_5 j (by omega))) hP hS (lv_sub hl [1, 2, 0] rfl)
      exact key2 (2246 + 1) 0 im f_4 _ _ _ (by omega) (fun _ _ => rfl) (fun q hq => absurd hq (Nat.not_lt_zero _)) (by omega) (hmo) (hss_) (him_) (hkq_) (hsp_) (hwi_) (hwa_) (hva_) (hbo_) (hju_) (hdr_) (hdn_) (hsl_) (hax_) (hlf_) (hwh_) (hw6_) (hb6_) (fun j _ => rfl) hP hS (lv_sub hl [1, 2, 0] rfl)
  · refine lv_bipush (v := (-2)) hx hb dX11_image_10 (by decide) ?_
    refine W_q9 hQ9 ?_
    exact W.iret (v := (-2)) hx hb hr (fun _ hT9 _ => ⟨⟨_, f, rfl, (⟨im, kq, mJ_mk (ab2) (be2) (sn) (wn) (sa) (ly) (rdy) (fd) (np) (nf) (nr) (na) (nt) (sp) (wi) (wa) (va) (bo) (ju) (dr) (dn) (sl) (ax) (lf) (wh) (w6) (b6) (hmo) (hss_) (him_) (hkq_) (hsp_) (hwi_) (hwa_) (hva_) (hbo_) (hju_) (hdr_) (hdn_) (hsl_) (hax_) (hlf_) (hwh_) (hw6_) (hb6_) (hst) (by omega) (hdn) (hi0) (hi1) (hrd), ⟨np, nf, nr, na, nt, hst, Or.inl ⟨c_7, rfl, rfl, rfl⟩⟩, fun j hj => rfl⟩), by rw [hT9]; exact hP⟩, hS.F hT9⟩) hS.2.2 dX11_image_12
theorem j2_image (l : Launch) (G : gW) (g : Nat → Nat) (hg : gOK g) (f : Nat → va_E) (ss : Nat → Int32) (im : Nat → Int32) (kq : Nat → Int32) (a1 : Int32) (hI : mJ G g f ss im kq) (htA : ∀ n : Nat, n ≤ 10 → ss 4 = nI n → trOK ss n) : Met l yX11_image (wsT yX11_image cX11_image 3 (some .int)) ({ frames := 1, cells := 0, slots := 0, locals := 25 }) (bP G g f [.ref (g 315), .int a1]) (bQi G g (fun (z9 : Int32) (f' : Nat → va_E) => ∃ im9 : Nat → Int32, ∃ kq9 : Nat → Int32, (mJ G g f' ss im9 kq9) ∧ (∃ p9 f9 r9 u9 t9, stOK ss p9 f9 r9 u9 t9 ∧ ((¬ inB 0 a1 1 = true ∧ z9 = -2 ∧ im9 = im ∧ kq9 = kq) ∨ ((a1 : Int32) = 0 ∧ z9 = 1 ∧ (∀ q, q < 2246 → im9 q = ss q) ∧ (∀ j, 2246 ≤ j → im9 j = im j) ∧ kq9 = upd kq 0 (vp_nar .boolean 1)) ∨ ((a1 : Int32) = 1 ∧ z9 = 1 ∧ (∀ q, q < 2246 → im9 (q + 2246) = ss q) ∧ (∀ j, j < 2246 → im9 j = im j) ∧ kq9 = upd kq 1 (vp_nar .boolean 1)))) ∧ ∀ j, j < 315 → f' j = f j)) 0 0 (gA g) := mJ_elim hI (fun ab2 be2 sn wn sa ly rdy fd np nf nr na nt sp wi wa va bo ju dr dn sl ax lf wh w6 b6 hmo hss_ him_ hkq_ hsp_ hwi_ hwa_ hva_ hbo_ hju_ hdr_ hdn_ hsl_ hax_ hlf_ hwh_ hw6_ hb6_ hst hfo hdn hi0 hi1 hrd => jn2_image l G g hg f ab2 be2 sn wn sa ly rdy fd ss np nf nr na nt im kq sp wi wa va bo ju dr dn sl ax lf wh w6 b6 a1 hmo hss_ him_ hkq_ hsp_ hwi_ hwa_ hva_ hbo_ hju_ hdr_ hdn_ hsl_ hax_ hlf_ hwh_ hw6_ hb6_ hst hfo hdn hi0 hi1 hrd htA)
set_option maxHeartbeats 4000000 in
set_option maxRecDepth 100000 in
theorem jn2_from (l : Launch) (G : gW) (g : Nat → Nat) (hg : gOK g) (f : Nat → va_E) (ab2 : Int64) (be2 : Int64) (sn : Int32) (wn : Int32) (sa : Int32) (ly : Int32) (rdy : Int32) (fd : Nat) (ss : Nat → Int32) (np : Nat) (nf : Nat) (nr : Nat) (na : Nat) (nt : Nat) (im : Nat → Int32) (kq : Nat → Int32) (sp : Nat → Int32) (wi : Nat → Int32) (wa : Nat → Int32) (va : Nat → Int64) (bo : Nat → Int32) (ju : Nat → Int32) (dr : Nat → Int32) (dn : Nat → Int32) (sl : Nat → Int32) (ax : Nat → Int32) (lf : Nat → Int32) (wh : Nat → Int32) (w6 : Nat → Int32) (b6 : Nat → Int32) (a1 : Int32) (hmo : f 315 = eO 10 [.ref (g 316), .ref (g 317), .ref (g 318), .long ab2, .long be2, .int sn, .ref (g 319), .ref (g 320), .int wn, .ref (g 321), .ref (g 322), .int sa, .int ly, .int rdy, .int (nI fd), .ref (g 323), .ref (g 324), .ref (g 325), .ref (g 326), .ref (g 327), .ref (g 328), .ref (g 329), .ref (g 330), .ref (g 331), .ref (g 332)]) (hss_ : f 316 = eI G 2246 ss) (him_ : f 317 = eI G 4492 im) (hkq_ : f 318 = eZ G 2 kq) (hsp_ : f 319 = eI G 70 sp) (hwi_ : f 320 = eI G 70 wi) (hwa_ : f 321 = eI G 70 wa) (hva_ : f 322 = eJ G 70 va) (hbo_ : f 323 = eI G 11 bo) (hju_ : f 324 = eI G 11 ju) (hdr_ : f 325 = eI G 264 dr) (hdn_ : f 326 = eI G 11 dn) (hsl_ : f 327 = eI G 330 sl) (hax_ : f 328 = eI G 44 ax) (hlf_ : f 329 = eI G 30 lf) (hwh_ : f 330 = eI G 6 wh) (hw6_ : f 331 = eI G 6 w6) (hb6_ : f 332 = eI G 6 b6) (hst : stOK ss np nf nr na nt) (hfo : fd ≤ 10) (hdn : ∀ k, k < 11 → ∃ d, d ≤ 24 ∧ dn k = nI d) (hi0 : stI im 0) (hi1 : stI im 2246) (hrd : ¬ rdy = 0 → fd = nt ∧ ∀ z, z < nt → rHz np nf nr na ss bo ju dr dn sl ax z) (htA : ∀ n : Nat, n ≤ 10 → ss 4 = nI n → trOK ss n) : Met l yX11_from (wsT yX11_from cX11_from 3 (some .int)) ({ frames := 1, cells := 0, slots := 0, locals := 25 }) (bP G g f [.ref (g 315), .int a1]) (bQi G g (fun (z9 : Int32) (f' : Nat → va_E) => ∃ ss9 : Nat → Int32, (mJ G g f' ss9 im kq) ∧ (∃ p9 f9 r9 u9 t9, stOK ss p9 f9 r9 u9 t9 ∧ ((¬ inB 0 a1 1 = true ∧ z9 = -2 ∧ ss9 = ss) ∨ (∃ x, x ≤ 1 ∧ a1 = nI x ∧ ((kq x = 0 ∧ z9 = -3 ∧ ss9 = ss) ∨ (¬ kq x = 0 ∧ z9 = 1 ∧ ∀ q, q < 2246 → ss9 q = im (q + 2246 * x)))))) ∧ ∀ j, j < 315 → f' j = f j)) 0 0 (gA g) := by
  refine Met.ofW (cc := cX11_from) (maxL := 3) (ret := (some .int)) (by decide) rfl ?_
  intro p e s m args below meth c s₁ B hml hv
  obtain ⟨rfl, hP, hG⟩ := hv
  have hx := B.exec
  have hb := B.bytes
  have hr := B.returns
  have hts := my_hts (atoms_spec (ws := wsT yX11_from cX11_from 3 (some .int)) B.pre)
  have hown : s.vm.findClass RX11 = some m.cls := findClass_of_methodNamed B.named
  have hlocks := B.notSynchronized
  have hS : va_S (gA g) s.heap s.heap [] := va_S.rf
  have hl := lv_entry ([.ref (g 315), .int a1]) (n := 3) (Nat.le_of_ble_eq_true rfl)
  rw [lg_entry_eq]
  generalize (lg_sl ([.ref (g 315), .int a1]) ++ List.replicate (3 - (lg_sl ([.ref (g 315), .int a1])).length) Slot.unset).toArray = ls at hl ⊢
  have hl : lv_has ls 3 [(0, .ref (g 315)), (1, .int a1)] := hl
  refine W_q8 (fun Q9 hQ9 => ?_)
  have hc0 := hst.c0
  have hc1 := hst.c1
  have hc2 := hst.c2
  have hc3 := hst.c3
  have hc4 := hst.c4
  have htr := htA nt hst.c4 hst.h4
  refine lv_iload_n hx hb dX11_from_0 rfl (lv_at hl 1 rfl) ?_
  refine lv_i2l hx hb dX11_from_1 rfl ?_
  refine lv_lconst (v := 0) hx hb dX11_from_2 (by decide) ?_
  refine my_bel (v := Int32.toInt64 0) (by decide) ?_
  refine lv_lconst (v := 1) hx hb dX11_from_3 (by decide) ?_
  refine my_bel (v := Int32.toInt64 1) (by decide) ?_
  refine rd_calli (va_runS (As := [.long (Int32.toInt64 a1), .long (Int32.toInt64 0), .long (Int32.toInt64 1)]) (rest := []) ⟨hx, hb, hml, hown, hts⟩ (r_in l G g hg f a1 0 1  ) (my_cwS hts ok_X11_in w_162 rfl rfl ⟨Nat.le_of_ble_eq_true rfl, Nat.le_of_ble_eq_true rfl⟩) ⟨bP.blind, fun U hU hW => ⟨rfl, by rw [hU]; exact hP, kG.warm hW hG⟩⟩ rfl rfl hl.1 rfl (lv_room (Nat.le_of_ble_eq_true rfl)) dX11_from_4 ⟨Nat.le_of_ble_eq_true rfl, Nat.le_of_ble_eq_true rfl⟩) (fun r hr9 => ?_)
  subst hr9
  refine my_ifne (tgt := 13) hx hb dX11_from_7 (by decide) (fun c_7 => ?_) (fun c_7 => ?_)
  · rcases inB_01.mp c_7 with e9 | e9
    · subst e9
      refine lv_aload_n hx hb dX11_from_13 rfl (lv_at hl 0 rfl) ?_
      refine va_get (D := G.1) (ci := 10) (v := .ref (g 318)) (C := RX11) (T := TX11) (N := 25) hx hb hts inlX11 hown hG.1 hP 315 (wl_at (by decide) hmo) rfl 2 (by decide) (hts (.fieldLink RX11 16 "SwornListsModel" "isKept" "[Z") w_114) (fun _ h9 => h9) rfl dX11_from_14 ?_
      refine lv_iload_n hx hb dX11_from_17 rfl (lv_at hl 1 rfl) ?_
      refine va_zald hx hb hG.1 hP 318 2 (wl_at (by decide) hkq_) rfl (by unfold vp_in; decide) dX11_from_18 ?_
      refine my_bei (v := kq 0) (rfl) ?_
      refine lv_if_ne (tgt := 25) hx hb dX11_from_19 (by decide) (fun c_19 => ?_) (fun c_19 => ?_)
      · refine lv_iconst (v := 0) hx hb dX11_from_25 (by decide) ?_
        refine lv_istore_n (lv' := [(2, .int 0), (0, .ref (g 315)), (1, .int 0)]) hx hb dX11_from_26 rfl hl (by decide) rfl (fun ls hl => ?_)
        have key1 : ∀ (n9_1 : Nat) (i : Nat) (s4 : Nat → Int32) (f_1 : Nat → va_E) (H : Heap) (locs : List Loc) (ls : Array Slot), (i ≤ 2246) → (∀ q, q < i → s4 q = im q) → 2246 - i < n9_1 → f_1 315 = eO 10 [.ref (g 316), .ref (g 317), .ref (g 318), .long ab2, .long be2, .int sn, .ref (g 319), .ref (g 320), .int wn, .ref (g 321), .ref (g 322), .int sa, .int ly, .int rdy, .int (nI fd), .ref (g 323), .ref (g 324), .ref (g 325), .ref (g 326), .ref (g 327), .ref (g 328), .ref (g 329), .ref (g 330), .ref (g 331), .ref (g 332)] → f_1 316 = eI G 2246 s4 → f_1 317 = eI G 4492 im → f_1 318 = eZ G 2 kq → f_1 319 = eI G 70 sp → f_1 320 = eI G 70 wi → f_1 321 = eI G 70 wa → f_1 322 = eJ G 70 va → f_1 323 = eI G 11 bo → f_1 324 = eI G 11 ju → f_1 325 = eI G 264 dr → f_1 326 = eI G 11 dn → f_1 327 = eI G 330 sl → f_1 328 = eI G 44 ax → f_1 329 = eI G 30 lf → f_1 330 = eI G 6 wh → f_1 331 = eI G 6 w6 → f_1 332 = eI G 6 b6 → (∀ j, j ≠ 316 → f_1 j = f j) → va_P G.1 vwCl (wl g f_1) H → va_S (gA g) s.heap H locs → lv_has ls 3 [(0, .ref (g 315)), (1, .int 0), (2, .int (nI i))] → W p l e (headSpec (wsT yX11_from cX11_from 3 (some .int)) ({ frames := 1, cells := 0, slots := 0, locals := 25 })).room s m ([.ref (g 315), .int 0] : List Value).toArray below meth c H locs 0 0 Q9 (F0 m 27 ls []) := by
          intro n9_1
          induction n9_1 with
          | zero => intro i s4 f_1 H locs ls hi hb4 hn9_1; exact absurd hn9_1 (Nat.not_lt_zero _)
          | succ n9_1 ih_1 =>
            intro i s4 f_1 H locs ls hi hb4 hn9_1 hmo hss_ him_ hkq_ hsp_ hwi_ hwa_ hva_ hbo_ hju_ hdr_ hdn_ hsl_ hax_ hlf_ hwh_ hw6_ hb6_ o_1 hP hS hl
            refine lv_iload_n hx hb dX11_from_27 rfl (lv_at hl 2 rfl) ?_
            refine lv_sipush (v := 2246) hx hb dX11_from_28 (by decide) ?_
            refine lv_icmp_ge (tgt := 58) hx hb dX11_from_31 (by decide) (fun c_31 => ?_) (fun c_31 => ?_)
            · have k_31 : 2246 ≤ i := (nI_leI (a := 2246) (b := i) (by omega) (by omega)).mp c_31
              obtain ⟨p1, p2, p3, p4, p5, hs5⟩ := stI_to hi0 (s4 := s4) (fun k hk => hb4 k (by omega))
              refine lv_aload_n hx hb dX11_from_58 rfl (lv_at hl 0 rfl) ?_
              refine lv_iconst (v := 0) hx hb dX11_from_59 (by decide) ?_
              refine va_put (D := G.1) (ci := 10) (v := .int 0) (ty := .boolean) (C := RX11) (T := TX11) (N := 25) hx hb hts inlX11 tyX11 tyX11_ok nmX11 hown hG.1 hP (wl_D hg f_1) hS 315 (wl_at (by decide) hmo) rfl 13 (by decide) (hts (.fieldLink RX11 71 "SwornListsModel" "isReady" "Z") w_169) (fun _ h9 => h9) rfl (by decide +kernel) rfl rfl (Nat.le_of_ble_eq_true rfl) dX11_from_60 (fun H locs hP _ hS => ?_)
              obtain ⟨f_2, hP, e_2, o_2⟩ := b_put (by decide) hP
              have hmo : f_2 315 = eO 10 [.ref (g 316), .ref (g 317), .ref (g 318), .long ab2, .long be2, .int sn, .ref (g 319), .ref (g 320), .int wn, .ref (g 321), .ref (g 322), .int sa, .int ly, .int 0, .int (nI fd), .ref (g 323), .ref (g 324), .ref (g 325), .ref (g 326), .ref (g 327), .ref (g 328), .ref (g 329), .ref (g 330), .ref (g 331), .ref (g 332)] := e_2
              refine lv_iconst (v := 1) hx hb dX11_from_63 (by decide) ?_
              refine W_q9 hQ9 ?_
              replace hss_ := ((o_2 316 (by decide))).trans hss_
              replace him_ := ((o_2 317 (by decide))).trans him_
              replace hkq_ := ((o_2 318 (by decide))).trans hkq_
              replace hsp_ := ((o_2 319 (by decide))).trans hsp_
              replace hwi_ := ((o_2 320 (by decide))).trans hwi_
              replace hwa_ := ((o_2 321 (by decide))).trans hwa_
              replace hva_ := ((o_2 322 (by decide))).trans hva_
              replace hbo_ := ((o_2 323 (by decide))).trans hbo_
              replace hju_ := ((o_2 324 (by decide))).trans hju_
              replace hdr_ := ((o_2 325 (by decide))).trans hdr_
              replace hdn_ := ((o_2 326 (by decide))).trans hdn_
              replace hsl_ := ((o_2 327 (by decide))).trans hsl_
              replace hax_ := ((o_2 328 (by decide))).trans hax_
              replace hlf_ := ((o_2 329 (by decide))).trans hlf_
              replace hwh_ := ((o_2 330 (by decide))).trans hwh_
              replace hw6_ := ((o_2 331 (by decide))).trans hw6_
              replace hb6_ := ((o_2 332 (by decide))).trans hb6_
              exact W.iret (v := 1) hx hb hr (fun _ hT9 _ => ⟨⟨_, f_2, rfl, (⟨s4, mJ_mk (ab2) (be2) (sn) (wn) (sa) (ly) (0) (fd) (p1) (p2) (p3) (p4) (p5) (sp) (wi) (wa) (va) (bo) (ju) (dr) (dn) (sl) (ax) (lf) (wh) (w6) (b6) (hmo) (hss_) (him_) (hkq_) (hsp_) (hwi_) (hwa_) (hva_) (hbo_) (hju_) (hdr_) (hdn_) (hsl_) (hax_) (hlf_) (hwh_) (hw6_) (hb6_) (hs5) (by omega) (hdn) (hi0) (hi1) ((fun z => absurd rfl z)), ⟨np, nf, nr, na, nt, hst, Or.inr ⟨0, by omega, rfl, Or.inr ⟨c_19, rfl, fun q hq => hb4 q (by omega)⟩⟩⟩, fun j hj => ((o_2 j (by omega))).trans (o_1 j (by omega))⟩), by rw [hT9]; exact hP⟩, hS.F hT9⟩) hS.2.2 dX11_from_64
            · have k_31 : ¬ 2246 ≤ i := fun z9 => c_31 ((nI_leI (a := 2246) (b := i) (by omega) (by omega)).mpr z9)
              refine lv_aload_n hx hb dX11_from_34 rfl (lv_at hl 0 rfl) ?_
              refine va_get (D := G.1) (ci := 10) (v := .ref (g 316)) (C := RX11) (T := TX11) (N := 25) hx hb hts inlX11 hown hG.1 hP 315 (wl_at (by decide) hmo) rfl 0 (by decide) (hts (.fieldLink RX11 7 "SwornListsModel" "st" "[I") w_112) (fun _ h9 => h9) rfl dX11_from_35 ?_
              refine lv_iload_n hx hb dX11_from_38 rfl (lv_at hl 2 rfl) ?_
              refine lv_aload_n hx hb dX11_from_39 rfl (lv_at hl 0 rfl) ?_
              refine va_get (D := G.1) (ci := 10) (v := .ref (g 317)) (C := RX11) (T := TX11) (N := 25) hx hb hts inlX11 hown hG.1 hP 315 (wl_at (by decide) hmo) rfl 1 (by decide) (hts (.fieldLink RX11 13 "SwornListsModel" "images" "[I") w_113) (fun _ h9 => h9) rfl dX11_from_40 ?_
              refine lv_sipush (v := 2246) hx hb dX11_from_43 (by decide) ?_
              refine lv_iload_n hx hb dX11_from_46 rfl (lv_at hl 1 rfl) ?_
              refine lv_imul hx hb dX11_from_47 ?_
              refine my_bei (v := 0) (by decide) ?_
              refine lv_iload_n hx hb dX11_from_48 rfl (lv_at hl 2 rfl) ?_
              refine lv_iadd hx hb dX11_from_49 ?_
              refine my_bei (v := nI i) ((nI_add 0 i).trans (congrArg nI (show 0 + i = i by omega))) ?_
              refine va_iald hx hb hG.1 hP 317 0 (wl_at (by decide) him_) rfl (vp_in_nI (by omega) (by decide)) dX11_from_50 ?_
              refine my_bei (v := im i) (congrArg im (nI_clamp (n := i) (by omega))) ?_
              refine va_iast hx hb hG.1 hP (wl_D hg f_1) hS 316 0 (wl_at (by decide) hss_) rfl (vp_in_nI (by omega) (by decide)) dX11_from_51 (fun H locs hP _ hS => ?_)
              have hP := (congrArg (fun z9 => va_P G.1 vwCl ((wl g f_1).set 316 (g 316, eI G 2246 ((upd s4 z9 (im i))))) H) (show Int32.toNatClampNeg (nI i) = i from nI_clamp (by omega))).mp hP
              obtain ⟨f_3, hP, e_3, o_3⟩ := b_put (by decide) hP
              have hss_ : f_3 316 = eI G 2246 (upd s4 i (im i)) := e_3
              refine lv_iinc (v := nI (i + 1)) (lv' := [(2, .int (nI (i + 1))), (0, .ref (g 315)), (1, .int 0)]) hx hb dX11_from_52 hl (k := 2) rfl (nI_add i 1) (by decide) rfl (fun ls hl => ?_)
              refine lv_goto (tgt := 27) hx hb dX11_from_55 (by decide) ?_
              replace hmo := ((o_3 315 (by decide))).trans hmo
              replace him_ := ((o_3 317 (by decide))).trans him_
              replace hkq_ := ((o_3 318 (by decide))).trans hkq_
              replace hsp_ := ((o_3 319 (by decide))).trans hsp_
              replace hwi_ := ((o_3 320 (by decide))).trans hwi_
              replace hwa_ := ((o_3 321 (by decide))).trans hwa_
              replace hva_ := ((o_3 322 (by decide))).trans hva_
              replace hbo_ := ((o_3 323 (by decide))).trans hbo_
              replace hju_ := ((o_3 324 (by decide))).trans hju_
              replace hdr_ := ((o_3 325 (by decide))).trans hdr_
              replace hdn_ := ((o_3 326 (by decide))).trans hdn_
              replace hsl_ := ((o_3 327 (by decide))).trans hsl_
              replace hax_ := ((o_3 328 (by decide))).trans hax_
              replace hlf_ := ((o_3 329 (by decide))).trans hlf_
              replace hwh_ := ((o_3 330 (by decide))).trans hwh_
              replace hw6_ := ((o_3 331 (by decide))).trans hw6_
              replace hb6_ := ((o_3 332 (by decide))).trans hb6_
              exact ih_1 (i + 1) (upd s4 i (im i)) f_3 _ _ _ (by omega) (fill_b (P := fun q => q) (v := fun q => im q) (fun i j h => h) hb4 rfl) (by omega) (hmo) (hss_) (him_) (hkq_) (hsp_) (hwi_) (hwa_) (hva_) (hbo_) (hju_) (hdr_) (hdn_) (hsl_) (hax_) (hlf_) (hwh_) (hw6_) (hb6_) (fun j hj => ((o_3 j (by omega))).trans (o_1 j (by omega))) hP hS (lv_sub hl [1, 2, 0] rfl)
        exact key1 (2246 + 1) 0 ss f _ _ _ (by omega) (fun q hq => absurd hq (Nat.not_lt_zero _)) (by omega) (hmo) (hss_) (him_) (hkq_) (hsp_) (hwi_) (hwa_) (hva_) (hbo_) (hju_) (hdr_) (hdn_) (hsl_) (hax_) (hlf_) (hwh_) (hw6_) (hb6_) (fun j _ => rfl) hP hS (lv_sub hl [1, 2, 0] rfl)
      · refine lv_bipush (v := (-3)) hx hb dX11_from_22 (by decide) ?_
        refine W_q9 hQ9 ?_
        exact W.iret (v := (-3)) hx hb hr (fun _ hT9 _ => ⟨⟨_, f, rfl, (⟨ss, mJ_mk (ab2) (be2) (sn) (wn) (sa) (ly) (rdy) (fd) (np) (nf) (nr) (na) (nt) (sp) (wi) (wa) (va) (bo) (ju) (dr) (dn) (sl) (ax) (lf) (wh) (w6) (b6) (hmo) (hss_) (him_) (hkq_) (hsp_) (hwi_) (hwa_) (hva_) (hbo_) (hju_) (hdr_) (hdn_) (hsl_) (hax_) (hlf_) (hwh_) (hw6_) (hb6_) (hst) (by omega) (hdn) (hi0) (hi1) (hrd), ⟨np, nf, nr, na, nt, hst, Or.inr ⟨0, by omega, rfl, Or.inl ⟨c_19, rfl, rfl⟩⟩⟩, fun j hj => rfl⟩), by rw [hT9]; exact hP⟩, hS.F hT9⟩) hS.2.2 dX11_from_24
    · subst e9
      refine lv_aload_n hx hb dX11_from_13 rfl (lv_at hl 0 rfl) ?_
      refine va_get (D := G.1) (ci := 10) (v := .ref (g 318)) (C := RX11) (T := TX11) (N := 25) hx hb hts inlX11 hown hG.1 hP 315 (wl_at (by decide) hmo) rfl 2 (by decide) (hts (.fieldLink RX11 16 "SwornListsModel" "isKept" "[Z") w_114) (fun _ h9 => h9) rfl dX11_from_14 ?_
      refine lv_iload_n hx hb dX11_from_17 rfl (lv_at hl 1 rfl) ?_
      refine va_zald hx hb hG.1 hP 318 2 (wl_at (by decide) hkq_) rfl (by unfold vp_in; decide) dX11_from_18 ?_
      refine my_bei (v := kq 1) (rfl) ?_
      refine lv_if_ne (tgt := 25) hx hb dX11_from_19 (by decide) (fun c_19 => ?_) (fun c_19 => ?_)
      · refine lv_iconst (v := 0) hx hb dX11_from_25 (by decide) ?_
        refine lv_istore_n (lv' := [(2, .int 0), (0, .ref (g 315)), (1, .int 1)]) hx hb dX11_from_26 rfl hl (by decide) rfl (fun ls hl => ?_)
        have key2 : ∀ (n9_2 : Nat) (i : Nat) (s4 : Nat → Int32) (f_4 : Nat → va_E) (H : Heap) (locs : List Loc) (ls : Array Slot), (i ≤ 2246) → (∀ q, q < i → s4 q = im (q + 2246)) → 2246 - i < n9_2 → f_4 315 = eO 10 [.ref (g 316), .ref (g 317), .ref (g 318), .long ab2, .long be2, .int sn, .ref (g 319), .ref (g 320), .int wn, .ref (g 321), .ref (g 322), .int sa, .int ly, .int rdy, .int (nI fd), .ref (g 323), .ref (g 324), .ref (g 325), .ref (g 326), .ref (g 327), .ref (g 328), .ref (g 329), .ref (g 330), .ref (g 331), .ref (g 332)] → f_4 316 = eI G 2246 s4 → f_4 317 = eI G 4492 im → f_4 318 = eZ G 2 kq → f_4 319 = eI G 70 sp → f_4 320 = eI G 70 wi → f_4 321 = eI G 70 wa → f_4 322 = eJ G 70 va → f_4 323 = eI G 11 bo → f_4 324 = eI G 11 ju → f_4 325 = eI G 264 dr → f_4 326 = eI G 11 dn → f_4 327 = eI G 330 sl → f_4 328 = eI G 44 ax → f_4 329 = eI G 30 lf → f_4 330 = eI G 6 wh → f_4 331 = eI G 6 w6 → f_4 332 = eI G 6 b6 → (∀ j, j ≠ 316 → f_4 j = f j) → va_P G.1 vwCl (wl g f_4) H → va_S (gA g) s.heap H locs → lv_has ls 3 [(0, .ref (g 315)), (1, .int 1), (2, .int (nI i))] → W p l e (headSpec (wsT yX11_from cX11_from 3 (some .int)) ({ frames := 1, cells := 0, slots := 0, locals := 25 })).room s m ([.ref (g 315), .int 1] : List Value).toArray below meth c H locs 0 0 Q9 (F0 m 27 ls []) := by
          intro n9_2
          induction n9_2 with
          | zero => intro i s4 f_4 H locs ls hi hb4 hn9_2; exact absurd hn9_2 (Nat.not_lt_zero _)
          | succ n9_2 ih_2 =>
            intro i s4 f_4 H locs ls hi hb4 hn9_2 hmo hss_ him_ hkq_ hsp_ hwi_ hwa_ hva_ hbo_ hju_ hdr_ hdn_ hsl_ hax_ hlf_ hwh_ hw6_ hb6_ o_4 hP hS hl
            refine lv_iload_n hx hb dX11_from_27 rfl (lv_at hl 2 rfl) ?_
            refine lv_sipush (v := 2246) hx hb dX11_from_28 (by decide) ?_
            refine lv_icmp_ge (tgt := 58) hx hb dX11_from_31 (by decide) (fun c_31 => ?_) (fun c_31 => ?_)
            · have k_31 : 2246 ≤ i := (nI_leI (a := 2246) (b := i) (by omega) (by omega)).mp c_31
              obtain ⟨p1, p2, p3, p4, p5, hs5⟩ := stI_to hi1 (s4 := s4) (fun k hk => hb4 k (by omega))
              refine lv_aload_n hx hb dX11_from_58 rfl (lv_at hl 0 rfl) ?_
              refine lv_iconst (v := 0) hx hb dX11_from_59 (by decide) ?_
              refine va_put (D := G.1) (ci := 10) (v := .int 0) (ty := .boolean) (C := RX11) (T := TX11) (N := 25) hx hb hts inlX11 tyX11 tyX11_ok nmX11 hown hG.1 hP (wl_D hg f_4) hS 315 (wl_at (by decide) hmo) rfl 13 (by decide) (hts (.fieldLink RX11 71 "SwornListsModel" "isReady" "Z") w_169) (fun _ h9 => h9) rfl (by decide +kernel) rfl rfl (Nat.le_of_ble_eq_true rfl) dX11_from_60 (fun H locs hP _ hS => ?_)
              obtain ⟨f_5, hP, e_5, o_5⟩ := b_put (by decide) hP
              have hmo : f_5 315 = eO 10 [.ref (g 316), .ref (g 317), .ref (g 318), .long ab2, .long be2, .int sn, .ref (g 319), .ref (g 320), .int wn, .ref (g 321), .ref (g 322), .int sa, .int ly, .int 0, .int (nI fd), .ref (g 323), .ref (g 324), .ref (g 325), .ref (g 326), .ref (g 327), .ref (g 328), .ref (g 329), .ref (g 330), .ref (g 331), .ref (g 332)] := e_5
              refine lv_iconst (v := 1) hx hb dX11_from_63 (by decide) ?_
              refine W_q9 hQ9 ?_
              replace hss_ := ((o_5 316 (by decide))).trans hss_
              replace him_ := ((o_5 317 (by decide))).trans him_
              replace hkq_ := ((o_5 318 (by decide))).trans hkq_
              replace hsp_ := ((o_5 319 (by decide))).trans hsp_
              replace hwi_ := ((o_5 320 (by decide))).trans hwi_
              replace hwa_ := ((o_5 321 (by decide))).trans hwa_
              replace hva_ := ((o_5 322 (by decide))).trans hva_
              replace hbo_ := ((o_5 323 (by decide))).trans hbo_
              replace hju_ := ((o_5 324 (by decide))).trans hju_
              replace hdr_ := ((o_5 325 (by decide))).trans hdr_
              replace hdn_ := ((o_5 326 (by decide))).trans hdn_
              replace hsl_ := ((o_5 327 (by decide))).trans hsl_
              replace hax_ := ((o_5 328 (by decide))).trans hax_
              replace hlf_ := ((o_5 329 (by decide))).trans hlf_
              replace hwh_ := ((o_5 330 (by decide))).trans hwh_
              replace hw6_ := ((o_5 331 (by decide))).trans hw6_
              replace hb6_ := ((o_5 332 (by decide))).trans hb6_
              exact W.iret (v := 1) hx hb hr (fun _ hT9 _ => ⟨⟨_, f_5, rfl, (⟨s4, mJ_mk (ab2) (be2) (sn) (wn) (sa) (ly) (0) (fd) (p1) (p2) (p3) (p4) (p5) (sp) (wi) (wa) (va) (bo) (ju) (dr) (dn) (sl) (ax) (lf) (wh) (w6) (b6) (hmo) (hss_) (him_) (hkq_) (hsp_) (hwi_) (hwa_) (hva_) (hbo_) (hju_) (hdr_) (hdn_) (hsl_) (hax_) (hlf_) (hwh_) (hw6_) (hb6_) (hs5) (by omega) (hdn) (hi0) (hi1) ((fun z => absurd rfl z)), ⟨np, nf, nr, na, nt, hst, Or.inr ⟨1, by omega, rfl, Or.inr ⟨c_19, rfl, fun q hq => hb4 q (by omega)⟩⟩⟩, fun j hj => ((o_5 j (by omega))).trans (o_4 j (by omega))⟩), by rw [hT9]; exact hP⟩, hS.F hT9⟩) hS.2.2 dX11_from_64
            · have k_31 : ¬ 2246 ≤ i := fun z9 => c_31 ((nI_leI (a := 2246) (b := i) (by omega) (by omega)).mpr z9)
              refine lv_aload_n hx hb dX11_from_34 rfl (lv_at hl 0 rfl) ?_
              refine va_get (D := G.1) (ci := 10) (v := .ref (g 316)) (C := RX11) (T := TX11) (N := 25) hx hb hts inlX11 hown hG.1 hP 315 (wl_at (by decide) hmo) rfl 0 (by decide) (hts (.fieldLink RX11 7 "SwornListsModel" "st" "[I") w_112) (fun _ h9 => h9) rfl dX11_from_35 ?_
              refine lv_iload_n hx hb dX11_from_38 rfl (lv_at hl 2 rfl) ?_
              refine lv_aload_n hx hb dX11_from_39 rfl (lv_at hl 0 rfl) ?_
              refine va_get (D := G.1) (ci := 10) (v := .ref (g 317)) (C := RX11) (T := TX11) (N := 25) hx hb hts inlX11 hown hG.1 hP 315 (wl_at (by decide) hmo) rfl 1 (by decide) (hts (.fieldLink RX11 13 "SwornListsModel" "images" "[I") w_113) (fun _ h9 => h9) rfl dX11_from_40 ?_
              refine lv_sipush (v := 2246) hx hb dX11_from_43 (by decide) ?_
              refine lv_iload_n hx hb dX11_from_46 rfl (lv_at hl 1 rfl) ?_
              refine lv_imul hx hb dX11_from_47 ?_
              refine my_bei (v := 2246) (by decide) ?_
              refine lv_iload_n hx hb dX11_from_48 rfl (lv_at hl 2 rfl) ?_
              refine lv_iadd hx hb dX11_from_49 ?_
              refine my_bei (v := nI (i + 2246)) ((nI_add 2246 i).trans (congrArg nI (show 2246 + i = i + 2246 by omega))) ?_
              refine va_iald hx hb hG.1 hP 317 0 (wl_at (by decide) him_) rfl (vp_in_nI (by omega) (by decide)) dX11_from_50 ?_
              refine my_bei (v := im (i + 2246)) (congrArg im (nI_clamp (n := i + 2246) (by omega))) ?_
              refine va_iast hx hb hG.1 hP (wl_D hg f_4) hS 316 0 (wl_at (by decide) hss_) rfl (vp_in_nI (by omega) (by decide)) dX11_from_51 (fun H locs hP _ hS => ?_)
              have hP := (congrArg (fun z9 => va_P G.1 vwCl ((wl g f_4).set 316 (g 316, eI G 2246 ((upd s4 z9 (im (i + 2246)))))) H) (show Int32.toNatClampNeg (nI i) = i from nI_clamp (by omega))).mp hP
              obtain ⟨f_6, hP, e_6, o_6⟩ := b_put (by decide) hP
              have hss_ : f_6 316 = eI G 2246 (upd s4 i (im (i + 2246))) := e_6
              refine lv_iinc (v := nI (i + 1)) (lv' := [(2, .int (nI (i + 1))), (0, .ref (g 315)), (1, .int 1)]) hx hb dX11_from_52 hl (k := 2) rfl (nI_add i 1) (by decide) rfl (fun ls hl => ?_)
              refine lv_goto (tgt := 27) hx hb dX11_from_55 (by decide) ?_
              replace hmo := ((o_6 315 (by decide))).trans hmo
              replace him_ := ((o_6 317 (by decide))).trans him_
              replace hkq_ := ((o_6 318 (by decide))).trans hkq_
              replace hsp_ := ((o_6 319 (by decide))).trans hsp_
              replace hwi_ := ((o_6 320 (by decide))).trans hwi_
              replace hwa_ := ((o_6 321 (by decide))).trans hwa_
              replace hva_ := ((o_6 322 (by decide))).trans hva_
              replace hbo_ := ((o_6 323 (by decide))).trans hbo_
              replace hju_ := ((o_6 324 (by decide))).trans hju_
              replace hdr_ := ((o_6 325 (by decide))).trans hdr_
              replace hdn_ := ((o_6 326 (by decide))).trans hdn_
              replace hsl_ := ((o_6 327 (by decide))).trans hsl_
              replace hax_ := ((o_6 328 (by decide))).trans hax_
              replace hlf_ := ((o_6 329 (by decide))).trans hlf_
              replace hwh_ := ((o_6 330 (by decide))).trans hwh_
              replace hw6_ := ((o_6 331 (by decide))).trans hw6_
              replace hb6_ := ((o_6 332 (by decide))).trans hb6_
              exact ih_2 (i + 1) (upd s4 i (im (i + 2246))) f_6 _ _ _ (by omega) (fill_b (P := fun q => q) (v := fun q => im (q + 2246)) (fun i j h => h) hb4 rfl) (by omega) (hmo) (hss_) (him_) (hkq_) (hsp_) (hwi_) (hwa_) (hva_) (hbo_) (hju_) (hdr_) (hdn_) (hsl_) (hax_) (hlf_) (hwh_) (hw6_) (hb6_) (fun j hj => ((o_6 j (by omega))).trans (o_4 j (by omega))) hP hS (lv_sub hl [1, 2, 0] rfl)
        exact key2 (2246 + 1) 0 ss f _ _ _ (by omega) (fun q hq => absurd hq (Nat.not_lt_zero _)) (by omega) (hmo) (hss_) (him_) (hkq_) (hsp_) (hwi_) (hwa_) (hva_) (hbo_) (hju_) (hdr_) (hdn_) (hsl_) (hax_) (hlf_) (hwh_) (hw6_) (hb6_) (fun j _ => rfl) hP hS (lv_sub hl [1, 2, 0] rfl)
      · refine lv_bipush (v := (-3)) hx hb dX11_from_22 (by decide) ?_
        refine W_q9 hQ9 ?_
        exact W.iret (v := (-3)) hx hb hr (fun _ hT9 _ => ⟨⟨_, f, rfl, (⟨ss, mJ_mk (ab2) (be2) (sn) (wn) (sa) (ly) (rdy) (fd) (np) (nf) (nr) (na) (nt) (sp) (wi) (wa) (va) (bo) (ju) (dr) (dn) (sl) (ax) (lf) (wh) (w6) (b6) (hmo) (hss_) (him_) (hkq_) (hsp_) (hwi_) (hwa_) (hva_) (hbo_) (hju_) (hdr_) (hdn_) (hsl_) (hax_) (hlf_) (hwh_) (hw6_) (hb6_) (hst) (by omega) (hdn) (hi0) (hi1) (hrd), ⟨np, nf, nr, na, nt, hst, Or.inr ⟨1, by omega, rfl, Or.inl ⟨c_19, rfl, rfl⟩⟩⟩, fun j hj => rfl⟩), by rw [hT9]; exact hP⟩, hS.F hT9⟩) hS.2.2 dX11_from_24
  · refine lv_bipush (v := (-2)) hx hb dX11_from_10 (by decide) ?_
    refine W_q9 hQ9 ?_
    exact W.iret (v := (-2)) hx hb hr (fun _ hT9 _ => ⟨⟨_, f, rfl, (⟨ss, mJ_mk (ab2) (be2) (sn) (wn) (sa) (ly) (rdy) (fd) (np) (nf) (nr) (na) (nt) (sp) (wi) (wa) (va) (bo) (ju) (dr) (dn) (sl) (ax) (lf) (wh) (w6) (b6) (hmo) (hss_) (him_) (hkq_) (hsp_) (hwi_) (hwa_) (hva_) (hbo_) (hju_) (hdr_) (hdn_) (hsl_) (hax_) (hlf_) (hwh_) (hw6_) (hb6_) (hst) (by omega) (hdn) (hi0) (hi1) (hrd), ⟨np, nf, nr, na, nt, hst, Or.inl ⟨c_7, rfl, rfl⟩⟩, fun j hj => rfl⟩), by rw [hT9]; exact hP⟩, hS.F hT9⟩) hS.2.2 dX11_from_12
theorem j2_from (l : Launch) (G : gW) (g : Nat → Nat) (hg : gOK g) (f : Nat → va_E) (ss : Nat → Int32) (im : Nat → Int32) (kq : Nat → Int32) (a1 : Int32) (hI : mJ G g f ss im kq) (htA : ∀ n : Nat, n ≤ 10 → ss 4 = nI n → trOK ss n) : Met l yX11_from (wsT yX11_from cX11_from 3 (some .int)) ({ frames := 1, cells := 0, slots := 0, locals := 25 }) (bP G g f [.ref (g 315), .int a1]) (bQi G g (fun (z9 : Int32) (f' : Nat → va_E) => ∃ ss9 : Nat → Int32, (mJ G g f' ss9 im kq) ∧ (∃ p9 f9 r9 u9 t9, stOK ss p9 f9 r9 u9 t9 ∧ ((¬ inB 0 a1 1 = true ∧ z9 = -2 ∧ ss9 = ss) ∨ (∃ x, x ≤ 1 ∧ a1 = nI x ∧ ((kq x = 0 ∧ z9 = -3 ∧ ss9 = ss) ∨ (¬ kq x = 0 ∧ z9 = 1 ∧ ∀ q, q < 2246 → ss9 q = im (q + 2246 * x)))))) ∧ ∀ j, j < 315 → f' j = f j)) 0 0 (gA g) := mJ_elim hI (fun ab2 be2 sn wn sa ly rdy fd np nf nr na nt sp wi wa va bo ju dr dn sl ax lf wh w6 b6 hmo hss_ him_ hkq_ hsp_ hwi_ hwa_ hva_ hbo_ hju_ hdr_ hdn_ hsl_ hax_ hlf_ hwh_ hw6_ hb6_ hst hfo hdn hi0 hi1 hrd => jn2_from l G g hg f ab2 be2 sn wn sa ly rdy fd ss np nf nr na nt im kq sp wi wa va bo ju dr dn sl ax lf wh w6 b6 a1 hmo hss_ him_ hkq_ hsp_ hwi_ hwa_ hva_ hbo_ hju_ hdr_ hdn_ hsl_ hax_ hlf_ hwh_ hw6_ hb6_ hst hfo hdn hi0 hi1 hrd htA)
set_option maxHeartbeats 4000000 in
set_option maxRecDepth 100000 in
theorem jn2_digest (l : Launch) (G : gW) (g : Nat → Nat) (hg : gOK g) (f : Nat → va_E) (ab2 : Int64) (be2 : Int64) (sn : Int32) (wn : Int32) (sa : Int32) (ly : Int32) (rdy : Int32) (fd : Nat) (ss : Nat → Int32) (np : Nat) (nf : Nat) (nr : Nat) (na : Nat) (nt : Nat) (im : Nat → Int32) (kq : Nat → Int32) (sp : Nat → Int32) (wi : Nat → Int32) (wa : Nat → Int32) (va : Nat → Int64) (bo : Nat → Int32) (ju : Nat → Int32) (dr : Nat → Int32) (dn : Nat → Int32) (sl : Nat → Int32) (ax : Nat → Int32) (lf : Nat → Int32) (wh : Nat → Int32) (w6 : Nat → Int32) (b6 : Nat → Int32) (hmo : f 315 = eO 10 [.ref (g 316), .ref (g 317), .ref (g 318), .long ab2, .long be2, .int sn, .ref (g 319), .ref (g 320), .int wn, .ref (g 321), .ref (g 322), .int sa, .int ly, .int rdy, .int (nI fd), .ref (g 323), .ref (g 324), .ref (g 325), .ref (g 326), .ref (g 327), .ref (g 328), .ref (g 329), .ref (g 330), .ref (g 331), .ref (g 332)]) (hss_ : f 316 = eI G 2246 ss) (him_ : f 317 = eI G 4492 im) (hkq_ : f 318 = eZ G 2 kq) (hsp_ : f 319 = eI G 70 sp) (hwi_ : f 320 = eI G 70 wi) (hwa_ : f 321 = eI G 70 wa) (hva_ : f 322 = eJ G 70 va) (hbo_ : f 323 = eI G 11 bo) (hju_ : f 324 = eI G 11 ju) (hdr_ : f 325 = eI G 264 dr) (hdn_ : f 326 = eI G 11 dn) (hsl_ : f 327 = eI G 330 sl) (hax_ : f 328 = eI G 44 ax) (hlf_ : f 329 = eI G 30 lf) (hwh_ : f 330 = eI G 6 wh) (hw6_ : f 331 = eI G 6 w6) (hb6_ : f 332 = eI G 6 b6) (hst : stOK ss np nf nr na nt) (hfo : fd ≤ 10) (hdn : ∀ k, k < 11 → ∃ d, d ≤ 24 ∧ dn k = nI d) (hi0 : stI im 0) (hi1 : stI im 2246) (hrd : ¬ rdy = 0 → fd = nt ∧ ∀ z, z < nt → rHz np nf nr na ss bo ju dr dn sl ax z) (htA : ∀ n : Nat, n ≤ 10 → ss 4 = nI n → trOK ss n) : Met l yX11_digest (wsT yX11_digest cX11_digest 5 (some .long)) ({ frames := 8, cells := 0, slots := 0, locals := 196 }) (bP G g f [.ref (g 315)]) (bQl G g (fun (z9 : Int64) (f' : Nat → va_E) => (mJ G g f' ss im kq) ∧ ∀ j, j < 315 → f' j = f j)) 0 0 (gA g) := by
  refine Met.ofW (cc := cX11_digest) (maxL := 5) (ret := (some .long)) (by decide) rfl ?_
  intro p e s m args below meth c s₁ B hml hv
  obtain ⟨rfl, hP, hG⟩ := hv
  have hx := B.exec
  have hb := B.bytes
  have hr := B.returns
  have hts := my_hts (atoms_spec (ws := wsT yX11_digest cX11_digest 5 (some .long)) B.pre)
  have hown : s.vm.findClass RX11 = some m.cls := findClass_of_methodNamed B.named
  have hlocks := B.notSynchronized
  have hS : va_S (gA g) s.heap s.heap [] := va_S.rf
  have hl := lv_entry ([.ref (g 315)]) (n := 5) (Nat.le_of_ble_eq_true rfl)
  rw [lg_entry_eq]
  generalize (lg_sl ([.ref (g 315)]) ++ List.replicate (5 - (lg_sl ([.ref (g 315)])).length) Slot.unset).toArray = ls at hl ⊢
  have hl : lv_has ls 5 [(0, .ref (g 315))] := hl
  refine W_q8 (fun Q9 hQ9 => ?_)
  have hc0 := hst.c0
  have hc1 := hst.c1
  have hc2 := hst.c2
  have hc3 := hst.c3
  have hc4 := hst.c4
  have htr := htA nt hst.c4 hst.h4
  refine lv_ldc2 (v := 367) hx hb hown (hts (.constantLong RX11 263 (367)) w_975) dX11_digest_0 ?_
  refine lv_lstore_n (lv' := [(1, .long 367), (0, .ref (g 315))]) hx hb dX11_digest_3 rfl hl (by decide) rfl (fun ls hl => ?_)
  refine lv_iconst (v := 0) hx hb dX11_digest_4 (by decide) ?_
  refine lv_istore_n (lv' := [(3, .int 0), (1, .long 367), (0, .ref (g 315))]) hx hb dX11_digest_5 rfl hl (by decide) rfl (fun ls hl => ?_)
  have key1 : ∀ (n9_1 : Nat) (i : Nat) (u : Int64) (sn1 : Int32) (wn1 : Int32) (sa1 : Int32) (ly1 : Int32) (sp1 : Nat → Int32) (wi1 : Nat → Int32) (wa1 : Nat → Int32) (va1 : Nat → Int64) (bo1 : Nat → Int32) (ju1 : Nat → Int32) (dr1 : Nat → Int32) (dn1 : Nat → Int32) (sl1 : Nat → Int32) (ax1 : Nat → Int32) (lf1 : Nat → Int32) (rdy1 : Int32) (fd1 : Nat) (f_1 : Nat → va_E) (H : Heap) (locs : List Loc) (ls : Array Slot), (i ≤ 6) → (∀ k, k < 11 → ∃ d, d ≤ 24 ∧ dn1 k = nI d) → (fd1 ≤ 10) → (¬ rdy1 = 0 → fd1 = nt ∧ ∀ z, z < nt → rHz np nf nr na ss bo1 ju1 dr1 dn1 sl1 ax1 z) → 6 - i < n9_1 → f_1 315 = eO 10 [.ref (g 316), .ref (g 317), .ref (g 318), .long ab2, .long be2, .int sn1, .ref (g 319), .ref (g 320), .int wn1, .ref (g 321), .ref (g 322), .int sa1, .int ly1, .int rdy1, .int (nI fd1), .ref (g 323), .ref (g 324), .ref (g 325), .ref (g 326), .ref (g 327), .ref (g 328), .ref (g 329), .ref (g 330), .ref (g 331), .ref (g 332)] → f_1 316 = eI G 2246 ss → f_1 317 = eI G 4492 im → f_1 318 = eZ G 2 kq → f_1 319 = eI G 70 sp1 → f_1 320 = eI G 70 wi1 → f_1 321 = eI G 70 wa1 → f_1 322 = eJ G 70 va1 → f_1 323 = eI G 11 bo1 → f_1 324 = eI G 11 ju1 → f_1 325 = eI G 264 dr1 → f_1 326 = eI G 11 dn1 → f_1 327 = eI G 330 sl1 → f_1 328 = eI G 44 ax1 → f_1 329 = eI G 30 lf1 → f_1 330 = eI G 6 wh → f_1 331 = eI G 6 w6 → f_1 332 = eI G 6 b6 → (∀ j, (j < 315 ∨ (316 ≤ j ∧ j ≤ 318) ∨ 330 ≤ j) → f_1 j = f j) → va_P G.1 vwCl (wl g f_1) H → va_S (gA g) s.heap H locs → lv_has ls 5 [(0, .ref (g 315)), (1, .long u), (3, .int (nI i))] → W p l e (headSpec (wsT yX11_digest cX11_digest 5 (some .long)) ({ frames := 8, cells := 0, slots := 0, locals := 196 })).room s m ([.ref (g 315)] : List Value).toArray below meth c H locs 0 0 Q9 (F0 m 6 ls []) := by
    intro n9_1
    induction n9_1 with
    | zero => intro i u sn1 wn1 sa1 ly1 sp1 wi1 wa1 va1 bo1 ju1 dr1 dn1 sl1 ax1 lf1 rdy1 fd1 f_1 H locs ls hi hdn1 hfd1 hrd1 hn9_1; exact absurd hn9_1 (Nat.not_lt_zero _)
    | succ n9_1 ih_1 =>
      intro i u sn1 wn1 sa1 ly1 sp1 wi1 wa1 va1 bo1 ju1 dr1 dn1 sl1 ax1 lf1 rdy1 fd1 f_1 H locs ls hi hdn1 hfd1 hrd1 hn9_1 hmo hss_ him_ hkq_ hsp_ hwi_ hwa_ hva_ hbo_ hju_ hdr_ hdn_ hsl_ hax_ hlf_ hwh_ hw6_ hb6_ o_1 hP hS hl
      refine lv_iload_n hx hb dX11_digest_6 rfl (lv_at hl 2 rfl) ?_
      refine lv_bipush (v := 6) hx hb dX11_digest_7 (by decide) ?_
      refine lv_icmp_ge (tgt := 31) hx hb dX11_digest_9 (by decide) (fun c_9 => ?_) (fun c_9 => ?_)
      · have k_9 : 6 ≤ i := (nI_leI (a := 6) (b := i) (by omega) (by omega)).mp c_9
        refine lv_aload_n hx hb dX11_digest_31 rfl (lv_at hl 0 rfl) ?_
        refine lv_lload_n hx hb dX11_digest_32 rfl (lv_at hl 1 rfl) ?_
        refine lv_bipush (v := 10) hx hb dX11_digest_33 (by decide) ?_
        refine lv_iconst (v := 4) hx hb dX11_digest_35 (by decide) ?_
        refine lv_aload_n hx hb dX11_digest_36 rfl (lv_at hl 0 rfl) ?_
        refine va_get (D := G.1) (ci := 10) (v := .ref (g 316)) (C := RX11) (T := TX11) (N := 25) hx hb hts inlX11 hown hG.1 hP 315 (wl_at (by decide) hmo) rfl 0 (by decide) (hts (.fieldLink RX11 7 "SwornListsModel" "st" "[I") w_112) (fun _ h9 => h9) rfl dX11_digest_37 ?_
        refine lv_iconst (v := 0) hx hb dX11_digest_40 (by decide) ?_
        refine va_iald hx hb hG.1 hP 316 0 (wl_at (by decide) hss_) rfl (by unfold vp_in; decide) dX11_digest_41 ?_
        refine my_bei (v := ss 0) (rfl) ?_
        refine my_bei (v := nI np) (hst.h0) ?_
        refine lv_imul hx hb dX11_digest_42 ?_
        refine my_bei (v := nI (4 * np)) (pk_mul 4 np) ?_
        refine rd_calll (va_runV (As := [.long u, .int 10, .int (nI (4 * np))]) (rest := []) ⟨hx, hb, hml, hown, hts⟩ (r_mixed l G g hg f_1 ab2 be2 sn1 wn1 sa1 ly1 rdy1 (nI fd1) ss u 10 (4 * np) hmo hss_ (by first | assumption | omega | decide)) (my_cwV hts ok_X11_mixed w_977 rfl rfl ⟨Nat.le_of_ble_eq_true rfl, Nat.le_of_ble_eq_true rfl⟩) ⟨bP.blind, va_recv hG.1 hP (ci := 10) (q0 := 315) rfl (wl_at (by decide) hmo), fun U hU hW => ⟨rfl, by rw [hU]; exact hP, kG.warm hW hG⟩⟩ rfl rfl hl.1 rfl (lv_room (Nat.le_of_ble_eq_true rfl)) dX11_digest_43 ⟨Nat.le_of_ble_eq_true rfl, Nat.le_of_ble_eq_true rfl⟩) (fun v2 _ => ?_)
        refine lv_lstore_n (lv' := [(1, .long v2), (0, .ref (g 315)), (3, .int (nI i))]) hx hb dX11_digest_46 rfl hl (by decide) rfl (fun ls hl => ?_)
        refine lv_aload_n hx hb dX11_digest_47 rfl (lv_at hl 1 rfl) ?_
        refine lv_lload_n hx hb dX11_digest_48 rfl (lv_at hl 0 rfl) ?_
        refine lv_sipush (v := 130) hx hb dX11_digest_49 (by decide) ?_
        refine lv_iconst (v := 3) hx hb dX11_digest_52 (by decide) ?_
        refine lv_aload_n hx hb dX11_digest_53 rfl (lv_at hl 1 rfl) ?_
        refine va_get (D := G.1) (ci := 10) (v := .ref (g 316)) (C := RX11) (T := TX11) (N := 25) hx hb hts inlX11 hown hG.1 hP 315 (wl_at (by decide) hmo) rfl 0 (by decide) (hts (.fieldLink RX11 7 "SwornListsModel" "st" "[I") w_112) (fun _ h9 => h9) rfl dX11_digest_54 ?_
        refine lv_iconst (v := 1) hx hb dX11_digest_57 (by decide) ?_
        refine va_iald hx hb hG.1 hP 316 0 (wl_at (by decide) hss_) rfl (by unfold vp_in; decide) dX11_digest_58 ?_
        refine my_bei (v := ss 1) (rfl) ?_
        refine my_bei (v := nI nf) (hst.h1) ?_
        refine lv_imul hx hb dX11_digest_59 ?_
        refine my_bei (v := nI (3 * nf)) (pk_mul 3 nf) ?_
        refine rd_calll (va_runV (As := [.long v2, .int 130, .int (nI (3 * nf))]) (rest := []) ⟨hx, hb, hml, hown, hts⟩ (r_mixed l G g hg f_1 ab2 be2 sn1 wn1 sa1 ly1 rdy1 (nI fd1) ss v2 130 (3 * nf) hmo hss_ (by first | assumption | omega | decide)) (my_cwV hts ok_X11_mixed w_977 rfl rfl ⟨Nat.le_of_ble_eq_true rfl, Nat.le_of_ble_eq_true rfl⟩) ⟨bP.blind, va_recv hG.1 hP (ci := 10) (q0 := 315) rfl (wl_at (by decide) hmo), fun U hU hW => ⟨rfl, by rw [hU]; exact hP, kG.warm hW hG⟩⟩ rfl rfl hl.1 rfl (lv_room (Nat.le_of_ble_eq_true rfl)) dX11_digest_60 ⟨Nat.le_of_ble_eq_true rfl, Nat.le_of_ble_eq_true rfl⟩) (fun v3 _ => ?_)
        refine lv_lstore_n (lv' := [(1, .long v3), (0, .ref (g 315)), (3, .int (nI i))]) hx hb dX11_digest_63 rfl hl (by decide) rfl (fun ls hl => ?_)
        refine lv_aload_n hx hb dX11_digest_64 rfl (lv_at hl 1 rfl) ?_
        refine lv_lload_n hx hb dX11_digest_65 rfl (lv_at hl 0 rfl) ?_
        refine lv_sipush (v := 250) hx hb dX11_digest_66 (by decide) ?_
        refine lv_iconst (v := 3) hx hb dX11_digest_69 (by decide) ?_
        refine lv_aload_n hx hb dX11_digest_70 rfl (lv_at hl 1 rfl) ?_
        refine va_get (D := G.1) (ci := 10) (v := .ref (g 316)) (C := RX11) (T := TX11) (N := 25) hx hb hts inlX11 hown hG.1 hP 315 (wl_at (by decide) hmo) rfl 0 (by decide) (hts (.fieldLink RX11 7 "SwornListsModel" "st" "[I") w_112) (fun _ h9 => h9) rfl dX11_digest_71 ?_
        refine lv_iconst (v := 2) hx hb dX11_digest_74 (by decide) ?_
        refine va_iald hx hb hG.1 hP 316 0 (wl_at (by decide) hss_) rfl (by unfold vp_in; decide) dX11_digest_75 ?_
        refine my_bei (v := ss 2) (rfl) ?_
        refine my_bei (v := nI nr) (hst.h2) ?_
        refine lv_imul hx hb dX11_digest_76 ?_
        refine my_bei (v := nI (3 * nr)) (pk_mul 3 nr) ?_
        refine rd_calll (va_runV (As := [.long v3, .int 250, .int (nI (3 * nr))]) (rest := []) ⟨hx, hb, hml, hown, hts⟩ (r_mixed l G g hg f_1 ab2 be2 sn1 wn1 sa1 ly1 rdy1 (nI fd1) ss v3 250 (3 * nr) hmo hss_ (by first | assumption | omega | decide)) (my_cwV hts ok_X11_mixed w_977 rfl rfl ⟨Nat.le_of_ble_eq_true rfl, Nat.le_of_ble_eq_true rfl⟩) ⟨bP.blind, va_recv hG.1 hP (ci := 10) (q0 := 315) rfl (wl_at (by decide) hmo), fun U hU hW => ⟨rfl, by rw [hU]; exact hP, kG.warm hW hG⟩⟩ rfl rfl hl.1 rfl (lv_room (Nat.le_of_ble_eq_true rfl)) dX11_digest_77 ⟨Nat.le_of_ble_eq_true rfl, Nat.le_of_ble_eq_true rfl⟩) (fun v4 _ => ?_)
        refine lv_lstore_n (lv' := [(1, .long v4), (0, .ref (g 315)), (3, .int (nI i))]) hx hb dX11_digest_80 rfl hl (by decide) rfl (fun ls hl => ?_)
        refine lv_iconst (v := 0) hx hb dX11_digest_81 (by decide) ?_
        refine lv_istore_n (lv' := [(3, .int 0), (1, .long v4), (0, .ref (g 315))]) hx hb dX11_digest_82 rfl hl (by decide) rfl (fun ls hl => ?_)
        have key5 : ∀ (n9_5 : Nat) (i2 : Nat) (ui2 : Int64) (f_2 : Nat → va_E) (H : Heap) (locs : List Loc) (ls : Array Slot), (i2 ≤ na) → na - i2 < n9_5 → f_2 315 = eO 10 [.ref (g 316), .ref (g 317), .ref (g 318), .long ab2, .long be2, .int sn1, .ref (g 319), .ref (g 320), .int wn1, .ref (g 321), .ref (g 322), .int sa1, .int ly1, .int rdy1, .int (nI fd1), .ref (g 323), .ref (g 324), .ref (g 325), .ref (g 326), .ref (g 327), .ref (g 328), .ref (g 329), .ref (g 330), .ref (g 331), .ref (g 332)] → f_2 316 = eI G 2246 ss → f_2 317 = eI G 4492 im → f_2 318 = eZ G 2 kq → f_2 319 = eI G 70 sp1 → f_2 320 = eI G 70 wi1 → f_2 321 = eI G 70 wa1 → f_2 322 = eJ G 70 va1 → f_2 323 = eI G 11 bo1 → f_2 324 = eI G 11 ju1 → f_2 325 = eI G 264 dr1 → f_2 326 = eI G 11 dn1 → f_2 327 = eI G 330 sl1 → f_2 328 = eI G 44 ax1 → f_2 329 = eI G 30 lf1 → f_2 330 = eI G 6 wh → f_2 331 = eI G 6 w6 → f_2 332 = eI G 6 b6 → (∀ j, (j < 333 ∨ 333 ≤ j) → f_2 j = f_1 j) → va_P G.1 vwCl (wl g f_2) H → va_S (gA g) s.heap H locs → lv_has ls 5 [(0, .ref (g 315)), (1, .long ui2), (3, .int (nI i2))] → W p l e (headSpec (wsT yX11_digest cX11_digest 5 (some .long)) ({ frames := 8, cells := 0, slots := 0, locals := 196 })).room s m ([.ref (g 315)] : List Value).toArray below meth c H locs 0 0 Q9 (F0 m 83 ls []) := by
          intro n9_5
          induction n9_5 with
          | zero => intro i2 ui2 f_2 H locs ls hi2 hn9_5; exact absurd hn9_5 (Nat.not_lt_zero _)
          | succ n9_5 ih_5 =>
            intro i2 ui2 f_2 H locs ls hi2 hn9_5 hmo hss_ him_ hkq_ hsp_ hwi_ hwa_ hva_ hbo_ hju_ hdr_ hdn_ hsl_ hax_ hlf_ hwh_ hw6_ hb6_ o_2 hP hS hl
            refine lv_iload_n hx hb dX11_digest_83 rfl (lv_at hl 2 rfl) ?_
            refine lv_aload_n hx hb dX11_digest_84 rfl (lv_at hl 0 rfl) ?_
            refine va_get (D := G.1) (ci := 10) (v := .ref (g 316)) (C := RX11) (T := TX11) (N := 25) hx hb hts inlX11 hown hG.1 hP 315 (wl_at (by decide) hmo) rfl 0 (by decide) (hts (.fieldLink RX11 7 "SwornListsModel" "st" "[I") w_112) (fun _ h9 => h9) rfl dX11_digest_85 ?_
            refine lv_iconst (v := 3) hx hb dX11_digest_88 (by decide) ?_
            refine va_iald hx hb hG.1 hP 316 0 (wl_at (by decide) hss_) rfl (by unfold vp_in; decide) dX11_digest_89 ?_
            refine my_bei (v := ss 3) (rfl) ?_
            refine my_bei (v := nI na) (hst.h3) ?_
            refine lv_icmp_ge (tgt := 130) hx hb dX11_digest_90 (by decide) (fun c_90 => ?_) (fun c_90 => ?_)
            · have k_90 : na ≤ i2 := (nI_leI (a := na) (b := i2) (by omega) (by omega)).mp c_90
              refine lv_iconst (v := 0) hx hb dX11_digest_130 (by decide) ?_
              refine lv_istore_n (lv' := [(3, .int 0), (0, .ref (g 315)), (1, .long ui2)]) hx hb dX11_digest_131 rfl hl (by decide) rfl (fun ls hl => ?_)
              have key6 : ∀ (n9_6 : Nat) (i3 : Nat) (ui3 : Int64) (f_3 : Nat → va_E) (H : Heap) (locs : List Loc) (ls : Array Slot), (i3 ≤ nt) → nt - i3 < n9_6 → f_3 315 = eO 10 [.ref (g 316), .ref (g 317), .ref (g 318), .long ab2, .long be2, .int sn1, .ref (g 319), .ref (g 320), .int wn1, .ref (g 321), .ref (g 322), .int sa1, .int ly1, .int rdy1, .int (nI fd1), .ref (g 323), .ref (g 324), .ref (g 325), .ref (g 326), .ref (g 327), .ref (g 328), .ref (g 329), .ref (g 330), .ref (g 331), .ref (g 332)] → f_3 316 = eI G 2246 ss → f_3 317 = eI G 4492 im → f_3 318 = eZ G 2 kq → f_3 319 = eI G 70 sp1 → f_3 320 = eI G 70 wi1 → f_3 321 = eI G 70 wa1 → f_3 322 = eJ G 70 va1 → f_3 323 = eI G 11 bo1 → f_3 324 = eI G 11 ju1 → f_3 325 = eI G 264 dr1 → f_3 326 = eI G 11 dn1 → f_3 327 = eI G 330 sl1 → f_3 328 = eI G 44 ax1 → f_3 329 = eI G 30 lf1 → f_3 330 = eI G 6 wh → f_3 331 = eI G 6 w6 → f_3 332 = eI G 6 b6 → (∀ j, (j < 333 ∨ 333 ≤ j) → f_3 j = f_2 j) → va_P G.1 vwCl (wl g f_3) H → va_S (gA g) s.heap H locs → lv_has ls 5 [(0, .ref (g 315)), (1, .long ui3), (3, .int (nI i3))] → W p l e (headSpec (wsT yX11_digest cX11_digest 5 (some .long)) ({ frames := 8, cells := 0, slots := 0, locals := 196 })).room s m ([.ref (g 315)] : List Value).toArray below meth c H locs 0 0 Q9 (F0 m 132 ls []) := by
                intro n9_6
                induction n9_6 with
                | zero => intro i3 ui3 f_3 H locs ls hi3 hn9_6; exact absurd hn9_6 (Nat.not_lt_zero _)
                | succ n9_6 ih_6 =>
                  intro i3 ui3 f_3 H locs ls hi3 hn9_6 hmo hss_ him_ hkq_ hsp_ hwi_ hwa_ hva_ hbo_ hju_ hdr_ hdn_ hsl_ hax_ hlf_ hwh_ hw6_ hb6_ o_3 hP hS hl
                  refine lv_iload_n hx hb dX11_digest_132 rfl (lv_at hl 2 rfl) ?_
                  refine lv_aload_n hx hb dX11_digest_133 rfl (lv_at hl 0 rfl) ?_
                  refine va_get (D := G.1) (ci := 10) (v := .ref (g 316)) (C := RX11) (T := TX11) (N := 25) hx hb hts inlX11 hown hG.1 hP 315 (wl_at (by decide) hmo) rfl 0 (by decide) (hts (.fieldLink RX11 7 "SwornListsModel" "st" "[I") w_112) (fun _ h9 => h9) rfl dX11_digest_134 ?_
                  refine lv_iconst (v := 4) hx hb dX11_digest_137 (by decide) ?_
                  refine va_iald hx hb hG.1 hP 316 0 (wl_at (by decide) hss_) rfl (by unfold vp_in; decide) dX11_digest_138 ?_
                  refine my_bei (v := ss 4) (rfl) ?_
                  refine my_bei (v := nI nt) (hst.h4) ?_
                  refine lv_icmp_ge (tgt := 208) hx hb dX11_digest_139 (by decide) (fun c_139 => ?_) (fun c_139 => ?_)
                  · have k_139 : nt ≤ i3 := (nI_leI (a := nt) (b := i3) (by omega) (by omega)).mp c_139
                    refine lv_iconst (v := 0) hx hb dX11_digest_208 (by decide) ?_
                    refine lv_istore_n (lv' := [(3, .int 0), (0, .ref (g 315)), (1, .long ui3)]) hx hb dX11_digest_209 rfl hl (by decide) rfl (fun ls hl => ?_)
                    have key7 : ∀ (n9_7 : Nat) (i4 : Nat) (ui4 : Int64) (f_4 : Nat → va_E) (H : Heap) (locs : List Loc) (ls : Array Slot), (i4 ≤ 4) → 4 - i4 < n9_7 → f_4 315 = eO 10 [.ref (g 316), .ref (g 317), .ref (g 318), .long ab2, .long be2, .int sn1, .ref (g 319), .ref (g 320), .int wn1, .ref (g 321), .ref (g 322), .int sa1, .int ly1, .int rdy1, .int (nI fd1), .ref (g 323), .ref (g 324), .ref (g 325), .ref (g 326), .ref (g 327), .ref (g 328), .ref (g 329), .ref (g 330), .ref (g 331), .ref (g 332)] → f_4 316 = eI G 2246 ss → f_4 317 = eI G 4492 im → f_4 318 = eZ G 2 kq → f_4 319 = eI G 70 sp1 → f_4 320 = eI G 70 wi1 → f_4 321 = eI G 70 wa1 → f_4 322 = eJ G 70 va1 → f_4 323 = eI G 11 bo1 → f_4 324 = eI G 11 ju1 → f_4 325 = eI G 264 dr1 → f_4 326 = eI G 11 dn1 → f_4 327 = eI G 330 sl1 → f_4 328 = eI G 44 ax1 → f_4 329 = eI G 30 lf1 → f_4 330 = eI G 6 wh → f_4 331 = eI G 6 w6 → f_4 332 = eI G 6 b6 → (∀ j, (j < 333 ∨ 333 ≤ j) → f_4 j = f_3 j) → va_P G.1 vwCl (wl g f_4) H → va_S (gA g) s.heap H locs → lv_has ls 5 [(0, .ref (g 315)), (1, .long ui4), (3, .int (nI i4))] → W p l e (headSpec (wsT yX11_digest cX11_digest 5 (some .long)) ({ frames := 8, cells := 0, slots := 0, locals := 196 })).room s m ([.ref (g 315)] : List Value).toArray below meth c H locs 0 0 Q9 (F0 m 210 ls []) := by
                      intro n9_7
                      induction n9_7 with
                      | zero => intro i4 ui4 f_4 H locs ls hi4 hn9_7; exact absurd hn9_7 (Nat.not_lt_zero _)
                      | succ n9_7 ih_7 =>
                        intro i4 ui4 f_4 H locs ls hi4 hn9_7 hmo hss_ him_ hkq_ hsp_ hwi_ hwa_ hva_ hbo_ hju_ hdr_ hdn_ hsl_ hax_ hlf_ hwh_ hw6_ hb6_ o_4 hP hS hl
                        refine lv_iload_n hx hb dX11_digest_210 rfl (lv_at hl 2 rfl) ?_
                        refine lv_iconst (v := 4) hx hb dX11_digest_211 (by decide) ?_
                        refine lv_icmp_ge (tgt := 250) hx hb dX11_digest_212 (by decide) (fun c_212 => ?_) (fun c_212 => ?_)
                        · have k_212 : 4 ≤ i4 := (nI_leI (a := 4) (b := i4) (by omega) (by omega)).mp c_212
                          refine lv_aload_n hx hb dX11_digest_250 rfl (lv_at hl 0 rfl) ?_
                          refine lv_lload_n hx hb dX11_digest_251 rfl (lv_at hl 1 rfl) ?_
                          refine lv_iconst (v := 5) hx hb dX11_digest_252 (by decide) ?_
                          refine lv_iconst (v := 2) hx hb dX11_digest_253 (by decide) ?_
                          refine rd_calll (va_runV (As := [.long ui4, .int 5, .int 2]) (rest := []) ⟨hx, hb, hml, hown, hts⟩ (r_mixed l G g hg f_4 ab2 be2 sn1 wn1 sa1 ly1 rdy1 (nI fd1) ss ui4 5 2 hmo hss_ (by first | assumption | omega | decide)) (my_cwV hts ok_X11_mixed w_977 rfl rfl ⟨Nat.le_of_ble_eq_true rfl, Nat.le_of_ble_eq_true rfl⟩) ⟨bP.blind, va_recv hG.1 hP (ci := 10) (q0 := 315) rfl (wl_at (by decide) hmo), fun U hU hW => ⟨rfl, by rw [hU]; exact hP, kG.warm hW hG⟩⟩ rfl rfl hl.1 rfl (lv_room (Nat.le_of_ble_eq_true rfl)) dX11_digest_254 ⟨Nat.le_of_ble_eq_true rfl, Nat.le_of_ble_eq_true rfl⟩) (fun v8 _ => ?_)
                          refine lv_lstore_n (lv' := [(1, .long v8), (0, .ref (g 315)), (3, .int (nI i4))]) hx hb dX11_digest_257 rfl hl (by decide) rfl (fun ls hl => ?_)
                          refine lv_ldc2 (v := 31) hx hb hown (hts (.constantLong RX11 261 (31)) w_976) dX11_digest_258 ?_
                          refine lv_ldc2 (v := 31) hx hb hown (hts (.constantLong RX11 261 (31)) w_976) dX11_digest_261 ?_
                          refine lv_lload_n hx hb dX11_digest_264 rfl (lv_at hl 0 rfl) ?_
                          refine lv_lmul hx hb dX11_digest_265 ?_
                          refine lv_aload_n hx hb dX11_digest_266 rfl (lv_at hl 1 rfl) ?_
                          refine va_get (D := G.1) (ci := 10) (v := .long ab2) (C := RX11) (T := TX11) (N := 25) hx hb hts inlX11 hown hG.1 hP 315 (wl_at (by decide) hmo) rfl 3 (by decide) (hts (.fieldLink RX11 238 "SwornListsModel" "above" "J") w_783) (fun _ h9 => h9) rfl dX11_digest_267 ?_
                          refine lv_ladd hx hb dX11_digest_270 ?_
                          refine lv_lmul hx hb dX11_digest_271 ?_
                          refine lv_aload_n hx hb dX11_digest_272 rfl (lv_at hl 1 rfl) ?_
                          refine va_get (D := G.1) (ci := 10) (v := .long be2) (C := RX11) (T := TX11) (N := 25) hx hb hts inlX11 hown hG.1 hP 315 (wl_at (by decide) hmo) rfl 4 (by decide) (hts (.fieldLink RX11 63 "SwornListsModel" "below" "J") w_129) (fun _ h9 => h9) rfl dX11_digest_273 ?_
                          refine lv_ladd hx hb dX11_digest_276 ?_
                          refine W_q9 hQ9 ?_
                          exact W.lret (v := (31 * ((31 * v8) + ab2)) + be2) hx hb hr (fun _ hT9 _ => ⟨⟨_, f_4, rfl, (⟨mJ_mk (ab2) (be2) (sn1) (wn1) (sa1) (ly1) (rdy1) (fd1) (np) (nf) (nr) (na) (nt) (sp1) (wi1) (wa1) (va1) (bo1) (ju1) (dr1) (dn1) (sl1) (ax1) (lf1) (wh) (w6) (b6) (hmo) (hss_) (him_) (hkq_) (hsp_) (hwi_) (hwa_) (hva_) (hbo_) (hju_) (hdr_) (hdn_) (hsl_) (hax_) (hlf_) (hwh_) (hw6_) (hb6_) (hst) (by omega) (hdn1) (hi0) (hi1) (hrd1), fun j hj => ((((o_4 j (by omega))).trans (o_3 j (by omega))).trans (o_2 j (by omega))).trans (o_1 j (by omega))⟩), by rw [hT9]; exact hP⟩, hS.F hT9⟩) hS.2.2 dX11_digest_277
                        · have k_212 : ¬ 4 ≤ i4 := fun z9 => c_212 ((nI_leI (a := 4) (b := i4) (by omega) (by omega)).mpr z9)
                          obtain ⟨l7, hl7, he7⟩ := hst.tx i4 (by omega)
                          refine lv_aload_n hx hb dX11_digest_215 rfl (lv_at hl 0 rfl) ?_
                          refine lv_lload_n hx hb dX11_digest_216 rfl (lv_at hl 1 rfl) ?_
                          refine lv_sipush (v := 262) hx hb dX11_digest_217 (by decide) ?_
                          refine lv_bipush (v := 51) hx hb dX11_digest_220 (by decide) ?_
                          refine lv_iload_n hx hb dX11_digest_222 rfl (lv_at hl 2 rfl) ?_
                          refine lv_imul hx hb dX11_digest_223 ?_
                          refine my_bei (v := nI (51 * i4)) (pk_mul 51 i4) ?_
                          refine lv_iadd hx hb dX11_digest_224 ?_
                          refine my_bei (v := nI (51 * i4 + 262)) ((nI_add 262 (51 * i4)).trans (congrArg nI (show 262 + (51 * i4) = 51 * i4 + 262 by omega))) ?_
                          refine lv_iconst (v := 1) hx hb dX11_digest_225 (by decide) ?_
                          refine lv_aload_n hx hb dX11_digest_226 rfl (lv_at hl 0 rfl) ?_
                          refine va_get (D := G.1) (ci := 10) (v := .ref (g 316)) (C := RX11) (T := TX11) (N := 25) hx hb hts inlX11 hown hG.1 hP 315 (wl_at (by decide) hmo) rfl 0 (by decide) (hts (.fieldLink RX11 7 "SwornListsModel" "st" "[I") w_112) (fun _ h9 => h9) rfl dX11_digest_227 ?_
                          refine lv_sipush (v := 262) hx hb dX11_digest_230 (by decide) ?_
                          refine lv_bipush (v := 51) hx hb dX11_digest_233 (by decide) ?_
                          refine lv_iload_n hx hb dX11_digest_235 rfl (lv_at hl 2 rfl) ?_
                          refine lv_imul hx hb dX11_digest_236 ?_
                          refine my_bei (v := nI (51 * i4)) (pk_mul 51 i4) ?_
                          refine lv_iadd hx hb dX11_digest_237 ?_
                          refine my_bei (v := nI (51 * i4 + 262)) ((nI_add 262 (51 * i4)).trans (congrArg nI (show 262 + (51 * i4) = 51 * i4 + 262 by omega))) ?_
                          refine va_iald hx hb hG.1 hP 316 0 (wl_at (by decide) hss_) rfl (vp_in_nI (by omega) (by decide)) dX11_digest_238 ?_
                          refine my_bei (v := ss (51 * i4 + 262)) (congrArg ss (nI_clamp (n := 51 * i4 + 262) (by omega))) ?_
                          refine my_bei (v := nI l7) (he7) ?_
                          refine lv_iadd hx hb dX11_digest_239 ?_
                          refine my_bei (v := nI (l7 + 1)) ((nI_add 1 l7).trans (congrArg nI (show 1 + l7 = l7 + 1 by omega))) ?_
                          refine rd_calll (va_runV (As := [.long ui4, .int (nI (51 * i4 + 262)), .int (nI (l7 + 1))]) (rest := []) ⟨hx, hb, hml, hown, hts⟩ (r_mixed l G g hg f_4 ab2 be2 sn1 wn1 sa1 ly1 rdy1 (nI fd1) ss ui4 (51 * i4 + 262) (l7 + 1) hmo hss_ (by first | assumption | omega | decide)) (my_cwV hts ok_X11_mixed w_977 rfl rfl ⟨Nat.le_of_ble_eq_true rfl, Nat.le_of_ble_eq_true rfl⟩) ⟨bP.blind, va_recv hG.1 hP (ci := 10) (q0 := 315) rfl (wl_at (by decide) hmo), fun U hU hW => ⟨rfl, by rw [hU]; exact hP, kG.warm hW hG⟩⟩ rfl rfl hl.1 rfl (lv_room (Nat.le_of_ble_eq_true rfl)) dX11_digest_240 ⟨Nat.le_of_ble_eq_true rfl, Nat.le_of_ble_eq_true rfl⟩) (fun v9 _ => ?_)
                          refine lv_lstore_n (lv' := [(1, .long v9), (0, .ref (g 315)), (3, .int (nI i4))]) hx hb dX11_digest_243 rfl hl (by decide) rfl (fun ls hl => ?_)
                          refine lv_iinc (v := nI (i4 + 1)) (lv' := [(3, .int (nI (i4 + 1))), (1, .long v9), (0, .ref (g 315))]) hx hb dX11_digest_244 hl (k := 2) rfl (nI_add i4 1) (by decide) rfl (fun ls hl => ?_)
                          refine lv_goto (tgt := 210) hx hb dX11_digest_247 (by decide) ?_
                          exact ih_7 (i4 + 1) v9 f_4 _ _ _ (by omega) (by omega) (hmo) (hss_) (him_) (hkq_) (hsp_) (hwi_) (hwa_) (hva_) (hbo_) (hju_) (hdr_) (hdn_) (hsl_) (hax_) (hlf_) (hwh_) (hw6_) (hb6_) (fun j hj => (o_4 j (by omega))) hP hS (lv_sub hl [2, 1, 0] rfl)
                    exact key7 (4 + 1) 0 ui3 f_3 _ _ _ (by omega) (by omega) (hmo) (hss_) (him_) (hkq_) (hsp_) (hwi_) (hwa_) (hva_) (hbo_) (hju_) (hdr_) (hdn_) (hsl_) (hax_) (hlf_) (hwh_) (hw6_) (hb6_) (fun j _ => rfl) hP hS (lv_sub hl [1, 2, 0] rfl)
                  · have k_139 : ¬ nt ≤ i3 := fun z9 => c_139 ((nI_leI (a := nt) (b := i3) (by omega) (by omega)).mpr z9)
                    refine lv_ldc2 (v := 31) hx hb hown (hts (.constantLong RX11 261 (31)) w_976) dX11_digest_142 ?_
                    refine lv_ldc2 (v := 31) hx hb hown (hts (.constantLong RX11 261 (31)) w_976) dX11_digest_145 ?_
                    refine lv_lload_n hx hb dX11_digest_148 rfl (lv_at hl 1 rfl) ?_
                    refine lv_lmul hx hb dX11_digest_149 ?_
                    refine lv_aload_n hx hb dX11_digest_150 rfl (lv_at hl 0 rfl) ?_
                    refine va_get (D := G.1) (ci := 10) (v := .ref (g 323)) (C := RX11) (T := TX11) (N := 25) hx hb hts inlX11 hown hG.1 hP 315 (wl_at (by decide) hmo) rfl 15 (by decide) (hts (.fieldLink RX11 33 "SwornListsModel" "boxes" "[I") w_119) (fun _ h9 => h9) rfl dX11_digest_151 ?_
                    refine lv_iload_n hx hb dX11_digest_154 rfl (lv_at hl 2 rfl) ?_
                    refine va_iald hx hb hG.1 hP 323 0 (wl_at (by decide) hbo_) rfl (vp_in_nI (by omega) (by decide)) dX11_digest_155 ?_
                    refine my_bei (v := bo1 i3) (congrArg bo1 (nI_clamp (n := i3) (by omega))) ?_
                    refine lv_i2l hx hb dX11_digest_156 rfl ?_
                    refine lv_ladd hx hb dX11_digest_157 ?_
                    refine lv_lmul hx hb dX11_digest_158 ?_
                    refine lv_aload_n hx hb dX11_digest_159 rfl (lv_at hl 0 rfl) ?_
                    refine va_get (D := G.1) (ci := 10) (v := .ref (g 324)) (C := RX11) (T := TX11) (N := 25) hx hb hts inlX11 hown hG.1 hP 315 (wl_at (by decide) hmo) rfl 16 (by decide) (hts (.fieldLink RX11 36 "SwornListsModel" "juries" "[I") w_120) (fun _ h9 => h9) rfl dX11_digest_160 ?_
                    refine lv_iload_n hx hb dX11_digest_163 rfl (lv_at hl 2 rfl) ?_
                    refine va_iald hx hb hG.1 hP 324 0 (wl_at (by decide) hju_) rfl (vp_in_nI (by omega) (by decide)) dX11_digest_164 ?_
                    refine my_bei (v := ju1 i3) (congrArg ju1 (nI_clamp (n := i3) (by omega))) ?_
                    refine lv_i2l hx hb dX11_digest_165 rfl ?_
                    refine lv_ladd hx hb dX11_digest_166 ?_
                    refine lv_lstore_n (lv' := [(1, .long ((31 * ((31 * ui3) + (Int32.toInt64 (bo1 i3)))) + (Int32.toInt64 (ju1 i3)))), (0, .ref (g 315)), (3, .int (nI i3))]) hx hb dX11_digest_167 rfl hl (by decide) rfl (fun ls hl => ?_)
                    refine lv_iconst (v := 0) hx hb dX11_digest_168 (by decide) ?_
                    refine lv_istore (lv' := [(4, .int 0), (1, .long ((31 * ((31 * ui3) + (Int32.toInt64 (bo1 i3)))) + (Int32.toInt64 (ju1 i3)))), (0, .ref (g 315)), (3, .int (nI i3))]) hx hb dX11_digest_169 hl (by decide) rfl (fun ls hl => ?_)
                    have key10 : ∀ (n9_10 : Nat) (i5 : Nat) (ui5 : Int64) (f_5 : Nat → va_E) (H : Heap) (locs : List Loc) (ls : Array Slot), (i5 ≤ 4) → 4 - i5 < n9_10 → f_5 315 = eO 10 [.ref (g 316), .ref (g 317), .ref (g 318), .long ab2, .long be2, .int sn1, .ref (g 319), .ref (g 320), .int wn1, .ref (g 321), .ref (g 322), .int sa1, .int ly1, .int rdy1, .int (nI fd1), .ref (g 323), .ref (g 324), .ref (g 325), .ref (g 326), .ref (g 327), .ref (g 328), .ref (g 329), .ref (g 330), .ref (g 331), .ref (g 332)] → f_5 316 = eI G 2246 ss → f_5 317 = eI G 4492 im → f_5 318 = eZ G 2 kq → f_5 319 = eI G 70 sp1 → f_5 320 = eI G 70 wi1 → f_5 321 = eI G 70 wa1 → f_5 322 = eJ G 70 va1 → f_5 323 = eI G 11 bo1 → f_5 324 = eI G 11 ju1 → f_5 325 = eI G 264 dr1 → f_5 326 = eI G 11 dn1 → f_5 327 = eI G 330 sl1 → f_5 328 = eI G 44 ax1 → f_5 329 = eI G 30 lf1 → f_5 330 = eI G 6 wh → f_5 331 = eI G 6 w6 → f_5 332 = eI G 6 b6 → (∀ j, (j < 333 ∨ 333 ≤ j) → f_5 j = f_3 j) → va_P G.1 vwCl (wl g f_5) H → va_S (gA g) s.heap H locs → lv_has ls 5 [(0, .ref (g 315)), (1, .long ui5), (3, .int (nI i3)), (4, .int (nI i5))] → W p l e (headSpec (wsT yX11_digest cX11_digest 5 (some .long)) ({ frames := 8, cells := 0, slots := 0, locals := 196 })).room s m ([.ref (g 315)] : List Value).toArray below meth c H locs 0 0 Q9 (F0 m 171 ls []) := by
                      intro n9_10
                      induction n9_10 with
                      | zero => intro i5 ui5 f_5 H locs ls hi5 hn9_10; exact absurd hn9_10 (Nat.not_lt_zero _)
                      | succ n9_10 ih_10 =>
                        intro i5 ui5 f_5 H locs ls hi5 hn9_10 hmo hss_ him_ hkq_ hsp_ hwi_ hwa_ hva_ hbo_ hju_ hdr_ hdn_ hsl_ hax_ hlf_ hwh_ hw6_ hb6_ o_5 hP hS hl
                        refine lv_iload hx hb dX11_digest_171 (lv_at hl 3 rfl) ?_
                        refine lv_iconst (v := 4) hx hb dX11_digest_173 (by decide) ?_
                        refine lv_icmp_ge (tgt := 202) hx hb dX11_digest_174 (by decide) (fun c_174 => ?_) (fun c_174 => ?_)
                        · have k_174 : 4 ≤ i5 := (nI_leI (a := 4) (b := i5) (by omega) (by omega)).mp c_174
                          refine lv_iinc (v := nI (i3 + 1)) (lv' := [(3, .int (nI (i3 + 1))), (0, .ref (g 315)), (1, .long ui5), (4, .int (nI i5))]) hx hb dX11_digest_202 hl (k := 2) rfl (nI_add i3 1) (by decide) rfl (fun ls hl => ?_)
                          refine lv_goto (tgt := 132) hx hb dX11_digest_205 (by decide) ?_
                          exact ih_6 (i3 + 1) ui5 f_5 _ _ _ (by omega) (by omega) (hmo) (hss_) (him_) (hkq_) (hsp_) (hwi_) (hwa_) (hva_) (hbo_) (hju_) (hdr_) (hdn_) (hsl_) (hax_) (hlf_) (hwh_) (hw6_) (hb6_) (fun j hj => ((o_5 j (by omega))).trans (o_3 j (by omega))) hP hS (lv_sub hl [1, 2, 0] rfl)
                        · have k_174 : ¬ 4 ≤ i5 := fun z9 => c_174 ((nI_leI (a := 4) (b := i5) (by omega) (by omega)).mpr z9)
                          refine lv_ldc2 (v := 31) hx hb hown (hts (.constantLong RX11 261 (31)) w_976) dX11_digest_177 ?_
                          refine lv_lload_n hx hb dX11_digest_180 rfl (lv_at hl 1 rfl) ?_
                          refine lv_lmul hx hb dX11_digest_181 ?_
                          refine lv_aload_n hx hb dX11_digest_182 rfl (lv_at hl 0 rfl) ?_
                          refine va_get (D := G.1) (ci := 10) (v := .ref (g 328)) (C := RX11) (T := TX11) (N := 25) hx hb hts inlX11 hown hG.1 hP 315 (wl_at (by decide) hmo) rfl 20 (by decide) (hts (.fieldLink RX11 48 "SwornListsModel" "abouts" "[I") w_124) (fun _ h9 => h9) rfl dX11_digest_183 ?_
                          refine lv_iconst (v := 4) hx hb dX11_digest_186 (by decide) ?_
                          refine lv_iload_n hx hb dX11_digest_187 rfl (lv_at hl 2 rfl) ?_
                          refine lv_imul hx hb dX11_digest_188 ?_
                          refine my_bei (v := nI (4 * i3)) (pk_mul 4 i3) ?_
                          refine lv_iload hx hb dX11_digest_189 (lv_at hl 3 rfl) ?_
                          refine lv_iadd hx hb dX11_digest_191 ?_
                          refine my_bei (v := nI (4 * i3 + i5)) ((nI_add (4 * i3) i5).trans (congrArg nI (show (4 * i3) + i5 = 4 * i3 + i5 by omega))) ?_
                          refine va_iald hx hb hG.1 hP 328 0 (wl_at (by decide) hax_) rfl (vp_in_nI (by omega) (by decide)) dX11_digest_192 ?_
                          refine my_bei (v := ax1 (4 * i3 + i5)) (congrArg ax1 (nI_clamp (n := 4 * i3 + i5) (by omega))) ?_
                          refine lv_i2l hx hb dX11_digest_193 rfl ?_
                          refine lv_ladd hx hb dX11_digest_194 ?_
                          refine lv_lstore_n (lv' := [(1, .long ((31 * ui5) + (Int32.toInt64 (ax1 (4 * i3 + i5))))), (0, .ref (g 315)), (3, .int (nI i3)), (4, .int (nI i5))]) hx hb dX11_digest_195 rfl hl (by decide) rfl (fun ls hl => ?_)
                          refine lv_iinc (v := nI (i5 + 1)) (lv' := [(4, .int (nI (i5 + 1))), (1, .long ((31 * ui5) + (Int32.toInt64 (ax1 (4 * i3 + i5))))), (0, .ref (g 315)), (3, .int (nI i3))]) hx hb dX11_digest_196 hl (k := 3) rfl (nI_add i5 1) (by decide) rfl (fun ls hl => ?_)
                          refine lv_goto (tgt := 171) hx hb dX11_digest_199 (by decide) ?_
                          exact ih_10 (i5 + 1) ((31 * ui5) + (Int32.toInt64 (ax1 (4 * i3 + i5)))) f_5 _ _ _ (by omega) (by omega) (hmo) (hss_) (him_) (hkq_) (hsp_) (hwi_) (hwa_) (hva_) (hbo_) (hju_) (hdr_) (hdn_) (hsl_) (hax_) (hlf_) (hwh_) (hw6_) (hb6_) (fun j hj => (o_5 j (by omega))) hP hS (lv_sub hl [2, 1, 3, 0] rfl)
                    exact key10 (4 + 1) 0 ((31 * ((31 * ui3) + (Int32.toInt64 (bo1 i3)))) + (Int32.toInt64 (ju1 i3))) f_3 _ _ _ (by omega) (by omega) (hmo) (hss_) (him_) (hkq_) (hsp_) (hwi_) (hwa_) (hva_) (hbo_) (hju_) (hdr_) (hdn_) (hsl_) (hax_) (hlf_) (hwh_) (hw6_) (hb6_) (fun j _ => rfl) hP hS (lv_sub hl [2, 1, 3, 0] rfl)
              exact key6 (nt + 1) 0 ui2 f_2 _ _ _ (by omega) (by omega) (hmo) (hss_) (him_) (hkq_) (hsp_) (hwi_) (hwa_) (hva_) (hbo_) (hju_) (hdr_) (hdn_) (hsl_) (hax_) (hlf_) (hwh_) (hw6_) (hb6_) (fun j _ => rfl) hP hS (lv_sub hl [1, 2, 0] rfl)
            · have k_90 : ¬ na ≤ i2 := fun z9 => c_90 ((nI_leI (a := na) (b := i2) (by omega) (by omega)).mpr z9)
              obtain ⟨l9, hl9, hl8, hl7⟩ := hst.ac i2 (by omega)
              refine lv_aload_n hx hb dX11_digest_93 rfl (lv_at hl 0 rfl) ?_
              refine lv_lload_n hx hb dX11_digest_94 rfl (lv_at hl 1 rfl) ?_
              refine lv_sipush (v := 466) hx hb dX11_digest_95 (by decide) ?_
              refine lv_bipush (v := 54) hx hb dX11_digest_98 (by decide) ?_
              refine lv_iload_n hx hb dX11_digest_100 rfl (lv_at hl 2 rfl) ?_
              refine lv_imul hx hb dX11_digest_101 ?_
              refine my_bei (v := nI (54 * i2)) (pk_mul 54 i2) ?_
              refine lv_iadd hx hb dX11_digest_102 ?_
              refine my_bei (v := nI (54 * i2 + 466)) ((nI_add 466 (54 * i2)).trans (congrArg nI (show 466 + (54 * i2) = 54 * i2 + 466 by omega))) ?_
              refine lv_iconst (v := 4) hx hb dX11_digest_103 (by decide) ?_
              refine lv_aload_n hx hb dX11_digest_104 rfl (lv_at hl 0 rfl) ?_
              refine va_get (D := G.1) (ci := 10) (v := .ref (g 316)) (C := RX11) (T := TX11) (N := 25) hx hb hts inlX11 hown hG.1 hP 315 (wl_at (by decide) hmo) rfl 0 (by decide) (hts (.fieldLink RX11 7 "SwornListsModel" "st" "[I") w_112) (fun _ h9 => h9) rfl dX11_digest_105 ?_
              refine lv_sipush (v := 466) hx hb dX11_digest_108 (by decide) ?_
              refine lv_bipush (v := 54) hx hb dX11_digest_111 (by decide) ?_
              refine lv_iload_n hx hb dX11_digest_113 rfl (lv_at hl 2 rfl) ?_
              refine lv_imul hx hb dX11_digest_114 ?_
              refine my_bei (v := nI (54 * i2)) (pk_mul 54 i2) ?_
              refine lv_iadd hx hb dX11_digest_115 ?_
              refine my_bei (v := nI (54 * i2 + 466)) ((nI_add 466 (54 * i2)).trans (congrArg nI (show 466 + (54 * i2) = 54 * i2 + 466 by omega))) ?_
              refine lv_iconst (v := 3) hx hb dX11_digest_116 (by decide) ?_
              refine lv_iadd hx hb dX11_digest_117 ?_
              refine my_bei (v := nI (54 * i2 + 469)) ((nI_add (54 * i2 + 466) 3).trans (congrArg nI (show (54 * i2 + 466) + 3 = 54 * i2 + 469 by omega))) ?_
              refine va_iald hx hb hG.1 hP 316 0 (wl_at (by decide) hss_) rfl (vp_in_nI (by omega) (by decide)) dX11_digest_118 ?_
              refine my_bei (v := ss (54 * i2 + 469)) (congrArg ss (nI_clamp (n := 54 * i2 + 469) (by omega))) ?_
              refine my_bei (v := nI l9) (hl8) ?_
              refine lv_iadd hx hb dX11_digest_119 ?_
              refine my_bei (v := nI (l9 + 4)) ((nI_add 4 l9).trans (congrArg nI (show 4 + l9 = l9 + 4 by omega))) ?_
              refine rd_calll (va_runV (As := [.long ui2, .int (nI (54 * i2 + 466)), .int (nI (l9 + 4))]) (rest := []) ⟨hx, hb, hml, hown, hts⟩ (r_mixed l G g hg f_2 ab2 be2 sn1 wn1 sa1 ly1 rdy1 (nI fd1) ss ui2 (54 * i2 + 466) (l9 + 4) hmo hss_ (by first | assumption | omega | decide)) (my_cwV hts ok_X11_mixed w_977 rfl rfl ⟨Nat.le_of_ble_eq_true rfl, Nat.le_of_ble_eq_true rfl⟩) ⟨bP.blind, va_recv hG.1 hP (ci := 10) (q0 := 315) rfl (wl_at (by decide) hmo), fun U hU hW => ⟨rfl, by rw [hU]; exact hP, kG.warm hW hG⟩⟩ rfl rfl hl.1 rfl (lv_room (Nat.le_of_ble_eq_true rfl)) dX11_digest_120 ⟨Nat.le_of_ble_eq_true rfl, Nat.le_of_ble_eq_true rfl⟩) (fun v11 _ => ?_)
              refine lv_lstore_n (lv' := [(1, .long v11), (0, .ref (g 315)), (3, .int (nI i2))]) hx hb dX11_digest_123 rfl hl (by decide) rfl (fun ls hl => ?_)
              refine lv_iinc (v := nI (i2 + 1)) (lv' := [(3, .int (nI (i2 + 1))), (1, .long v11), (0, .ref (g 315))]) hx hb dX11_digest_124 hl (k := 2) rfl (nI_add i2 1) (by decide) rfl (fun ls hl => ?_)
              refine lv_goto (tgt := 83) hx hb dX11_digest_127 (by decide) ?_
              exact ih_5 (i2 + 1) v11 f_2 _ _ _ (by omega) (by omega) (hmo) (hss_) (him_) (hkq_) (hsp_) (hwi_) (hwa_) (hva_) (hbo_) (hju_) (hdr_) (hdn_) (hsl_) (hax_) (hlf_) (hwh_) (hw6_) (hb6_) (fun j hj => (o_2 j (by omega))) hP hS (lv_sub hl [2, 1, 0] rfl)
        exact key5 (na + 1) 0 v4 f_1 _ _ _ (by omega) (by omega) (hmo) (hss_) (him_) (hkq_) (hsp_) (hwi_) (hwa_) (hva_) (hbo_) (hju_) (hdr_) (hdn_) (hsl_) (hax_) (hlf_) (hwh_) (hw6_) (hb6_) (fun j _ => rfl) hP hS (lv_sub hl [2, 1, 0] rfl)
      · have k_9 : ¬ 6 ≤ i := fun z9 => c_9 ((nI_leI (a := 6) (b := i) (by omega) (by omega)).mpr z9)
        refine lv_ldc2 (v := 31) hx hb hown (hts (.constantLong RX11 261 (31)) w_976) dX11_digest_12 ?_
        refine lv_lload_n hx hb dX11_digest_15 rfl (lv_at hl 1 rfl) ?_
        refine lv_lmul hx hb dX11_digest_16 ?_
        refine lv_aload_n hx hb dX11_digest_17 rfl (lv_at hl 0 rfl) ?_
        refine lv_iload_n hx hb dX11_digest_18 rfl (lv_at hl 2 rfl) ?_
        refine b_calli (va_runV (As := [.int (nI i)]) (rest := [.long (31 * u)]) ⟨hx, hb, hml, hown, hts⟩ (r_countOfF l G g hg f_1 ab2 be2 sn1 wn1 sa1 ly1 rdy1 fd1 ss np nf nr na nt sp1 wi1 wa1 va1 bo1 ju1 dr1 dn1 sl1 ax1 lf1 i hmo hss_ hsp_ hwi_ hwa_ hva_ hbo_ hju_ hdr_ hdn_ hsl_ hax_ hlf_ (by first | assumption | omega | decide) (by first | assumption | omega | decide) (by first | assumption | omega | decide) (by first | assumption | omega | decide) (by first | assumption | omega | decide) (by first | assumption | omega | decide)) (my_cwV hts ok_X11_countOf w_939 rfl rfl ⟨Nat.le_of_ble_eq_true rfl, Nat.le_of_ble_eq_true rfl⟩) ⟨bP.blind, va_recv hG.1 hP (ci := 10) (q0 := 315) rfl (wl_at (by decide) hmo), fun U hU hW => ⟨rfl, by rw [hU]; exact hP, kG.warm hW hG⟩⟩ rfl rfl hl.1 rfl (lv_room (Nat.le_of_ble_eq_true rfl)) dX11_digest_19 ⟨Nat.le_of_ble_eq_true rfl, Nat.le_of_ble_eq_true rfl⟩) hS (fun v12 f_6 H locs hq9 hP hS => ?_)
        obtain ⟨sn913, wn914, sa915, ly916, sp917, wi918, wa919, va920, bo921, ju922, dr923, dn924, sl925, ax926, lf927, rdy928, fd929, hq_6_0, hq_6_1, hq_6_2, hq_6_3, hq_6_4, hq_6_5, hq_6_6, hq_6_7, hq_6_8, hq_6_9, hq_6_10, hq_6_11, hx_6_0, hx_6_1, hx_6_2, hx_6_3, hx_6_4, hx_6_5, o_6⟩ := hq9
        have hmo : f_6 315 = eO 10 [.ref (g 316), .ref (g 317), .ref (g 318), .long ab2, .long be2, .int sn913, .ref (g 319), .ref (g 320), .int wn914, .ref (g 321), .ref (g 322), .int sa915, .int ly916, .int rdy928, .int (nI fd929), .ref (g 323), .ref (g 324), .ref (g 325), .ref (g 326), .ref (g 327), .ref (g 328), .ref (g 329), .ref (g 330), .ref (g 331), .ref (g 332)] := hq_6_0
        have hsp_ : f_6 319 = eI G 70 sp917 := hq_6_1
        have hwi_ : f_6 320 = eI G 70 wi918 := hq_6_2
        have hwa_ : f_6 321 = eI G 70 wa919 := hq_6_3
        have hva_ : f_6 322 = eJ G 70 va920 := hq_6_4
        have hbo_ : f_6 323 = eI G 11 bo921 := hq_6_5
        have hju_ : f_6 324 = eI G 11 ju922 := hq_6_6
        have hdr_ : f_6 325 = eI G 264 dr923 := hq_6_7
        have hdn_ : f_6 326 = eI G 11 dn924 := hq_6_8
        have hsl_ : f_6 327 = eI G 330 sl925 := hq_6_9
        have hax_ : f_6 328 = eI G 44 ax926 := hq_6_10
        have hlf_ : f_6 329 = eI G 30 lf927 := hq_6_11
        refine lv_i2l hx hb dX11_digest_22 rfl ?_
        refine lv_ladd hx hb dX11_digest_23 ?_
        refine lv_lstore_n (lv' := [(1, .long ((31 * u) + (Int32.toInt64 v12))), (0, .ref (g 315)), (3, .int (nI i))]) hx hb dX11_digest_24 rfl hl (by decide) rfl (fun ls hl => ?_)
        refine lv_iinc (v := nI (i + 1)) (lv' := [(3, .int (nI (i + 1))), (1, .long ((31 * u) + (Int32.toInt64 v12))), (0, .ref (g 315))]) hx hb dX11_digest_25 hl (k := 2) rfl (nI_add i 1) (by decide) rfl (fun ls hl => ?_)
        refine lv_goto (tgt := 6) hx hb dX11_digest_28 (by decide) ?_
        replace hss_ := ((o_6 316 (by first | decide | omega))).trans hss_
        replace him_ := ((o_6 317 (by first | decide | omega))).trans him_
        replace hkq_ := ((o_6 318 (by first | decide | omega))).trans hkq_
        replace hwh_ := ((o_6 330 (by first | decide | omega))).trans hwh_
        replace hw6_ := ((o_6 331 (by first | decide | omega))).trans hw6_
        replace hb6_ := ((o_6 332 (by first | decide | omega))).trans hb6_
        exact ih_1 (i + 1) ((31 * u) + (Int32.toInt64 v12)) sn913 wn914 sa915 ly916 sp917 wi918 wa919 va920 bo921 ju922 dr923 dn924 sl925 ax926 lf927 rdy928 fd929 f_6 _ _ _ (by omega) (hx_6_0) (hx_6_1) (fun _ => ⟨hx_6_3, hx_6_4⟩) (by omega) (hmo) (hss_) (him_) (hkq_) (hsp_) (hwi_) (hwa_) (hva_) (hbo_) (hju_) (hdr_) (hdn_) (hsl_) (hax_) (hlf_) (hwh_) (hw6_) (hb6_) (fun j hj => ((o_6 j (by omega))).trans (o_1 j (by omega))) hP hS (lv_sub hl [2, 1, 0] rfl)
  exact key1 (6 + 1) 0 367 sn wn sa ly sp wi wa va bo ju dr dn sl ax lf rdy fd f _ _ _ (by omega) (hdn) (hfo) (hrd) (by omega) (hmo) (hss_) (him_) (hkq_) (hsp_) (hwi_) (hwa_) (hva_) (hbo_) (hju_) (hdr_) (hdn_) (hsl_) (hax_) (hlf_) (hwh_) (hw6_) (hb6_) (fun j _ => rfl) hP hS (lv_sub hl [2, 1, 0] rfl)
theorem j2_digest (l : Launch) (G : gW) (g : Nat → Nat) (hg : gOK g) (f : Nat → va_E) (ss : Nat → Int32) (im : Nat → Int32) (kq : Nat → Int32) (hI : mJ G g f ss im kq) (htA : ∀ n : Nat, n ≤ 10 → ss 4 = nI n → trOK ss n) : Met l yX11_digest (wsT yX11_digest cX11_digest 5 (some .long)) ({ frames := 8, cells := 0, slots := 0, locals := 196 }) (bP G g f [.ref (g 315)]) (bQl G g (fun (z9 : Int64) (f' : Nat → va_E) => (mJ G g f' ss im kq) ∧ ∀ j, j < 315 → f' j = f j)) 0 0 (gA g) := mJ_elim hI (fun ab2 be2 sn wn sa ly rdy fd np nf nr na nt sp wi wa va bo ju dr dn sl ax lf wh w6 b6 hmo hss_ him_ hkq_ hsp_ hwi_ hwa_ hva_ hbo_ hju_ hdr_ hdn_ hsl_ hax_ hlf_ hwh_ hw6_ hb6_ hst hfo hdn hi0 hi1 hrd => jn2_digest l G g hg f ab2 be2 sn wn sa ly rdy fd ss np nf nr na nt im kq sp wi wa va bo ju dr dn sl ax lf wh w6 b6  hmo hss_ him_ hkq_ hsp_ hwi_ hwa_ hva_ hbo_ hju_ hdr_ hdn_ hsl_ hax_ hlf_ hwh_ hw6_ hb6_ hst hfo hdn hi0 hi1 hrd htA)


set_option maxHeartbeats 4000000 in
set_option maxRecDepth 100000 in
theorem jn2_act (l : Launch) (G : gW) (g : Nat → Nat) (hg : gOK g) (f : Nat → va_E) (ab2 : Int64) (be2 : Int64) (sn : Int32) (wn : Int32) (sa : Int32) (ly : Int32) (rdy : Int32) (fd : Nat) (ss : Nat → Int32) (np : Nat) (nf : Nat) (nr : Nat) (na : Nat) (nt : Nat) (im : Nat → Int32) (kq : Nat → Int32) (sp : Nat → Int32) (wi : Nat → Int32) (wa : Nat → Int32) (va : Nat → Int64) (bo : Nat → Int32) (ju : Nat → Int32) (dr : Nat → Int32) (dn : Nat → Int32) (sl : Nat → Int32) (ax : Nat → Int32) (lf : Nat → Int32) (wh : Nat → Int32) (w6 : Nat → Int32) (b6 : Nat → Int32) (a1 : Int32) (a2 : Int32) (a3 : Int32) (hmo : f 315 = eO 10 [.ref (g 316), .ref (g 317), .ref (g 318), .long ab2, .long be2, .int sn, .ref (g 319), .ref (g 320), .int wn, .ref (g 321), .ref (g 322), .int sa, .int ly, .int rdy, .int (nI fd), .ref (g 323), .ref (g 324), .ref (g 325), .ref (g 326), .ref (g 327), .ref (g 328), .ref (g 329), .ref (g 330), .ref (g 331), .ref (g 332)]) (hss_ : f 316 = eI G 2246 ss) (him_ : f 317 = eI G 4492 im) (hkq_ : f 318 = eZ G 2 kq) (hsp_ : f 319 = eI G 70 sp) (hwi_ : f 320 = eI G 70 wi) (hwa_ : f 321 = eI G 70 wa) (hva_ : f 322 = eJ G 70 va) (hbo_ : f 323 = eI G 11 bo) (hju_ : f 324 = eI G 11 ju) (hdr_ : f 325 = eI G 264 dr) (hdn_ : f 326 = eI G 11 dn) (hsl_ : f 327 = eI G 330 sl) (hax_ : f 328 = eI G 44 ax) (hlf_ : f 329 = eI G 30 lf) (hwh_ : f 330 = eI G 6 wh) (hw6_ : f 331 = eI G 6 w6) (hb6_ : f 332 = eI G 6 b6) (hst : stOK ss np nf nr na nt) (hfo : fd ≤ 10) (hdn : ∀ k, k < 11 → ∃ d, d ≤ 24 ∧ dn k = nI d) (hi0 : stI im 0) (hi1 : stI im 2246) (hrd : ¬ rdy = 0 → fd = nt ∧ ∀ z, z < nt → rHz np nf nr na ss bo ju dr dn sl ax z) (htA : ∀ n : Nat, n ≤ 10 → ss 4 = nI n → trOK ss n) : Met l yX11_act (wsT yX11_act cX11_act 6 (some .int)) ({ frames := 4, cells := 0, slots := 0, locals := 93 }) (bP G g f [.ref (g 315), .int a1, .int a2, .int a3]) (bQi G g (fun (z9 : Int32) (f' : Nat → va_E) => ∃ ss9 : Nat → Int32, (mJ G g f' ss9 im kq) ∧ (∃ p9 f9 r9 u9 t9, stOK ss p9 f9 r9 u9 t9 ∧ ((¬ (inB 0 a1 3 = true ∧ inB 0 a2 1 = true ∧ inB 0 a3 9999 = true) ∧ z9 = -2 ∧ ss9 = ss) ∨ ((inB 0 a1 3 = true ∧ inB 0 a2 1 = true ∧ inB 0 a3 9999 = true) ∧ ∃ x l, x ≤ 3 ∧ a1 = nI x ∧ l ≤ 50 ∧ ss (51 * x + 262) = nI l ∧ ((¬ rdA l (fun k => ss (51 * x + 262 + k + 1)) = -1 ∧ z9 = -3 ∧ ss9 = ss) ∨ (rdA l (fun k => ss (51 * x + 262 + k + 1)) = -1 ∧ u9 = 20 ∧ z9 = -4 ∧ ss9 = ss) ∨ (rdA l (fun k => ss (51 * x + 262 + k + 1)) = -1 ∧ u9 < 20 ∧ z9 = nI u9 ∧ ∃ s4, ss9 = upd s4 3 (nI (u9 + 1)) ∧ (∀ j, (∀ q, q < 51 → j ≠ q + 54 * u9 + 469) → s4 j = (upd (upd (upd ss (54 * u9 + 466) a2) (54 * u9 + 467) a3) (54 * u9 + 468) (-1)) j) ∧ ∀ q, q < 51 → s4 (q + 54 * u9 + 469) = ss (q + 51 * x + 262)))))) ∧ ∀ j, j < 315 → f' j = f j)) 0 0 (gA g) := by
  refine Met.ofW (cc := cX11_act) (maxL := 6) (ret := (some .int)) (by decide) rfl ?_
  intro p e s m args below meth c s₁ B hml hv
  obtain ⟨rfl, hP, hG⟩ := hv
  have hx := B.exec
  have hb := B.bytes
  have hr := B.returns
  have hts := my_hts (atoms_spec (ws := wsT yX11_act cX11_act 6 (some .int)) B.pre)
  have hown : s.vm.findClass RX11 = some m.cls := findClass_of_methodNamed B.named
  have hlocks := B.notSynchronized
  have hS : va_S (gA g) s.heap s.heap [] := va_S.rf
  have hl := lv_entry ([.ref (g 315), .int a1, .int a2, .int a3]) (n := 6) (Nat.le_of_ble_eq_true rfl)
  rw [lg_entry_eq]
  generalize (lg_sl ([.ref (g 315), .int a1, .int a2, .int a3]) ++ List.replicate (6 - (lg_sl ([.ref (g 315), .int a1, .int a2, .int a3])).length) Slot.unset).toArray = ls at hl ⊢
  have hl : lv_has ls 6 [(0, .ref (g 315)), (1, .int a1), (2, .int a2), (3, .int a3)] := hl
  refine W_q8 (fun Q9 hQ9 => ?_)
  have hc0 := hst.c0
  have hc1 := hst.c1
  have hc2 := hst.c2
  have hc3 := hst.c3
  have hc4 := hst.c4
  have htr := htA nt hst.c4 hst.h4
  refine lv_iload_n hx hb dX11_act_0 rfl (lv_at hl 1 rfl) ?_
  refine rd_calli (va_runS (As := [.int a1]) (rest := []) ⟨hx, hb, hml, hown, hts⟩ (r_isText l G g hg f a1  ) (my_cwS hts ok_X11_isText w_259 rfl rfl ⟨Nat.le_of_ble_eq_true rfl, Nat.le_of_ble_eq_true rfl⟩) ⟨bP.blind, fun U hU hW => ⟨rfl, by rw [hU]; exact hP, kG.warm hW hG⟩⟩ rfl rfl hl.1 rfl (lv_room (Nat.le_of_ble_eq_true rfl)) dX11_act_1 ⟨Nat.le_of_ble_eq_true rfl, Nat.le_of_ble_eq_true rfl⟩) (fun r hr9 => ?_)
  subst hr9
  refine my_ifeq (tgt := 24) hx hb dX11_act_4 (by decide) (fun c_4 => ?_) (fun c_4 => ?_)
  · refine lv_bipush (v := (-2)) hx hb dX11_act_24 (by decide) ?_
    refine W_q9 hQ9 ?_
    exact W.iret (v := (-2)) hx hb hr (fun _ hT9 _ => ⟨⟨_, f, rfl, (⟨ss, mJ_mk (ab2) (be2) (sn) (wn) (sa) (ly) (rdy) (fd) (np) (nf) (nr) (na) (nt) (sp) (wi) (wa) (va) (bo) (ju) (dr) (dn) (sl) (ax) (lf) (wh) (w6) (b6) (hmo) (hss_) (him_) (hkq_) (hsp_) (hwi_) (hwa_) (hva_) (hbo_) (hju_) (hdr_) (hdn_) (hsl_) (hax_) (hlf_) (hwh_) (hw6_) (hb6_) (hst) (by omega) (hdn) (hi0) (hi1) (hrd), ⟨np, nf, nr, na, nt, hst, Or.inl ⟨fun z => c_4 z.1, rfl, rfl⟩⟩, fun j hj => rfl⟩), by rw [hT9]; exact hP⟩, hS.F hT9⟩) hS.2.2 dX11_act_26
  · refine lv_iload_n hx hb dX11_act_7 rfl (lv_at hl 2 rfl) ?_
    refine lv_i2l hx hb dX11_act_8 rfl ?_
    refine lv_lconst (v := 0) hx hb dX11_act_9 (by decide) ?_
    refine my_bel (v := Int32.toInt64 0) (by decide) ?_
    refine lv_lconst (v := 1) hx hb dX11_act_10 (by decide) ?_
    refine my_bel (v := Int32.toInt64 1) (by decide) ?_
    refine rd_calli (va_runS (As := [.long (Int32.toInt64 a2), .long (Int32.toInt64 0), .long (Int32.toInt64 1)]) (rest := []) ⟨hx, hb, hml, hown, hts⟩ (r_in l G g hg f a2 0 1  ) (my_cwS hts ok_X11_in w_162 rfl rfl ⟨Nat.le_of_ble_eq_true rfl, Nat.le_of_ble_eq_true rfl⟩) ⟨bP.blind, fun U hU hW => ⟨rfl, by rw [hU]; exact hP, kG.warm hW hG⟩⟩ rfl rfl hl.1 rfl (lv_room (Nat.le_of_ble_eq_true rfl)) dX11_act_11 ⟨Nat.le_of_ble_eq_true rfl, Nat.le_of_ble_eq_true rfl⟩) (fun r hr9 => ?_)
    subst hr9
    refine my_ifeq (tgt := 24) hx hb dX11_act_14 (by decide) (fun c_14 => ?_) (fun c_14 => ?_)
    · refine lv_bipush (v := (-2)) hx hb dX11_act_24 (by decide) ?_
      refine W_q9 hQ9 ?_
      exact W.iret (v := (-2)) hx hb hr (fun _ hT9 _ => ⟨⟨_, f, rfl, (⟨ss, mJ_mk (ab2) (be2) (sn) (wn) (sa) (ly) (rdy) (fd) (np) (nf) (nr) (na) (nt) (sp) (wi) (wa) (va) (bo) (ju) (dr) (dn) (sl) (ax) (lf) (wh) (w6) (b6) (hmo) (hss_) (him_) (hkq_) (hsp_) (hwi_) (hwa_) (hva_) (hbo_) (hju_) (hdr_) (hdn_) (hsl_) (hax_) (hlf_) (hwh_) (hw6_) (hb6_) (hst) (by omega) (hdn) (hi0) (hi1) (hrd), ⟨np, nf, nr, na, nt, hst, Or.inl ⟨fun z => c_14 z.2.1, rfl, rfl⟩⟩, fun j hj => rfl⟩), by rw [hT9]; exact hP⟩, hS.F hT9⟩) hS.2.2 dX11_act_26
    · refine lv_iload_n hx hb dX11_act_17 rfl (lv_at hl 3 rfl) ?_
      refine rd_calli (va_runS (As := [.int a3]) (rest := []) ⟨hx, hb, hml, hown, hts⟩ (r_isDay l G g hg f a3  ) (my_cwS hts ok_X11_isDay w_190 rfl rfl ⟨Nat.le_of_ble_eq_true rfl, Nat.le_of_ble_eq_true rfl⟩) ⟨bP.blind, fun U hU hW => ⟨rfl, by rw [hU]; exact hP, kG.warm hW hG⟩⟩ rfl rfl hl.1 rfl (lv_room (Nat.le_of_ble_eq_true rfl)) dX11_act_18 ⟨Nat.le_of_ble_eq_true rfl, Nat.le_of_ble_eq_true rfl⟩) (fun r hr9 => ?_)
      subst hr9
      refine my_ifne (tgt := 27) hx hb dX11_act_21 (by decide) (fun c_21 => ?_) (fun c_21 => ?_)
      · obtain ⟨xn, hxn, rfl⟩ := inB_n (b := 3) (by omega) c_4
        obtain ⟨l7, hl7, he7⟩ := hst.tx xn (by omega)
        refine lv_aload_n hx hb dX11_act_27 rfl (lv_at hl 0 rfl) ?_
        refine lv_sipush (v := 262) hx hb dX11_act_28 (by decide) ?_
        refine lv_bipush (v := 51) hx hb dX11_act_31 (by decide) ?_
        refine lv_iload_n hx hb dX11_act_33 rfl (lv_at hl 1 rfl) ?_
        refine lv_imul hx hb dX11_act_34 ?_
        refine my_bei (v := nI (51 * xn)) (pk_mul 51 xn) ?_
        refine lv_iadd hx hb dX11_act_35 ?_
        refine my_bei (v := nI (51 * xn + 262)) ((nI_add 262 (51 * xn)).trans (congrArg nI (show 262 + (51 * xn) = 51 * xn + 262 by omega))) ?_
        refine b_calli (va_runV (As := [.int (nI (51 * xn + 262))]) (rest := []) ⟨hx, hb, hml, hown, hts⟩ (r_reads l G g hg f ab2 be2 sn wn sa ly rdy (nI fd) ss sp wi wa (51 * xn + 262) l7 hmo hss_ hsp_ hwi_ hwa_ (by first | assumption | omega | decide) (he7) (by first | assumption | omega | decide)) (my_cwV hts ok_X11_reads w_345 rfl rfl ⟨Nat.le_of_ble_eq_true rfl, Nat.le_of_ble_eq_true rfl⟩) ⟨bP.blind, va_recv hG.1 hP (ci := 10) (q0 := 315) rfl (wl_at (by decide) hmo), fun U hU hW => ⟨rfl, by rw [hU]; exact hP, kG.warm hW hG⟩⟩ rfl rfl hl.1 rfl (lv_room (Nat.le_of_ble_eq_true rfl)) dX11_act_36 ⟨Nat.le_of_ble_eq_true rfl, Nat.le_of_ble_eq_true rfl⟩) hS (fun v1 f_1 H locs hq9 hP hS => ?_)
        obtain ⟨sn92, wn93, sp94, wi95, wa96, rfl, hq_1_0, hq_1_1, hq_1_2, hq_1_3, hx_1_0, o_1⟩ := hq9
        have hmo : f_1 315 = eO 10 [.ref (g 316), .ref (g 317), .ref (g 318), .long ab2, .long be2, .int (nI sn92), .ref (g 319), .ref (g 320), .int (nI wn93), .ref (g 321), .ref (g 322), .int sa, .int ly, .int rdy, .int (nI fd), .ref (g 323), .ref (g 324), .ref (g 325), .ref (g 326), .ref (g 327), .ref (g 328), .ref (g 329), .ref (g 330), .ref (g 331), .ref (g 332)] := hq_1_0
        have hsp_ : f_1 319 = eI G 70 sp94 := hq_1_1
        have hwi_ : f_1 320 = eI G 70 wi95 := hq_1_2
        have hwa_ : f_1 321 = eI G 70 wa96 := hq_1_3
        refine lv_iconst (v := (-1)) hx hb dX11_act_39 (by decide) ?_
        refine lv_icmp_eq (tgt := 46) hx hb dX11_act_40 (by decide) (fun c_40 => ?_) (fun c_40 => ?_)
        · refine lv_aload_n hx hb dX11_act_46 rfl (lv_at hl 0 rfl) ?_
          refine va_get (D := G.1) (ci := 10) (v := .ref (g 316)) (C := RX11) (T := TX11) (N := 25) hx hb hts inlX11 hown hG.1 hP 315 (wl_at (by decide) hmo) rfl 0 (by decide) (hts (.fieldLink RX11 7 "SwornListsModel" "st" "[I") w_112) (fun _ h9 => h9) rfl dX11_act_47 ?_
          refine lv_iconst (v := 3) hx hb dX11_act_50 (by decide) ?_
          replace hss_ := ((o_1 316 (by first | decide | omega))).trans hss_
          refine va_iald hx hb hG.1 hP 316 0 (wl_at (by decide) hss_) rfl (by unfold vp_in; decide) dX11_act_51 ?_
          refine my_bei (v := ss 3) (rfl) ?_
          refine my_bei (v := nI na) (hst.h3) ?_
          refine lv_bipush (v := 20) hx hb dX11_act_52 (by decide) ?_
          refine lv_icmp_ne (tgt := 60) hx hb dX11_act_54 (by decide) (fun c_54 => ?_) (fun c_54 => ?_)
          · have k_54 : ¬ na = 20 := fun z9 => c_54 ((nI_eq (a := na) (b := 20) (by omega) (by omega)).mpr z9)
            refine lv_sipush (v := 466) hx hb dX11_act_60 (by decide) ?_
            refine lv_bipush (v := 54) hx hb dX11_act_63 (by decide) ?_
            refine lv_aload_n hx hb dX11_act_65 rfl (lv_at hl 0 rfl) ?_
            refine va_get (D := G.1) (ci := 10) (v := .ref (g 316)) (C := RX11) (T := TX11) (N := 25) hx hb hts inlX11 hown hG.1 hP 315 (wl_at (by decide) hmo) rfl 0 (by decide) (hts (.fieldLink RX11 7 "SwornListsModel" "st" "[I") w_112) (fun _ h9 => h9) rfl dX11_act_66 ?_
            refine lv_iconst (v := 3) hx hb dX11_act_69 (by decide) ?_
            refine va_iald hx hb hG.1 hP 316 0 (wl_at (by decide) hss_) rfl (by unfold vp_in; decide) dX11_act_70 ?_
            refine my_bei (v := ss 3) (rfl) ?_
            refine my_bei (v := nI na) (hst.h3) ?_
            refine lv_imul hx hb dX11_act_71 ?_
            refine my_bei (v := nI (54 * na)) (pk_mul 54 na) ?_
            refine lv_iadd hx hb dX11_act_72 ?_
            refine my_bei (v := nI (54 * na + 466)) ((nI_add 466 (54 * na)).trans (congrArg nI (show 466 + (54 * na) = 54 * na + 466 by omega))) ?_
            refine lv_istore (lv' := [(4, .int (nI (54 * na + 466))), (0, .ref (g 315)), (1, .int (nI xn)), (2, .int a2), (3, .int a3)]) hx hb dX11_act_73 hl (by decide) rfl (fun ls hl => ?_)
            refine lv_aload_n hx hb dX11_act_75 rfl (lv_at hl 1 rfl) ?_
            refine va_get (D := G.1) (ci := 10) (v := .ref (g 316)) (C := RX11) (T := TX11) (N := 25) hx hb hts inlX11 hown hG.1 hP 315 (wl_at (by decide) hmo) rfl 0 (by decide) (hts (.fieldLink RX11 7 "SwornListsModel" "st" "[I") w_112) (fun _ h9 => h9) rfl dX11_act_76 ?_
            refine lv_iload hx hb dX11_act_79 (lv_at hl 0 rfl) ?_
            refine lv_iload_n hx hb dX11_act_81 rfl (lv_at hl 3 rfl) ?_
            refine va_iast hx hb hG.1 hP (wl_D hg f_1) hS 316 0 (wl_at (by decide) hss_) rfl (vp_in_nI (by omega) (by decide)) dX11_act_82 (fun H locs hP _ hS => ?_)
            have hP := (congrArg (fun z9 => va_P G.1 vwCl ((wl g f_1).set 316 (g 316, eI G 2246 ((upd ss z9 a2)))) H) (show Int32.toNatClampNeg (nI (54 * na + 466)) = 54 * na + 466 from nI_clamp (by omega))).mp hP
            obtain ⟨f_2, hP, e_2, o_2⟩ := b_put (by decide) hP
            have hss_ : f_2 316 = eI G 2246 (upd ss (54 * na + 466) a2) := e_2
            refine lv_aload_n hx hb dX11_act_83 rfl (lv_at hl 1 rfl) ?_
            replace hmo := ((o_2 315 (by decide))).trans hmo
            refine va_get (D := G.1) (ci := 10) (v := .ref (g 316)) (C := RX11) (T := TX11) (N := 25) hx hb hts inlX11 hown hG.1 hP 315 (wl_at (by decide) hmo) rfl 0 (by decide) (hts (.fieldLink RX11 7 "SwornListsModel" "st" "[I") w_112) (fun _ h9 => h9) rfl dX11_act_84 ?_
            refine lv_iload hx hb dX11_act_87 (lv_at hl 0 rfl) ?_
            refine lv_iconst (v := 1) hx hb dX11_act_89 (by decide) ?_
            refine lv_iadd hx hb dX11_act_90 ?_
            refine my_bei (v := nI (54 * na + 467)) ((nI_add (54 * na + 466) 1).trans (congrArg nI (show (54 * na + 466) + 1 = 54 * na + 467 by omega))) ?_
            refine lv_iload_n hx hb dX11_act_91 rfl (lv_at hl 4 rfl) ?_
            refine va_iast hx hb hG.1 hP (wl_D hg f_2) hS 316 0 (wl_at (by decide) hss_) rfl (vp_in_nI (by omega) (by decide)) dX11_act_92 (fun H locs hP _ hS => ?_)
            have hP := (congrArg (fun z9 => va_P G.1 vwCl ((wl g f_2).set 316 (g 316, eI G 2246 ((upd (upd ss (54 * na + 466) a2) z9 a3)))) H) (show Int32.toNatClampNeg (nI (54 * na + 467)) = 54 * na + 467 from nI_clamp (by omega))).mp hP
            obtain ⟨f_3, hP, e_3, o_3⟩ := b_put (by decide) hP
            have hss_ : f_3 316 = eI G 2246 (upd (upd ss (54 * na + 466) a2) (54 * na + 467) a3) := e_3
            refine lv_aload_n hx hb dX11_act_93 rfl (lv_at hl 1 rfl) ?_
            replace hmo := ((o_3 315 (by decide))).trans hmo
            refine va_get (D := G.1) (ci := 10) (v := .ref (g 316)) (C := RX11) (T := TX11) (N := 25) hx hb hts inlX11 hown hG.1 hP 315 (wl_at (by decide) hmo) rfl 0 (by decide) (hts (.fieldLink RX11 7 "SwornListsModel" "st" "[I") w_112) (fun _ h9 => h9) rfl dX11_act_94 ?_
            refine lv_iload hx hb dX11_act_97 (lv_at hl 0 rfl) ?_
            refine lv_iconst (v := 2) hx hb dX11_act_99 (by decide) ?_
            refine lv_iadd hx hb dX11_act_100 ?_
            refine my_bei (v := nI (54 * na + 468)) ((nI_add (54 * na + 466) 2).trans (congrArg nI (show (54 * na + 466) + 2 = 54 * na + 468 by omega))) ?_
            refine lv_iconst (v := (-1)) hx hb dX11_act_101 (by decide) ?_
            refine va_iast hx hb hG.1 hP (wl_D hg f_3) hS 316 0 (wl_at (by decide) hss_) rfl (vp_in_nI (by omega) (by decide)) dX11_act_102 (fun H locs hP _ hS => ?_)
            have hP := (congrArg (fun z9 => va_P G.1 vwCl ((wl g f_3).set 316 (g 316, eI G 2246 ((upd (upd (upd ss (54 * na + 466) a2) (54 * na + 467) a3) z9 (-1))))) H) (show Int32.toNatClampNeg (nI (54 * na + 468)) = 54 * na + 468 from nI_clamp (by omega))).mp hP
            obtain ⟨f_4, hP, e_4, o_4⟩ := b_put (by decide) hP
            have hss_ : f_4 316 = eI G 2246 (upd (upd (upd ss (54 * na + 466) a2) (54 * na + 467) a3) (54 * na + 468) (-1)) := e_4
            refine lv_iconst (v := 0) hx hb dX11_act_103 (by decide) ?_
            refine lv_istore (lv' := [(5, .int 0), (4, .int (nI (54 * na + 466))), (0, .ref (g 315)), (1, .int (nI xn)), (2, .int a2), (3, .int a3)]) hx hb dX11_act_104 hl (by decide) rfl (fun ls hl => ?_)
            replace hmo := ((o_4 315 (by decide))).trans hmo
            replace him_ := ((o_4 317 (by decide)).trans ((o_3 317 (by decide)).trans ((o_2 317 (by decide)).trans ((o_1 317 (by first | decide | omega)))))).trans him_
            replace hkq_ := ((o_4 318 (by decide)).trans ((o_3 318 (by decide)).trans ((o_2 318 (by decide)).trans ((o_1 318 (by first | decide | omega)))))).trans hkq_
            replace hsp_ := ((o_4 319 (by decide)).trans ((o_3 319 (by decide)).trans ((o_2 319 (by decide))))).trans hsp_
            replace hwi_ := ((o_4 320 (by decide)).trans ((o_3 320 (by decide)).trans ((o_2 320 (by decide))))).trans hwi_
            replace hwa_ := ((o_4 321 (by decide)).trans ((o_3 321 (by decide)).trans ((o_2 321 (by decide))))).trans hwa_
            replace hva_ := ((o_4 322 (by decide)).trans ((o_3 322 (by decide)).trans ((o_2 322 (by decide)).trans ((o_1 322 (by first | decide | omega)))))).trans hva_
            replace hbo_ := ((o_4 323 (by decide)).trans ((o_3 323 (by decide)).trans ((o_2 323 (by decide)).trans ((o_1 323 (by first | decide | omega)))))).trans hbo_
            replace hju_ := ((o_4 324 (by decide)).trans ((o_3 324 (by decide)).trans ((o_2 324 (by decide)).trans ((o_1 324 (by first | decide | omega)))))).trans hju_
            replace hdr_ := ((o_4 325 (by decide)).trans ((o_3 325 (by decide)).trans ((o_2 325 (by decide)).trans ((o_1 325 (by first | decide | omega)))))).trans hdr_
            replace hdn_ := ((o_4 326 (by decide)).trans ((o_3 326 (by decide)).trans ((o_2 326 (by decide)).trans ((o_1 326 (by first | decide | omega)))))).trans hdn_
            replace hsl_ := ((o_4 327 (by decide)).trans ((o_3 327 (by decide)).trans ((o_2 327 (by decide)).trans ((o_1 327 (by first | decide | omega)))))).trans hsl_
            replace hax_ := ((o_4 328 (by decide)).trans ((o_3 328 (by decide)).trans ((o_2 328 (by decide)).trans ((o_1 328 (by first | decide | omega)))))).trans hax_
            replace hlf_ := ((o_4 329 (by decide)).trans ((o_3 329 (by decide)).trans ((o_2 329 (by decide)).trans ((o_1 329 (by first | decide | omega)))))).trans hlf_
            replace hwh_ := ((o_4 330 (by decide)).trans ((o_3 330 (by decide)).trans ((o_2 330 (by decide)).trans ((o_1 330 (by first | decide | omega)))))).trans hwh_
            replace hw6_ := ((o_4 331 (by decide)).trans ((o_3 331 (by decide)).trans ((o_2 331 (by decide)).trans ((o_1 331 (by first | decide | omega)))))).trans hw6_
            replace hb6_ := ((o_4 332 (by decide)).trans ((o_3 332 (by decide)).trans ((o_2 332 (by decide)).trans ((o_1 332 (by first | decide | omega)))))).trans hb6_
            have key7 : ∀ (n9_7 : Nat) (i : Nat) (s4 : Nat → Int32) (f_5 : Nat → va_E) (H : Heap) (locs : List Loc) (ls : Array Slot), (i ≤ 51) → (∀ j, (∀ q, q < i → j ≠ (fun q => q + 54 * na + 469) q) → s4 j = (upd (upd (upd ss (54 * na + 466) a2) (54 * na + 467) a3) (54 * na + 468) (-1)) j) → (∀ q, q < i → s4 ((fun q => q + 54 * na + 469) q) = (upd (upd (upd ss (54 * na + 466) a2) (54 * na + 467) a3) (54 * na + 468) (-1)) (q + 51 * xn + 262)) → 51 - i < n9_7 → f_5 315 = eO 10 [.ref (g 316), .ref (g 317), .ref (g 318), .long ab2, .long be2, .int (nI sn92), .ref (g 319), .ref (g 320), .int (nI wn93), .ref (g 321), .ref (g 322), .int sa, .int ly, .int rdy, .int (nI fd), .ref (g 323), .ref (g 324), .ref (g 325), .ref (g 326), .ref (g 327), .ref (g 328), .ref (g 329), .ref (g 330), .ref (g 331), .ref (g 332)] → f_5 316 = eI G 2246 s4 → f_5 317 = eI G 4492 im → f_5 318 = eZ G 2 kq → f_5 319 = eI G 70 sp94 → f_5 320 = eI G 70 wi95 → f_5 321 = eI G 70 wa96 → f_5 322 = eJ G 70 va → f_5 323 = eI G 11 bo → f_5 324 = eI G 11 ju → f_5 325 = eI G 264 dr → f_5 326 = eI G 11 dn → f_5 327 = eI G 330 sl → f_5 328 = eI G 44 ax → f_5 329 = eI G 30 lf → f_5 330 = eI G 6 wh → f_5 331 = eI G 6 w6 → f_5 332 = eI G 6 b6 → (∀ j, j ≠ 316 → f_5 j = f_4 j) → va_P G.1 vwCl (wl g f_5) H → va_S (gA g) s.heap H locs → lv_has ls 6 [(0, .ref (g 315)), (1, .int (nI xn)), (4, .int (nI (54 * na + 466))), (5, .int (nI i))] → W p l e (headSpec (wsT yX11_act cX11_act 6 (some .int)) ({ frames := 4, cells := 0, slots := 0, locals := 93 })).room s m ([.ref (g 315), .int (nI xn), .int a2, .int a3] : List Value).toArray below meth c H locs 0 0 Q9 (F0 m 106 ls []) := by
              intro n9_7
              induction n9_7 with
              | zero => intro i s4 f_5 H locs ls hi ha4 hb4 hn9_7; exact absurd hn9_7 (Nat.not_lt_zero _)
              | succ n9_7 ih_7 =>
                intro i s4 f_5 H locs ls hi ha4 hb4 hn9_7 hmo hss_ him_ hkq_ hsp_ hwi_ hwa_ hva_ hbo_ hju_ hdr_ hdn_ hsl_ hax_ hlf_ hwh_ hw6_ hb6_ o_5 hP hS hl
                refine lv_iload hx hb dX11_act_106 (lv_at hl 3 rfl) ?_
                refine lv_bipush (v := 51) hx hb dX11_act_108 (by decide) ?_
                refine lv_icmp_ge (tgt := 147) hx hb dX11_act_110 (by decide) (fun c_110 => ?_) (fun c_110 => ?_)
                · have k_110 : 51 ≤ i := (nI_leI (a := 51) (b := i) (by omega) (by omega)).mp c_110
                  refine lv_aload_n hx hb dX11_act_147 rfl (lv_at hl 0 rfl) ?_
                  refine lv_iconst (v := 3) hx hb dX11_act_148 (by decide) ?_
                  refine b_calli (va_runV (As := [.int 3]) (rest := []) ⟨hx, hb, hml, hown, hts⟩ (r_one l G g hg f_5 ab2 be2 (nI sn92) (nI wn93) sa ly rdy (nI fd) s4 3 na hmo hss_ (by first | assumption | omega | decide) ((ha4 3 (fun q hq => by show _ ≠ q + 54 * na + 469; omega)).trans ((pk_un (by first | decide | omega)).trans ((pk_un (by first | decide | omega)).trans ((pk_un (by first | decide | omega)).trans (hst.h3))))) (by first | assumption | omega | decide)) (my_cwV hts ok_X11_one w_165 rfl rfl ⟨Nat.le_of_ble_eq_true rfl, Nat.le_of_ble_eq_true rfl⟩) ⟨bP.blind, va_recv hG.1 hP (ci := 10) (q0 := 315) rfl (wl_at (by decide) hmo), fun U hU hW => ⟨rfl, by rw [hU]; exact hP, kG.warm hW hG⟩⟩ rfl rfl hl.1 rfl (lv_room (Nat.le_of_ble_eq_true rfl)) dX11_act_149 ⟨Nat.le_of_ble_eq_true rfl, Nat.le_of_ble_eq_true rfl⟩) hS (fun v8 f_6 H locs hq9 hP hS => ?_)
                  obtain ⟨rfl, hq_6_0, hq_6_1, o_6⟩ := hq9
                  have hmo : f_6 315 = eO 10 [.ref (g 316), .ref (g 317), .ref (g 318), .long ab2, .long be2, .int (nI sn92), .ref (g 319), .ref (g 320), .int (nI wn93), .ref (g 321), .ref (g 322), .int sa, .int ly, .int 0, .int (nI fd), .ref (g 323), .ref (g 324), .ref (g 325), .ref (g 326), .ref (g 327), .ref (g 328), .ref (g 329), .ref (g 330), .ref (g 331), .ref (g 332)] := hq_6_0
                  have hss_ : f_6 316 = eI G 2246 (upd s4 3 (nI (na + 1))) := hq_6_1
                  refine W_q9 hQ9 ?_
                  replace him_ := ((o_6 317 (by first | decide | omega))).trans him_
                  replace hkq_ := ((o_6 318 (by first | decide | omega))).trans hkq_
                  replace hsp_ := ((o_6 319 (by first | decide | omega))).trans hsp_
                  replace hwi_ := ((o_6 320 (by first | decide | omega))).trans hwi_
                  replace hwa_ := ((o_6 321 (by first | decide | omega))).trans hwa_
                  replace hva_ := ((o_6 322 (by first | decide | omega))).trans hva_
                  replace hbo_ := ((o_6 323 (by first | decide | omega))).trans hbo_
                  replace hju_ := ((o_6 324 (by first | decide | omega))).trans hju_
                  replace hdr_ := ((o_6 325 (by first | decide | omega))).trans hdr_
                  replace hdn_ := ((o_6 326 (by first | decide | omega))).trans hdn_
                  replace hsl_ := ((o_6 327 (by first | decide | omega))).trans hsl_
                  replace hax_ := ((o_6 328 (by first | decide | omega))).trans hax_
                  replace hlf_ := ((o_6 329 (by first | decide | omega))).trans hlf_
                  replace hwh_ := ((o_6 330 (by first | decide | omega))).trans hwh_
                  replace hw6_ := ((o_6 331 (by first | decide | omega))).trans hw6_
                  replace hb6_ := ((o_6 332 (by first | decide | omega))).trans hb6_
                  exact W.iret (v := nI na) hx hb hr (fun _ hT9 _ => ⟨⟨_, f_6, rfl, (⟨(upd s4 3 (nI (na + 1))), mJ_mk (ab2) (be2) ((nI sn92)) ((nI wn93)) (sa) (ly) (0) (fd) (np) (nf) (nr) ((na + 1)) (nt) (sp94) (wi95) (wa96) (va) (bo) (ju) (dr) (dn) (sl) (ax) (lf) (wh) (w6) (b6) (hmo) (hss_) (him_) (hkq_) (hsp_) (hwi_) (hwa_) (hva_) (hbo_) (hju_) (hdr_) (hdn_) (hsl_) (hax_) (hlf_) (hwh_) (hw6_) (hb6_) ((stOK.ac1 hst (by omega) (fun k hk => (ha4 k (fun q hq => by show _ ≠ q + 54 * na + 469; omega)).trans ((pk_un (by omega)).trans ((pk_un (by omega)).trans (pk_un (by omega))))) hl7 (show s4 (54 * na + 469) = nI l7 by have h9 : s4 (0 + 54 * na + 469) = _ := hb4 0 (by omega); rw [Nat.zero_add, Nat.zero_add] at h9; exact h9.trans ((pk_un (by omega)).trans ((pk_un (by omega)).trans ((pk_un (by omega)).trans he7)))) ((rdA_congr (fun k hk => (show s4 (54 * na + 469 + k + 1) = ss (51 * xn + 262 + k + 1) by have h9 := hb4 (k + 1) (by omega); rw [show 54 * na + 469 + k + 1 = (k + 1) + 54 * na + 469 by omega, show 51 * xn + 262 + k + 1 = (k + 1) + 51 * xn + 262 by omega]; exact h9.trans ((pk_un (by omega)).trans ((pk_un (by omega)).trans (pk_un (by omega))))))).trans c_40))) (by omega) (hdn) (hi0) (hi1) ((fun z => absurd rfl z)), ⟨np, nf, nr, na, nt, hst, Or.inr ⟨⟨c_4, c_14, c_21⟩, xn, l7, hxn, rfl, hl7, he7, Or.inr (Or.inr ⟨c_40, by omega, rfl, s4, rfl, fun j hj => ha4 j (fun q hq => hj q (by omega)), fun q hq => (hb4 q (by omega)).trans ((pk_un (by omega)).trans ((pk_un (by omega)).trans (pk_un (by omega))))⟩)⟩⟩, fun j hj => ((((((o_6 j (by omega))).trans (o_5 j (by omega))).trans (o_4 j (by omega))).trans (o_3 j (by omega))).trans (o_2 j (by omega))).trans (o_1 j (by omega))⟩), by rw [hT9]; exact hP⟩, hS.F hT9⟩) hS.2.2 dX11_act_152
                · have k_110 : ¬ 51 ≤ i := fun z9 => c_110 ((nI_leI (a := 51) (b := i) (by omega) (by omega)).mpr z9)
                  refine lv_aload_n hx hb dX11_act_113 rfl (lv_at hl 0 rfl) ?_
                  refine va_get (D := G.1) (ci := 10) (v := .ref (g 316)) (C := RX11) (T := TX11) (N := 25) hx hb hts inlX11 hown hG.1 hP 315 (wl_at (by decide) hmo) rfl 0 (by decide) (hts (.fieldLink RX11 7 "SwornListsModel" "st" "[I") w_112) (fun _ h9 => h9) rfl dX11_act_114 ?_
                  refine lv_iload hx hb dX11_act_117 (lv_at hl 2 rfl) ?_
                  refine lv_iconst (v := 3) hx hb dX11_act_119 (by decide) ?_
                  refine lv_iadd hx hb dX11_act_120 ?_
                  refine my_bei (v := nI (54 * na + 469)) ((nI_add (54 * na + 466) 3).trans (congrArg nI (show (54 * na + 466) + 3 = 54 * na + 469 by omega))) ?_
                  refine lv_iload hx hb dX11_act_121 (lv_at hl 3 rfl) ?_
                  refine lv_iadd hx hb dX11_act_123 ?_
                  refine my_bei (v := nI (i + 54 * na + 469)) ((nI_add (54 * na + 469) i).trans (congrArg nI (show (54 * na + 469) + i = i + 54 * na + 469 by omega))) ?_
                  refine lv_aload_n hx hb dX11_act_124 rfl (lv_at hl 0 rfl) ?_
                  refine va_get (D := G.1) (ci := 10) (v := .ref (g 316)) (C := RX11) (T := TX11) (N := 25) hx hb hts inlX11 hown hG.1 hP 315 (wl_at (by decide) hmo) rfl 0 (by decide) (hts (.fieldLink RX11 7 "SwornListsModel" "st" "[I") w_112) (fun _ h9 => h9) rfl dX11_act_125 ?_
                  refine lv_sipush (v := 262) hx hb dX11_act_128 (by decide) ?_
                  refine lv_bipush (v := 51) hx hb dX11_act_131 (by decide) ?_
                  refine lv_iload_n hx hb dX11_act_133 rfl (lv_at hl 1 rfl) ?_
                  refine lv_imul hx hb dX11_act_134 ?_
                  refine my_bei (v := nI (51 * xn)) (pk_mul 51 xn) ?_
                  refine lv_iadd hx hb dX11_act_135 ?_
                  refine my_bei (v := nI (51 * xn + 262)) ((nI_add 262 (51 * xn)).trans (congrArg nI (show 262 + (51 * xn) = 51 * xn + 262 by omega))) ?_
                  refine lv_iload hx hb dX11_act_136 (lv_at hl 3 rfl) ?_
                  refine lv_iadd hx hb dX11_act_138 ?_
                  refine my_bei (v := nI (i + 51 * xn + 262)) ((nI_add (51 * xn + 262) i).trans (congrArg nI (show (51 * xn + 262) + i = i + 51 * xn + 262 by omega))) ?_
                  refine va_iald hx hb hG.1 hP 316 0 (wl_at (by decide) hss_) rfl (vp_in_nI (by omega) (by decide)) dX11_act_139 ?_
                  refine my_bei (v := s4 (i + 51 * xn + 262)) (congrArg s4 (nI_clamp (n := i + 51 * xn + 262) (by omega))) ?_
                  refine va_iast hx hb hG.1 hP (wl_D hg f_5) hS 316 0 (wl_at (by decide) hss_) rfl (vp_in_nI (by omega) (by decide)) dX11_act_140 (fun H locs hP _ hS => ?_)
                  have hP := (congrArg (fun z9 => va_P G.1 vwCl ((wl g f_5).set 316 (g 316, eI G 2246 ((upd s4 z9 (s4 (i + 51 * xn + 262)))))) H) (show Int32.toNatClampNeg (nI (i + 54 * na + 469)) = i + 54 * na + 469 from nI_clamp (by omega))).mp hP
                  obtain ⟨f_7, hP, e_7, o_7⟩ := b_put (by decide) hP
                  have hss_ : f_7 316 = eI G 2246 (upd s4 (i + 54 * na + 469) (s4 (i + 51 * xn + 262))) := e_7
                  refine lv_iinc (v := nI (i + 1)) (lv' := [(5, .int (nI (i + 1))), (0, .ref (g 315)), (1, .int (nI xn)), (4, .int (nI (54 * na + 466)))]) hx hb dX11_act_141 hl (k := 3) rfl (nI_add i 1) (by decide) rfl (fun ls hl => ?_)
                  refine lv_goto (tgt := 106) hx hb dX11_act_144 (by decide) ?_
                  replace hmo := ((o_7 315 (by decide))).trans hmo
                  replace him_ := ((o_7 317 (by decide))).trans him_
                  replace hkq_ := ((o_7 318 (by decide))).trans hkq_
                  replace hsp_ := ((o_7 319 (by decide))).trans hsp_
                  replace hwi_ := ((o_7 320 (by decide))).trans hwi_
                  replace hwa_ := ((o_7 321 (by decide))).trans hwa_
                  replace hva_ := ((o_7 322 (by decide))).trans hva_
                  replace hbo_ := ((o_7 323 (by decide))).trans hbo_
                  replace hju_ := ((o_7 324 (by decide))).trans hju_
                  replace hdr_ := ((o_7 325 (by decide))).trans hdr_
                  replace hdn_ := ((o_7 326 (by decide))).trans hdn_
                  replace hsl_ := ((o_7 327 (by decide))).trans hsl_
                  replace hax_ := ((o_7 328 (by decide))).trans hax_
                  replace hlf_ := ((o_7 329 (by decide))).trans hlf_
                  replace hwh_ := ((o_7 330 (by decide))).trans hwh_
                  replace hw6_ := ((o_7 331 (by decide))).trans hw6_
                  replace hb6_ := ((o_7 332 (by decide))).trans hb6_
                  exact ih_7 (i + 1) (upd s4 (i + 54 * na + 469) (s4 (i + 51 * xn + 262))) f_7 _ _ _ (by omega) (fill_a (P := (fun q => q + 54 * na + 469)) ha4) (fill_b (P := (fun q => q + 54 * na + 469)) (v := fun q => (upd (upd (upd ss (54 * na + 466) a2) (54 * na + 467) a3) (54 * na + 468) (-1)) (q + 51 * xn + 262)) (fun i j h => by have h : i + 54 * na + 469 = j + 54 * na + 469 := h; omega) hb4 (ha4 _ (fun q hq => by show _ ≠ q + 54 * na + 469; omega))) (by omega) (hmo) (hss_) (him_) (hkq_) (hsp_) (hwi_) (hwa_) (hva_) (hbo_) (hju_) (hdr_) (hdn_) (hsl_) (hax_) (hlf_) (hwh_) (hw6_) (hb6_) (fun j hj => ((o_7 j (by omega))).trans (o_5 j (by omega))) hP hS (lv_sub hl [1, 2, 3, 0] rfl)
            exact key7 (51 + 1) 0 (upd (upd (upd ss (54 * na + 466) a2) (54 * na + 467) a3) (54 * na + 468) (-1)) f_4 _ _ _ (by omega) (fun _ _ => rfl) (fun q hq => absurd hq (Nat.not_lt_zero _)) (by omega) (hmo) (hss_) (him_) (hkq_) (hsp_) (hwi_) (hwa_) (hva_) (hbo_) (hju_) (hdr_) (hdn_) (hsl_) (hax_) (hlf_) (hwh_) (hw6_) (hb6_) (fun j _ => rfl) hP hS (lv_sub hl [2, 3, 1, 0] rfl)
          · have k_54 : na = 20 := (nI_eq (a := na) (b := 20) (by omega) (by omega)).mp c_54
            refine lv_bipush (v := (-4)) hx hb dX11_act_57 (by decide) ?_
            refine W_q9 hQ9 ?_
            replace him_ := ((o_1 317 (by first | decide | omega))).trans him_
            replace hkq_ := ((o_1 318 (by first | decide | omega))).trans hkq_
            replace hva_ := ((o_1 322 (by first | decide | omega))).trans hva_
            replace hbo_ := ((o_1 323 (by first | decide | omega))).trans hbo_
            replace hju_ := ((o_1 324 (by first | decide | omega))).trans hju_
            replace hdr_ := ((o_1 325 (by first | decide | omega))).trans hdr_
            replace hdn_ := ((o_1 326 (by first | decide | omega))).trans hdn_
            replace hsl_ := ((o_1 327 (by first | decide | omega))).trans hsl_
            replace hax_ := ((o_1 328 (by first | decide | omega))).trans hax_
            replace hlf_ := ((o_1 329 (by first | decide | omega))).trans hlf_
            replace hwh_ := ((o_1 330 (by first | decide | omega))).trans hwh_
            replace hw6_ := ((o_1 331 (by first | decide | omega))).trans hw6_
            replace hb6_ := ((o_1 332 (by first | decide | omega))).trans hb6_
            exact W.iret (v := (-4)) hx hb hr (fun _ hT9 _ => ⟨⟨_, f_1, rfl, (⟨ss, mJ_mk (ab2) (be2) ((nI sn92)) ((nI wn93)) (sa) (ly) (rdy) (fd) (np) (nf) (nr) (na) (nt) (sp94) (wi95) (wa96) (va) (bo) (ju) (dr) (dn) (sl) (ax) (lf) (wh) (w6) (b6) (hmo) (hss_) (him_) (hkq_) (hsp_) (hwi_) (hwa_) (hva_) (hbo_) (hju_) (hdr_) (hdn_) (hsl_) (hax_) (hlf_) (hwh_) (hw6_) (hb6_) (hst) (by omega) (hdn) (hi0) (hi1) (hrd), ⟨np, nf, nr, na, nt, hst, Or.inr ⟨⟨c_4, c_14, c_21⟩, xn, l7, hxn, rfl, hl7, he7, Or.inr (Or.inl ⟨c_40, k_54, rfl, rfl⟩)⟩⟩, fun j hj => (o_1 j (by omega))⟩), by rw [hT9]; exact hP⟩, hS.F hT9⟩) hS.2.2 dX11_act_59
        · refine lv_bipush (v := (-3)) hx hb dX11_act_43 (by decide) ?_
          refine W_q9 hQ9 ?_
          replace hss_ := ((o_1 316 (by first | decide | omega))).trans hss_
          replace him_ := ((o_1 317 (by first | decide | omega))).trans him_
          replace hkq_ := ((o_1 318 (by first | decide | omega))).trans hkq_
          replace hva_ := ((o_1 322 (by first | decide | omega))).trans hva_
          replace hbo_ := ((o_1 323 (by first | decide | omega))).trans hbo_
          replace hju_ := ((o_1 324 (by first | decide | omega))).trans hju_
          replace hdr_ := ((o_1 325 (by first | decide | omega))).trans hdr_
          replace hdn_ := ((o_1 326 (by first | decide | omega))).trans hdn_
          replace hsl_ := ((o_1 327 (by first | decide | omega))).trans hsl_
          replace hax_ := ((o_1 328 (by first | decide | omega))).trans hax_
          replace hlf_ := ((o_1 329 (by first | decide | omega))).trans hlf_
          replace hwh_ := ((o_1 330 (by first | decide | omega))).trans hwh_
          replace hw6_ := ((o_1 331 (by first | decide | omega))).trans hw6_
          replace hb6_ := ((o_1 332 (by first | decide | omega))).trans hb6_
          exact W.iret (v := (-3)) hx hb hr (fun _ hT9 _ => ⟨⟨_, f_1, rfl, (⟨ss, mJ_mk (ab2) (be2) ((nI sn92)) ((nI wn93)) (sa) (ly) (rdy) (fd) (np) (nf) (nr) (na) (nt) (sp94) (wi95) (wa96) (va) (bo) (ju) (dr) (dn) (sl) (ax) (lf) (wh) (w6) (b6) (hmo) (hss_) (him_) (hkq_) (hsp_) (hwi_) (hwa_) (hva_) (hbo_) (hju_) (hdr_) (hdn_) (hsl_) (hax_) (hlf_) (hwh_) (hw6_) (hb6_) (hst) (by omega) (hdn) (hi0) (hi1) (hrd), ⟨np, nf, nr, na, nt, hst, Or.inr ⟨⟨c_4, c_14, c_21⟩, xn, l7, hxn, rfl, hl7, he7, Or.inl ⟨c_40, rfl, rfl⟩⟩⟩, fun j hj => (o_1 j (by omega))⟩), by rw [hT9]; exact hP⟩, hS.F hT9⟩) hS.2.2 dX11_act_45
      · refine lv_bipush (v := (-2)) hx hb dX11_act_24 (by decide) ?_
        refine W_q9 hQ9 ?_
        exact W.iret (v := (-2)) hx hb hr (fun _ hT9 _ => ⟨⟨_, f, rfl, (⟨ss, mJ_mk (ab2) (be2) (sn) (wn) (sa) (ly) (rdy) (fd) (np) (nf) (nr) (na) (nt) (sp) (wi) (wa) (va) (bo) (ju) (dr) (dn) (sl) (ax) (lf) (wh) (w6) (b6) (hmo) (hss_) (him_) (hkq_) (hsp_) (hwi_) (hwa_) (hva_) (hbo_) (hju_) (hdr_) (hdn_) (hsl_) (hax_) (hlf_) (hwh_) (hw6_) (hb6_) (hst) (by omega) (hdn) (hi0) (hi1) (hrd), ⟨np, nf, nr, na, nt, hst, Or.inl ⟨fun z => c_21 z.2.2, rfl, rfl⟩⟩, fun j hj => rfl⟩), by rw [hT9]; exact hP⟩, hS.F hT9⟩) hS.2.2 dX11_act_26
theorem j2_act (l : Launch) (G : gW) (g : Nat → Nat) (hg : gOK g) (f : Nat → va_E) (ss : Nat → Int32) (im : Nat → Int32) (kq : Nat → Int32) (a1 : Int32) (a2 : Int32) (a3 : Int32) (hI : mJ G g f ss im kq) (htA : ∀ n : Nat, n ≤ 10 → ss 4 = nI n → trOK ss n) : Met l yX11_act (wsT yX11_act cX11_act 6 (some .int)) ({ frames := 4, cells := 0, slots := 0, locals := 93 }) (bP G g f [.ref (g 315), .int a1, .int a2, .int a3]) (bQi G g (fun (z9 : Int32) (f' : Nat → va_E) => ∃ ss9 : Nat → Int32, (mJ G g f' ss9 im kq) ∧ (∃ p9 f9 r9 u9 t9, stOK ss p9 f9 r9 u9 t9 ∧ ((¬ (inB 0 a1 3 = true ∧ inB 0 a2 1 = true ∧ inB 0 a3 9999 = true) ∧ z9 = -2 ∧ ss9 = ss) ∨ ((inB 0 a1 3 = true ∧ inB 0 a2 1 = true ∧ inB 0 a3 9999 = true) ∧ ∃ x l, x ≤ 3 ∧ a1 = nI x ∧ l ≤ 50 ∧ ss (51 * x + 262) = nI l ∧ ((¬ rdA l (fun k => ss (51 * x + 262 + k + 1)) = -1 ∧ z9 = -3 ∧ ss9 = ss) ∨ (rdA l (fun k => ss (51 * x + 262 + k + 1)) = -1 ∧ u9 = 20 ∧ z9 = -4 ∧ ss9 = ss) ∨ (rdA l (fun k => ss (51 * x + 262 + k + 1)) = -1 ∧ u9 < 20 ∧ z9 = nI u9 ∧ ∃ s4, ss9 = upd s4 3 (nI (u9 + 1)) ∧ (∀ j, (∀ q, q < 51 → j ≠ q + 54 * u9 + 469) → s4 j = (upd (upd (upd ss (54 * u9 + 466) a2) (54 * u9 + 467) a3) (54 * u9 + 468) (-1)) j) ∧ ∀ q, q < 51 → s4 (q + 54 * u9 + 469) = ss (q + 51 * x + 262)))))) ∧ ∀ j, j < 315 → f' j = f j)) 0 0 (gA g) := mJ_elim hI (fun ab2 be2 sn wn sa ly rdy fd np nf nr na nt sp wi wa va bo ju dr dn sl ax lf wh w6 b6 hmo hss_ him_ hkq_ hsp_ hwi_ hwa_ hva_ hbo_ hju_ hdr_ hdn_ hsl_ hax_ hlf_ hwh_ hw6_ hb6_ hst hfo hdn hi0 hi1 hrd => jn2_act l G g hg f ab2 be2 sn wn sa ly rdy fd ss np nf nr na nt im kq sp wi wa va bo ju dr dn sl ax lf wh w6 b6 a1 a2 a3 hmo hss_ him_ hkq_ hsp_ hwi_ hwa_ hva_ hbo_ hju_ hdr_ hdn_ hsl_ hax_ hlf_ hwh_ hw6_ hb6_ hst hfo hdn hi0 hi1 hrd htA)
set_option maxHeartbeats 4000000 in
set_option maxRecDepth 100000 in
theorem jn2_trial (l : Launch) (G : gW) (g : Nat → Nat) (hg : gOK g) (f : Nat → va_E) (ab2 : Int64) (be2 : Int64) (sn : Int32) (wn : Int32) (sa : Int32) (ly : Int32) (rdy : Int32) (fd : Nat) (ss : Nat → Int32) (np : Nat) (nf : Nat) (nr : Nat) (na : Nat) (nt : Nat) (im : Nat → Int32) (kq : Nat → Int32) (sp : Nat → Int32) (wi : Nat → Int32) (wa : Nat → Int32) (va : Nat → Int64) (bo : Nat → Int32) (ju : Nat → Int32) (dr : Nat → Int32) (dn : Nat → Int32) (sl : Nat → Int32) (ax : Nat → Int32) (lf : Nat → Int32) (wh : Nat → Int32) (w6 : Nat → Int32) (b6 : Nat → Int32) (a1 : Int32) (a2 : Int32) (a3 : Int32) (a4 : Int32) (a5 : Int32) (a6 : Int32) (a7 : Int32) (a8 : Int32) (a9 : Int32) (hmo : f 315 = eO 10 [.ref (g 316), .ref (g 317), .ref (g 318), .long ab2, .long be2, .int sn, .ref (g 319), .ref (g 320), .int wn, .ref (g 321), .ref (g 322), .int sa, .int ly, .int rdy, .int (nI fd), .ref (g 323), .ref (g 324), .ref (g 325), .ref (g 326), .ref (g 327), .ref (g 328), .ref (g 329), .ref (g 330), .ref (g 331), .ref (g 332)]) (hss_ : f 316 = eI G 2246 ss) (him_ : f 317 = eI G 4492 im) (hkq_ : f 318 = eZ G 2 kq) (hsp_ : f 319 = eI G 70 sp) (hwi_ : f 320 = eI G 70 wi) (hwa_ : f 321 = eI G 70 wa) (hva_ : f 322 = eJ G 70 va) (hbo_ : f 323 = eI G 11 bo) (hju_ : f 324 = eI G 11 ju) (hdr_ : f 325 = eI G 264 dr) (hdn_ : f 326 = eI G 11 dn) (hsl_ : f 327 = eI G 330 sl) (hax_ : f 328 = eI G 44 ax) (hlf_ : f 329 = eI G 30 lf) (hwh_ : f 330 = eI G 6 wh) (hw6_ : f 331 = eI G 6 w6) (hb6_ : f 332 = eI G 6 b6) (hst : stOK ss np nf nr na nt) (hfo : fd ≤ 10) (hdn : ∀ k, k < 11 → ∃ d, d ≤ 24 ∧ dn k = nI d) (hi0 : stI im 0) (hi1 : stI im 2246) (hrd : ¬ rdy = 0 → fd = nt ∧ ∀ z, z < nt → rHz np nf nr na ss bo ju dr dn sl ax z) (htA : ∀ n : Nat, n ≤ 10 → ss 4 = nI n → trOK ss n) : Met l yX11_trial (wsT yX11_trial cX11_trial 13 (some .int)) ({ frames := 1, cells := 0, slots := 0, locals := 25 }) (bP G g f [.ref (g 315), .int a1, .int a2, .int a3, .int a4, .int a5, .int a6, .int a7, .int a8, .int a9]) (bQi G g (fun (z9 : Int32) (f' : Nat → va_E) => ∃ ss9 : Nat → Int32, (mJ G g f' ss9 im kq) ∧ (∃ p9 f9 r9 u9 t9, stOK ss p9 f9 r9 u9 t9 ∧ ((¬ (inB (frS ss t9) a1 9999 = true ∧ inB 1 a2 9 = true ∧ inB 1 a3 8 = true ∧ inB (-1) a4 9 = true ∧ inB (-1) a5 9 = true ∧ inB (-1) a6 3 = true ∧ inB 0 a7 4 = true ∧ inB 1 a9 24 = true) ∧ z9 = -2 ∧ ss9 = ss) ∨ ((inB (frS ss t9) a1 9999 = true ∧ inB 1 a2 9 = true ∧ inB 1 a3 8 = true ∧ inB (-1) a4 9 = true ∧ inB (-1) a5 9 = true ∧ inB (-1) a6 3 = true ∧ inB 0 a7 4 = true ∧ inB 1 a9 24 = true) ∧ t9 = 10 ∧ z9 = -4 ∧ ss9 = ss) ∨ ((inB (frS ss t9) a1 9999 = true ∧ inB 1 a2 9 = true ∧ inB 1 a3 8 = true ∧ inB (-1) a4 9 = true ∧ inB (-1) a5 9 = true ∧ inB (-1) a6 3 = true ∧ inB 0 a7 4 = true ∧ inB 1 a9 24 = true) ∧ t9 < 10 ∧ z9 = nI t9 ∧ ∃ s5, ss9 = upd s5 4 (nI (t9 + 1)) ∧ (∀ j, j < 1646 → s5 j = (upd (upd (upd (upd (upd (upd (upd (upd (upd (upd ss (10 * t9 + 1546) a1) (10 * t9 + 1547) a2) (10 * t9 + 1548) a3) (10 * t9 + 1549) a4) (10 * t9 + 1550) a5) (10 * t9 + 1551) a6) (10 * t9 + 1552) a7) (10 * t9 + 1553) a8) (10 * t9 + 1554) a9) (10 * t9 + 1555) 0) j) ∧ (∀ j, 1646 ≤ j → (j < 60 * t9 + 1646 ∨ 60 + 60 * t9 + 1646 ≤ j) → s5 j = (upd (upd (upd (upd (upd (upd (upd (upd (upd (upd ss (10 * t9 + 1546) a1) (10 * t9 + 1547) a2) (10 * t9 + 1548) a3) (10 * t9 + 1549) a4) (10 * t9 + 1550) a5) (10 * t9 + 1551) a6) (10 * t9 + 1552) a7) (10 * t9 + 1553) a8) (10 * t9 + 1554) a9) (10 * t9 + 1555) 0) j) ∧ (∀ q, q < 60 → s5 (q + 60 * t9 + 1646) = 0)))) ∧ ∀ j, j < 315 → f' j = f j)) 0 0 (gA g) := by
  refine Met.ofW (cc := cX11_trial) (maxL := 13) (ret := (some .int)) (by decide) rfl ?_
  intro p e s m args below meth c s₁ B hml hv
  obtain ⟨rfl, hP, hG⟩ := hv
  have hx := B.exec
  have hb := B.bytes
  have hr := B.returns
  have hts := my_hts (atoms_spec (ws := wsT yX11_trial cX11_trial 13 (some .int)) B.pre)
  have hown : s.vm.findClass RX11 = some m.cls := findClass_of_methodNamed B.named
  have hlocks := B.notSynchronized
  have hS : va_S (gA g) s.heap s.heap [] := va_S.rf
  have hl := lv_entry ([.ref (g 315), .int a1, .int a2, .int a3, .int a4, .int a5, .int a6, .int a7, .int a8, .int a9]) (n := 13) (Nat.le_of_ble_eq_true rfl)
  rw [lg_entry_eq]
  generalize (lg_sl ([.ref (g 315), .int a1, .int a2, .int a3, .int a4, .int a5, .int a6, .int a7, .int a8, .int a9]) ++ List.replicate (13 - (lg_sl ([.ref (g 315), .int a1, .int a2, .int a3, .int a4, .int a5, .int a6, .int a7, .int a8, .int a9])).length) Slot.unset).toArray = ls at hl ⊢
  have hl : lv_has ls 13 [(0, .ref (g 315)), (1, .int a1), (2, .int a2), (3, .int a3), (4, .int a4), (5, .int a5), (6, .int a6), (7, .int a7), (8, .int a8), (9, .int a9)] := hl
  refine W_q8 (fun Q9 hQ9 => ?_)
  have hc0 := hst.c0
  have hc1 := hst.c1
  have hc2 := hst.c2
  have hc3 := hst.c3
  have hc4 := hst.c4
  have htr := htA nt hst.c4 hst.h4
  refine lv_aload_n hx hb dX11_trial_0 rfl (lv_at hl 0 rfl) ?_
  refine va_get (D := G.1) (ci := 10) (v := .ref (g 316)) (C := RX11) (T := TX11) (N := 25) hx hb hts inlX11 hown hG.1 hP 315 (wl_at (by decide) hmo) rfl 0 (by decide) (hts (.fieldLink RX11 7 "SwornListsModel" "st" "[I") w_112) (fun _ h9 => h9) rfl dX11_trial_1 ?_
  refine lv_iconst (v := 4) hx hb dX11_trial_4 (by decide) ?_
  refine va_iald hx hb hG.1 hP 316 0 (wl_at (by decide) hss_) rfl (by unfold vp_in; decide) dX11_trial_5 ?_
  refine my_bei (v := ss 4) (rfl) ?_
  refine my_bei (v := nI nt) (hst.h4) ?_
  refine lv_if_ne (tgt := 13) hx hb dX11_trial_6 (by decide) (fun c_6 => ?_) (fun c_6 => ?_)
  · have k_6 : ¬ nt = 0 := fun z9 => c_6 ((nI_eq (a := nt) (b := 0) (by omega) (by omega)).mpr z9)
    refine lv_aload_n hx hb dX11_trial_13 rfl (lv_at hl 0 rfl) ?_
    refine lv_aload_n hx hb dX11_trial_14 rfl (lv_at hl 0 rfl) ?_
    refine va_get (D := G.1) (ci := 10) (v := .ref (g 316)) (C := RX11) (T := TX11) (N := 25) hx hb hts inlX11 hown hG.1 hP 315 (wl_at (by decide) hmo) rfl 0 (by decide) (hts (.fieldLink RX11 7 "SwornListsModel" "st" "[I") w_112) (fun _ h9 => h9) rfl dX11_trial_15 ?_
    refine lv_iconst (v := 4) hx hb dX11_trial_18 (by decide) ?_
    refine va_iald hx hb hG.1 hP 316 0 (wl_at (by decide) hss_) rfl (by unfold vp_in; decide) dX11_trial_19 ?_
    refine my_bei (v := ss 4) (rfl) ?_
    refine my_bei (v := nI nt) (hst.h4) ?_
    refine lv_iconst (v := 1) hx hb dX11_trial_20 (by decide) ?_
    refine lv_isub hx hb dX11_trial_21 ?_
    refine my_bei (v := nI (nt - 1)) (pk_sub (a := nt) (b := 1) (by omega)) ?_
    refine lv_iconst (v := 0) hx hb dX11_trial_22 (by decide) ?_
    refine rd_calli (va_runV (As := [.int (nI (nt - 1)), .int 0]) (rest := []) ⟨hx, hb, hml, hown, hts⟩ (r_ofTrial l G g hg f ab2 be2 sn wn sa ly rdy (nI fd) ss (nt - 1) 0 hmo hss_ (by first | assumption | omega | decide)) (my_cwV hts ok_X11_ofTrial w_532 rfl rfl ⟨Nat.le_of_ble_eq_true rfl, Nat.le_of_ble_eq_true rfl⟩) ⟨bP.blind, va_recv hG.1 hP (ci := 10) (q0 := 315) rfl (wl_at (by decide) hmo), fun U hU hW => ⟨rfl, by rw [hU]; exact hP, kG.warm hW hG⟩⟩ rfl rfl hl.1 rfl (lv_room (Nat.le_of_ble_eq_true rfl)) dX11_trial_23 ⟨Nat.le_of_ble_eq_true rfl, Nat.le_of_ble_eq_true rfl⟩) (fun r hr9 => ?_)
    subst hr9
    refine lv_istore (lv' := [(10, .int (ss (10 * (nt - 1) + 0 + 1546))), (0, .ref (g 315)), (1, .int a1), (2, .int a2), (3, .int a3), (4, .int a4), (5, .int a5), (6, .int a6), (7, .int a7), (8, .int a8), (9, .int a9)]) hx hb dX11_trial_26 hl (by decide) rfl (fun ls hl => ?_)
    refine lv_iload_n hx hb dX11_trial_28 rfl (lv_at hl 2 rfl) ?_
    refine lv_i2l hx hb dX11_trial_29 rfl ?_
    refine lv_iload hx hb dX11_trial_30 (lv_at hl 0 rfl) ?_
    refine lv_i2l hx hb dX11_trial_32 rfl ?_
    refine lv_ldc2 (v := 9999) hx hb hown (hts (.constantLong RX11 75 (9999)) w_193) dX11_trial_33 ?_
    refine my_bel (v := Int32.toInt64 9999) (by decide) ?_
    refine rd_calli (va_runS (As := [.long (Int32.toInt64 a1), .long (Int32.toInt64 (ss (10 * (nt - 1) + 0 + 1546))), .long (Int32.toInt64 9999)]) (rest := []) ⟨hx, hb, hml, hown, hts⟩ (r_in l G g hg f a1 (ss (10 * (nt - 1) + 0 + 1546)) 9999  ) (my_cwS hts ok_X11_in w_162 rfl rfl ⟨Nat.le_of_ble_eq_true rfl, Nat.le_of_ble_eq_true rfl⟩) ⟨bP.blind, fun U hU hW => ⟨rfl, by rw [hU]; exact hP, kG.warm hW hG⟩⟩ rfl rfl hl.1 rfl (lv_room (Nat.le_of_ble_eq_true rfl)) dX11_trial_36 ⟨Nat.le_of_ble_eq_true rfl, Nat.le_of_ble_eq_true rfl⟩) (fun r hr9 => ?_)
    subst hr9
    refine my_ifeq (tgt := 137) hx hb dX11_trial_39 (by decide) (fun c_39 => ?_) (fun c_39 => ?_)
    · refine lv_bipush (v := (-2)) hx hb dX11_trial_137 (by decide) ?_
      refine W_q9 hQ9 ?_
      exact W.iret (v := (-2)) hx hb hr (fun _ hT9 _ => ⟨⟨_, f, rfl, (⟨ss, mJ_mk (ab2) (be2) (sn) (wn) (sa) (ly) (rdy) (fd) (np) (nf) (nr) (na) (nt) (sp) (wi) (wa) (va) (bo) (ju) (dr) (dn) (sl) (ax) (lf) (wh) (w6) (b6) (hmo) (hss_) (him_) (hkq_) (hsp_) (hwi_) (hwa_) (hva_) (hbo_) (hju_) (hdr_) (hdn_) (hsl_) (hax_) (hlf_) (hwh_) (hw6_) (hb6_) (hst) (by omega) (hdn) (hi0) (hi1) (hrd), ⟨np, nf, nr, na, nt, hst, Or.inl ⟨fun z => c_39 (by have h9 := z.1; rw [(show frS ss nt = ss (10 * (nt - 1) + 0 + 1546) from if_neg (by omega))] at h9; exact h9), rfl, rfl⟩⟩, fun j hj => rfl⟩), by rw [hT9]; exact hP⟩, hS.F hT9⟩) hS.2.2 dX11_trial_139
    · refine lv_iload_n hx hb dX11_trial_42 rfl (lv_at hl 3 rfl) ?_
      refine lv_i2l hx hb dX11_trial_43 rfl ?_
      refine lv_lconst (v := 1) hx hb dX11_trial_44 (by decide) ?_
      refine my_bel (v := Int32.toInt64 1) (by decide) ?_
      refine lv_ldc2 (v := 9) hx hb hown (hts (.constantLong RX11 91 (9)) w_185) dX11_trial_45 ?_
      refine my_bel (v := Int32.toInt64 9) (by decide) ?_
      refine rd_calli (va_runS (As := [.long (Int32.toInt64 a2), .long (Int32.toInt64 1), .long (Int32.toInt64 9)]) (rest := []) ⟨hx, hb, hml, hown, hts⟩ (r_in l G g hg f a2 1 9  ) (my_cwS hts ok_X11_in w_162 rfl rfl ⟨Nat.le_of_ble_eq_true rfl, Nat.le_of_ble_eq_true rfl⟩) ⟨bP.blind, fun U hU hW => ⟨rfl, by rw [hU]; exact hP, kG.warm hW hG⟩⟩ rfl rfl hl.1 rfl (lv_room (Nat.le_of_ble_eq_true rfl)) dX11_trial_48 ⟨Nat.le_of_ble_eq_true rfl, Nat.le_of_ble_eq_true rfl⟩) (fun r hr9 => ?_)
      subst hr9
      refine my_ifeq (tgt := 137) hx hb dX11_trial_51 (by decide) (fun c_51 => ?_) (fun c_51 => ?_)
      · refine lv_bipush (v := (-2)) hx hb dX11_trial_137 (by decide) ?_
        refine W_q9 hQ9 ?_
        exact W.iret (v := (-2)) hx hb hr (fun _ hT9 _ => ⟨⟨_, f, rfl, (⟨ss, mJ_mk (ab2) (be2) (sn) (wn) (sa) (ly) (rdy) (fd) (np) (nf) (nr) (na) (nt) (sp) (wi) (wa) (va) (bo) (ju) (dr) (dn) (sl) (ax) (lf) (wh) (w6) (b6) (hmo) (hss_) (him_) (hkq_) (hsp_) (hwi_) (hwa_) (hva_) (hbo_) (hju_) (hdr_) (hdn_) (hsl_) (hax_) (hlf_) (hwh_) (hw6_) (hb6_) (hst) (by omega) (hdn) (hi0) (hi1) (hrd), ⟨np, nf, nr, na, nt, hst, Or.inl ⟨fun z => c_51 z.2.1, rfl, rfl⟩⟩, fun j hj => rfl⟩), by rw [hT9]; exact hP⟩, hS.F hT9⟩) hS.2.2 dX11_trial_139
      · refine lv_iload_n hx hb dX11_trial_54 rfl (lv_at hl 4 rfl) ?_
        refine lv_i2l hx hb dX11_trial_55 rfl ?_
        refine lv_lconst (v := 1) hx hb dX11_trial_56 (by decide) ?_
        refine my_bel (v := Int32.toInt64 1) (by decide) ?_
        refine lv_ldc2 (v := 8) hx hb hown (hts (.constantLong RX11 192 (8)) w_647) dX11_trial_57 ?_
        refine my_bel (v := Int32.toInt64 8) (by decide) ?_
        refine rd_calli (va_runS (As := [.long (Int32.toInt64 a3), .long (Int32.toInt64 1), .long (Int32.toInt64 8)]) (rest := []) ⟨hx, hb, hml, hown, hts⟩ (r_in l G g hg f a3 1 8  ) (my_cwS hts ok_X11_in w_162 rfl rfl ⟨Nat.le_of_ble_eq_true rfl, Nat.le_of_ble_eq_true rfl⟩) ⟨bP.blind, fun U hU hW => ⟨rfl, by rw [hU]; exact hP, kG.warm hW hG⟩⟩ rfl rfl hl.1 rfl (lv_room (Nat.le_of_ble_eq_true rfl)) dX11_trial_60 ⟨Nat.le_of_ble_eq_true rfl, Nat.le_of_ble_eq_true rfl⟩) (fun r hr9 => ?_)
        subst hr9
        refine my_ifeq (tgt := 137) hx hb dX11_trial_63 (by decide) (fun c_63 => ?_) (fun c_63 => ?_)
        · refine lv_bipush (v := (-2)) hx hb dX11_trial_137 (by decide) ?_
          refine W_q9 hQ9 ?_
          exact W.iret (v := (-2)) hx hb hr (fun _ hT9 _ => ⟨⟨_, f, rfl, (⟨ss, mJ_mk (ab2) (be2) (sn) (wn) (sa) (ly) (rdy) (fd) (np) (nf) (nr) (na) (nt) (sp) (wi) (wa) (va) (bo) (ju) (dr) (dn) (sl) (ax) (lf) (wh) (w6) (b6) (hmo) (hss_) (him_) (hkq_) (hsp_) (hwi_) (hwa_) (hva_) (hbo_) (hju_) (hdr_) (hdn_) (hsl_) (hax_) (hlf_) (hwh_) (hw6_) (hb6_) (hst) (by omega) (hdn) (hi0) (hi1) (hrd), ⟨np, nf, nr, na, nt, hst, Or.inl ⟨fun z => c_63 z.2.2.1, rfl, rfl⟩⟩, fun j hj => rfl⟩), by rw [hT9]; exact hP⟩, hS.F hT9⟩) hS.2.2 dX11_trial_139
        · refine lv_iload hx hb dX11_trial_66 (lv_at hl 5 rfl) ?_
          refine lv_i2l hx hb dX11_trial_68 rfl ?_
          refine lv_ldc2 (v := (-1)) hx hb hown (hts (.constantLong RX11 194 (-1)) w_648) dX11_trial_69 ?_
          refine my_bel (v := Int32.toInt64 (-1)) (by decide) ?_
          refine lv_ldc2 (v := 9) hx hb hown (hts (.constantLong RX11 91 (9)) w_185) dX11_trial_72 ?_
          refine my_bel (v := Int32.toInt64 9) (by decide) ?_
          refine rd_calli (va_runS (As := [.long (Int32.toInt64 a4), .long (Int32.toInt64 (-1)), .long (Int32.toInt64 9)]) (rest := []) ⟨hx, hb, hml, hown, hts⟩ (r_in l G g hg f a4 (-1) 9  ) (my_cwS hts ok_X11_in w_162 rfl rfl ⟨Nat.le_of_ble_eq_true rfl, Nat.le_of_ble_eq_true rfl⟩) ⟨bP.blind, fun U hU hW => ⟨rfl, by rw [hU]; exact hP, kG.warm hW hG⟩⟩ rfl rfl hl.1 rfl (lv_room (Nat.le_of_ble_eq_true rfl)) dX11_trial_75 ⟨Nat.le_of_ble_eq_true rfl, Nat.le_of_ble_eq_true rfl⟩) (fun r hr9 => ?_)
          subst hr9
          refine my_ifeq (tgt := 137) hx hb dX11_trial_78 (by decide) (fun c_78 => ?_) (fun c_78 => ?_)
          · refine lv_bipush (v := (-2)) hx hb dX11_trial_137 (by decide) ?_
            refine W_q9 hQ9 ?_
            exact W.iret (v := (-2)) hx hb hr (fun _ hT9 _ => ⟨⟨_, f, rfl, (⟨ss, mJ_mk (ab2) (be2) (sn) (wn) (sa) (ly) (rdy) (fd) (np) (nf) (nr) (na) (nt) (sp) (wi) (wa) (va) (bo) (ju) (dr) (dn) (sl) (ax) (lf) (wh) (w6) (b6) (hmo) (hss_) (him_) (hkq_) (hsp_) (hwi_) (hwa_) (hva_) (hbo_) (hju_) (hdr_) (hdn_) (hsl_) (hax_) (hlf_) (hwh_) (hw6_) (hb6_) (hst) (by omega) (hdn) (hi0) (hi1) (hrd), ⟨np, nf, nr, na, nt, hst, Or.inl ⟨fun z => c_78 z.2.2.2.1, rfl, rfl⟩⟩, fun j hj => rfl⟩), by rw [hT9]; exact hP⟩, hS.F hT9⟩) hS.2.2 dX11_trial_139
          · refine lv_iload hx hb dX11_trial_81 (lv_at hl 6 rfl) ?_
            refine lv_i2l hx hb dX11_trial_83 rfl ?_
            refine lv_ldc2 (v := (-1)) hx hb hown (hts (.constantLong RX11 194 (-1)) w_648) dX11_trial_84 ?_
            refine my_bel (v := Int32.toInt64 (-1)) (by decide) ?_
            refine lv_ldc2 (v := 9) hx hb hown (hts (.constantLong RX11 91 (9)) w_185) dX11_trial_87 ?_
            refine my_bel (v := Int32.toInt64 9) (by decide) ?_
            refine rd_calli (va_runS (As := [.long (Int32.toInt64 a5), .long (Int32.toInt64 (-1)), .long (Int32.toInt64 9)]) (rest := []) ⟨hx, hb, hml, hown, hts⟩ (r_in l G g hg f a5 (-1) 9  ) (my_cwS hts ok_X11_in w_162 rfl rfl ⟨Nat.le_of_ble_eq_true rfl, Nat.le_of_ble_eq_true rfl⟩) ⟨bP.blind, fun U hU hW => ⟨rfl, by rw [hU]; exact hP, kG.warm hW hG⟩⟩ rfl rfl hl.1 rfl (lv_room (Nat.le_of_ble_eq_true rfl)) dX11_trial_90 ⟨Nat.le_of_ble_eq_true rfl, Nat.le_of_ble_eq_true rfl⟩) (fun r hr9 => ?_)
            subst hr9
            refine my_ifeq (tgt := 137) hx hb dX11_trial_93 (by decide) (fun c_93 => ?_) (fun c_93 => ?_)
            · refine lv_bipush (v := (-2)) hx hb dX11_trial_137 (by decide) ?_
              refine W_q9 hQ9 ?_
              exact W.iret (v := (-2)) hx hb hr (fun _ hT9 _ => ⟨⟨_, f, rfl, (⟨ss, mJ_mk (ab2) (be2) (sn) (wn) (sa) (ly) (rdy) (fd) (np) (nf) (nr) (na) (nt) (sp) (wi) (wa) (va) (bo) (ju) (dr) (dn) (sl) (ax) (lf) (wh) (w6) (b6) (hmo) (hss_) (him_) (hkq_) (hsp_) (hwi_) (hwa_) (hva_) (hbo_) (hju_) (hdr_) (hdn_) (hsl_) (hax_) (hlf_) (hwh_) (hw6_) (hb6_) (hst) (by omega) (hdn) (hi0) (hi1) (hrd), ⟨np, nf, nr, na, nt, hst, Or.inl ⟨fun z => c_93 z.2.2.2.2.1, rfl, rfl⟩⟩, fun j hj => rfl⟩), by rw [hT9]; exact hP⟩, hS.F hT9⟩) hS.2.2 dX11_trial_139
            · refine lv_iload hx hb dX11_trial_96 (lv_at hl 7 rfl) ?_
              refine lv_i2l hx hb dX11_trial_98 rfl ?_
              refine lv_ldc2 (v := (-1)) hx hb hown (hts (.constantLong RX11 194 (-1)) w_648) dX11_trial_99 ?_
              refine my_bel (v := Int32.toInt64 (-1)) (by decide) ?_
              refine lv_ldc2 (v := 3) hx hb hown (hts (.constantLong RX11 77 (3)) w_159) dX11_trial_102 ?_
              refine my_bel (v := Int32.toInt64 3) (by decide) ?_
              refine rd_calli (va_runS (As := [.long (Int32.toInt64 a6), .long (Int32.toInt64 (-1)), .long (Int32.toInt64 3)]) (rest := []) ⟨hx, hb, hml, hown, hts⟩ (r_in l G g hg f a6 (-1) 3  ) (my_cwS hts ok_X11_in w_162 rfl rfl ⟨Nat.le_of_ble_eq_true rfl, Nat.le_of_ble_eq_true rfl⟩) ⟨bP.blind, fun U hU hW => ⟨rfl, by rw [hU]; exact hP, kG.warm hW hG⟩⟩ rfl rfl hl.1 rfl (lv_room (Nat.le_of_ble_eq_true rfl)) dX11_trial_105 ⟨Nat.le_of_ble_eq_true rfl, Nat.le_of_ble_eq_true rfl⟩) (fun r hr9 => ?_)
              subst hr9
              refine my_ifeq (tgt := 137) hx hb dX11_trial_108 (by decide) (fun c_108 => ?_) (fun c_108 => ?_)
              · refine lv_bipush (v := (-2)) hx hb dX11_trial_137 (by decide) ?_
                refine W_q9 hQ9 ?_
                exact W.iret (v := (-2)) hx hb hr (fun _ hT9 _ => ⟨⟨_, f, rfl, (⟨ss, mJ_mk (ab2) (be2) (sn) (wn) (sa) (ly) (rdy) (fd) (np) (nf) (nr) (na) (nt) (sp) (wi) (wa) (va) (bo) (ju) (dr) (dn) (sl) (ax) (lf) (wh) (w6) (b6) (hmo) (hss_) (him_) (hkq_) (hsp_) (hwi_) (hwa_) (hva_) (hbo_) (hju_) (hdr_) (hdn_) (hsl_) (hax_) (hlf_) (hwh_) (hw6_) (hb6_) (hst) (by omega) (hdn) (hi0) (hi1) (hrd), ⟨np, nf, nr, na, nt, hst, Or.inl ⟨fun z => c_108 z.2.2.2.2.2.1, rfl, rfl⟩⟩, fun j hj => rfl⟩), by rw [hT9]; exact hP⟩, hS.F hT9⟩) hS.2.2 dX11_trial_139
              · refine lv_iload hx hb dX11_trial_111 (lv_at hl 8 rfl) ?_
                refine lv_i2l hx hb dX11_trial_113 rfl ?_
                refine lv_lconst (v := 0) hx hb dX11_trial_114 (by decide) ?_
                refine my_bel (v := Int32.toInt64 0) (by decide) ?_
                refine lv_ldc2 (v := 4) hx hb hown (hts (.constantLong RX11 196 (4)) w_649) dX11_trial_115 ?_
                refine my_bel (v := Int32.toInt64 4) (by decide) ?_
                refine rd_calli (va_runS (As := [.long (Int32.toInt64 a7), .long (Int32.toInt64 0), .long (Int32.toInt64 4)]) (rest := []) ⟨hx, hb, hml, hown, hts⟩ (r_in l G g hg f a7 0 4  ) (my_cwS hts ok_X11_in w_162 rfl rfl ⟨Nat.le_of_ble_eq_true rfl, Nat.le_of_ble_eq_true rfl⟩) ⟨bP.blind, fun U hU hW => ⟨rfl, by rw [hU]; exact hP, kG.warm hW hG⟩⟩ rfl rfl hl.1 rfl (lv_room (Nat.le_of_ble_eq_true rfl)) dX11_trial_118 ⟨Nat.le_of_ble_eq_true rfl, Nat.le_of_ble_eq_true rfl⟩) (fun r hr9 => ?_)
                subst hr9
                refine my_ifeq (tgt := 137) hx hb dX11_trial_121 (by decide) (fun c_121 => ?_) (fun c_121 => ?_)
                · refine lv_bipush (v := (-2)) hx hb dX11_trial_137 (by decide) ?_
                  refine W_q9 hQ9 ?_
                  exact W.iret (v := (-2)) hx hb hr (fun _ hT9 _ => ⟨⟨_, f, rfl, (⟨ss, mJ_mk (ab2) (be2) (sn) (wn) (sa) (ly) (rdy) (fd) (np) (nf) (nr) (na) (nt) (sp) (wi) (wa) (va) (bo) (ju) (dr) (dn) (sl) (ax) (lf) (wh) (w6) (b6) (hmo) (hss_) (him_) (hkq_) (hsp_) (hwi_) (hwa_) (hva_) (hbo_) (hju_) (hdr_) (hdn_) (hsl_) (hax_) (hlf_) (hwh_) (hw6_) (hb6_) (hst) (by omega) (hdn) (hi0) (hi1) (hrd), ⟨np, nf, nr, na, nt, hst, Or.inl ⟨fun z => c_121 z.2.2.2.2.2.2.1, rfl, rfl⟩⟩, fun j hj => rfl⟩), by rw [hT9]; exact hP⟩, hS.F hT9⟩) hS.2.2 dX11_trial_139
                · refine lv_iload hx hb dX11_trial_124 (lv_at hl 10 rfl) ?_
                  refine lv_i2l hx hb dX11_trial_126 rfl ?_
                  refine lv_lconst (v := 1) hx hb dX11_trial_127 (by decide) ?_
                  refine my_bel (v := Int32.toInt64 1) (by decide) ?_
                  refine lv_ldc2 (v := 24) hx hb hown (hts (.constantLong RX11 198 (24)) w_650) dX11_trial_128 ?_
                  refine my_bel (v := Int32.toInt64 24) (by decide) ?_
                  refine rd_calli (va_runS (As := [.long (Int32.toInt64 a9), .long (Int32.toInt64 1), .long (Int32.toInt64 24)]) (rest := []) ⟨hx, hb, hml, hown, hts⟩ (r_in l G g hg f a9 1 24  ) (my_cwS hts ok_X11_in w_162 rfl rfl ⟨Nat.le_of_ble_eq_true rfl, Nat.le_of_ble_eq_true rfl⟩) ⟨bP.blind, fun U hU hW => ⟨rfl, by rw [hU]; exact hP, kG.warm hW hG⟩⟩ rfl rfl hl.1 rfl (lv_room (Nat.le_of_ble_eq_true rfl)) dX11_trial_131 ⟨Nat.le_of_ble_eq_true rfl, Nat.le_of_ble_eq_true rfl⟩) (fun r hr9 => ?_)
                  subst hr9
                  refine my_ifne (tgt := 140) hx hb dX11_trial_134 (by decide) (fun c_134 => ?_) (fun c_134 => ?_)
                  · obtain ⟨v7, hv7, rfl⟩ := inB_n (b := 4) (by omega) c_121
                    obtain ⟨v9, hv9, rfl⟩ := inB_1n (b := 24) (by omega) c_134
                    refine lv_aload_n hx hb dX11_trial_140 rfl (lv_at hl 1 rfl) ?_
                    refine va_get (D := G.1) (ci := 10) (v := .ref (g 316)) (C := RX11) (T := TX11) (N := 25) hx hb hts inlX11 hown hG.1 hP 315 (wl_at (by decide) hmo) rfl 0 (by decide) (hts (.fieldLink RX11 7 "SwornListsModel" "st" "[I") w_112) (fun _ h9 => h9) rfl dX11_trial_141 ?_
                    refine lv_iconst (v := 4) hx hb dX11_trial_144 (by decide) ?_
                    refine va_iald hx hb hG.1 hP 316 0 (wl_at (by decide) hss_) rfl (by unfold vp_in; decide) dX11_trial_145 ?_
                    refine my_bei (v := ss 4) (rfl) ?_
                    refine my_bei (v := nI nt) (hst.h4) ?_
                    refine lv_bipush (v := 10) hx hb dX11_trial_146 (by decide) ?_
                    refine lv_icmp_ne (tgt := 154) hx hb dX11_trial_148 (by decide) (fun c_148 => ?_) (fun c_148 => ?_)
                    · have k_148 : ¬ nt = 10 := fun z9 => c_148 ((nI_eq (a := nt) (b := 10) (by omega) (by omega)).mpr z9)
                      refine lv_sipush (v := 1546) hx hb dX11_trial_154 (by decide) ?_
                      refine lv_bipush (v := 10) hx hb dX11_trial_157 (by decide) ?_
                      refine lv_aload_n hx hb dX11_trial_159 rfl (lv_at hl 1 rfl) ?_
                      refine va_get (D := G.1) (ci := 10) (v := .ref (g 316)) (C := RX11) (T := TX11) (N := 25) hx hb hts inlX11 hown hG.1 hP 315 (wl_at (by decide) hmo) rfl 0 (by decide) (hts (.fieldLink RX11 7 "SwornListsModel" "st" "[I") w_112) (fun _ h9 => h9) rfl dX11_trial_160 ?_
                      refine lv_iconst (v := 4) hx hb dX11_trial_163 (by decide) ?_
                      refine va_iald hx hb hG.1 hP 316 0 (wl_at (by decide) hss_) rfl (by unfold vp_in; decide) dX11_trial_164 ?_
                      refine my_bei (v := ss 4) (rfl) ?_
                      refine my_bei (v := nI nt) (hst.h4) ?_
                      refine lv_imul hx hb dX11_trial_165 ?_
                      refine my_bei (v := nI (10 * nt)) (pk_mul 10 nt) ?_
                      refine lv_iadd hx hb dX11_trial_166 ?_
                      refine my_bei (v := nI (10 * nt + 1546)) ((nI_add 1546 (10 * nt)).trans (congrArg nI (show 1546 + (10 * nt) = 10 * nt + 1546 by omega))) ?_
                      refine lv_istore (lv' := [(11, .int (nI (10 * nt + 1546))), (10, .int (ss (10 * (nt - 1) + 0 + 1546))), (0, .ref (g 315)), (1, .int a1), (2, .int a2), (3, .int a3), (4, .int a4), (5, .int a5), (6, .int a6), (7, .int (nI v7)), (8, .int a8), (9, .int (nI v9))]) hx hb dX11_trial_167 hl (by decide) rfl (fun ls hl => ?_)
                      refine lv_aload_n hx hb dX11_trial_169 rfl (lv_at hl 2 rfl) ?_
                      refine va_get (D := G.1) (ci := 10) (v := .ref (g 316)) (C := RX11) (T := TX11) (N := 25) hx hb hts inlX11 hown hG.1 hP 315 (wl_at (by decide) hmo) rfl 0 (by decide) (hts (.fieldLink RX11 7 "SwornListsModel" "st" "[I") w_112) (fun _ h9 => h9) rfl dX11_trial_170 ?_
                      refine lv_iload hx hb dX11_trial_173 (lv_at hl 0 rfl) ?_
                      refine lv_iload_n hx hb dX11_trial_175 rfl (lv_at hl 3 rfl) ?_
                      refine va_iast hx hb hG.1 hP (wl_D hg f) hS 316 0 (wl_at (by decide) hss_) rfl (vp_in_nI (by omega) (by decide)) dX11_trial_176 (fun H locs hP _ hS => ?_)
                      have hP := (congrArg (fun z9 => va_P G.1 vwCl ((wl g f).set 316 (g 316, eI G 2246 ((upd ss z9 a1)))) H) (show Int32.toNatClampNeg (nI (10 * nt + 1546)) = 10 * nt + 1546 from nI_clamp (by omega))).mp hP
                      obtain ⟨f_1, hP, e_1, o_1⟩ := b_put (by decide) hP
                      have hss_ : f_1 316 = eI G 2246 (upd ss (10 * nt + 1546) a1) := e_1
                      refine lv_aload_n hx hb dX11_trial_177 rfl (lv_at hl 2 rfl) ?_
                      replace hmo := ((o_1 315 (by decide))).trans hmo
                      refine va_get (D := G.1) (ci := 10) (v := .ref (g 316)) (C := RX11) (T := TX11) (N := 25) hx hb hts inlX11 hown hG.1 hP 315 (wl_at (by decide) hmo) rfl 0 (by decide) (hts (.fieldLink RX11 7 "SwornListsModel" "st" "[I") w_112) (fun _ h9 => h9) rfl dX11_trial_178 ?_
                      refine lv_iload hx hb dX11_trial_181 (lv_at hl 0 rfl) ?_
                      refine lv_iconst (v := 1) hx hb dX11_trial_183 (by decide) ?_
                      refine lv_iadd hx hb dX11_trial_184 ?_
                      refine my_bei (v := nI (10 * nt + 1547)) ((nI_add (10 * nt + 1546) 1).trans (congrArg nI (show (10 * nt + 1546) + 1 = 10 * nt + 1547 by omega))) ?_
                      refine lv_iload_n hx hb dX11_trial_185 rfl (lv_at hl 4 rfl) ?_
                      refine va_iast hx hb hG.1 hP (wl_D hg f_1) hS 316 0 (wl_at (by decide) hss_) rfl (vp_in_nI (by omega) (by decide)) dX11_trial_186 (fun H locs hP _ hS => ?_)
                      have hP := (congrArg (fun z9 => va_P G.1 vwCl ((wl g f_1).set 316 (g 316, eI G 2246 ((upd (upd ss (10 * nt + 1546) a1) z9 a2)))) H) (show Int32.toNatClampNeg (nI (10 * nt + 1547)) = 10 * nt + 1547 from nI_clamp (by omega))).mp hP
                      obtain ⟨f_2, hP, e_2, o_2⟩ := b_put (by decide) hP
                      have hss_ : f_2 316 = eI G 2246 (upd (upd ss (10 * nt + 1546) a1) (10 * nt + 1547) a2) := e_2
                      refine lv_aload_n hx hb dX11_trial_187 rfl (lv_at hl 2 rfl) ?_
                      replace hmo := ((o_2 315 (by decide))).trans hmo
                      refine va_get (D := G.1) (ci := 10) (v := .ref (g 316)) (C := RX11) (T := TX11) (N := 25) hx hb hts inlX11 hown hG.1 hP 315 (wl_at (by decide) hmo) rfl 0 (by decide) (hts (.fieldLink RX11 7 "SwornListsModel" "st" "[I") w_112) (fun _ h9 => h9) rfl dX11_trial_188 ?_
                      refine lv_iload hx hb dX11_trial_191 (lv_at hl 0 rfl) ?_
                      refine lv_iconst (v := 2) hx hb dX11_trial_193 (by decide) ?_
                      refine lv_iadd hx hb dX11_trial_194 ?_
                      refine my_bei (v := nI (10 * nt + 1548)) ((nI_add (10 * nt + 1546) 2).trans (congrArg nI (show (10 * nt + 1546) + 2 = 10 * nt + 1548 by omega))) ?_
                      refine lv_iload_n hx hb dX11_trial_195 rfl (lv_at hl 5 rfl) ?_
                      refine va_iast hx hb hG.1 hP (wl_D hg f_2) hS 316 0 (wl_at (by decide) hss_) rfl (vp_in_nI (by omega) (by decide)) dX11_trial_196 (fun H locs hP _ hS => ?_)
                      have hP := (congrArg (fun z9 => va_P G.1 vwCl ((wl g f_2).set 316 (g 316, eI G 2246 ((upd (upd (upd ss (10 * nt + 1546) a1) (10 * nt + 1547) a2) z9 a3)))) H) (show Int32.toNatClampNeg (nI (10 * nt + 1548)) = 10 * nt + 1548 from nI_clamp (by omega))).mp hP
                      obtain ⟨f_3, hP, e_3, o_3⟩ := b_put (by decide) hP
                      have hss_ : f_3 316 = eI G 2246 (upd (upd (upd ss (10 * nt + 1546) a1) (10 * nt + 1547) a2) (10 * nt + 1548) a3) := e_3
                      refine lv_aload_n hx hb dX11_trial_197 rfl (lv_at hl 2 rfl) ?_
                      replace hmo := ((o_3 315 (by decide))).trans hmo
                      refine va_get (D := G.1) (ci := 10) (v := .ref (g 316)) (C := RX11) (T := TX11) (N := 25) hx hb hts inlX11 hown hG.1 hP 315 (wl_at (by decide) hmo) rfl 0 (by decide) (hts (.fieldLink RX11 7 "SwornListsModel" "st" "[I") w_112) (fun _ h9 => h9) rfl dX11_trial_198 ?_
                      refine lv_iload hx hb dX11_trial_201 (lv_at hl 0 rfl) ?_
                      refine lv_iconst (v := 3) hx hb dX11_trial_203 (by decide) ?_
                      refine lv_iadd hx hb dX11_trial_204 ?_
                      refine my_bei (v := nI (10 * nt + 1549)) ((nI_add (10 * nt + 1546) 3).trans (congrArg nI (show (10 * nt + 1546) + 3 = 10 * nt + 1549 by omega))) ?_
                      refine lv_iload hx hb dX11_trial_205 (lv_at hl 6 rfl) ?_
                      refine va_iast hx hb hG.1 hP (wl_D hg f_3) hS 316 0 (wl_at (by decide) hss_) rfl (vp_in_nI (by omega) (by decide)) dX11_trial_207 (fun H locs hP _ hS => ?_)
                      have hP := (congrArg (fun z9 => va_P G.1 vwCl ((wl g f_3).set 316 (g 316, eI G 2246 ((upd (upd (upd (upd ss (10 * nt + 1546) a1) (10 * nt + 1547) a2) (10 * nt + 1548) a3) z9 a4)))) H) (show Int32.toNatClampNeg (nI (10 * nt + 1549)) = 10 * nt + 1549 from nI_clamp (by omega))).mp hP
                      obtain ⟨f_4, hP, e_4, o_4⟩ := b_put (by decide) hP
                      have hss_ : f_4 316 = eI G 2246 (upd (upd (upd (upd ss (10 * nt + 1546) a1) (10 * nt + 1547) a2) (10 * nt + 1548) a3) (10 * nt + 1549) a4) := e_4
                      refine lv_aload_n hx hb dX11_trial_208 rfl (lv_at hl 2 rfl) ?_
                      replace hmo := ((o_4 315 (by decide))).trans hmo
                      refine va_get (D := G.1) (ci := 10) (v := .ref (g 316)) (C := RX11) (T := TX11) (N := 25) hx hb hts inlX11 hown hG.1 hP 315 (wl_at (by decide) hmo) rfl 0 (by decide) (hts (.fieldLink RX11 7 "SwornListsModel" "st" "[I") w_112) (fun _ h9 => h9) rfl dX11_trial_209 ?_
                      refine lv_iload hx hb dX11_trial_212 (lv_at hl 0 rfl) ?_
                      refine lv_iconst (v := 3) hx hb dX11_trial_214 (by decide) ?_
                      refine lv_iadd hx hb dX11_trial_215 ?_
                      refine my_bei (v := nI (10 * nt + 1549)) ((nI_add (10 * nt + 1546) 3).trans (congrArg nI (show (10 * nt + 1546) + 3 = 10 * nt + 1549 by omega))) ?_
                      refine lv_iconst (v := 1) hx hb dX11_trial_216 (by decide) ?_
                      refine lv_iadd hx hb dX11_trial_217 ?_
                      refine my_bei (v := nI (10 * nt + 1550)) ((nI_add (10 * nt + 1549) 1).trans (congrArg nI (show (10 * nt + 1549) + 1 = 10 * nt + 1550 by omega))) ?_
                      refine lv_iload hx hb dX11_trial_218 (lv_at hl 7 rfl) ?_
                      refine va_iast hx hb hG.1 hP (wl_D hg f_4) hS 316 0 (wl_at (by decide) hss_) rfl (vp_in_nI (by omega) (by decide)) dX11_trial_220 (fun H locs hP _ hS => ?_)
                      have hP := (congrArg (fun z9 => va_P G.1 vwCl ((wl g f_4).set 316 (g 316, eI G 2246 ((upd (upd (upd (upd (upd ss (10 * nt + 1546) a1) (10 * nt + 1547) a2) (10 * nt + 1548) a3) (10 * nt + 1549) a4) z9 a5)))) H) (show Int32.toNatClampNeg (nI (10 * nt + 1550)) = 10 * nt + 1550 from nI_clamp (by omega))).mp hP
                      obtain ⟨f_5, hP, e_5, o_5⟩ := b_put (by decide) hP
                      have hss_ : f_5 316 = eI G 2246 (upd (upd (upd (upd (upd ss (10 * nt + 1546) a1) (10 * nt + 1547) a2) (10 * nt + 1548) a3) (10 * nt + 1549) a4) (10 * nt + 1550) a5) := e_5
                      refine lv_aload_n hx hb dX11_trial_221 rfl (lv_at hl 2 rfl) ?_
                      replace hmo := ((o_5 315 (by decide))).trans hmo
                      refine va_get (D := G.1) (ci := 10) (v := .ref (g 316)) (C := RX11) (T := TX11) (N := 25) hx hb hts inlX11 hown hG.1 hP 315 (wl_at (by decide) hmo) rfl 0 (by decide) (hts (.fieldLink RX11 7 "SwornListsModel" "st" "[I") w_112) (fun _ h9 => h9) rfl dX11_trial_222 ?_
                      refine lv_iload hx hb dX11_trial_225 (lv_at hl 0 rfl) ?_
                      refine lv_iconst (v := 5) hx hb dX11_trial_227 (by decide) ?_
                      refine lv_iadd hx hb dX11_trial_228 ?_
                      refine my_bei (v := nI (10 * nt + 1551)) ((nI_add (10 * nt + 1546) 5).trans (congrArg nI (show (10 * nt + 1546) + 5 = 10 * nt + 1551 by omega))) ?_
                      refine lv_iload hx hb dX11_trial_229 (lv_at hl 8 rfl) ?_
                      refine va_iast hx hb hG.1 hP (wl_D hg f_5) hS 316 0 (wl_at (by decide) hss_) rfl (vp_in_nI (by omega) (by decide)) dX11_trial_231 (fun H locs hP _ hS => ?_)
                      have hP := (congrArg (fun z9 => va_P G.1 vwCl ((wl g f_5).set 316 (g 316, eI G 2246 ((upd (upd (upd (upd (upd (upd ss (10 * nt + 1546) a1) (10 * nt + 1547) a2) (10 * nt + 1548) a3) (10 * nt + 1549) a4) (10 * nt + 1550) a5) z9 a6)))) H) (show Int32.toNatClampNeg (nI (10 * nt + 1551)) = 10 * nt + 1551 from nI_clamp (by omega))).mp hP
                      obtain ⟨f_6, hP, e_6, o_6⟩ := b_put (by decide) hP
                      have hss_ : f_6 316 = eI G 2246 (upd (upd (upd (upd (upd (upd ss (10 * nt + 1546) a1) (10 * nt + 1547) a2) (10 * nt + 1548) a3) (10 * nt + 1549) a4) (10 * nt + 1550) a5) (10 * nt + 1551) a6) := e_6
                      refine lv_aload_n hx hb dX11_trial_232 rfl (lv_at hl 2 rfl) ?_
                      replace hmo := ((o_6 315 (by decide))).trans hmo
                      refine va_get (D := G.1) (ci := 10) (v := .ref (g 316)) (C := RX11) (T := TX11) (N := 25) hx hb hts inlX11 hown hG.1 hP 315 (wl_at (by decide) hmo) rfl 0 (by decide) (hts (.fieldLink RX11 7 "SwornListsModel" "st" "[I") w_112) (fun _ h9 => h9) rfl dX11_trial_233 ?_
                      refine lv_iload hx hb dX11_trial_236 (lv_at hl 0 rfl) ?_
                      refine lv_bipush (v := 6) hx hb dX11_trial_238 (by decide) ?_
                      refine lv_iadd hx hb dX11_trial_240 ?_
                      refine my_bei (v := nI (10 * nt + 1552)) ((nI_add (10 * nt + 1546) 6).trans (congrArg nI (show (10 * nt + 1546) + 6 = 10 * nt + 1552 by omega))) ?_
                      refine lv_iload hx hb dX11_trial_241 (lv_at hl 9 rfl) ?_
                      refine va_iast hx hb hG.1 hP (wl_D hg f_6) hS 316 0 (wl_at (by decide) hss_) rfl (vp_in_nI (by omega) (by decide)) dX11_trial_243 (fun H locs hP _ hS => ?_)
                      have hP := (congrArg (fun z9 => va_P G.1 vwCl ((wl g f_6).set 316 (g 316, eI G 2246 ((upd (upd (upd (upd (upd (upd (upd ss (10 * nt + 1546) a1) (10 * nt + 1547) a2) (10 * nt + 1548) a3) (10 * nt + 1549) a4) (10 * nt + 1550) a5) (10 * nt + 1551) a6) z9 (nI v7))))) H) (show Int32.toNatClampNeg (nI (10 * nt + 1552)) = 10 * nt + 1552 from nI_clamp (by omega))).mp hP
                      obtain ⟨f_7, hP, e_7, o_7⟩ := b_put (by decide) hP
                      have hss_ : f_7 316 = eI G 2246 (upd (upd (upd (upd (upd (upd (upd ss (10 * nt + 1546) a1) (10 * nt + 1547) a2) (10 * nt + 1548) a3) (10 * nt + 1549) a4) (10 * nt + 1550) a5) (10 * nt + 1551) a6) (10 * nt + 1552) (nI v7)) := e_7
                      refine lv_aload_n hx hb dX11_trial_244 rfl (lv_at hl 2 rfl) ?_
                      replace hmo := ((o_7 315 (by decide))).trans hmo
                      refine va_get (D := G.1) (ci := 10) (v := .ref (g 316)) (C := RX11) (T := TX11) (N := 25) hx hb hts inlX11 hown hG.1 hP 315 (wl_at (by decide) hmo) rfl 0 (by decide) (hts (.fieldLink RX11 7 "SwornListsModel" "st" "[I") w_112) (fun _ h9 => h9) rfl dX11_trial_245 ?_
                      refine lv_iload hx hb dX11_trial_248 (lv_at hl 0 rfl) ?_
                      refine lv_bipush (v := 7) hx hb dX11_trial_250 (by decide) ?_
                      refine lv_iadd hx hb dX11_trial_252 ?_
                      refine my_bei (v := nI (10 * nt + 1553)) ((nI_add (10 * nt + 1546) 7).trans (congrArg nI (show (10 * nt + 1546) + 7 = 10 * nt + 1553 by omega))) ?_
                      refine lv_iload hx hb dX11_trial_253 (lv_at hl 10 rfl) ?_
                      refine va_iast hx hb hG.1 hP (wl_D hg f_7) hS 316 0 (wl_at (by decide) hss_) rfl (vp_in_nI (by omega) (by decide)) dX11_trial_255 (fun H locs hP _ hS => ?_)
                      have hP := (congrArg (fun z9 => va_P G.1 vwCl ((wl g f_7).set 316 (g 316, eI G 2246 ((upd (upd (upd (upd (upd (upd (upd (upd ss (10 * nt + 1546) a1) (10 * nt + 1547) a2) (10 * nt + 1548) a3) (10 * nt + 1549) a4) (10 * nt + 1550) a5) (10 * nt + 1551) a6) (10 * nt + 1552) (nI v7)) z9 a8)))) H) (show Int32.toNatClampNeg (nI (10 * nt + 1553)) = 10 * nt + 1553 from nI_clamp (by omega))).mp hP
                      obtain ⟨f_8, hP, e_8, o_8⟩ := b_put (by decide) hP
                      have hss_ : f_8 316 = eI G 2246 (upd (upd (upd (upd (upd (upd (upd (upd ss (10 * nt + 1546) a1) (10 * nt + 1547) a2) (10 * nt + 1548) a3) (10 * nt + 1549) a4) (10 * nt + 1550) a5) (10 * nt + 1551) a6) (10 * nt + 1552) (nI v7)) (10 * nt + 1553) a8) := e_8
                      refine lv_aload_n hx hb dX11_trial_256 rfl (lv_at hl 2 rfl) ?_
                      replace hmo := ((o_8 315 (by decide))).trans hmo
                      refine va_get (D := G.1) (ci := 10) (v := .ref (g 316)) (C := RX11) (T := TX11) (N := 25) hx hb hts inlX11 hown hG.1 hP 315 (wl_at (by decide) hmo) rfl 0 (by decide) (hts (.fieldLink RX11 7 "SwornListsModel" "st" "[I") w_112) (fun _ h9 => h9) rfl dX11_trial_257 ?_
                      refine lv_iload hx hb dX11_trial_260 (lv_at hl 0 rfl) ?_
                      refine lv_bipush (v := 8) hx hb dX11_trial_262 (by decide) ?_
                      refine lv_iadd hx hb dX11_trial_264 ?_
                      refine my_bei (v := nI (10 * nt + 1554)) ((nI_add (10 * nt + 1546) 8).trans (congrArg nI (show (10 * nt + 1546) + 8 = 10 * nt + 1554 by omega))) ?_
                      refine lv_iload hx hb dX11_trial_265 (lv_at hl 11 rfl) ?_
                      refine va_iast hx hb hG.1 hP (wl_D hg f_8) hS 316 0 (wl_at (by decide) hss_) rfl (vp_in_nI (by omega) (by decide)) dX11_trial_267 (fun H locs hP _ hS => ?_)
                      have hP := (congrArg (fun z9 => va_P G.1 vwCl ((wl g f_8).set 316 (g 316, eI G 2246 ((upd (upd (upd (upd (upd (upd (upd (upd (upd ss (10 * nt + 1546) a1) (10 * nt + 1547) a2) (10 * nt + 1548) a3) (10 * nt + 1549) a4) (10 * nt + 1550) a5) (10 * nt + 1551) a6) (10 * nt + 1552) (nI v7)) (10 * nt + 1553) a8) z9 (nI v9))))) H) (show Int32.toNatClampNeg (nI (10 * nt + 1554)) = 10 * nt + 1554 from nI_clamp (by omega))).mp hP
                      obtain ⟨f_9, hP, e_9, o_9⟩ := b_put (by decide) hP
                      have hss_ : f_9 316 = eI G 2246 (upd (upd (upd (upd (upd (upd (upd (upd (upd ss (10 * nt + 1546) a1) (10 * nt + 1547) a2) (10 * nt + 1548) a3) (10 * nt + 1549) a4) (10 * nt + 1550) a5) (10 * nt + 1551) a6) (10 * nt + 1552) (nI v7)) (10 * nt + 1553) a8) (10 * nt + 1554) (nI v9)) := e_9
                      refine lv_aload_n hx hb dX11_trial_268 rfl (lv_at hl 2 rfl) ?_
                      replace hmo := ((o_9 315 (by decide))).trans hmo
                      refine va_get (D := G.1) (ci := 10) (v := .ref (g 316)) (C := RX11) (T := TX11) (N := 25) hx hb hts inlX11 hown hG.1 hP 315 (wl_at (by decide) hmo) rfl 0 (by decide) (hts (.fieldLink RX11 7 "SwornListsModel" "st" "[I") w_112) (fun _ h9 => h9) rfl dX11_trial_269 ?_
                      refine lv_iload hx hb dX11_trial_272 (lv_at hl 0 rfl) ?_
                      refine lv_bipush (v := 9) hx hb dX11_trial_274 (by decide) ?_
                      refine lv_iadd hx hb dX11_trial_276 ?_
                      refine my_bei (v := nI (10 * nt + 1555)) ((nI_add (10 * nt + 1546) 9).trans (congrArg nI (show (10 * nt + 1546) + 9 = 10 * nt + 1555 by omega))) ?_
                      refine lv_iconst (v := 0) hx hb dX11_trial_277 (by decide) ?_
                      refine va_iast hx hb hG.1 hP (wl_D hg f_9) hS 316 0 (wl_at (by decide) hss_) rfl (vp_in_nI (by omega) (by decide)) dX11_trial_278 (fun H locs hP _ hS => ?_)
                      have hP := (congrArg (fun z9 => va_P G.1 vwCl ((wl g f_9).set 316 (g 316, eI G 2246 ((upd (upd (upd (upd (upd (upd (upd (upd (upd (upd ss (10 * nt + 1546) a1) (10 * nt + 1547) a2) (10 * nt + 1548) a3) (10 * nt + 1549) a4) (10 * nt + 1550) a5) (10 * nt + 1551) a6) (10 * nt + 1552) (nI v7)) (10 * nt + 1553) a8) (10 * nt + 1554) (nI v9)) z9 0)))) H) (show Int32.toNatClampNeg (nI (10 * nt + 1555)) = 10 * nt + 1555 from nI_clamp (by omega))).mp hP
                      obtain ⟨f_10, hP, e_10, o_10⟩ := b_put (by decide) hP
                      have hss_ : f_10 316 = eI G 2246 (upd (upd (upd (upd (upd (upd (upd (upd (upd (upd ss (10 * nt + 1546) a1) (10 * nt + 1547) a2) (10 * nt + 1548) a3) (10 * nt + 1549) a4) (10 * nt + 1550) a5) (10 * nt + 1551) a6) (10 * nt + 1552) (nI v7)) (10 * nt + 1553) a8) (10 * nt + 1554) (nI v9)) (10 * nt + 1555) 0) := e_10
                      refine lv_iconst (v := 0) hx hb dX11_trial_279 (by decide) ?_
                      refine lv_istore (lv' := [(12, .int 0), (11, .int (nI (10 * nt + 1546))), (10, .int (ss (10 * (nt - 1) + 0 + 1546))), (0, .ref (g 315)), (1, .int a1), (2, .int a2), (3, .int a3), (4, .int a4), (5, .int a5), (6, .int a6), (7, .int (nI v7)), (8, .int a8), (9, .int (nI v9))]) hx hb dX11_trial_280 hl (by decide) rfl (fun ls hl => ?_)
                      replace hmo := ((o_10 315 (by decide))).trans hmo
                      replace him_ := ((o_10 317 (by decide)).trans ((o_9 317 (by decide)).trans ((o_8 317 (by decide)).trans ((o_7 317 (by decide)).trans ((o_6 317 (by decide)).trans ((o_5 317 (by decide)).trans ((o_4 317 (by decide)).trans ((o_3 317 (by decide)).trans ((o_2 317 (by decide)).trans ((o_1 317 (by decide)))))))))))).trans him_
                      replace hkq_ := ((o_10 318 (by decide)).trans ((o_9 318 (by decide)).trans ((o_8 318 (by decide)).trans ((o_7 318 (by decide)).trans ((o_6 318 (by decide)).trans ((o_5 318 (by decide)).trans ((o_4 318 (by decide)).trans ((o_3 318 (by decide)).trans ((o_2 318 (by decide)).trans ((o_1 318 (by decide)))))))))))).trans hkq_
                      replace hsp_ := ((o_10 319 (by decide)).trans ((o_9 319 (by decide)).trans ((o_8 319 (by decide)).trans ((o_7 319 (by decide)).trans ((o_6 319 (by decide)).trans ((o_5 319 (by decide)).trans ((o_4 319 (by decide)).trans ((o_3 319 (by decide)).trans ((o_2 319 (by decide)).trans ((o_1 319 (by decide)))))))))))).trans hsp_
                      replace hwi_ := ((o_10 320 (by decide)).trans ((o_9 320 (by decide)).trans ((o_8 320 (by decide)).trans ((o_7 320 (by decide)).trans ((o_6 320 (by decide)).trans ((o_5 320 (by decide)).trans ((o_4 320 (by decide)).trans ((o_3 320 (by decide)).trans ((o_2 320 (by decide)).trans ((o_1 320 (by decide)))))))))))).trans hwi_
                      replace hwa_ := ((o_10 321 (by decide)).trans ((o_9 321 (by decide)).trans ((o_8 321 (by decide)).trans ((o_7 321 (by decide)).trans ((o_6 321 (by decide)).trans ((o_5 321 (by decide)).trans ((o_4 321 (by decide)).trans ((o_3 321 (by decide)).trans ((o_2 321 (by decide)).trans ((o_1 321 (by decide)))))))))))).trans hwa_
                      replace hva_ := ((o_10 322 (by decide)).trans ((o_9 322 (by decide)).trans ((o_8 322 (by decide)).trans ((o_7 322 (by decide)).trans ((o_6 322 (by decide)).trans ((o_5 322 (by decide)).trans ((o_4 322 (by decide)).trans ((o_3 322 (by decide)).trans ((o_2 322 (by decide)).trans ((o_1 322 (by decide)))))))))))).trans hva_
                      replace hbo_ := ((o_10 323 (by decide)).trans ((o_9 323 (by decide)).trans ((o_8 323 (by decide)).trans ((o_7 323 (by decide)).trans ((o_6 323 (by decide)).trans ((o_5 323 (by decide)).trans ((o_4 323 (by decide)).trans ((o_3 323 (by decide)).trans ((o_2 323 (by decide)).trans ((o_1 323 (by decide)))))))))))).trans hbo_
                      replace hju_ := ((o_10 324 (by decide)).trans ((o_9 324 (by decide)).trans ((o_8 324 (by decide)).trans ((o_7 324 (by decide)).trans ((o_6 324 (by decide)).trans ((o_5 324 (by decide)).trans ((o_4 324 (by decide)).trans ((o_3 324 (by decide)).trans ((o_2 324 (by decide)).trans ((o_1 324 (by decide)))))))))))).trans hju_
                      replace hdr_ := ((o_10 325 (by decide)).trans ((o_9 325 (by decide)).trans ((o_8 325 (by decide)).trans ((o_7 325 (by decide)).trans ((o_6 325 (by decide)).trans ((o_5 325 (by decide)).trans ((o_4 325 (by decide)).trans ((o_3 325 (by decide)).trans ((o_2 325 (by decide)).trans ((o_1 325 (by decide)))))))))))).trans hdr_
                      replace hdn_ := ((o_10 326 (by decide)).trans ((o_9 326 (by decide)).trans ((o_8 326 (by decide)).trans ((o_7 326 (by decide)).trans ((o_6 326 (by decide)).trans ((o_5 326 (by decide)).trans ((o_4 326 (by decide)).trans ((o_3 326 (by decide)).trans ((o_2 326 (by decide)).trans ((o_1 326 (by decide)))))))))))).trans hdn_
                      replace hsl_ := ((o_10 327 (by decide)).trans ((o_9 327 (by decide)).trans ((o_8 327 (by decide)).trans ((o_7 327 (by decide)).trans ((o_6 327 (by decide)).trans ((o_5 327 (by decide)).trans ((o_4 327 (by decide)).trans ((o_3 327 (by decide)).trans ((o_2 327 (by decide)).trans ((o_1 327 (by decide)))))))))))).trans hsl_
                      replace hax_ := ((o_10 328 (by decide)).trans ((o_9 328 (by decide)).trans ((o_8 328 (by decide)).trans ((o_7 328 (by decide)).trans ((o_6 328 (by decide)).trans ((o_5 328 (by decide)).trans ((o_4 328 (by decide)).trans ((o_3 328 (by decide)).trans ((o_2 328 (by decide)).trans ((o_1 328 (by decide)))))))))))).trans hax_
                      replace hlf_ := ((o_10 329 (by decide)).trans ((o_9 329 (by decide)).trans ((o_8 329 (by decide)).trans ((o_7 329 (by decide)).trans ((o_6 329 (by decide)).trans ((o_5 329 (by decide)).trans ((o_4 329 (by decide)).trans ((o_3 329 (by decide)).trans ((o_2 329 (by decide)).trans ((o_1 329 (by decide)))))))))))).trans hlf_
                      replace hwh_ := ((o_10 330 (by decide)).trans ((o_9 330 (by decide)).trans ((o_8 330 (by decide)).trans ((o_7 330 (by decide)).trans ((o_6 330 (by decide)).trans ((o_5 330 (by decide)).trans ((o_4 330 (by decide)).trans ((o_3 330 (by decide)).trans ((o_2 330 (by decide)).trans ((o_1 330 (by decide)))))))))))).trans hwh_
                      replace hw6_ := ((o_10 331 (by decide)).trans ((o_9 331 (by decide)).trans ((o_8 331 (by decide)).trans ((o_7 331 (by decide)).trans ((o_6 331 (by decide)).trans ((o_5 331 (by decide)).trans ((o_4 331 (by decide)).trans ((o_3 331 (by decide)).trans ((o_2 331 (by decide)).trans ((o_1 331 (by decide)))))))))))).trans hw6_
                      replace hb6_ := ((o_10 332 (by decide)).trans ((o_9 332 (by decide)).trans ((o_8 332 (by decide)).trans ((o_7 332 (by decide)).trans ((o_6 332 (by decide)).trans ((o_5 332 (by decide)).trans ((o_4 332 (by decide)).trans ((o_3 332 (by decide)).trans ((o_2 332 (by decide)).trans ((o_1 332 (by decide)))))))))))).trans hb6_
                      have key1 : ∀ (n9_1 : Nat) (i : Nat) (s5 : Nat → Int32) (f_11 : Nat → va_E) (H : Heap) (locs : List Loc) (ls : Array Slot), (i ≤ 60) → (∀ j, j < 1646 → s5 j = (upd (upd (upd (upd (upd (upd (upd (upd (upd (upd ss (10 * nt + 1546) a1) (10 * nt + 1547) a2) (10 * nt + 1548) a3) (10 * nt + 1549) a4) (10 * nt + 1550) a5) (10 * nt + 1551) a6) (10 * nt + 1552) (nI v7)) (10 * nt + 1553) a8) (10 * nt + 1554) (nI v9)) (10 * nt + 1555) 0) j) → (∀ j, 1646 ≤ j → (j < 60 * nt + 1646 ∨ i + 60 * nt + 1646 ≤ j) → s5 j = (upd (upd (upd (upd (upd (upd (upd (upd (upd (upd ss (10 * nt + 1546) a1) (10 * nt + 1547) a2) (10 * nt + 1548) a3) (10 * nt + 1549) a4) (10 * nt + 1550) a5) (10 * nt + 1551) a6) (10 * nt + 1552) (nI v7)) (10 * nt + 1553) a8) (10 * nt + 1554) (nI v9)) (10 * nt + 1555) 0) j) → (∀ q, q < i → s5 (q + 60 * nt + 1646) = 0) → 60 - i < n9_1 → f_11 315 = eO 10 [.ref (g 316), .ref (g 317), .ref (g 318), .long ab2, .long be2, .int sn, .ref (g 319), .ref (g 320), .int wn, .ref (g 321), .ref (g 322), .int sa, .int ly, .int rdy, .int (nI fd), .ref (g 323), .ref (g 324), .ref (g 325), .ref (g 326), .ref (g 327), .ref (g 328), .ref (g 329), .ref (g 330), .ref (g 331), .ref (g 332)] → f_11 316 = eI G 2246 s5 → f_11 317 = eI G 4492 im → f_11 318 = eZ G 2 kq → f_11 319 = eI G 70 sp → f_11 320 = eI G 70 wi → f_11 321 = eI G 70 wa → f_11 322 = eJ G 70 va → f_11 323 = eI G 11 bo → f_11 324 = eI G 11 ju → f_11 325 = eI G 264 dr → f_11 326 = eI G 11 dn → f_11 327 = eI G 330 sl → f_11 328 = eI G 44 ax → f_11 329 = eI G 30 lf → f_11 330 = eI G 6 wh → f_11 331 = eI G 6 w6 → f_11 332 = eI G 6 b6 → (∀ j, j ≠ 316 → f_11 j = f_10 j) → va_P G.1 vwCl (wl g f_11) H → va_S (gA g) s.heap H locs → lv_has ls 13 [(0, .ref (g 315)), (12, .int (nI i))] → W p l e (headSpec (wsT yX11_trial cX11_trial 13 (some .int)) ({ frames := 1, cells := 0, slots := 0, locals := 25 })).room s m ([.ref (g 315), .int a1, .int a2, .int a3, .int a4, .int a5, .int a6, .int (nI v7), .int a8, .int (nI v9)] : List Value).toArray below meth c H locs 0 0 Q9 (F0 m 282 ls []) := by
                        intro n9_1
                        induction n9_1 with
                        | zero => intro i s5 f_11 H locs ls hi ha5 hb5 hc5 hn9_1; exact absurd hn9_1 (Nat.not_lt_zero _)
                        | succ n9_1 ih_1 =>
                          intro i s5 f_11 H locs ls hi ha5 hb5 hc5 hn9_1 hmo hss_ him_ hkq_ hsp_ hwi_ hwa_ hva_ hbo_ hju_ hdr_ hdn_ hsl_ hax_ hlf_ hwh_ hw6_ hb6_ o_11 hP hS hl
                          refine lv_iload hx hb dX11_trial_282 (lv_at hl 1 rfl) ?_
                          refine lv_bipush (v := 60) hx hb dX11_trial_284 (by decide) ?_
                          refine lv_icmp_ge (tgt := 317) hx hb dX11_trial_286 (by decide) (fun c_286 => ?_) (fun c_286 => ?_)
                          · have k_286 : 60 ≤ i := (nI_leI (a := 60) (b := i) (by omega) (by omega)).mp c_286
                            refine lv_aload_n hx hb dX11_trial_317 rfl (lv_at hl 0 rfl) ?_
                            refine lv_iconst (v := 4) hx hb dX11_trial_318 (by decide) ?_
                            refine b_calli (va_runV (As := [.int 4]) (rest := []) ⟨hx, hb, hml, hown, hts⟩ (r_one l G g hg f_11 ab2 be2 sn wn sa ly rdy (nI fd) s5 4 nt hmo hss_ (by first | assumption | omega | decide) ((ha5 4 (by decide)).trans ((pk_un (by first | decide | omega)).trans ((pk_un (by first | decide | omega)).trans ((pk_un (by first | decide | omega)).trans ((pk_un (by first | decide | omega)).trans ((pk_un (by first | decide | omega)).trans ((pk_un (by first | decide | omega)).trans ((pk_un (by first | decide | omega)).trans ((pk_un (by first | decide | omega)).trans ((pk_un (by first | decide | omega)).trans ((pk_un (by first | decide | omega)).trans (hst.h4)))))))))))) (by first | assumption | omega | decide)) (my_cwV hts ok_X11_one w_165 rfl rfl ⟨Nat.le_of_ble_eq_true rfl, Nat.le_of_ble_eq_true rfl⟩) ⟨bP.blind, va_recv hG.1 hP (ci := 10) (q0 := 315) rfl (wl_at (by decide) hmo), fun U hU hW => ⟨rfl, by rw [hU]; exact hP, kG.warm hW hG⟩⟩ rfl rfl hl.1 rfl (lv_room (Nat.le_of_ble_eq_true rfl)) dX11_trial_319 ⟨Nat.le_of_ble_eq_true rfl, Nat.le_of_ble_eq_true rfl⟩) hS (fun v2 f_12 H locs hq9 hP hS => ?_)
                            obtain ⟨rfl, hq_12_0, hq_12_1, o_12⟩ := hq9
                            have hmo : f_12 315 = eO 10 [.ref (g 316), .ref (g 317), .ref (g 318), .long ab2, .long be2, .int sn, .ref (g 319), .ref (g 320), .int wn, .ref (g 321), .ref (g 322), .int sa, .int ly, .int 0, .int (nI fd), .ref (g 323), .ref (g 324), .ref (g 325), .ref (g 326), .ref (g 327), .ref (g 328), .ref (g 329), .ref (g 330), .ref (g 331), .ref (g 332)] := hq_12_0
                            have hss_ : f_12 316 = eI G 2246 (upd s5 4 (nI (nt + 1))) := hq_12_1
                            refine W_q9 hQ9 ?_
                            replace him_ := ((o_12 317 (by first | decide | omega))).trans him_
                            replace hkq_ := ((o_12 318 (by first | decide | omega))).trans hkq_
                            replace hsp_ := ((o_12 319 (by first | decide | omega))).trans hsp_
                            replace hwi_ := ((o_12 320 (by first | decide | omega))).trans hwi_
                            replace hwa_ := ((o_12 321 (by first | decide | omega))).trans hwa_
                            replace hva_ := ((o_12 322 (by first | decide | omega))).trans hva_
                            replace hbo_ := ((o_12 323 (by first | decide | omega))).trans hbo_
                            replace hju_ := ((o_12 324 (by first | decide | omega))).trans hju_
                            replace hdr_ := ((o_12 325 (by first | decide | omega))).trans hdr_
                            replace hdn_ := ((o_12 326 (by first | decide | omega))).trans hdn_
                            replace hsl_ := ((o_12 327 (by first | decide | omega))).trans hsl_
                            replace hax_ := ((o_12 328 (by first | decide | omega))).trans hax_
                            replace hlf_ := ((o_12 329 (by first | decide | omega))).trans hlf_
                            replace hwh_ := ((o_12 330 (by first | decide | omega))).trans hwh_
                            replace hw6_ := ((o_12 331 (by first | decide | omega))).trans hw6_
                            replace hb6_ := ((o_12 332 (by first | decide | omega))).trans hb6_
                            exact W.iret (v := nI nt) hx hb hr (fun _ hT9 _ => ⟨⟨_, f_12, rfl, (⟨(upd s5 4 (nI (nt + 1))), mJ_mk (ab2) (be2) (sn) (wn) (sa) (ly) (0) (fd) (np) (nf) (nr) (na) ((nt + 1)) (sp) (wi) (wa) (va) (bo) (ju) (dr) (dn) (sl) (ax) (lf) (wh) (w6) (b6) (hmo) (hss_) (him_) (hkq_) (hsp_) (hwi_) (hwa_) (hva_) (hbo_) (hju_) (hdr_) (hdn_) (hsl_) (hax_) (hlf_) (hwh_) (hw6_) (hb6_) ((stOK.tr1 hst (by omega) (fun k hk => (ha5 k (by omega)).trans ((pk_un (by omega)).trans ((pk_un (by omega)).trans ((pk_un (by omega)).trans ((pk_un (by omega)).trans ((pk_un (by omega)).trans ((pk_un (by omega)).trans ((pk_un (by omega)).trans ((pk_un (by omega)).trans ((pk_un (by omega)).trans ((pk_un (by omega))))))))))))) hv7 ((ha5 _ (by omega)).trans ((pk_un (by first | decide | omega)).trans ((pk_un (by first | decide | omega)).trans ((pk_un (by first | decide | omega)).trans (pk_us))))) hv9 ((ha5 _ (by omega)).trans ((pk_un (by first | decide | omega)).trans (pk_us))))) (by omega) (hdn) (hi0) (hi1) ((fun z => absurd rfl z)), ⟨np, nf, nr, na, nt, hst, Or.inr (Or.inr ⟨⟨(by rw [(show frS ss nt = ss (10 * (nt - 1) + 0 + 1546) from if_neg (by omega))]; exact c_39), c_51, c_63, c_78, c_93, c_108, c_121, c_134⟩, by omega, rfl, s5, rfl, ha5, fun j h1 h2 => hb5 j h1 (by omega), fun q hq => hc5 q (by omega)⟩)⟩, fun j hj => ((((((((((((o_12 j (by omega))).trans (o_11 j (by omega))).trans (o_10 j (by omega))).trans (o_9 j (by omega))).trans (o_8 j (by omega))).trans (o_7 j (by omega))).trans (o_6 j (by omega))).trans (o_5 j (by omega))).trans (o_4 j (by omega))).trans (o_3 j (by omega))).trans (o_2 j (by omega))).trans (o_1 j (by omega))⟩), by rw [hT9]; exact hP⟩, hS.F hT9⟩) hS.2.2 dX11_trial_322
                          · have k_286 : ¬ 60 ≤ i := fun z9 => c_286 ((nI_leI (a := 60) (b := i) (by omega) (by omega)).mpr z9)
                            refine lv_aload_n hx hb dX11_trial_289 rfl (lv_at hl 0 rfl) ?_
                            refine va_get (D := G.1) (ci := 10) (v := .ref (g 316)) (C := RX11) (T := TX11) (N := 25) hx hb hts inlX11 hown hG.1 hP 315 (wl_at (by decide) hmo) rfl 0 (by decide) (hts (.fieldLink RX11 7 "SwornListsModel" "st" "[I") w_112) (fun _ h9 => h9) rfl dX11_trial_290 ?_
                            refine lv_sipush (v := 1646) hx hb dX11_trial_293 (by decide) ?_
                            refine lv_bipush (v := 60) hx hb dX11_trial_296 (by decide) ?_
                            refine lv_aload_n hx hb dX11_trial_298 rfl (lv_at hl 0 rfl) ?_
                            refine va_get (D := G.1) (ci := 10) (v := .ref (g 316)) (C := RX11) (T := TX11) (N := 25) hx hb hts inlX11 hown hG.1 hP 315 (wl_at (by decide) hmo) rfl 0 (by decide) (hts (.fieldLink RX11 7 "SwornListsModel" "st" "[I") w_112) (fun _ h9 => h9) rfl dX11_trial_299 ?_
                            refine lv_iconst (v := 4) hx hb dX11_trial_302 (by decide) ?_
                            refine va_iald hx hb hG.1 hP 316 0 (wl_at (by decide) hss_) rfl (by unfold vp_in; decide) dX11_trial_303 ?_
                            refine my_bei (v := s5 4) (rfl) ?_
                            refine my_bei (v := nI nt) ((ha5 4 (by decide)).trans ((pk_un (by first | decide | omega)).trans ((pk_un (by first | decide | omega)).trans ((pk_un (by first | decide | omega)).trans ((pk_un (by first | decide | omega)).trans ((pk_un (by first | decide | omega)).trans ((pk_un (by first | decide | omega)).trans ((pk_un (by first | decide | omega)).trans ((pk_un (by first | decide | omega)).trans ((pk_un (by first | decide | omega)).trans ((pk_un (by first | decide | omega)).trans (hst.h4)))))))))))) ?_
                            refine lv_imul hx hb dX11_trial_304 ?_
                            refine my_bei (v := nI (60 * nt)) (pk_mul 60 nt) ?_
                            refine lv_iadd hx hb dX11_trial_305 ?_
                            refine my_bei (v := nI (60 * nt + 1646)) ((nI_add 1646 (60 * nt)).trans (congrArg nI (show 1646 + (60 * nt) = 60 * nt + 1646 by omega))) ?_
                            refine lv_iload hx hb dX11_trial_306 (lv_at hl 1 rfl) ?_
                            refine lv_iadd hx hb dX11_trial_308 ?_
                            refine my_bei (v := nI (i + 60 * nt + 1646)) ((nI_add (60 * nt + 1646) i).trans (congrArg nI (show (60 * nt + 1646) + i = i + 60 * nt + 1646 by omega))) ?_
                            refine lv_iconst (v := 0) hx hb dX11_trial_309 (by decide) ?_
                            refine va_iast hx hb hG.1 hP (wl_D hg f_11) hS 316 0 (wl_at (by decide) hss_) rfl (vp_in_nI (by omega) (by decide)) dX11_trial_310 (fun H locs hP _ hS => ?_)
                            have hP := (congrArg (fun z9 => va_P G.1 vwCl ((wl g f_11).set 316 (g 316, eI G 2246 ((upd s5 z9 0)))) H) (show Int32.toNatClampNeg (nI (i + 60 * nt + 1646)) = i + 60 * nt + 1646 from nI_clamp (by omega))).mp hP
                            obtain ⟨f_13, hP, e_13, o_13⟩ := b_put (by decide) hP
                            have hss_ : f_13 316 = eI G 2246 (upd s5 (i + 60 * nt + 1646) 0) := e_13
                            refine lv_iinc (v := nI (i + 1)) (lv' := [(12, .int (nI (i + 1))), (0, .ref (g 315))]) hx hb dX11_trial_311 hl (k := 1) rfl (nI_add i 1) (by decide) rfl (fun ls hl => ?_)
                            refine lv_goto (tgt := 282) hx hb dX11_trial_314 (by decide) ?_
                            replace hmo := ((o_13 315 (by decide))).trans hmo
                            replace him_ := ((o_13 317 (by decide))).trans him_
                            replace hkq_ := ((o_13 318 (by decide))).trans hkq_
                            replace hsp_ := ((o_13 319 (by decide))).trans hsp_
                            replace hwi_ := ((o_13 320 (by decide))).trans hwi_
                            replace hwa_ := ((o_13 321 (by decide))).trans hwa_
                            replace hva_ := ((o_13 322 (by decide))).trans hva_
                            replace hbo_ := ((o_13 323 (by decide))).trans hbo_
                            replace hju_ := ((o_13 324 (by decide))).trans hju_
                            replace hdr_ := ((o_13 325 (by decide))).trans hdr_
                            replace hdn_ := ((o_13 326 (by decide))).trans hdn_
                            replace hsl_ := ((o_13 327 (by decide))).trans hsl_
                            replace hax_ := ((o_13 328 (by decide))).trans hax_
                            replace hlf_ := ((o_13 329 (by decide))).trans hlf_
                            replace hwh_ := ((o_13 330 (by decide))).trans hwh_
                            replace hw6_ := ((o_13 331 (by decide))).trans hw6_
                            replace hb6_ := ((o_13 332 (by decide))).trans hb6_
                            exact ih_1 (i + 1) (upd s5 (i + 60 * nt + 1646) 0) f_13 _ _ _ (by omega) (fun j hj => (pk_un (by omega)).trans (ha5 j hj)) (fun j h1 h2 => (pk_un (by omega)).trans (hb5 j h1 (by omega))) (fill_b (P := fun q => q + 60 * nt + 1646) (v := fun _ => 0) (fun i j h => by have h : i + 60 * nt + 1646 = j + 60 * nt + 1646 := h; omega) hc5 rfl) (by omega) (hmo) (hss_) (him_) (hkq_) (hsp_) (hwi_) (hwa_) (hva_) (hbo_) (hju_) (hdr_) (hdn_) (hsl_) (hax_) (hlf_) (hwh_) (hw6_) (hb6_) (fun j hj => ((o_13 j (by omega))).trans (o_11 j (by omega))) hP hS (lv_sub hl [1, 0] rfl)
                      exact key1 (60 + 1) 0 (upd (upd (upd (upd (upd (upd (upd (upd (upd (upd ss (10 * nt + 1546) a1) (10 * nt + 1547) a2) (10 * nt + 1548) a3) (10 * nt + 1549) a4) (10 * nt + 1550) a5) (10 * nt + 1551) a6) (10 * nt + 1552) (nI v7)) (10 * nt + 1553) a8) (10 * nt + 1554) (nI v9)) (10 * nt + 1555) 0) f_10 _ _ _ (by omega) (fun _ _ => rfl) (fun _ _ _ => rfl) (fun q hq => absurd hq (Nat.not_lt_zero _)) (by omega) (hmo) (hss_) (him_) (hkq_) (hsp_) (hwi_) (hwa_) (hva_) (hbo_) (hju_) (hdr_) (hdn_) (hsl_) (hax_) (hlf_) (hwh_) (hw6_) (hb6_) (fun j _ => rfl) hP hS (lv_sub hl [3, 0] rfl)
                    · have k_148 : nt = 10 := (nI_eq (a := nt) (b := 10) (by omega) (by omega)).mp c_148
                      refine lv_bipush (v := (-4)) hx hb dX11_trial_151 (by decide) ?_
                      refine W_q9 hQ9 ?_
                      exact W.iret (v := (-4)) hx hb hr (fun _ hT9 _ => ⟨⟨_, f, rfl, (⟨ss, mJ_mk (ab2) (be2) (sn) (wn) (sa) (ly) (rdy) (fd) (np) (nf) (nr) (na) (nt) (sp) (wi) (wa) (va) (bo) (ju) (dr) (dn) (sl) (ax) (lf) (wh) (w6) (b6) (hmo) (hss_) (him_) (hkq_) (hsp_) (hwi_) (hwa_) (hva_) (hbo_) (hju_) (hdr_) (hdn_) (hsl_) (hax_) (hlf_) (hwh_) (hw6_) (hb6_) (hst) (by omega) (hdn) (hi0) (hi1) (hrd), ⟨np, nf, nr, na, nt, hst, Or.inr (Or.inl ⟨⟨(by rw [(show frS ss nt = ss (10 * (nt - 1) + 0 + 1546) from if_neg (by omega))]; exact c_39), c_51, c_63, c_78, c_93, c_108, c_121, c_134⟩, k_148, rfl, rfl⟩)⟩, fun j hj => rfl⟩), by rw [hT9]; exact hP⟩, hS.F hT9⟩) hS.2.2 dX11_trial_153
                  · refine lv_bipush (v := (-2)) hx hb dX11_trial_137 (by decide) ?_
                    refine W_q9 hQ9 ?_
                    exact W.iret (v := (-2)) hx hb hr (fun _ hT9 _ => ⟨⟨_, f, rfl, (⟨ss, mJ_mk (ab2) (be2) (sn) (wn) (sa) (ly) (rdy) (fd) (np) (nf) (nr) (na) (nt) (sp) (wi) (wa) (va) (bo) (ju) (dr) (dn) (sl) (ax) (lf) (wh) (w6) (b6) (hmo) (hss_) (him_) (hkq_) (hsp_) (hwi_) (hwa_) (hva_) (hbo_) (hju_) (hdr_) (hdn_) (hsl_) (hax_) (hlf_) (hwh_) (hw6_) (hb6_) (hst) (by omega) (hdn) (hi0) (hi1) (hrd), ⟨np, nf, nr, na, nt, hst, Or.inl ⟨fun z => c_134 z.2.2.2.2.2.2.2, rfl, rfl⟩⟩, fun j hj => rfl⟩), by rw [hT9]; exact hP⟩, hS.F hT9⟩) hS.2.2 dX11_trial_139
  · have k_6 : nt = 0 := (nI_eq (a := nt) (b := 0) (by omega) (by omega)).mp c_6
    refine lv_iconst (v := 0) hx hb dX11_trial_9 (by decide) ?_
    refine lv_goto (tgt := 26) hx hb dX11_trial_10 (by decide) ?_
    refine lv_istore (lv' := [(10, .int 0), (0, .ref (g 315)), (1, .int a1), (2, .int a2), (3, .int a3), (4, .int a4), (5, .int a5), (6, .int a6), (7, .int a7), (8, .int a8), (9, .int a9)]) hx hb dX11_trial_26 hl (by decide) rfl (fun ls hl => ?_)
    refine lv_iload_n hx hb dX11_trial_28 rfl (lv_at hl 2 rfl) ?_
    refine lv_i2l hx hb dX11_trial_29 rfl ?_
    refine lv_iload hx hb dX11_trial_30 (lv_at hl 0 rfl) ?_
    refine lv_i2l hx hb dX11_trial_32 rfl ?_
    refine lv_ldc2 (v := 9999) hx hb hown (hts (.constantLong RX11 75 (9999)) w_193) dX11_trial_33 ?_
    refine my_bel (v := Int32.toInt64 9999) (by decide) ?_
    refine rd_calli (va_runS (As := [.long (Int32.toInt64 a1), .long (Int32.toInt64 0), .long (Int32.toInt64 9999)]) (rest := []) ⟨hx, hb, hml, hown, hts⟩ (r_in l G g hg f a1 0 9999  ) (my_cwS hts ok_X11_in w_162 rfl rfl ⟨Nat.le_of_ble_eq_true rfl, Nat.le_of_ble_eq_true rfl⟩) ⟨bP.blind, fun U hU hW => ⟨rfl, by rw [hU]; exact hP, kG.warm hW hG⟩⟩ rfl rfl hl.1 rfl (lv_room (Nat.le_of_ble_eq_true rfl)) dX11_trial_36 ⟨Nat.le_of_ble_eq_true rfl, Nat.le_of_ble_eq_true rfl⟩) (fun r hr9 => ?_)
    subst hr9
    refine my_ifeq (tgt := 137) hx hb dX11_trial_39 (by decide) (fun c_39 => ?_) (fun c_39 => ?_)
    · refine lv_bipush (v := (-2)) hx hb dX11_trial_137 (by decide) ?_
      refine W_q9 hQ9 ?_
      exact W.iret (v := (-2)) hx hb hr (fun _ hT9 _ => ⟨⟨_, f, rfl, (⟨ss, mJ_mk (ab2) (be2) (sn) (wn) (sa) (ly) (rdy) (fd) (np) (nf) (nr) (na) (nt) (sp) (wi) (wa) (va) (bo) (ju) (dr) (dn) (sl) (ax) (lf) (wh) (w6) (b6) (hmo) (hss_) (him_) (hkq_) (hsp_) (hwi_) (hwa_) (hva_) (hbo_) (hju_) (hdr_) (hdn_) (hsl_) (hax_) (hlf_) (hwh_) (hw6_) (hb6_) (hst) (by omega) (hdn) (hi0) (hi1) (hrd), ⟨np, nf, nr, na, nt, hst, Or.inl ⟨fun z => c_39 (by have h9 := z.1; rw [(show frS ss nt = 0 from if_pos (by omega))] at h9; exact h9), rfl, rfl⟩⟩, fun j hj => rfl⟩), by rw [hT9]; exact hP⟩, hS.F hT9⟩) hS.2.2 dX11_trial_139
    · refine lv_iload_n hx hb dX11_trial_42 rfl (lv_at hl 3 rfl) ?_
      refine lv_i2l hx hb dX11_trial_43 rfl ?_
      refine lv_lconst (v := 1) hx hb dX11_trial_44 (by decide) ?_
      refine my_bel (v := Int32.toInt64 1) (by decide) ?_
      refine lv_ldc2 (v := 9) hx hb hown (hts (.constantLong RX11 91 (9)) w_185) dX11_trial_45 ?_
      refine my_bel (v := Int32.toInt64 9) (by decide) ?_
      refine rd_calli (va_runS (As := [.long (Int32.toInt64 a2), .long (Int32.toInt64 1), .long (Int32.toInt64 9)]) (rest := []) ⟨hx, hb, hml, hown, hts⟩ (r_in l G g hg f a2 1 9  ) (my_cwS hts ok_X11_in w_162 rfl rfl ⟨Nat.le_of_ble_eq_true rfl, Nat.le_of_ble_eq_true rfl⟩) ⟨bP.blind, fun U hU hW => ⟨rfl, by rw [hU]; exact hP, kG.warm hW hG⟩⟩ rfl rfl hl.1 rfl (lv_room (Nat.le_of_ble_eq_true rfl)) dX11_trial_48 ⟨Nat.le_of_ble_eq_true rfl, Nat.le_of_ble_eq_true rfl⟩) (fun r hr9 => ?_)
      subst hr9
      refine my_ifeq (tgt := 137) hx hb dX11_trial_51 (by decide) (fun c_51 => ?_) (fun c_51 => ?_)
      · refine lv_bipush (v := (-2)) hx hb dX11_trial_137 (by decide) ?_
        refine W_q9 hQ9 ?_
        exact W.iret (v := (-2)) hx hb hr (fun _ hT9 _ => ⟨⟨_, f, rfl, (⟨ss, mJ_mk (ab2) (be2) (sn) (wn) (sa) (ly) (rdy) (fd) (np) (nf) (nr) (na) (nt) (sp) (wi) (wa) (va) (bo) (ju) (dr) (dn) (sl) (ax) (lf) (wh) (w6) (b6) (hmo) (hss_) (him_) (hkq_) (hsp_) (hwi_) (hwa_) (hva_) (hbo_) (hju_) (hdr_) (hdn_) (hsl_) (hax_) (hlf_) (hwh_) (hw6_) (hb6_) (hst) (by omega) (hdn) (hi0) (hi1) (hrd), ⟨np, nf, nr, na, nt, hst, Or.inl ⟨fun z => c_51 z.2.1, rfl, rfl⟩⟩, fun j hj => rfl⟩), by rw [hT9]; exact hP⟩, hS.F hT9⟩) hS.2.2 dX11_trial_139
      · refine lv_iload_n hx hb dX11_trial_54 rfl (lv_at hl 4 rfl) ?_
        refine lv_i2l hx hb dX11_trial_55 rfl ?_
        refine lv_lconst (v := 1) hx hb dX11_trial_56 (by decide) ?_
        refine my_bel (v := Int32.toInt64 1) (by decide) ?_
        refine lv_ldc2 (v := 8) hx hb hown (hts (.constantLong RX11 192 (8)) w_647) dX11_trial_57 ?_
        refine my_bel (v := Int32.toInt64 8) (by decide) ?_
        refine rd_calli (va_runS (As := [.long (Int32.toInt64 a3), .long (Int32.toInt64 1), .long (Int32.toInt64 8)]) (rest := []) ⟨hx, hb, hml, hown, hts⟩ (r_in l G g hg f a3 1 8  ) (my_cwS hts ok_X11_in w_162 rfl rfl ⟨Nat.le_of_ble_eq_true rfl, Nat.le_of_ble_eq_true rfl⟩) ⟨bP.blind, fun U hU hW => ⟨rfl, by rw [hU]; exact hP, kG.warm hW hG⟩⟩ rfl rfl hl.1 rfl (lv_room (Nat.le_of_ble_eq_true rfl)) dX11_trial_60 ⟨Nat.le_of_ble_eq_true rfl, Nat.le_of_ble_eq_true rfl⟩) (fun r hr9 => ?_)
        subst hr9
        refine my_ifeq (tgt := 137) hx hb dX11_trial_63 (by decide) (fun c_63 => ?_) (fun c_63 => ?_)
        · refine lv_bipush (v := (-2)) hx hb dX11_trial_137 (by decide) ?_
          refine W_q9 hQ9 ?_
          exact W.iret (v := (-2)) hx hb hr (fun _ hT9 _ => ⟨⟨_, f, rfl, (⟨ss, mJ_mk (ab2) (be2) (sn) (wn) (sa) (ly) (rdy) (fd) (np) (nf) (nr) (na) (nt) (sp) (wi) (wa) (va) (bo) (ju) (dr) (dn) (sl) (ax) (lf) (wh) (w6) (b6) (hmo) (hss_) (him_) (hkq_) (hsp_) (hwi_) (hwa_) (hva_) (hbo_) (hju_) (hdr_) (hdn_) (hsl_) (hax_) (hlf_) (hwh_) (hw6_) (hb6_) (hst) (by omega) (hdn) (hi0) (hi1) (hrd), ⟨np, nf, nr, na, nt, hst, Or.inl ⟨fun z => c_63 z.2.2.1, rfl, rfl⟩⟩, fun j hj => rfl⟩), by rw [hT9]; exact hP⟩, hS.F hT9⟩) hS.2.2 dX11_trial_139
        · refine lv_iload hx hb dX11_trial_66 (lv_at hl 5 rfl) ?_
          refine lv_i2l hx hb dX11_trial_68 rfl ?_
          refine lv_ldc2 (v := (-1)) hx hb hown (hts (.constantLong RX11 194 (-1)) w_648) dX11_trial_69 ?_
          refine my_bel (v := Int32.toInt64 (-1)) (by decide) ?_
          refine lv_ldc2 (v := 9) hx hb hown (hts (.constantLong RX11 91 (9)) w_185) dX11_trial_72 ?_
          refine my_bel (v := Int32.toInt64 9) (by decide) ?_
          refine rd_calli (va_runS (As := [.long (Int32.toInt64 a4), .long (Int32.toInt64 (-1)), .long (Int32.toInt64 9)]) (rest := []) ⟨hx, hb, hml, hown, hts⟩ (r_in l G g hg f a4 (-1) 9  ) (my_cwS hts ok_X11_in w_162 rfl rfl ⟨Nat.le_of_ble_eq_true rfl, Nat.le_of_ble_eq_true rfl⟩) ⟨bP.blind, fun U hU hW => ⟨rfl, by rw [hU]; exact hP, kG.warm hW hG⟩⟩ rfl rfl hl.1 rfl (lv_room (Nat.le_of_ble_eq_true rfl)) dX11_trial_75 ⟨Nat.le_of_ble_eq_true rfl, Nat.le_of_ble_eq_true rfl⟩) (fun r hr9 => ?_)
          subst hr9
          refine my_ifeq (tgt := 137) hx hb dX11_trial_78 (by decide) (fun c_78 => ?_) (fun c_78 => ?_)
          · refine lv_bipush (v := (-2)) hx hb dX11_trial_137 (by decide) ?_
            refine W_q9 hQ9 ?_
            exact W.iret (v := (-2)) hx hb hr (fun _ hT9 _ => ⟨⟨_, f, rfl, (⟨ss, mJ_mk (ab2) (be2) (sn) (wn) (sa) (ly) (rdy) (fd) (np) (nf) (nr) (na) (nt) (sp) (wi) (wa) (va) (bo) (ju) (dr) (dn) (sl) (ax) (lf) (wh) (w6) (b6) (hmo) (hss_) (him_) (hkq_) (hsp_) (hwi_) (hwa_) (hva_) (hbo_) (hju_) (hdr_) (hdn_) (hsl_) (hax_) (hlf_) (hwh_) (hw6_) (hb6_) (hst) (by omega) (hdn) (hi0) (hi1) (hrd), ⟨np, nf, nr, na, nt, hst, Or.inl ⟨fun z => c_78 z.2.2.2.1, rfl, rfl⟩⟩, fun j hj => rfl⟩), by rw [hT9]; exact hP⟩, hS.F hT9⟩) hS.2.2 dX11_trial_139
          · refine lv_iload hx hb dX11_trial_81 (lv_at hl 6 rfl) ?_
            refine lv_i2l hx hb dX11_trial_83 rfl ?_
            refine lv_ldc2 (v := (-1)) hx hb hown (hts (.constantLong RX11 194 (-1)) w_648) dX11_trial_84 ?_
            refine my_bel (v := Int32.toInt64 (-1)) (by decide) ?_
            refine lv_ldc2 (v := 9) hx hb hown (hts (.constantLong RX11 91 (9)) w_185) dX11_trial_87 ?_
            refine my_bel (v := Int32.toInt64 9) (by decide) ?_
            refine rd_calli (va_runS (As := [.long (Int32.toInt64 a5), .long (Int32.toInt64 (-1)), .long (Int32.toInt64 9)]) (rest := []) ⟨hx, hb, hml, hown, hts⟩ (r_in l G g hg f a5 (-1) 9  ) (my_cwS hts ok_X11_in w_162 rfl rfl ⟨Nat.le_of_ble_eq_true rfl, Nat.le_of_ble_eq_true rfl⟩) ⟨bP.blind, fun U hU hW => ⟨rfl, by rw [hU]; exact hP, kG.warm hW hG⟩⟩ rfl rfl hl.1 rfl (lv_room (Nat.le_of_ble_eq_true rfl)) dX11_trial_90 ⟨Nat.le_of_ble_eq_true rfl, Nat.le_of_ble_eq_true rfl⟩) (fun r hr9 => ?_)
            subst hr9
            refine my_ifeq (tgt := 137) hx hb dX11_trial_93 (by decide) (fun c_93 => ?_) (fun c_93 => ?_)
            · refine lv_bipush (v := (-2)) hx hb dX11_trial_137 (by decide) ?_
              refine W_q9 hQ9 ?_
              exact W.iret (v := (-2)) hx hb hr (fun _ hT9 _ => ⟨⟨_, f, rfl, (⟨ss, mJ_mk (ab2) (be2) (sn) (wn) (sa) (ly) (rdy) (fd) (np) (nf) (nr) (na) (nt) (sp) (wi) (wa) (va) (bo) (ju) (dr) (dn) (sl) (ax) (lf) (wh) (w6) (b6) (hmo) (hss_) (him_) (hkq_) (hsp_) (hwi_) (hwa_) (hva_) (hbo_) (hju_) (hdr_) (hdn_) (hsl_) (hax_) (hlf_) (hwh_) (hw6_) (hb6_) (hst) (by omega) (hdn) (hi0) (hi1) (hrd), ⟨np, nf, nr, na, nt, hst, Or.inl ⟨fun z => c_93 z.2.2.2.2.1, rfl, rfl⟩⟩, fun j hj => rfl⟩), by rw [hT9]; exact hP⟩, hS.F hT9⟩) hS.2.2 dX11_trial_139
            · refine lv_iload hx hb dX11_trial_96 (lv_at hl 7 rfl) ?_
              refine lv_i2l hx hb dX11_trial_98 rfl ?_
              refine lv_ldc2 (v := (-1)) hx hb hown (hts (.constantLong RX11 194 (-1)) w_648) dX11_trial_99 ?_
              refine my_bel (v := Int32.toInt64 (-1)) (by decide) ?_
              refine lv_ldc2 (v := 3) hx hb hown (hts (.constantLong RX11 77 (3)) w_159) dX11_trial_102 ?_
              refine my_bel (v := Int32.toInt64 3) (by decide) ?_
              refine rd_calli (va_runS (As := [.long (Int32.toInt64 a6), .long (Int32.toInt64 (-1)), .long (Int32.toInt64 3)]) (rest := []) ⟨hx, hb, hml, hown, hts⟩ (r_in l G g hg f a6 (-1) 3  ) (my_cwS hts ok_X11_in w_162 rfl rfl ⟨Nat.le_of_ble_eq_true rfl, Nat.le_of_ble_eq_true rfl⟩) ⟨bP.blind, fun U hU hW => ⟨rfl, by rw [hU]; exact hP, kG.warm hW hG⟩⟩ rfl rfl hl.1 rfl (lv_room (Nat.le_of_ble_eq_true rfl)) dX11_trial_105 ⟨Nat.le_of_ble_eq_true rfl, Nat.le_of_ble_eq_true rfl⟩) (fun r hr9 => ?_)
              subst hr9
              refine my_ifeq (tgt := 137) hx hb dX11_trial_108 (by decide) (fun c_108 => ?_) (fun c_108 => ?_)
              · refine lv_bipush (v := (-2)) hx hb dX11_trial_137 (by decide) ?_
                refine W_q9 hQ9 ?_
                exact W.iret (v := (-2)) hx hb hr (fun _ hT9 _ => ⟨⟨_, f, rfl, (⟨ss, mJ_mk (ab2) (be2) (sn) (wn) (sa) (ly) (rdy) (fd) (np) (nf) (nr) (na) (nt) (sp) (wi) (wa) (va) (bo) (ju) (dr) (dn) (sl) (ax) (lf) (wh) (w6) (b6) (hmo) (hss_) (him_) (hkq_) (hsp_) (hwi_) (hwa_) (hva_) (hbo_) (hju_) (hdr_) (hdn_) (hsl_) (hax_) (hlf_) (hwh_) (hw6_) (hb6_) (hst) (by omega) (hdn) (hi0) (hi1) (hrd), ⟨np, nf, nr, na, nt, hst, Or.inl ⟨fun z => c_108 z.2.2.2.2.2.1, rfl, rfl⟩⟩, fun j hj => rfl⟩), by rw [hT9]; exact hP⟩, hS.F hT9⟩) hS.2.2 dX11_trial_139
              · refine lv_iload hx hb dX11_trial_111 (lv_at hl 8 rfl) ?_
                refine lv_i2l hx hb dX11_trial_113 rfl ?_
                refine lv_lconst (v := 0) hx hb dX11_trial_114 (by decide) ?_
                refine my_bel (v := Int32.toInt64 0) (by decide) ?_
                refine lv_ldc2 (v := 4) hx hb hown (hts (.constantLong RX11 196 (4)) w_649) dX11_trial_115 ?_
                refine my_bel (v := Int32.toInt64 4) (by decide) ?_
                refine rd_calli (va_runS (As := [.long (Int32.toInt64 a7), .long (Int32.toInt64 0), .long (Int32.toInt64 4)]) (rest := []) ⟨hx, hb, hml, hown, hts⟩ (r_in l G g hg f a7 0 4  ) (my_cwS hts ok_X11_in w_162 rfl rfl ⟨Nat.le_of_ble_eq_true rfl, Nat.le_of_ble_eq_true rfl⟩) ⟨bP.blind, fun U hU hW => ⟨rfl, by rw [hU]; exact hP, kG.warm hW hG⟩⟩ rfl rfl hl.1 rfl (lv_room (Nat.le_of_ble_eq_true rfl)) dX11_trial_118 ⟨Nat.le_of_ble_eq_true rfl, Nat.le_of_ble_eq_true rfl⟩) (fun r hr9 => ?_)
                subst hr9
                refine my_ifeq (tgt := 137) hx hb dX11_trial_121 (by decide) (fun c_121 => ?_) (fun c_121 => ?_)
                · refine lv_bipush (v := (-2)) hx hb dX11_trial_137 (by decide) ?_
                  refine W_q9 hQ9 ?_
                  exact W.iret (v := (-2)) hx hb hr (fun _ hT9 _ => ⟨⟨_, f, rfl, (⟨ss, mJ_mk (ab2) (be2) (sn) (wn) (sa) (ly) (rdy) (fd) (np) (nf) (nr) (na) (nt) (sp) (wi) (wa) (va) (bo) (ju) (dr) (dn) (sl) (ax) (lf) (wh) (w6) (b6) (hmo) (hss_) (him_) (hkq_) (hsp_) (hwi_) (hwa_) (hva_) (hbo_) (hju_) (hdr_) (hdn_) (hsl_) (hax_) (hlf_) (hwh_) (hw6_) (hb6_) (hst) (by omega) (hdn) (hi0) (hi1) (hrd), ⟨np, nf, nr, na, nt, hst, Or.inl ⟨fun z => c_121 z.2.2.2.2.2.2.1, rfl, rfl⟩⟩, fun j hj => rfl⟩), by rw [hT9]; exact hP⟩, hS.F hT9⟩) hS.2.2 dX11_trial_139
                · refine lv_iload hx hb dX11_trial_124 (lv_at hl 10 rfl) ?_
                  refine lv_i2l hx hb dX11_trial_126 rfl ?_
                  refine lv_lconst (v := 1) hx hb dX11_trial_127 (by decide) ?_
                  refine my_bel (v := Int32.toInt64 1) (by decide) ?_
                  refine lv_ldc2 (v := 24) hx hb hown (hts (.constantLong RX11 198 (24)) w_650) dX11_trial_128 ?_
                  refine my_bel (v := Int32.toInt64 24) (by decide) ?_
                  refine rd_calli (va_runS (As := [.long (Int32.toInt64 a9), .long (Int32.toInt64 1), .long (Int32.toInt64 24)]) (rest := []) ⟨hx, hb, hml, hown, hts⟩ (r_in l G g hg f a9 1 24  ) (my_cwS hts ok_X11_in w_162 rfl rfl ⟨Nat.le_of_ble_eq_true rfl, Nat.le_of_ble_eq_true rfl⟩) ⟨bP.blind, fun U hU hW => ⟨rfl, by rw [hU]; exact hP, kG.warm hW hG⟩⟩ rfl rfl hl.1 rfl (lv_room (Nat.le_of_ble_eq_true rfl)) dX11_trial_131 ⟨Nat.le_of_ble_eq_true rfl, Nat.le_of_ble_eq_true rfl⟩) (fun r hr9 => ?_)
                  subst hr9
                  refine my_ifne (tgt := 140) hx hb dX11_trial_134 (by decide) (fun c_134 => ?_) (fun c_134 => ?_)
                  · obtain ⟨v7, hv7, rfl⟩ := inB_n (b := 4) (by omega) c_121
                    obtain ⟨v9, hv9, rfl⟩ := inB_1n (b := 24) (by omega) c_134
                    refine lv_aload_n hx hb dX11_trial_140 rfl (lv_at hl 1 rfl) ?_
                    refine va_get (D := G.1) (ci := 10) (v := .ref (g 316)) (C := RX11) (T := TX11) (N := 25) hx hb hts inlX11 hown hG.1 hP 315 (wl_at (by decide) hmo) rfl 0 (by decide) (hts (.fieldLink RX11 7 "SwornListsModel" "st" "[I") w_112) (fun _ h9 => h9) rfl dX11_trial_141 ?_
                    refine lv_iconst (v := 4) hx hb dX11_trial_144 (by decide) ?_
                    refine va_iald hx hb hG.1 hP 316 0 (wl_at (by decide) hss_) rfl (by unfold vp_in; decide) dX11_trial_145 ?_
                    refine my_bei (v := ss 4) (rfl) ?_
                    refine my_bei (v := nI nt) (hst.h4) ?_
                    refine lv_bipush (v := 10) hx hb dX11_trial_146 (by decide) ?_
                    refine lv_icmp_ne (tgt := 154) hx hb dX11_trial_148 (by decide) (fun c_148 => ?_) (fun c_148 => ?_)
                    · have k_148 : ¬ nt = 10 := fun z9 => c_148 ((nI_eq (a := nt) (b := 10) (by omega) (by omega)).mpr z9)
                      refine lv_sipush (v := 1546) hx hb dX11_trial_154 (by decide) ?_
                      refine lv_bipush (v := 10) hx hb dX11_trial_157 (by decide) ?_
                      refine lv_aload_n hx hb dX11_trial_159 rfl (lv_at hl 1 rfl) ?_
                      refine va_get (D := G.1) (ci := 10) (v := .ref (g 316)) (C := RX11) (T := TX11) (N := 25) hx hb hts inlX11 hown hG.1 hP 315 (wl_at (by decide) hmo) rfl 0 (by decide) (hts (.fieldLink RX11 7 "SwornListsModel" "st" "[I") w_112) (fun _ h9 => h9) rfl dX11_trial_160 ?_
                      refine lv_iconst (v := 4) hx hb dX11_trial_163 (by decide) ?_
                      refine va_iald hx hb hG.1 hP 316 0 (wl_at (by decide) hss_) rfl (by unfold vp_in; decide) dX11_trial_164 ?_
                      refine my_bei (v := ss 4) (rfl) ?_
                      refine my_bei (v := nI nt) (hst.h4) ?_
                      refine lv_imul hx hb dX11_trial_165 ?_
                      refine my_bei (v := nI (10 * nt)) (pk_mul 10 nt) ?_
                      refine lv_iadd hx hb dX11_trial_166 ?_
                      refine my_bei (v := nI (10 * nt + 1546)) ((nI_add 1546 (10 * nt)).trans (congrArg nI (show 1546 + (10 * nt) = 10 * nt + 1546 by omega))) ?_
                      refine lv_istore (lv' := [(11, .int (nI (10 * nt + 1546))), (10, .int 0), (0, .ref (g 315)), (1, .int a1), (2, .int a2), (3, .int a3), (4, .int a4), (5, .int a5), (6, .int a6), (7, .int (nI v7)), (8, .int a8), (9, .int (nI v9))]) hx hb dX11_trial_167 hl (by decide) rfl (fun ls hl => ?_)
                      refine lv_aload_n hx hb dX11_trial_169 rfl (lv_at hl 2 rfl) ?_
                      refine va_get (D := G.1) (ci := 10) (v := .ref (g 316)) (C := RX11) (T := TX11) (N := 25) hx hb hts inlX11 hown hG.1 hP 315 (wl_at (by decide) hmo) rfl 0 (by decide) (hts (.fieldLink RX11 7 "SwornListsModel" "st" "[I") w_112) (fun _ h9 => h9) rfl dX11_trial_170 ?_
                      refine lv_iload hx hb dX11_trial_173 (lv_at hl 0 rfl) ?_
                      refine lv_iload_n hx hb dX11_trial_175 rfl (lv_at hl 3 rfl) ?_
                      refine va_iast hx hb hG.1 hP (wl_D hg f) hS 316 0 (wl_at (by decide) hss_) rfl (vp_in_nI (by omega) (by decide)) dX11_trial_176 (fun H locs hP _ hS => ?_)
                      have hP := (congrArg (fun z9 => va_P G.1 vwCl ((wl g f).set 316 (g 316, eI G 2246 ((upd ss z9 a1)))) H) (show Int32.toNatClampNeg (nI (10 * nt + 1546)) = 10 * nt + 1546 from nI_clamp (by omega))).mp hP
                      obtain ⟨f_14, hP, e_14, o_14⟩ := b_put (by decide) hP
                      have hss_ : f_14 316 = eI G 2246 (upd ss (10 * nt + 1546) a1) := e_14
                      refine lv_aload_n hx hb dX11_trial_177 rfl (lv_at hl 2 rfl) ?_
                      replace hmo := ((o_14 315 (by decide))).trans hmo
                      refine va_get (D := G.1) (ci := 10) (v := .ref (g 316)) (C := RX11) (T := TX11) (N := 25) hx hb hts inlX11 hown hG.1 hP 315 (wl_at (by decide) hmo) rfl 0 (by decide) (hts (.fieldLink RX11 7 "SwornListsModel" "st" "[I") w_112) (fun _ h9 => h9) rfl dX11_trial_178 ?_
                      refine lv_iload hx hb dX11_trial_181 (lv_at hl 0 rfl) ?_
                      refine lv_iconst (v := 1) hx hb dX11_trial_183 (by decide) ?_
                      refine lv_iadd hx hb dX11_trial_184 ?_
                      refine my_bei (v := nI (10 * nt + 1547)) ((nI_add (10 * nt + 1546) 1).trans (congrArg nI (show (10 * nt + 1546) + 1 = 10 * nt + 1547 by omega))) ?_
                      refine lv_iload_n hx hb dX11_trial_185 rfl (lv_at hl 4 rfl) ?_
                      refine va_iast hx hb hG.1 hP (wl_D hg f_14) hS 316 0 (wl_at (by decide) hss_) rfl (vp_in_nI (by omega) (by decide)) dX11_trial_186 (fun H locs hP _ hS => ?_)
                      have hP := (congrArg (fun z9 => va_P G.1 vwCl ((wl g f_14).set 316 (g 316, eI G 2246 ((upd (upd ss (10 * nt + 1546) a1) z9 a2)))) H) (show Int32.toNatClampNeg (nI (10 * nt + 1547)) = 10 * nt + 1547 from nI_clamp (by omega))).mp hP
                      obtain ⟨f_15, hP, e_15, o_15⟩ := b_put (by decide) hP
                      have hss_ : f_15 316 = eI G 2246 (upd (upd ss (10 * nt + 1546) a1) (10 * nt + 1547) a2) := e_15
                      refine lv_aload_n hx hb dX11_trial_187 rfl (lv_at hl 2 rfl) ?_
                      replace hmo := ((o_15 315 (by decide))).trans hmo
                      refine va_get (D := G.1) (ci := 10) (v := .ref (g 316)) (C := RX11) (T := TX11) (N := 25) hx hb hts inlX11 hown hG.1 hP 315 (wl_at (by decide) hmo) rfl 0 (by decide) (hts (.fieldLink RX11 7 "SwornListsModel" "st" "[I") w_112) (fun _ h9 => h9) rfl dX11_trial_188 ?_
                      refine lv_iload hx hb dX11_trial_191 (lv_at hl 0 rfl) ?_
                      refine lv_iconst (v := 2) hx hb dX11_trial_193 (by decide) ?_
                      refine lv_iadd hx hb dX11_trial_194 ?_
                      refine my_bei (v := nI (10 * nt + 1548)) ((nI_add (10 * nt + 1546) 2).trans (congrArg nI (show (10 * nt + 1546) + 2 = 10 * nt + 1548 by omega))) ?_
                      refine lv_iload_n hx hb dX11_trial_195 rfl (lv_at hl 5 rfl) ?_
                      refine va_iast hx hb hG.1 hP (wl_D hg f_15) hS 316 0 (wl_at (by decide) hss_) rfl (vp_in_nI (by omega) (by decide)) dX11_trial_196 (fun H locs hP _ hS => ?_)
                      have hP := (congrArg (fun z9 => va_P G.1 vwCl ((wl g f_15).set 316 (g 316, eI G 2246 ((upd (upd (upd ss (10 * nt + 1546) a1) (10 * nt + 1547) a2) z9 a3)))) H) (show Int32.toNatClampNeg (nI (10 * nt + 1548)) = 10 * nt + 1548 from nI_clamp (by omega))).mp hP
                      obtain ⟨f_16, hP, e_16, o_16⟩ := b_put (by decide) hP
                      have hss_ : f_16 316 = eI G 2246 (upd (upd (upd ss (10 * nt + 1546) a1) (10 * nt + 1547) a2) (10 * nt + 1548) a3) := e_16
                      refine lv_aload_n hx hb dX11_trial_197 rfl (lv_at hl 2 rfl) ?_
                      replace hmo := ((o_16 315 (by decide))).trans hmo
                      refine va_get (D := G.1) (ci := 10) (v := .ref (g 316)) (C := RX11) (T := TX11) (N := 25) hx hb hts inlX11 hown hG.1 hP 315 (wl_at (by decide) hmo) rfl 0 (by decide) (hts (.fieldLink RX11 7 "SwornListsModel" "st" "[I") w_112) (fun _ h9 => h9) rfl dX11_trial_198 ?_
                      refine lv_iload hx hb dX11_trial_201 (lv_at hl 0 rfl) ?_
                      refine lv_iconst (v := 3) hx hb dX11_trial_203 (by decide) ?_
                      refine lv_iadd hx hb dX11_trial_204 ?_
                      refine my_bei (v := nI (10 * nt + 1549)) ((nI_add (10 * nt + 1546) 3).trans (congrArg nI (show (10 * nt + 1546) + 3 = 10 * nt + 1549 by omega))) ?_
                      refine lv_iload hx hb dX11_trial_205 (lv_at hl 6 rfl) ?_
                      refine va_iast hx hb hG.1 hP (wl_D hg f_16) hS 316 0 (wl_at (by decide) hss_) rfl (vp_in_nI (by omega) (by decide)) dX11_trial_207 (fun H locs hP _ hS => ?_)
                      have hP := (congrArg (fun z9 => va_P G.1 vwCl ((wl g f_16).set 316 (g 316, eI G 2246 ((upd (upd (upd (upd ss (10 * nt + 1546) a1) (10 * nt + 1547) a2) (10 * nt + 1548) a3) z9 a4)))) H) (show Int32.toNatClampNeg (nI (10 * nt + 1549)) = 10 * nt + 1549 from nI_clamp (by omega))).mp hP
                      obtain ⟨f_17, hP, e_17, o_17⟩ := b_put (by decide) hP
                      have hss_ : f_17 316 = eI G 2246 (upd (upd (upd (upd ss (10 * nt + 1546) a1) (10 * nt + 1547) a2) (10 * nt + 1548) a3) (10 * nt + 1549) a4) := e_17
                      refine lv_aload_n hx hb dX11_trial_208 rfl (lv_at hl 2 rfl) ?_
                      replace hmo := ((o_17 315 (by decide))).trans hmo
                      refine va_get (D := G.1) (ci := 10) (v := .ref (g 316)) (C := RX11) (T := TX11) (N := 25) hx hb hts inlX11 hown hG.1 hP 315 (wl_at (by decide) hmo) rfl 0 (by decide) (hts (.fieldLink RX11 7 "SwornListsModel" "st" "[I") w_112) (fun _ h9 => h9) rfl dX11_trial_209 ?_
                      refine lv_iload hx hb dX11_trial_212 (lv_at hl 0 rfl) ?_
                      refine lv_iconst (v := 3) hx hb dX11_trial_214 (by decide) ?_
                      refine lv_iadd hx hb dX11_trial_215 ?_
                      refine my_bei (v := nI (10 * nt + 1549)) ((nI_add (10 * nt + 1546) 3).trans (congrArg nI (show (10 * nt + 1546) + 3 = 10 * nt + 1549 by omega))) ?_
                      refine lv_iconst (v := 1) hx hb dX11_trial_216 (by decide) ?_
                      refine lv_iadd hx hb dX11_trial_217 ?_
                      refine my_bei (v := nI (10 * nt + 1550)) ((nI_add (10 * nt + 1549) 1).trans (congrArg nI (show (10 * nt + 1549) + 1 = 10 * nt + 1550 by omega))) ?_
                      refine lv_iload hx hb dX11_trial_218 (lv_at hl 7 rfl) ?_
                      refine va_iast hx hb hG.1 hP (wl_D hg f_17) hS 316 0 (wl_at (by decide) hss_) rfl (vp_in_nI (by omega) (by decide)) dX11_trial_220 (fun H locs hP _ hS => ?_)
                      have hP := (congrArg (fun z9 => va_P G.1 vwCl ((wl g f_17).set 316 (g 316, eI G 2246 ((upd (upd (upd (upd (upd ss (10 * nt + 1546) a1) (10 * nt + 1547) a2) (10 * nt + 1548) a3) (10 * nt + 1549) a4) z9 a5)))) H) (show Int32.toNatClampNeg (nI (10 * nt + 1550)) = 10 * nt + 1550 from nI_clamp (by omega))).mp hP
                      obtain ⟨f_18, hP, e_18, o_18⟩ := b_put (by decide) hP
                      have hss_ : f_18 316 = eI G 2246 (upd (upd (upd (upd (upd ss (10 * nt + 1546) a1) (10 * nt + 1547) a2) (10 * nt + 1548) a3) (10 * nt + 1549) a4) (10 * nt + 1550) a5) := e_18
                      refine lv_aload_n hx hb dX11_trial_221 rfl (lv_at hl 2 rfl) ?_
                      replace hmo := ((o_18 315 (by decide))).trans hmo
                      refine va_get (D := G.1) (ci := 10) (v := .ref (g 316)) (C := RX11) (T := TX11) (N := 25) hx hb hts inlX11 hown hG.1 hP 315 (wl_at (by decide) hmo) rfl 0 (by decide) (hts (.fieldLink RX11 7 "SwornListsModel" "st" "[I") w_112) (fun _ h9 => h9) rfl dX11_trial_222 ?_
                      refine lv_iload hx hb dX11_trial_225 (lv_at hl 0 rfl) ?_
                      refine lv_iconst (v := 5) hx hb dX11_trial_227 (by decide) ?_
                      refine lv_iadd hx hb dX11_trial_228 ?_
                      refine my_bei (v := nI (10 * nt + 1551)) ((nI_add (10 * nt + 1546) 5).trans (congrArg nI (show (10 * nt + 1546) + 5 = 10 * nt + 1551 by omega))) ?_
                      refine lv_iload hx hb dX11_trial_229 (lv_at hl 8 rfl) ?_
                      refine va_iast hx hb hG.1 hP (wl_D hg f_18) hS 316 0 (wl_at (by decide) hss_) rfl (vp_in_nI (by omega) (by decide)) dX11_trial_231 (fun H locs hP _ hS => ?_)
                      have hP := (congrArg (fun z9 => va_P G.1 vwCl ((wl g f_18).set 316 (g 316, eI G 2246 ((upd (upd (upd (upd (upd (upd ss (10 * nt + 1546) a1) (10 * nt + 1547) a2) (10 * nt + 1548) a3) (10 * nt + 1549) a4) (10 * nt + 1550) a5) z9 a6)))) H) (show Int32.toNatClampNeg (nI (10 * nt + 1551)) = 10 * nt + 1551 from nI_clamp (by omega))).mp hP
                      obtain ⟨f_19, hP, e_19, o_19⟩ := b_put (by decide) hP
                      have hss_ : f_19 316 = eI G 2246 (upd (upd (upd (upd (upd (upd ss (10 * nt + 1546) a1) (10 * nt + 1547) a2) (10 * nt + 1548) a3) (10 * nt + 1549) a4) (10 * nt + 1550) a5) (10 * nt + 1551) a6) := e_19
                      refine lv_aload_n hx hb dX11_trial_232 rfl (lv_at hl 2 rfl) ?_
                      replace hmo := ((o_19 315 (by decide))).trans hmo
                      refine va_get (D := G.1) (ci := 10) (v := .ref (g 316)) (C := RX11) (T := TX11) (N := 25) hx hb hts inlX11 hown hG.1 hP 315 (wl_at (by decide) hmo) rfl 0 (by decide) (hts (.fieldLink RX11 7 "SwornListsModel" "st" "[I") w_112) (fun _ h9 => h9) rfl dX11_trial_233 ?_
                      refine lv_iload hx hb dX11_trial_236 (lv_at hl 0 rfl) ?_
                      refine lv_bipush (v := 6) hx hb dX11_trial_238 (by decide) ?_
                      refine lv_iadd hx hb dX11_trial_240 ?_
                      refine my_bei (v := nI (10 * nt + 1552)) ((nI_add (10 * nt + 1546) 6).trans (congrArg nI (show (10 * nt + 1546) + 6 = 10 * nt + 1552 by omega))) ?_
                      refine lv_iload hx hb dX11_trial_241 (lv_at hl 9 rfl) ?_
                      refine va_iast hx hb hG.1 hP (wl_D hg f_19) hS 316 0 (wl_at (by decide) hss_) rfl (vp_in_nI (by omega) (by decide)) dX11_trial_243 (fun H locs hP _ hS => ?_)
                      have hP := (congrArg (fun z9 => va_P G.1 vwCl ((wl g f_19).set 316 (g 316, eI G 2246 ((upd (upd (upd (upd (upd (upd (upd ss (10 * nt + 1546) a1) (10 * nt + 1547) a2) (10 * nt + 1548) a3) (10 * nt + 1549) a4) (10 * nt + 1550) a5) (10 * nt + 1551) a6) z9 (nI v7))))) H) (show Int32.toNatClampNeg (nI (10 * nt + 1552)) = 10 * nt + 1552 from nI_clamp (by omega))).mp hP
                      obtain ⟨f_20, hP, e_20, o_20⟩ := b_put (by decide) hP
                      have hss_ : f_20 316 = eI G 2246 (upd (upd (upd (upd (upd (upd (upd ss (10 * nt + 1546) a1) (10 * nt + 1547) a2) (10 * nt + 1548) a3) (10 * nt + 1549) a4) (10 * nt + 1550) a5) (10 * nt + 1551) a6) (10 * nt + 1552) (nI v7)) := e_20
                      refine lv_aload_n hx hb dX11_trial_244 rfl (lv_at hl 2 rfl) ?_
                      replace hmo := ((o_20 315 (by decide))).trans hmo
                      refine va_get (D := G.1) (ci := 10) (v := .ref (g 316)) (C := RX11) (T := TX11) (N := 25) hx hb hts inlX11 hown hG.1 hP 315 (wl_at (by decide) hmo) rfl 0 (by decide) (hts (.fieldLink RX11 7 "SwornListsModel" "st" "[I") w_112) (fun _ h9 => h9) rfl dX11_trial_245 ?_
                      refine lv_iload hx hb dX11_trial_248 (lv_at hl 0 rfl) ?_
                      refine lv_bipush (v := 7) hx hb dX11_trial_250 (by decide) ?_
                      refine lv_iadd hx hb dX11_trial_252 ?_
                      refine my_bei (v := nI (10 * nt + 1553)) ((nI_add (10 * nt + 1546) 7).trans (congrArg nI (show (10 * nt + 1546) + 7 = 10 * nt + 1553 by omega))) ?_
                      refine lv_iload hx hb dX11_trial_253 (lv_at hl 10 rfl) ?_
                      refine va_iast hx hb hG.1 hP (wl_D hg f_20) hS 316 0 (wl_at (by decide) hss_) rfl (vp_in_nI (by omega) (by decide)) dX11_trial_255 (fun H locs hP _ hS => ?_)
                      have hP := (congrArg (fun z9 => va_P G.1 vwCl ((wl g f_20).set 316 (g 316, eI G 2246 ((upd (upd (upd (upd (upd (upd (upd (upd ss (10 * nt + 1546) a1) (10 * nt + 1547) a2) (10 * nt + 1548) a3) (10 * nt + 1549) a4) (10 * nt + 1550) a5) (10 * nt + 1551) a6) (10 * nt + 1552) (nI v7)) z9 a8)))) H) (show Int32.toNatClampNeg (nI (10 * nt + 1553)) = 10 * nt + 1553 from nI_clamp (by omega))).mp hP
                      obtain ⟨f_21, hP, e_21, o_21⟩ := b_put (by decide) hP
                      have hss_ : f_21 316 = eI G 2246 (upd (upd (upd (upd (upd (upd (upd (upd ss (10 * nt + 1546) a1) (10 * nt + 1547) a2) (10 * nt + 1548) a3) (10 * nt + 1549) a4) (10 * nt + 1550) a5) (10 * nt + 1551) a6) (10 * nt + 1552) (nI v7)) (10 * nt + 1553) a8) := e_21
                      refine lv_aload_n hx hb dX11_trial_256 rfl (lv_at hl 2 rfl) ?_
                      replace hmo := ((o_21 315 (by decide))).trans hmo
                      refine va_get (D := G.1) (ci := 10) (v := .ref (g 316)) (C := RX11) (T := TX11) (N := 25) hx hb hts inlX11 hown hG.1 hP 315 (wl_at (by decide) hmo) rfl 0 (by decide) (hts (.fieldLink RX11 7 "SwornListsModel" "st" "[I") w_112) (fun _ h9 => h9) rfl dX11_trial_257 ?_
                      refine lv_iload hx hb dX11_trial_260 (lv_at hl 0 rfl) ?_
                      refine lv_bipush (v := 8) hx hb dX11_trial_262 (by decide) ?_
                      refine lv_iadd hx hb dX11_trial_264 ?_
                      refine my_bei (v := nI (10 * nt + 1554)) ((nI_add (10 * nt + 1546) 8).trans (congrArg nI (show (10 * nt + 1546) + 8 = 10 * nt + 1554 by omega))) ?_
                      refine lv_iload hx hb dX11_trial_265 (lv_at hl 11 rfl) ?_
                      refine va_iast hx hb hG.1 hP (wl_D hg f_21) hS 316 0 (wl_at (by decide) hss_) rfl (vp_in_nI (by omega) (by decide)) dX11_trial_267 (fun H locs hP _ hS => ?_)
                      have hP := (congrArg (fun z9 => va_P G.1 vwCl ((wl g f_21).set 316 (g 316, eI G 2246 ((upd (upd (upd (upd (upd (upd (upd (upd (upd ss (10 * nt + 1546) a1) (10 * nt + 1547) a2) (10 * nt + 1548) a3) (10 * nt + 1549) a4) (10 * nt + 1550) a5) (10 * nt + 1551) a6) (10 * nt + 1552) (nI v7)) (10 * nt + 1553) a8) z9 (nI v9))))) H) (show Int32.toNatClampNeg (nI (10 * nt + 1554)) = 10 * nt + 1554 from nI_clamp (by omega))).mp hP
                      obtain ⟨f_22, hP, e_22, o_22⟩ := b_put (by decide) hP
                      have hss_ : f_22 316 = eI G 2246 (upd (upd (upd (upd (upd (upd (upd (upd (upd ss (10 * nt + 1546) a1) (10 * nt + 1547) a2) (10 * nt + 1548) a3) (10 * nt + 1549) a4) (10 * nt + 1550) a5) (10 * nt + 1551) a6) (10 * nt + 1552) (nI v7)) (10 * nt + 1553) a8) (10 * nt + 1554) (nI v9)) := e_22
                      refine lv_aload_n hx hb dX11_trial_268 rfl (lv_at hl 2 rfl) ?_
                      replace hmo := ((o_22 315 (by decide))).trans hmo
                      refine va_get (D := G.1) (ci := 10) (v := .ref (g 316)) (C := RX11) (T := TX11) (N := 25) hx hb hts inlX11 hown hG.1 hP 315 (wl_at (by decide) hmo) rfl 0 (by decide) (hts (.fieldLink RX11 7 "SwornListsModel" "st" "[I") w_112) (fun _ h9 => h9) rfl dX11_trial_269 ?_
                      refine lv_iload hx hb dX11_trial_272 (lv_at hl 0 rfl) ?_
                      refine lv_bipush (v := 9) hx hb dX11_trial_274 (by decide) ?_
                      refine lv_iadd hx hb dX11_trial_276 ?_
                      refine my_bei (v := nI (10 * nt + 1555)) ((nI_add (10 * nt + 1546) 9).trans (congrArg nI (show (10 * nt + 1546) + 9 = 10 * nt + 1555 by omega))) ?_
                      refine lv_iconst (v := 0) hx hb dX11_trial_277 (by decide) ?_
                      refine va_iast hx hb hG.1 hP (wl_D hg f_22) hS 316 0 (wl_at (by decide) hss_) rfl (vp_in_nI (by omega) (by decide)) dX11_trial_278 (fun H locs hP _ hS => ?_)
                      have hP := (congrArg (fun z9 => va_P G.1 vwCl ((wl g f_22).set 316 (g 316, eI G 2246 ((upd (upd (upd (upd (upd (upd (upd (upd (upd (upd ss (10 * nt + 1546) a1) (10 * nt + 1547) a2) (10 * nt + 1548) a3) (10 * nt + 1549) a4) (10 * nt + 1550) a5) (10 * nt + 1551) a6) (10 * nt + 1552) (nI v7)) (10 * nt + 1553) a8) (10 * nt + 1554) (nI v9)) z9 0)))) H) (show Int32.toNatClampNeg (nI (10 * nt + 1555)) = 10 * nt + 1555 from nI_clamp (by omega))).mp hP
                      obtain ⟨f_23, hP, e_23, o_23⟩ := b_put (by decide) hP
                      have hss_ : f_23 316 = eI G 2246 (upd (upd (upd (upd (upd (upd (upd (upd (upd (upd ss (10 * nt + 1546) a1) (10 * nt + 1547) a2) (10 * nt + 1548) a3) (10 * nt + 1549) a4) (10 * nt + 1550) a5) (10 * nt + 1551) a6) (10 * nt + 1552) (nI v7)) (10 * nt + 1553) a8) (10 * nt + 1554) (nI v9)) (10 * nt + 1555) 0) := e_23
                      refine lv_iconst (v := 0) hx hb dX11_trial_279 (by decide) ?_
                      refine lv_istore (lv' := [(12, .int 0), (11, .int (nI (10 * nt + 1546))), (10, .int 0), (0, .ref (g 315)), (1, .int a1), (2, .int a2), (3, .int a3), (4, .int a4), (5, .int a5), (6, .int a6), (7, .int (nI v7)), (8, .int a8), (9, .int (nI v9))]) hx hb dX11_trial_280 hl (by decide) rfl (fun ls hl => ?_)
                      replace hmo := ((o_23 315 (by decide))).trans hmo
                      replace him_ := ((o_23 317 (by decide)).trans ((o_22 317 (by decide)).trans ((o_21 317 (by decide)).trans ((o_20 317 (by decide)).trans ((o_19 317 (by decide)).trans ((o_18 317 (by decide)).trans ((o_17 317 (by decide)).trans ((o_16 317 (by decide)).trans ((o_15 317 (by decide)).trans ((o_14 317 (by decide)))))))))))).trans him_
                      replace hkq_ := ((o_23 318 (by decide)).trans ((o_22 318 (by decide)).trans ((o_21 318 (by decide)).trans ((o_20 318 (by decide)).trans ((o_19 318 (by decide)).trans ((o_18 318 (by decide)).trans ((o_17 318 (by decide)).trans ((o_16 318 (by decide)).trans ((o_15 318 (by decide)).trans ((o_14 318 (by decide)))))))))))).trans hkq_
                      replace hsp_ := ((o_23 319 (by decide)).trans ((o_22 319 (by decide)).trans ((o_21 319 (by decide)).trans ((o_20 319 (by decide)).trans ((o_19 319 (by decide)).trans ((o_18 319 (by decide)).trans ((o_17 319 (by decide)).trans ((o_16 319 (by decide)).trans ((o_15 319 (by decide)).trans ((o_14 319 (by decide)))))))))))).trans hsp_
                      replace hwi_ := ((o_23 320 (by decide)).trans ((o_22 320 (by decide)).trans ((o_21 320 (by decide)).trans ((o_20 320 (by decide)).trans ((o_19 320 (by decide)).trans ((o_18 320 (by decide)).trans ((o_17 320 (by decide)).trans ((o_16 320 (by decide)).trans ((o_15 320 (by decide)).trans ((o_14 320 (by decide)))))))))))).trans hwi_
                      replace hwa_ := ((o_23 321 (by decide)).trans ((o_22 321 (by decide)).trans ((o_21 321 (by decide)).trans ((o_20 321 (by decide)).trans ((o_19 321 (by decide)).trans ((o_18 321 (by decide)).trans ((o_17 321 (by decide)).trans ((o_16 321 (by decide)).trans ((o_15 321 (by decide)).trans ((o_14 321 (by decide)))))))))))).trans hwa_
                      replace hva_ := ((o_23 322 (by decide)).trans ((o_22 322 (by decide)).trans ((o_21 322 (by decide)).trans ((o_20 322 (by decide)).trans ((o_19 322 (by decide)).trans ((o_18 322 (by decide)).trans ((o_17 322 (by decide)).trans ((o_16 322 (by decide)).trans ((o_15 322 (by decide)).trans ((o_14 322 (by decide)))))))))))).trans hva_
                      replace hbo_ := ((o_23 323 (by decide)).trans ((o_22 323 (by decide)).trans ((o_21 323 (by decide)).trans ((o_20 323 (by decide)).trans ((o_19 323 (by decide)).trans ((o_18 323 (by decide)).trans ((o_17 323 (by decide)).trans ((o_16 323 (by decide)).trans ((o_15 323 (by decide)).trans ((o_14 323 (by decide)))))))))))).trans hbo_
                      replace hju_ := ((o_23 324 (by decide)).trans ((o_22 324 (by decide)).trans ((o_21 324 (by decide)).trans ((o_20 324 (by decide)).trans ((o_19 324 (by decide)).trans ((o_18 324 (by decide)).trans ((o_17 324 (by decide)).trans ((o_16 324 (by decide)).trans ((o_15 324 (by decide)).trans ((o_14 324 (by decide)))))))))))).trans hju_
                      replace hdr_ := ((o_23 325 (by decide)).trans ((o_22 325 (by decide)).trans ((o_21 325 (by decide)).trans ((o_20 325 (by decide)).trans ((o_19 325 (by decide)).trans ((o_18 325 (by decide)).trans ((o_17 325 (by decide)).trans ((o_16 325 (by decide)).trans ((o_15 325 (by decide)).trans ((o_14 325 (by decide)))))))))))).trans hdr_
                      replace hdn_ := ((o_23 326 (by decide)).trans ((o_22 326 (by decide)).trans ((o_21 326 (by decide)).trans ((o_20 326 (by decide)).trans ((o_19 326 (by decide)).trans ((o_18 326 (by decide)).trans ((o_17 326 (by decide)).trans ((o_16 326 (by decide)).trans ((o_15 326 (by decide)).trans ((o_14 326 (by decide)))))))))))).trans hdn_
                      replace hsl_ := ((o_23 327 (by decide)).trans ((o_22 327 (by decide)).trans ((o_21 327 (by decide)).trans ((o_20 327 (by decide)).trans ((o_19 327 (by decide)).trans ((o_18 327 (by decide)).trans ((o_17 327 (by decide)).trans ((o_16 327 (by decide)).trans ((o_15 327 (by decide)).trans ((o_14 327 (by decide)))))))))))).trans hsl_
                      replace hax_ := ((o_23 328 (by decide)).trans ((o_22 328 (by decide)).trans ((o_21 328 (by decide)).trans ((o_20 328 (by decide)).trans ((o_19 328 (by decide)).trans ((o_18 328 (by decide)).trans ((o_17 328 (by decide)).trans ((o_16 328 (by decide)).trans ((o_15 328 (by decide)).trans ((o_14 328 (by decide)))))))))))).trans hax_
                      replace hlf_ := ((o_23 329 (by decide)).trans ((o_22 329 (by decide)).trans ((o_21 329 (by decide)).trans ((o_20 329 (by decide)).trans ((o_19 329 (by decide)).trans ((o_18 329 (by decide)).trans ((o_17 329 (by decide)).trans ((o_16 329 (by decide)).trans ((o_15 329 (by decide)).trans ((o_14 329 (by decide)))))))))))).trans hlf_
                      replace hwh_ := ((o_23 330 (by decide)).trans ((o_22 330 (by decide)).trans ((o_21 330 (by decide)).trans ((o_20 330 (by decide)).trans ((o_19 330 (by decide)).trans ((o_18 330 (by decide)).trans ((o_17 330 (by decide)).trans ((o_16 330 (by decide)).trans ((o_15 330 (by decide)).trans ((o_14 330 (by decide)))))))))))).trans hwh_
                      replace hw6_ := ((o_23 331 (by decide)).trans ((o_22 331 (by decide)).trans ((o_21 331 (by decide)).trans ((o_20 331 (by decide)).trans ((o_19 331 (by decide)).trans ((o_18 331 (by decide)).trans ((o_17 331 (by decide)).trans ((o_16 331 (by decide)).trans ((o_15 331 (by decide)).trans ((o_14 331 (by decide)))))))))))).trans hw6_
                      replace hb6_ := ((o_23 332 (by decide)).trans ((o_22 332 (by decide)).trans ((o_21 332 (by decide)).trans ((o_20 332 (by decide)).trans ((o_19 332 (by decide)).trans ((o_18 332 (by decide)).trans ((o_17 332 (by decide)).trans ((o_16 332 (by decide)).trans ((o_15 332 (by decide)).trans ((o_14 332 (by decide)))))))))))).trans hb6_
                      have key3 : ∀ (n9_3 : Nat) (i : Nat) (s5 : Nat → Int32) (f_24 : Nat → va_E) (H : Heap) (locs : List Loc) (ls : Array Slot), (i ≤ 60) → (∀ j, j < 1646 → s5 j = (upd (upd (upd (upd (upd (upd (upd (upd (upd (upd ss (10 * nt + 1546) a1) (10 * nt + 1547) a2) (10 * nt + 1548) a3) (10 * nt + 1549) a4) (10 * nt + 1550) a5) (10 * nt + 1551) a6) (10 * nt + 1552) (nI v7)) (10 * nt + 1553) a8) (10 * nt + 1554) (nI v9)) (10 * nt + 1555) 0) j) → (∀ j, 1646 ≤ j → (j < 60 * nt + 1646 ∨ i + 60 * nt + 1646 ≤ j) → s5 j = (upd (upd (upd (upd (upd (upd (upd (upd (upd (upd ss (10 * nt + 1546) a1) (10 * nt + 1547) a2) (10 * nt + 1548) a3) (10 * nt + 1549) a4) (10 * nt + 1550) a5) (10 * nt + 1551) a6) (10 * nt + 1552) (nI v7)) (10 * nt + 1553) a8) (10 * nt + 1554) (nI v9)) (10 * nt + 1555) 0) j) → (∀ q, q < i → s5 (q + 60 * nt + 1646) = 0) → 60 - i < n9_3 → f_24 315 = eO 10 [.ref (g 316), .ref (g 317), .ref (g 318), .long ab2, .long be2, .int sn, .ref (g 319), .ref (g 320), .int wn, .ref (g 321), .ref (g 322), .int sa, .int ly, .int rdy, .int (nI fd), .ref (g 323), .ref (g 324), .ref (g 325), .ref (g 326), .ref (g 327), .ref (g 328), .ref (g 329), .ref (g 330), .ref (g 331), .ref (g 332)] → f_24 316 = eI G 2246 s5 → f_24 317 = eI G 4492 im → f_24 318 = eZ G 2 kq → f_24 319 = eI G 70 sp → f_24 320 = eI G 70 wi → f_24 321 = eI G 70 wa → f_24 322 = eJ G 70 va → f_24 323 = eI G 11 bo → f_24 324 = eI G 11 ju → f_24 325 = eI G 264 dr → f_24 326 = eI G 11 dn → f_24 327 = eI G 330 sl → f_24 328 = eI G 44 ax → f_24 329 = eI G 30 lf → f_24 330 = eI G 6 wh → f_24 331 = eI G 6 w6 → f_24 332 = eI G 6 b6 → (∀ j, j ≠ 316 → f_24 j = f_23 j) → va_P G.1 vwCl (wl g f_24) H → va_S (gA g) s.heap H locs → lv_has ls 13 [(0, .ref (g 315)), (12, .int (nI i))] → W p l e (headSpec (wsT yX11_trial cX11_trial 13 (some .int)) ({ frames := 1, cells := 0, slots := 0, locals := 25 })).room s m ([.ref (g 315), .int a1, .int a2, .int a3, .int a4, .int a5, .int a6, .int (nI v7), .int a8, .int (nI v9)] : List Value).toArray below meth c H locs 0 0 Q9 (F0 m 282 ls []) := by
                        intro n9_3
                        induction n9_3 with
                        | zero => intro i s5 f_24 H locs ls hi ha5 hb5 hc5 hn9_3; exact absurd hn9_3 (Nat.not_lt_zero _)
                        | succ n9_3 ih_3 =>
                          intro i s5 f_24 H locs ls hi ha5 hb5 hc5 hn9_3 hmo hss_ him_ hkq_ hsp_ hwi_ hwa_ hva_ hbo_ hju_ hdr_ hdn_ hsl_ hax_ hlf_ hwh_ hw6_ hb6_ o_24 hP hS hl
                          refine lv_iload hx hb dX11_trial_282 (lv_at hl 1 rfl) ?_
                          refine lv_bipush (v := 60) hx hb dX11_trial_284 (by decide) ?_
                          refine lv_icmp_ge (tgt := 317) hx hb dX11_trial_286 (by decide) (fun c_286 => ?_) (fun c_286 => ?_)
                          · have k_286 : 60 ≤ i := (nI_leI (a := 60) (b := i) (by omega) (by omega)).mp c_286
                            refine lv_aload_n hx hb dX11_trial_317 rfl (lv_at hl 0 rfl) ?_
                            refine lv_iconst (v := 4) hx hb dX11_trial_318 (by decide) ?_
                            refine b_calli (va_runV (As := [.int 4]) (rest := []) ⟨hx, hb, hml, hown, hts⟩ (r_one l G g hg f_24 ab2 be2 sn wn sa ly rdy (nI fd) s5 4 nt hmo hss_ (by first | assumption | omega | decide) ((ha5 4 (by decide)).trans ((pk_un (by first | decide | omega)).trans ((pk_un (by first | decide | omega)).trans ((pk_un (by first | decide | omega)).trans ((pk_un (by first | decide | omega)).trans ((pk_un (by first | decide | omega)).trans ((pk_un (by first | decide | omega)).trans ((pk_un (by first | decide | omega)).trans ((pk_un (by first | decide | omega)).trans ((pk_un (by first | decide | omega)).trans ((pk_un (by first | decide | omega)).trans (hst.h4)))))))))))) (by first | assumption | omega | decide)) (my_cwV hts ok_X11_one w_165 rfl rfl ⟨Nat.le_of_ble_eq_true rfl, Nat.le_of_ble_eq_true rfl⟩) ⟨bP.blind, va_recv hG.1 hP (ci := 10) (q0 := 315) rfl (wl_at (by decide) hmo), fun U hU hW => ⟨rfl, by rw [hU]; exact hP, kG.warm hW hG⟩⟩ rfl rfl hl.1 rfl (lv_room (Nat.le_of_ble_eq_true rfl)) dX11_trial_319 ⟨Nat.le_of_ble_eq_true rfl, Nat.le_of_ble_eq_true rfl⟩) hS (fun v4 f_25 H locs hq9 hP hS => ?_)
                            obtain ⟨rfl, hq_25_0, hq_25_1, o_25⟩ := hq9
                            have hmo : f_25 315 = eO 10 [.ref (g 316), .ref (g 317), .ref (g 318), .long ab2, .long be2, .int sn, .ref (g 319), .ref (g 320), .int wn, .ref (g 321), .ref (g 322), .int sa, .int ly, .int 0, .int (nI fd), .ref (g 323), .ref (g 324), .ref (g 325), .ref (g 326), .ref (g 327), .ref (g 328), .ref (g 329), .ref (g 330), .ref (g 331), .ref (g 332)] := hq_25_0
                            have hss_ : f_25 316 = eI G 2246 (upd s5 4 (nI (nt + 1))) := hq_25_1
                            refine W_q9 hQ9 ?_
                            replace him_ := ((o_25 317 (by first | decide | omega))).trans him_
                            replace hkq_ := ((o_25 318 (by first | decide | omega))).trans hkq_
                            replace hsp_ := ((o_25 319 (by first | decide | omega))).trans hsp_
                            replace hwi_ := ((o_25 320 (by first | decide | omega))).trans hwi_
                            replace hwa_ := ((o_25 321 (by first | decide | omega))).trans hwa_
                            replace hva_ := ((o_25 322 (by first | decide | omega))).trans hva_
                            replace hbo_ := ((o_25 323 (by first | decide | omega))).trans hbo_
                            replace hju_ := ((o_25 324 (by first | decide | omega))).trans hju_
                            replace hdr_ := ((o_25 325 (by first | decide | omega))).trans hdr_
                            replace hdn_ := ((o_25 326 (by first | decide | omega))).trans hdn_
                            replace hsl_ := ((o_25 327 (by first | decide | omega))).trans hsl_
                            replace hax_ := ((o_25 328 (by first | decide | omega))).trans hax_
                            replace hlf_ := ((o_25 329 (by first | decide | omega))).trans hlf_
                            replace hwh_ := ((o_25 330 (by first | decide | omega))).trans hwh_
                            replace hw6_ := ((o_25 331 (by first | decide | omega))).trans hw6_
                            replace hb6_ := ((o_25 332 (by first | decide | omega))).trans hb6_
                            exact W.iret (v := nI nt) hx hb hr (fun _ hT9 _ => ⟨⟨_, f_25, rfl, (⟨(upd s5 4 (nI (nt + 1))), mJ_mk (ab2) (be2) (sn) (wn) (sa) (ly) (0) (fd) (np) (nf) (nr) (na) ((nt + 1)) (sp) (wi) (wa) (va) (bo) (ju) (dr) (dn) (sl) (ax) (lf) (wh) (w6) (b6) (hmo) (hss_) (him_) (hkq_) (hsp_) (hwi_) (hwa_) (hva_) (hbo_) (hju_) (hdr_) (hdn_) (hsl_) (hax_) (hlf_) (hwh_) (hw6_) (hb6_) ((stOK.tr1 hst (by omega) (fun k hk => (ha5 k (by omega)).trans ((pk_un (by omega)).trans ((pk_un (by omega)).trans ((pk_un (by omega)).trans ((pk_un (by omega)).trans ((pk_un (by omega)).trans ((pk_un (by omega)).trans ((pk_un (by omega)).trans ((pk_un (by omega)).trans ((pk_un (by omega)).trans ((pk_un (by omega))))))))))))) hv7 ((ha5 _ (by omega)).trans ((pk_un (by first | decide | omega)).trans ((pk_un (by first | decide | omega)).trans ((pk_un (by first | decide | omega)).trans (pk_us))))) hv9 ((ha5 _ (by omega)).trans ((pk_un (by first | decide | omega)).trans (pk_us))))) (by omega) (hdn) (hi0) (hi1) ((fun z => absurd rfl z)), ⟨np, nf, nr, na, nt, hst, Or.inr (Or.inr ⟨⟨(by rw [(show frS ss nt = 0 from if_pos (by omega))]; exact c_39), c_51, c_63, c_78, c_93, c_108, c_121, c_134⟩, by omega, rfl, s5, rfl, ha5, fun j h1 h2 => hb5 j h1 (by omega), fun q hq => hc5 q (by omega)⟩)⟩, fun j hj => ((((((((((((o_25 j (by omega))).trans (o_24 j (by omega))).trans (o_23 j (by omega))).trans (o_22 j (by omega))).trans (o_21 j (by omega))).trans (o_20 j (by omega))).trans (o_19 j (by omega))).trans (o_18 j (by omega))).trans (o_17 j (by omega))).trans (o_16 j (by omega))).trans (o_15 j (by omega))).trans (o_14 j (by omega))⟩), by rw [hT9]; exact hP⟩, hS.F hT9⟩) hS.2.2 dX11_trial_322
                          · have k_286 : ¬ 60 ≤ i := fun z9 => c_286 ((nI_leI (a := 60) (b := i) (by omega) (by omega)).mpr z9)
                            refine lv_aload_n hx hb dX11_trial_289 rfl (lv_at hl 0 rfl) ?_
                            refine va_get (D := G.1) (ci := 10) (v := .ref (g 316)) (C := RX11) (T := TX11) (N := 25) hx hb hts inlX11 hown hG.1 hP 315 (wl_at (by decide) hmo) rfl 0 (by decide) (hts (.fieldLink RX11 7 "SwornListsModel" "st" "[I") w_112) (fun _ h9 => h9) rfl dX11_trial_290 ?_
                            refine lv_sipush (v := 1646) hx hb dX11_trial_293 (by decide) ?_
                            refine lv_bipush (v := 60) hx hb dX11_trial_296 (by decide) ?_
                            refine lv_aload_n hx hb dX11_trial_298 rfl (lv_at hl 0 rfl) ?_
                            refine va_get (D := G.1) (ci := 10) (v := .ref (g 316)) (C := RX11) (T := TX11) (N := 25) hx hb hts inlX11 hown hG.1 hP 315 (wl_at (by decide) hmo) rfl 0 (by decide) (hts (.fieldLink RX11 7 "SwornListsModel" "st" "[I") w_112) (fun _ h9 => h9) rfl dX11_trial_299 ?_
                            refine lv_iconst (v := 4) hx hb dX11_trial_302 (by decide) ?_
                            refine va_iald hx hb hG.1 hP 316 0 (wl_at (by decide) hss_) rfl (by unfold vp_in; decide) dX11_trial_303 ?_
                            refine my_bei (v := s5 4) (rfl) ?_
                            refine my_bei (v := nI nt) ((ha5 4 (by decide)).trans ((pk_un (by first | decide | omega)).trans ((pk_un (by first | decide | omega)).trans ((pk_un (by first | decide | omega)).trans ((pk_un (by first | decide | omega)).trans ((pk_un (by first | decide | omega)).trans ((pk_un (by first | decide | omega)).trans ((pk_un (by first | decide | omega)).trans ((pk_un (by first | decide | omega)).trans ((pk_un (by first | decide | omega)).trans ((pk_un (by first | decide | omega)).trans (hst.h4)))))))))))) ?_
                            refine lv_imul hx hb dX11_trial_304 ?_
                            refine my_bei (v := nI (60 * nt)) (pk_mul 60 nt) ?_
                            refine lv_iadd hx hb dX11_trial_305 ?_
                            refine my_bei (v := nI (60 * nt + 1646)) ((nI_add 1646 (60 * nt)).trans (congrArg nI (show 1646 + (60 * nt) = 60 * nt + 1646 by omega))) ?_
                            refine lv_iload hx hb dX11_trial_306 (lv_at hl 1 rfl) ?_
                            refine lv_iadd hx hb dX11_trial_308 ?_
                            refine my_bei (v := nI (i + 60 * nt + 1646)) ((nI_add (60 * nt + 1646) i).trans (congrArg nI (show (60 * nt + 1646) + i = i + 60 * nt + 1646 by omega))) ?_
                            refine lv_iconst (v := 0) hx hb dX11_trial_309 (by decide) ?_
                            refine va_iast hx hb hG.1 hP (wl_D hg f_24) hS 316 0 (wl_at (by decide) hss_) rfl (vp_in_nI (by omega) (by decide)) dX11_trial_310 (fun H locs hP _ hS => ?_)
                            have hP := (congrArg (fun z9 => va_P G.1 vwCl ((wl g f_24).set 316 (g 316, eI G 2246 ((upd s5 z9 0)))) H) (show Int32.toNatClampNeg (nI (i + 60 * nt + 1646)) = i + 60 * nt + 1646 from nI_clamp (by omega))).mp hP
                            obtain ⟨f_26, hP, e_26, o_26⟩ := b_put (by decide) hP
                            have hss_ : f_26 316 = eI G 2246 (upd s5 (i + 60 * nt + 1646) 0) := e_26
                            refine lv_iinc (v := nI (i + 1)) (lv' := [(12, .int (nI (i + 1))), (0, .ref (g 315))]) hx hb dX11_trial_311 hl (k := 1) rfl (nI_add i 1) (by decide) rfl (fun ls hl => ?_)
                            refine lv_goto (tgt := 282) hx hb dX11_trial_314 (by decide) ?_
                            replace hmo := ((o_26 315 (by decide))).trans hmo
                            replace him_ := ((o_26 317 (by decide))).trans him_
                            replace hkq_ := ((o_26 318 (by decide))).trans hkq_
                            replace hsp_ := ((o_26 319 (by decide))).trans hsp_
                            replace hwi_ := ((o_26 320 (by decide))).trans hwi_
                            replace hwa_ := ((o_26 321 (by decide))).trans hwa_
                            replace hva_ := ((o_26 322 (by decide))).trans hva_
                            replace hbo_ := ((o_26 323 (by decide))).trans hbo_
                            replace hju_ := ((o_26 324 (by decide))).trans hju_
                            replace hdr_ := ((o_26 325 (by decide))).trans hdr_
                            replace hdn_ := ((o_26 326 (by decide))).trans hdn_
                            replace hsl_ := ((o_26 327 (by decide))).trans hsl_
                            replace hax_ := ((o_26 328 (by decide))).trans hax_
                            replace hlf_ := ((o_26 329 (by decide))).trans hlf_
                            replace hwh_ := ((o_26 330 (by decide))).trans hwh_
                            replace hw6_ := ((o_26 331 (by decide))).trans hw6_
                            replace hb6_ := ((o_26 332 (by decide))).trans hb6_
                            exact ih_3 (i + 1) (upd s5 (i + 60 * nt + 1646) 0) f_26 _ _ _ (by omega) (fun j hj => (pk_un (by omega)).trans (ha5 j hj)) (fun j h1 h2 => (pk_un (by omega)).trans (hb5 j h1 (by omega))) (fill_b (P := fun q => q + 60 * nt + 1646) (v := fun _ => 0) (fun i j h => by have h : i + 60 * nt + 1646 = j + 60 * nt + 1646 := h; omega) hc5 rfl) (by omega) (hmo) (hss_) (him_) (hkq_) (hsp_) (hwi_) (hwa_) (hva_) (hbo_) (hju_) (hdr_) (hdn_) (hsl_) (hax_) (hlf_) (hwh_) (hw6_) (hb6_) (fun j hj => ((o_26 j (by omega))).trans (o_24 j (by omega))) hP hS (lv_sub hl [1, 0] rfl)
                      exact key3 (60 + 1) 0 (upd (upd (upd (upd (upd (upd (upd (upd (upd (upd ss (10 * nt + 1546) a1) (10 * nt + 1547) a2) (10 * nt + 1548) a3) (10 * nt + 1549) a4) (10 * nt + 1550) a5) (10 * nt + 1551) a6) (10 * nt + 1552) (nI v7)) (10 * nt + 1553) a8) (10 * nt + 1554) (nI v9)) (10 * nt + 1555) 0) f_23 _ _ _ (by omega) (fun _ _ => rfl) (fun _ _ _ => rfl) (fun q hq => absurd hq (Nat.not_lt_zero _)) (by omega) (hmo) (hss_) (him_) (hkq_) (hsp_) (hwi_) (hwa_) (hva_) (hbo_) (hju_) (hdr_) (hdn_) (hsl_) (hax_) (hlf_) (hwh_) (hw6_) (hb6_) (fun j _ => rfl) hP hS (lv_sub hl [3, 0] rfl)
                    · have k_148 : nt = 10 := (nI_eq (a := nt) (b := 10) (by omega) (by omega)).mp c_148
                      refine lv_bipush (v := (-4)) hx hb dX11_trial_151 (by decide) ?_
                      refine W_q9 hQ9 ?_
                      exact W.iret (v := (-4)) hx hb hr (fun _ hT9 _ => ⟨⟨_, f, rfl, (⟨ss, mJ_mk (ab2) (be2) (sn) (wn) (sa) (ly) (rdy) (fd) (np) (nf) (nr) (na) (nt) (sp) (wi) (wa) (va) (bo) (ju) (dr) (dn) (sl) (ax) (lf) (wh) (w6) (b6) (hmo) (hss_) (him_) (hkq_) (hsp_) (hwi_) (hwa_) (hva_) (hbo_) (hju_) (hdr_) (hdn_) (hsl_) (hax_) (hlf_) (hwh_) (hw6_) (hb6_) (hst) (by omega) (hdn) (hi0) (hi1) (hrd), ⟨np, nf, nr, na, nt, hst, Or.inr (Or.inl ⟨⟨(by rw [(show frS ss nt = 0 from if_pos (by omega))]; exact c_39), c_51, c_63, c_78, c_93, c_108, c_121, c_134⟩, k_148, rfl, rfl⟩)⟩, fun j hj => rfl⟩), by rw [hT9]; exact hP⟩, hS.F hT9⟩) hS.2.2 dX11_trial_153
                  · refine lv_bipush (v := (-2)) hx hb dX11_trial_137 (by decide) ?_
                    refine W_q9 hQ9 ?_
                    exact W.iret (v := (-2)) hx hb hr (fun _ hT9 _ => ⟨⟨_, f, rfl, (⟨ss, mJ_mk (ab2) (be2) (sn) (wn) (sa) (ly) (rdy) (fd) (np) (nf) (nr) (na) (nt) (sp) (wi) (wa) (va) (bo) (ju) (dr) (dn) (sl) (ax) (lf) (wh) (w6) (b6) (hmo) (hss_) (him_) (hkq_) (hsp_) (hwi_) (hwa_) (hva_) (hbo_) (hju_) (hdr_) (hdn_) (hsl_) (hax_) (hlf_) (hwh_) (hw6_) (hb6_) (hst) (by omega) (hdn) (hi0) (hi1) (hrd), ⟨np, nf, nr, na, nt, hst, Or.inl ⟨fun z => c_134 z.2.2.2.2.2.2.2, rfl, rfl⟩⟩, fun j hj => rfl⟩), by rw [hT9]; exact hP⟩, hS.F hT9⟩) hS.2.2 dX11_trial_139
theorem j2_trial (l : Launch) (G : gW) (g : Nat → Nat) (hg : gOK g) (f : Nat → va_E) (ss : Nat → Int32) (im : Nat → Int32) (kq : Nat → Int32) (a1 : Int32) (a2 : Int32) (a3 : Int32) (a4 : Int32) (a5 : Int32) (a6 : Int32) (a7 : Int32) (a8 : Int32) (a9 : Int32) (hI : mJ G g f ss im kq) (htA : ∀ n : Nat, n ≤ 10 → ss 4 = nI n → trOK ss n) : Met l yX11_trial (wsT yX11_trial cX11_trial 13 (some .int)) ({ frames := 1, cells := 0, slots := 0, locals := 25 }) (bP G g f [.ref (g 315), .int a1, .int a2, .int a3, .int a4, .int a5, .int a6, .int a7, .int a8, .int a9]) (bQi G g (fun (z9 : Int32) (f' : Nat → va_E) => ∃ ss9 : Nat → Int32, (mJ G g f' ss9 im kq) ∧ (∃ p9 f9 r9 u9 t9, stOK ss p9 f9 r9 u9 t9 ∧ ((¬ (inB (frS ss t9) a1 9999 = true ∧ inB 1 a2 9 = true ∧ inB 1 a3 8 = true ∧ inB (-1) a4 9 = true ∧ inB (-1) a5 9 = true ∧ inB (-1) a6 3 = true ∧ inB 0 a7 4 = true ∧ inB 1 a9 24 = true) ∧ z9 = -2 ∧ ss9 = ss) ∨ ((inB (frS ss t9) a1 9999 = true ∧ inB 1 a2 9 = true ∧ inB 1 a3 8 = true ∧ inB (-1) a4 9 = true ∧ inB (-1) a5 9 = true ∧ inB (-1) a6 3 = true ∧ inB 0 a7 4 = true ∧ inB 1 a9 24 = true) ∧ t9 = 10 ∧ z9 = -4 ∧ ss9 = ss) ∨ ((inB (frS ss t9) a1 9999 = true ∧ inB 1 a2 9 = true ∧ inB 1 a3 8 = true ∧ inB (-1) a4 9 = true ∧ inB (-1) a5 9 = true ∧ inB (-1) a6 3 = true ∧ inB 0 a7 4 = true ∧ inB 1 a9 24 = true) ∧ t9 < 10 ∧ z9 = nI t9 ∧ ∃ s5, ss9 = upd s5 4 (nI (t9 + 1)) ∧ (∀ j, j < 1646 → s5 j = (upd (upd (upd (upd (upd (upd (upd (upd (upd (upd ss (10 * t9 + 1546) a1) (10 * t9 + 1547) a2) (10 * t9 + 1548) a3) (10 * t9 + 1549) a4) (10 * t9 + 1550) a5) (10 * t9 + 1551) a6) (10 * t9 + 1552) a7) (10 * t9 + 1553) a8) (10 * t9 + 1554) a9) (10 * t9 + 1555) 0) j) ∧ (∀ j, 1646 ≤ j → (j < 60 * t9 + 1646 ∨ 60 + 60 * t9 + 1646 ≤ j) → s5 j = (upd (upd (upd (upd (upd (upd (upd (upd (upd (upd ss (10 * t9 + 1546) a1) (10 * t9 + 1547) a2) (10 * t9 + 1548) a3) (10 * t9 + 1549) a4) (10 * t9 + 1550) a5) (10 * t9 + 1551) a6) (10 * t9 + 1552) a7) (10 * t9 + 1553) a8) (10 * t9 + 1554) a9) (10 * t9 + 1555) 0) j) ∧ (∀ q, q < 60 → s5 (q + 60 * t9 + 1646) = 0)))) ∧ ∀ j, j < 315 → f' j = f j)) 0 0 (gA g) := mJ_elim hI (fun ab2 be2 sn wn sa ly rdy fd np nf nr na nt sp wi wa va bo ju dr dn sl ax lf wh w6 b6 hmo hss_ him_ hkq_ hsp_ hwi_ hwa_ hva_ hbo_ hju_ hdr_ hdn_ hsl_ hax_ hlf_ hwh_ hw6_ hb6_ hst hfo hdn hi0 hi1 hrd => jn2_trial l G g hg f ab2 be2 sn wn sa ly rdy fd ss np nf nr na nt im kq sp wi wa va bo ju dr dn sl ax lf wh w6 b6 a1 a2 a3 a4 a5 a6 a7 a8 a9 hmo hss_ him_ hkq_ hsp_ hwi_ hwa_ hva_ hbo_ hju_ hdr_ hdn_ hsl_ hax_ hlf_ hwh_ hw6_ hb6_ hst hfo hdn hi0 hi1 hrd htA)


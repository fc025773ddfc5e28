set_option maxHeartbeats 4000000 in
set_option maxRecDepth 100000 in
theorem jn2_person (l : Launch) (G : gW) (g : Nat → Nat) (hg : gOK g) (f : Nat → va_E) (ab2 : Int64) (be2 : Int64) (sn : Int32) (wn : Int32) (sa : Int32) (ly : Int32) (rdy : Int32) (fd : Nat) (ss : Nat → Int32) (np : Nat) (nf : Nat) (nr : Nat) (na : Nat) (nt : Nat) (im : Nat → Int32) (kq : Nat → Int32) (sp : Nat → Int32) (wi : Nat → Int32) (wa : Nat → Int32) (va : Nat → Int64) (bo : Nat → Int32) (ju : Nat → Int32) (dr : Nat → Int32) (dn : Nat → Int32) (sl : Nat → Int32) (ax : Nat → Int32) (lf : Nat → Int32) (wh : Nat → Int32) (w6 : Nat → Int32) (b6 : Nat → Int32) (a1 : Int32) (a2 : Int32) (a3 : Int32) (a4 : Int32) (hmo : f 315 = eO 10 [.ref (g 316), .ref (g 317), .ref (g 318), .long ab2, .long be2, .int sn, .ref (g 319), .ref (g 320), .int wn, .ref (g 321), .ref (g 322), .int sa, .int ly, .int rdy, .int (nI fd), .ref (g 323), .ref (g 324), .ref (g 325), .ref (g 326), .ref (g 327), .ref (g 328), .ref (g 329), .ref (g 330), .ref (g 331), .ref (g 332)]) (hss_ : f 316 = eI G 2246 ss) (him_ : f 317 = eI G 4492 im) (hkq_ : f 318 = eZ G 2 kq) (hsp_ : f 319 = eI G 70 sp) (hwi_ : f 320 = eI G 70 wi) (hwa_ : f 321 = eI G 70 wa) (hva_ : f 322 = eJ G 70 va) (hbo_ : f 323 = eI G 11 bo) (hju_ : f 324 = eI G 11 ju) (hdr_ : f 325 = eI G 264 dr) (hdn_ : f 326 = eI G 11 dn) (hsl_ : f 327 = eI G 330 sl) (hax_ : f 328 = eI G 44 ax) (hlf_ : f 329 = eI G 30 lf) (hwh_ : f 330 = eI G 6 wh) (hw6_ : f 331 = eI G 6 w6) (hb6_ : f 332 = eI G 6 b6) (hst : stOK ss np nf nr na nt) (hfo : fd ≤ 10) (hdn : ∀ k, k < 11 → ∃ d, d ≤ 24 ∧ dn k = nI d) (hi0 : stI im 0) (hi1 : stI im 2246) (hrd : ¬ rdy = 0 → fd = nt ∧ ∀ z, z < nt → rHz np nf nr na ss bo ju dr dn sl ax z) (htA : ∀ n : Nat, n ≤ 10 → ss 4 = nI n → trOK ss n) : Met l yX11_person (wsT yX11_person cX11_person 6 (some .int)) ({ frames := 1, cells := 0, slots := 0, locals := 25 }) (bP G g f [.ref (g 315), .int a1, .int a2, .int a3, .int a4]) (bQi G g (fun (z9 : Int32) (f' : Nat → va_E) => ∃ ss9 : Nat → Int32, (mJ G g f' ss9 im kq) ∧ (∃ p9 f9 r9 u9 t9, stOK ss p9 f9 r9 u9 t9 ∧ ((¬ (inB 0 a1 3 = true ∧ inB 0 a2 3 = true ∧ inB 0 a3 1000 = true ∧ inB 0 a4 99 = true) ∧ z9 = -2 ∧ ss9 = ss) ∨ ((inB 0 a1 3 = true ∧ inB 0 a2 3 = true ∧ inB 0 a3 1000 = true ∧ inB 0 a4 99 = true) ∧ p9 = 30 ∧ z9 = -4 ∧ ss9 = ss) ∨ ((inB 0 a1 3 = true ∧ inB 0 a2 3 = true ∧ inB 0 a3 1000 = true ∧ inB 0 a4 99 = true) ∧ p9 < 30 ∧ z9 = nI p9 ∧ ss9 = upd (upd (upd (upd (upd ss (4 * p9 + 10) a1) (4 * p9 + 11) a2) (4 * p9 + 12) a3) (4 * p9 + 13) a4) 0 (nI (p9 + 1))))) ∧ ∀ j, j < 315 → f' j = f j)) 0 0 (gA g) := by
  refine Met.ofW (cc := cX11_person) (maxL := 6) (ret := (some .int)) (by decide) rfl ?_
  intro p e s m args below meth c s₁ B hml hv
  obtain ⟨rfl, hP, hG⟩ := hv
  have hx := B.exec
  have hb := B.bytes
  have hr := B.returns
  have hts := my_hts (atoms_spec (ws := wsT yX11_person cX11_person 6 (some .int)) B.pre)
  have hown : s.vm.findClass RX11 = some m.cls := findClass_of_methodNamed B.named
  have hlocks := B.notSynchronized
  have hS : va_S (gA g) s.heap s.heap [] := va_S.rf
  have hl := lv_entry ([.ref (g 315), .int a1, .int a2, .int a3, .int a4]) (n := 6) (Nat.le_of_ble_eq_true rfl)
  rw [lg_entry_eq]
  generalize (lg_sl ([.ref (g 315), .int a1, .int a2, .int a3, .int a4]) ++ List.replicate (6 - (lg_sl ([.ref (g 315), .int a1, .int a2, .int a3, .int a4])).length) Slot.unset).toArray = ls at hl ⊢
  have hl : lv_has ls 6 [(0, .ref (g 315)), (1, .int a1), (2, .int a2), (3, .int a3), (4, .int a4)] := hl
  refine W_q8 (fun Q9 hQ9 => ?_)
  have hc0 := hst.c0
  have hc1 := hst.c1
  have hc2 := hst.c2
  have hc3 := hst.c3
  have hc4 := hst.c4
  have htr := htA nt hst.c4 hst.h4
  refine lv_iload_n hx hb dX11_person_0 rfl (lv_at hl 1 rfl) ?_
  refine lv_i2l hx hb dX11_person_1 rfl ?_
  refine lv_lconst (v := 0) hx hb dX11_person_2 (by decide) ?_
  refine my_bel (v := Int32.toInt64 0) (by decide) ?_
  refine lv_ldc2 (v := 3) hx hb hown (hts (.constantLong RX11 77 (3)) w_159) dX11_person_3 ?_
  refine my_bel (v := Int32.toInt64 3) (by decide) ?_
  refine rd_calli (va_runS (As := [.long (Int32.toInt64 a1), .long (Int32.toInt64 0), .long (Int32.toInt64 3)]) (rest := []) ⟨hx, hb, hml, hown, hts⟩ (r_in l G g hg f a1 0 3  ) (my_cwS hts ok_X11_in w_162 rfl rfl ⟨Nat.le_of_ble_eq_true rfl, Nat.le_of_ble_eq_true rfl⟩) ⟨bP.blind, fun U hU hW => ⟨rfl, by rw [hU]; exact hP, kG.warm hW hG⟩⟩ rfl rfl hl.1 rfl (lv_room (Nat.le_of_ble_eq_true rfl)) dX11_person_6 ⟨Nat.le_of_ble_eq_true rfl, Nat.le_of_ble_eq_true rfl⟩) (fun r hr9 => ?_)
  subst hr9
  refine my_ifeq (tgt := 49) hx hb dX11_person_9 (by decide) (fun c_9 => ?_) (fun c_9 => ?_)
  · refine lv_bipush (v := (-2)) hx hb dX11_person_49 (by decide) ?_
    refine W_q9 hQ9 ?_
    exact W.iret (v := (-2)) hx hb hr (fun _ hT9 _ => ⟨⟨_, f, rfl, (⟨ss, mJ_mk (ab2) (be2) (sn) (wn) (sa) (ly) (rdy) (fd) (np) (nf) (nr) (na) (nt) (sp) (wi) (wa) (va) (bo) (ju) (dr) (dn) (sl) (ax) (lf) (wh) (w6) (b6) (hmo) (hss_) (him_) (hkq_) (hsp_) (hwi_) (hwa_) (hva_) (hbo_) (hju_) (hdr_) (hdn_) (hsl_) (hax_) (hlf_) (hwh_) (hw6_) (hb6_) (hst) (by omega) (hdn) (hi0) (hi1) (hrd), ⟨np, nf, nr, na, nt, hst, Or.inl ⟨fun z => c_9 z.1, rfl, rfl⟩⟩, fun j hj => rfl⟩), by rw [hT9]; exact hP⟩, hS.F hT9⟩) hS.2.2 dX11_person_51
  · refine lv_iload_n hx hb dX11_person_12 rfl (lv_at hl 2 rfl) ?_
    refine lv_i2l hx hb dX11_person_13 rfl ?_
    refine lv_lconst (v := 0) hx hb dX11_person_14 (by decide) ?_
    refine my_bel (v := Int32.toInt64 0) (by decide) ?_
    refine lv_ldc2 (v := 3) hx hb hown (hts (.constantLong RX11 77 (3)) w_159) dX11_person_15 ?_
    refine my_bel (v := Int32.toInt64 3) (by decide) ?_
    refine rd_calli (va_runS (As := [.long (Int32.toInt64 a2), .long (Int32.toInt64 0), .long (Int32.toInt64 3)]) (rest := []) ⟨hx, hb, hml, hown, hts⟩ (r_in l G g hg f a2 0 3  ) (my_cwS hts ok_X11_in w_162 rfl rfl ⟨Nat.le_of_ble_eq_true rfl, Nat.le_of_ble_eq_true rfl⟩) ⟨bP.blind, fun U hU hW => ⟨rfl, by rw [hU]; exact hP, kG.warm hW hG⟩⟩ rfl rfl hl.1 rfl (lv_room (Nat.le_of_ble_eq_true rfl)) dX11_person_18 ⟨Nat.le_of_ble_eq_true rfl, Nat.le_of_ble_eq_true rfl⟩) (fun r hr9 => ?_)
    subst hr9
    refine my_ifeq (tgt := 49) hx hb dX11_person_21 (by decide) (fun c_21 => ?_) (fun c_21 => ?_)
    · refine lv_bipush (v := (-2)) hx hb dX11_person_49 (by decide) ?_
      refine W_q9 hQ9 ?_
      exact W.iret (v := (-2)) hx hb hr (fun _ hT9 _ => ⟨⟨_, f, rfl, (⟨ss, mJ_mk (ab2) (be2) (sn) (wn) (sa) (ly) (rdy) (fd) (np) (nf) (nr) (na) (nt) (sp) (wi) (wa) (va) (bo) (ju) (dr) (dn) (sl) (ax) (lf) (wh) (w6) (b6) (hmo) (hss_) (him_) (hkq_) (hsp_) (hwi_) (hwa_) (hva_) (hbo_) (hju_) (hdr_) (hdn_) (hsl_) (hax_) (hlf_) (hwh_) (hw6_) (hb6_) (hst) (by omega) (hdn) (hi0) (hi1) (hrd), ⟨np, nf, nr, na, nt, hst, Or.inl ⟨fun z => c_21 z.2.1, rfl, rfl⟩⟩, fun j hj => rfl⟩), by rw [hT9]; exact hP⟩, hS.F hT9⟩) hS.2.2 dX11_person_51
    · refine lv_iload_n hx hb dX11_person_24 rfl (lv_at hl 3 rfl) ?_
      refine lv_i2l hx hb dX11_person_25 rfl ?_
      refine lv_lconst (v := 0) hx hb dX11_person_26 (by decide) ?_
      refine my_bel (v := Int32.toInt64 0) (by decide) ?_
      refine lv_ldc2 (v := 1000) hx hb hown (hts (.constantLong RX11 79 (1000)) w_160) dX11_person_27 ?_
      refine my_bel (v := Int32.toInt64 1000) (by decide) ?_
      refine rd_calli (va_runS (As := [.long (Int32.toInt64 a3), .long (Int32.toInt64 0), .long (Int32.toInt64 1000)]) (rest := []) ⟨hx, hb, hml, hown, hts⟩ (r_in l G g hg f a3 0 1000  ) (my_cwS hts ok_X11_in w_162 rfl rfl ⟨Nat.le_of_ble_eq_true rfl, Nat.le_of_ble_eq_true rfl⟩) ⟨bP.blind, fun U hU hW => ⟨rfl, by rw [hU]; exact hP, kG.warm hW hG⟩⟩ rfl rfl hl.1 rfl (lv_room (Nat.le_of_ble_eq_true rfl)) dX11_person_30 ⟨Nat.le_of_ble_eq_true rfl, Nat.le_of_ble_eq_true rfl⟩) (fun r hr9 => ?_)
      subst hr9
      refine my_ifeq (tgt := 49) hx hb dX11_person_33 (by decide) (fun c_33 => ?_) (fun c_33 => ?_)
      · refine lv_bipush (v := (-2)) hx hb dX11_person_49 (by decide) ?_
        refine W_q9 hQ9 ?_
        exact W.iret (v := (-2)) hx hb hr (fun _ hT9 _ => ⟨⟨_, f, rfl, (⟨ss, mJ_mk (ab2) (be2) (sn) (wn) (sa) (ly) (rdy) (fd) (np) (nf) (nr) (na) (nt) (sp) (wi) (wa) (va) (bo) (ju) (dr) (dn) (sl) (ax) (lf) (wh) (w6) (b6) (hmo) (hss_) (him_) (hkq_) (hsp_) (hwi_) (hwa_) (hva_) (hbo_) (hju_) (hdr_) (hdn_) (hsl_) (hax_) (hlf_) (hwh_) (hw6_) (hb6_) (hst) (by omega) (hdn) (hi0) (hi1) (hrd), ⟨np, nf, nr, na, nt, hst, Or.inl ⟨fun z => c_33 z.2.2.1, rfl, rfl⟩⟩, fun j hj => rfl⟩), by rw [hT9]; exact hP⟩, hS.F hT9⟩) hS.2.2 dX11_person_51
      · refine lv_iload hx hb dX11_person_36 (lv_at hl 4 rfl) ?_
        refine lv_i2l hx hb dX11_person_38 rfl ?_
        refine lv_lconst (v := 0) hx hb dX11_person_39 (by decide) ?_
        refine my_bel (v := Int32.toInt64 0) (by decide) ?_
        refine lv_ldc2 (v := 99) hx hb hown (hts (.constantLong RX11 81 (99)) w_161) dX11_person_40 ?_
        refine my_bel (v := Int32.toInt64 99) (by decide) ?_
        refine rd_calli (va_runS (As := [.long (Int32.toInt64 a4), .long (Int32.toInt64 0), .long (Int32.toInt64 99)]) (rest := []) ⟨hx, hb, hml, hown, hts⟩ (r_in l G g hg f a4 0 99  ) (my_cwS hts ok_X11_in w_162 rfl rfl ⟨Nat.le_of_ble_eq_true rfl, Nat.le_of_ble_eq_true rfl⟩) ⟨bP.blind, fun U hU hW => ⟨rfl, by rw [hU]; exact hP, kG.warm hW hG⟩⟩ rfl rfl hl.1 rfl (lv_room (Nat.le_of_ble_eq_true rfl)) dX11_person_43 ⟨Nat.le_of_ble_eq_true rfl, Nat.le_of_ble_eq_true rfl⟩) (fun r hr9 => ?_)
        subst hr9
        refine my_ifne (tgt := 52) hx hb dX11_person_46 (by decide) (fun c_46 => ?_) (fun c_46 => ?_)
        · refine lv_aload_n hx hb dX11_person_52 rfl (lv_at hl 0 rfl) ?_
          refine va_get (D := G.1) (ci := 10) (v := .ref (g 316)) (C := RX11) (T := TX11) (N := 25) hx hb hts inlX11 hown hG.1 hP 315 (wl_at (by decide) hmo) rfl 0 (by decide) (hts (.fieldLink RX11 7 "SwornListsModel" "st" "[I") w_112) (fun _ h9 => h9) rfl dX11_person_53 ?_
          refine lv_iconst (v := 0) hx hb dX11_person_56 (by decide) ?_
          refine va_iald hx hb hG.1 hP 316 0 (wl_at (by decide) hss_) rfl (by unfold vp_in; decide) dX11_person_57 ?_
          refine my_bei (v := ss 0) (rfl) ?_
          refine my_bei (v := nI np) (hst.h0) ?_
          refine lv_bipush (v := 30) hx hb dX11_person_58 (by decide) ?_
          refine lv_icmp_ne (tgt := 66) hx hb dX11_person_60 (by decide) (fun c_60 => ?_) (fun c_60 => ?_)
          · have k_60 : ¬ np = 30 := fun z9 => c_60 ((nI_eq (a := np) (b := 30) (by omega) (by omega)).mpr z9)
            refine lv_bipush (v := 10) hx hb dX11_person_66 (by decide) ?_
            refine lv_iconst (v := 4) hx hb dX11_person_68 (by decide) ?_
            refine lv_aload_n hx hb dX11_person_69 rfl (lv_at hl 0 rfl) ?_
            refine va_get (D := G.1) (ci := 10) (v := .ref (g 316)) (C := RX11) (T := TX11) (N := 25) hx hb hts inlX11 hown hG.1 hP 315 (wl_at (by decide) hmo) rfl 0 (by decide) (hts (.fieldLink RX11 7 "SwornListsModel" "st" "[I") w_112) (fun _ h9 => h9) rfl dX11_person_70 ?_
            refine lv_iconst (v := 0) hx hb dX11_person_73 (by decide) ?_
            refine va_iald hx hb hG.1 hP 316 0 (wl_at (by decide) hss_) rfl (by unfold vp_in; decide) dX11_person_74 ?_
            refine my_bei (v := ss 0) (rfl) ?_
            refine my_bei (v := nI np) (hst.h0) ?_
            refine lv_imul hx hb dX11_person_75 ?_
            refine my_bei (v := nI (4 * np)) (pk_mul 4 np) ?_
            refine lv_iadd hx hb dX11_person_76 ?_
            refine my_bei (v := nI (4 * np + 10)) ((nI_add 10 (4 * np)).trans (congrArg nI (show 10 + (4 * np) = 4 * np + 10 by omega))) ?_
            refine lv_istore (lv' := [(5, .int (nI (4 * np + 10))), (0, .ref (g 315)), (1, .int a1), (2, .int a2), (3, .int a3), (4, .int a4)]) hx hb dX11_person_77 hl (by decide) rfl (fun ls hl => ?_)
            refine lv_aload_n hx hb dX11_person_79 rfl (lv_at hl 1 rfl) ?_
            refine va_get (D := G.1) (ci := 10) (v := .ref (g 316)) (C := RX11) (T := TX11) (N := 25) hx hb hts inlX11 hown hG.1 hP 315 (wl_at (by decide) hmo) rfl 0 (by decide) (hts (.fieldLink RX11 7 "SwornListsModel" "st" "[I") w_112) (fun _ h9 => h9) rfl dX11_person_80 ?_
            refine lv_iload hx hb dX11_person_83 (lv_at hl 0 rfl) ?_
            refine lv_iload_n hx hb dX11_person_85 rfl (lv_at hl 2 rfl) ?_
            refine va_iast hx hb hG.1 hP (wl_D hg f) hS 316 0 (wl_at (by decide) hss_) rfl (vp_in_nI (by omega) (by decide)) dX11_person_86 (fun H locs hP _ hS => ?_)
            have hP := (congrArg (fun z9 => va_P G.1 vwCl ((wl g f).set 316 (g 316, eI G 2246 ((upd ss z9 a1)))) H) (show Int32.toNatClampNeg (nI (4 * np + 10)) = 4 * np + 10 from nI_clamp (by omega))).mp hP
            obtain ⟨f_1, hP, e_1, o_1⟩ := b_put (by decide) hP
            have hss_ : f_1 316 = eI G 2246 (upd ss (4 * np + 10) a1) := e_1
            refine lv_aload_n hx hb dX11_person_87 rfl (lv_at hl 1 rfl) ?_
            replace hmo := ((o_1 315 (by decide))).trans hmo
            refine va_get (D := G.1) (ci := 10) (v := .ref (g 316)) (C := RX11) (T := TX11) (N := 25) hx hb hts inlX11 hown hG.1 hP 315 (wl_at (by decide) hmo) rfl 0 (by decide) (hts (.fieldLink RX11 7 "SwornListsModel" "st" "[I") w_112) (fun _ h9 => h9) rfl dX11_person_88 ?_
            refine lv_iload hx hb dX11_person_91 (lv_at hl 0 rfl) ?_
            refine lv_iconst (v := 1) hx hb dX11_person_93 (by decide) ?_
            refine lv_iadd hx hb dX11_person_94 ?_
            refine my_bei (v := nI (4 * np + 11)) ((nI_add (4 * np + 10) 1).trans (congrArg nI (show (4 * np + 10) + 1 = 4 * np + 11 by omega))) ?_
            refine lv_iload_n hx hb dX11_person_95 rfl (lv_at hl 3 rfl) ?_
            refine va_iast hx hb hG.1 hP (wl_D hg f_1) hS 316 0 (wl_at (by decide) hss_) rfl (vp_in_nI (by omega) (by decide)) dX11_person_96 (fun H locs hP _ hS => ?_)
            have hP := (congrArg (fun z9 => va_P G.1 vwCl ((wl g f_1).set 316 (g 316, eI G 2246 ((upd (upd ss (4 * np + 10) a1) z9 a2)))) H) (show Int32.toNatClampNeg (nI (4 * np + 11)) = 4 * np + 11 from nI_clamp (by omega))).mp hP
            obtain ⟨f_2, hP, e_2, o_2⟩ := b_put (by decide) hP
            have hss_ : f_2 316 = eI G 2246 (upd (upd ss (4 * np + 10) a1) (4 * np + 11) a2) := e_2
            refine lv_aload_n hx hb dX11_person_97 rfl (lv_at hl 1 rfl) ?_
            replace hmo := ((o_2 315 (by decide))).trans hmo
            refine va_get (D := G.1) (ci := 10) (v := .ref (g 316)) (C := RX11) (T := TX11) (N := 25) hx hb hts inlX11 hown hG.1 hP 315 (wl_at (by decide) hmo) rfl 0 (by decide) (hts (.fieldLink RX11 7 "SwornListsModel" "st" "[I") w_112) (fun _ h9 => h9) rfl dX11_person_98 ?_
            refine lv_iload hx hb dX11_person_101 (lv_at hl 0 rfl) ?_
            refine lv_iconst (v := 2) hx hb dX11_person_103 (by decide) ?_
            refine lv_iadd hx hb dX11_person_104 ?_
            refine my_bei (v := nI (4 * np + 12)) ((nI_add (4 * np + 10) 2).trans (congrArg nI (show (4 * np + 10) + 2 = 4 * np + 12 by omega))) ?_
            refine lv_iload_n hx hb dX11_person_105 rfl (lv_at hl 4 rfl) ?_
            refine va_iast hx hb hG.1 hP (wl_D hg f_2) hS 316 0 (wl_at (by decide) hss_) rfl (vp_in_nI (by omega) (by decide)) dX11_person_106 (fun H locs hP _ hS => ?_)
            have hP := (congrArg (fun z9 => va_P G.1 vwCl ((wl g f_2).set 316 (g 316, eI G 2246 ((upd (upd (upd ss (4 * np + 10) a1) (4 * np + 11) a2) z9 a3)))) H) (show Int32.toNatClampNeg (nI (4 * np + 12)) = 4 * np + 12 from nI_clamp (by omega))).mp hP
            obtain ⟨f_3, hP, e_3, o_3⟩ := b_put (by decide) hP
            have hss_ : f_3 316 = eI G 2246 (upd (upd (upd ss (4 * np + 10) a1) (4 * np + 11) a2) (4 * np + 12) a3) := e_3
            refine lv_aload_n hx hb dX11_person_107 rfl (lv_at hl 1 rfl) ?_
            replace hmo := ((o_3 315 (by decide))).trans hmo
            refine va_get (D := G.1) (ci := 10) (v := .ref (g 316)) (C := RX11) (T := TX11) (N := 25) hx hb hts inlX11 hown hG.1 hP 315 (wl_at (by decide) hmo) rfl 0 (by decide) (hts (.fieldLink RX11 7 "SwornListsModel" "st" "[I") w_112) (fun _ h9 => h9) rfl dX11_person_108 ?_
            refine lv_iload hx hb dX11_person_111 (lv_at hl 0 rfl) ?_
            refine lv_iconst (v := 3) hx hb dX11_person_113 (by decide) ?_
            refine lv_iadd hx hb dX11_person_114 ?_
            refine my_bei (v := nI (4 * np + 13)) ((nI_add (4 * np + 10) 3).trans (congrArg nI (show (4 * np + 10) + 3 = 4 * np + 13 by omega))) ?_
            refine lv_iload hx hb dX11_person_115 (lv_at hl 5 rfl) ?_
            refine va_iast hx hb hG.1 hP (wl_D hg f_3) hS 316 0 (wl_at (by decide) hss_) rfl (vp_in_nI (by omega) (by decide)) dX11_person_117 (fun H locs hP _ hS => ?_)
            have hP := (congrArg (fun z9 => va_P G.1 vwCl ((wl g f_3).set 316 (g 316, eI G 2246 ((upd (upd (upd (upd ss (4 * np + 10) a1) (4 * np + 11) a2) (4 * np + 12) a3) z9 a4)))) H) (show Int32.toNatClampNeg (nI (4 * np + 13)) = 4 * np + 13 from nI_clamp (by omega))).mp hP
            obtain ⟨f_4, hP, e_4, o_4⟩ := b_put (by decide) hP
            have hss_ : f_4 316 = eI G 2246 (upd (upd (upd (upd ss (4 * np + 10) a1) (4 * np + 11) a2) (4 * np + 12) a3) (4 * np + 13) a4) := e_4
            refine lv_aload_n hx hb dX11_person_118 rfl (lv_at hl 1 rfl) ?_
            refine lv_iconst (v := 0) hx hb dX11_person_119 (by decide) ?_
            replace hmo := ((o_4 315 (by decide))).trans hmo
            refine b_calli (va_runV (As := [.int 0]) (rest := []) ⟨hx, hb, hml, hown, hts⟩ (r_one l G g hg f_4 ab2 be2 sn wn sa ly rdy (nI fd) (upd (upd (upd (upd ss (4 * np + 10) a1) (4 * np + 11) a2) (4 * np + 12) a3) (4 * np + 13) a4) 0 np hmo hss_ (by first | assumption | omega | decide) ((pk_un (by first | decide | omega)).trans ((pk_un (by first | decide | omega)).trans ((pk_un (by first | decide | omega)).trans ((pk_un (by first | decide | omega)).trans (hst.h0))))) (by first | assumption | omega | decide)) (my_cwV hts ok_X11_one w_165 rfl rfl ⟨Nat.le_of_ble_eq_true rfl, Nat.le_of_ble_eq_true rfl⟩) ⟨bP.blind, va_recv hG.1 hP (ci := 10) (q0 := 315) rfl (wl_at (by decide) hmo), fun U hU hW => ⟨rfl, by rw [hU]; exact hP, kG.warm hW hG⟩⟩ rfl rfl hl.1 rfl (lv_room (Nat.le_of_ble_eq_true rfl)) dX11_person_120 ⟨Nat.le_of_ble_eq_true rfl, Nat.le_of_ble_eq_true rfl⟩) hS (fun v1 f_5 H locs hq9 hP hS => ?_)
            obtain ⟨rfl, hq_5_0, hq_5_1, o_5⟩ := hq9
            have hmo : f_5 315 = eO 10 [.ref (g 316), .ref (g 317), .ref (g 318), .long ab2, .long be2, .int sn, .ref (g 319), .ref (g 320), .int wn, .ref (g 321), .ref (g 322), .int sa, .int ly, .int 0, .int (nI fd), .ref (g 323), .ref (g 324), .ref (g 325), .ref (g 326), .ref (g 327), .ref (g 328), .ref (g 329), .ref (g 330), .ref (g 331), .ref (g 332)] := hq_5_0
            have hss_ : f_5 316 = eI G 2246 (upd (upd (upd (upd (upd ss (4 * np + 10) a1) (4 * np + 11) a2) (4 * np + 12) a3) (4 * np + 13) a4) 0 (nI (np + 1))) := hq_5_1
            refine W_q9 hQ9 ?_
            replace him_ := ((o_5 317 (by first | decide | omega)).trans ((o_4 317 (by decide)).trans ((o_3 317 (by decide)).trans ((o_2 317 (by decide)).trans ((o_1 317 (by decide))))))).trans him_
            replace hkq_ := ((o_5 318 (by first | decide | omega)).trans ((o_4 318 (by decide)).trans ((o_3 318 (by decide)).trans ((o_2 318 (by decide)).trans ((o_1 318 (by decide))))))).trans hkq_
            replace hsp_ := ((o_5 319 (by first | decide | omega)).trans ((o_4 319 (by decide)).trans ((o_3 319 (by decide)).trans ((o_2 319 (by decide)).trans ((o_1 319 (by decide))))))).trans hsp_
            replace hwi_ := ((o_5 320 (by first | decide | omega)).trans ((o_4 320 (by decide)).trans ((o_3 320 (by decide)).trans ((o_2 320 (by decide)).trans ((o_1 320 (by decide))))))).trans hwi_
            replace hwa_ := ((o_5 321 (by first | decide | omega)).trans ((o_4 321 (by decide)).trans ((o_3 321 (by decide)).trans ((o_2 321 (by decide)).trans ((o_1 321 (by decide))))))).trans hwa_
            replace hva_ := ((o_5 322 (by first | decide | omega)).trans ((o_4 322 (by decide)).trans ((o_3 322 (by decide)).trans ((o_2 322 (by decide)).trans ((o_1 322 (by decide))))))).trans hva_
            replace hbo_ := ((o_5 323 (by first | decide | omega)).trans ((o_4 323 (by decide)).trans ((o_3 323 (by decide)).trans ((o_2 323 (by decide)).trans ((o_1 323 (by decide))))))).trans hbo_
            replace hju_ := ((o_5 324 (by first | decide | omega)).trans ((o_4 324 (by decide)).trans ((o_3 324 (by decide)).trans ((o_2 324 (by decide)).trans ((o_1 324 (by decide))))))).trans hju_
            replace hdr_ := ((o_5 325 (by first | decide | omega)).trans ((o_4 325 (by decide)).trans ((o_3 325 (by decide)).trans ((o_2 325 (by decide)).trans ((o_1 325 (by decide))))))).trans hdr_
            replace hdn_ := ((o_5 326 (by first | decide | omega)).trans ((o_4 326 (by decide)).trans ((o_3 326 (by decide)).trans ((o_2 326 (by decide)).trans ((o_1 326 (by decide))))))).trans hdn_
            replace hsl_ := ((o_5 327 (by first | decide | omega)).trans ((o_4 327 (by decide)).trans ((o_3 327 (by decide)).trans ((o_2 327 (by decide)).trans ((o_1 327 (by decide))))))).trans hsl_
            replace hax_ := ((o_5 328 (by first | decide | omega)).trans ((o_4 328 (by decide)).trans ((o_3 328 (by decide)).trans ((o_2 328 (by decide)).trans ((o_1 328 (by decide))))))).trans hax_
            replace hlf_ := ((o_5 329 (by first | decide | omega)).trans ((o_4 329 (by decide)).trans ((o_3 329 (by decide)).trans ((o_2 329 (by decide)).trans ((o_1 329 (by decide))))))).trans hlf_
            replace hwh_ := ((o_5 330 (by first | decide | omega)).trans ((o_4 330 (by decide)).trans ((o_3 330 (by decide)).trans ((o_2 330 (by decide)).trans ((o_1 330 (by decide))))))).trans hwh_
            replace hw6_ := ((o_5 331 (by first | decide | omega)).trans ((o_4 331 (by decide)).trans ((o_3 331 (by decide)).trans ((o_2 331 (by decide)).trans ((o_1 331 (by decide))))))).trans hw6_
            replace hb6_ := ((o_5 332 (by first | decide | omega)).trans ((o_4 332 (by decide)).trans ((o_3 332 (by decide)).trans ((o_2 332 (by decide)).trans ((o_1 332 (by decide))))))).trans hb6_
            exact W.iret (v := nI np) hx hb hr (fun _ hT9 _ => ⟨⟨_, f_5, rfl, (⟨(upd (upd (upd (upd (upd ss (4 * np + 10) a1) (4 * np + 11) a2) (4 * np + 12) a3) (4 * np + 13) a4) 0 (nI (np + 1))), mJ_mk (ab2) (be2) (sn) (wn) (sa) (ly) (0) (fd) ((np + 1)) (nf) (nr) (na) (nt) (sp) (wi) (wa) (va) (bo) (ju) (dr) (dn) (sl) (ax) (lf) (wh) (w6) (b6) (hmo) (hss_) (him_) (hkq_) (hsp_) (hwi_) (hwa_) (hva_) (hbo_) (hju_) (hdr_) (hdn_) (hsl_) (hax_) (hlf_) (hwh_) (hw6_) (hb6_) ((stOK.np1 (stOK.upd1 (stOK.upd1 (stOK.upd1 (stOK.upd1 hst (by omega) (fun t h => by omega) (fun a j h1 h2 => by omega) (fun t h => by omega)) (by omega) (fun t h => by omega) (fun a j h1 h2 => by omega) (fun t h => by omega)) (by omega) (fun t h => by omega) (fun a j h1 h2 => by omega) (fun t h => by omega)) (by omega) (fun t h => by omega) (fun a j h1 h2 => by omega) (fun t h => by omega)) (by omega))) (by omega) (hdn) (hi0) (hi1) ((fun z => absurd rfl z)), ⟨np, nf, nr, na, nt, hst, Or.inr (Or.inr ⟨⟨c_9, c_21, c_33, c_46⟩, by omega, rfl, rfl⟩)⟩, fun j hj => (((((o_5 j (by omega))).trans (o_4 j (by omega))).trans (o_3 j (by omega))).trans (o_2 j (by omega))).trans (o_1 j (by omega))⟩), by rw [hT9]; exact hP⟩, hS.F hT9⟩) hS.2.2 dX11_person_123
          · have k_60 : np = 30 := (nI_eq (a := np) (b := 30) (by omega) (by omega)).mp c_60
            refine lv_bipush (v := (-4)) hx hb dX11_person_63 (by decide) ?_
            refine W_q9 hQ9 ?_
            exact W.iret (v := (-4)) hx hb hr (fun _ hT9 _ => ⟨⟨_, f, rfl, (⟨ss, mJ_mk (ab2) (be2) (sn) (wn) (sa) (ly) (rdy) (fd) (np) (nf) (nr) (na) (nt) (sp) (wi) (wa) (va) (bo) (ju) (dr) (dn) (sl) (ax) (lf) (wh) (w6) (b6) (hmo) (hss_) (him_) (hkq_) (hsp_) (hwi_) (hwa_) (hva_) (hbo_) (hju_) (hdr_) (hdn_) (hsl_) (hax_) (hlf_) (hwh_) (hw6_) (hb6_) (hst) (by omega) (hdn) (hi0) (hi1) (hrd), ⟨np, nf, nr, na, nt, hst, Or.inr (Or.inl ⟨⟨c_9, c_21, c_33, c_46⟩, k_60, rfl, rfl⟩)⟩, fun j hj => rfl⟩), by rw [hT9]; exact hP⟩, hS.F hT9⟩) hS.2.2 dX11_person_65
        · refine lv_bipush (v := (-2)) hx hb dX11_person_49 (by decide) ?_
          refine W_q9 hQ9 ?_
          exact W.iret (v := (-2)) hx hb hr (fun _ hT9 _ => ⟨⟨_, f, rfl, (⟨ss, mJ_mk (ab2) (be2) (sn) (wn) (sa) (ly) (rdy) (fd) (np) (nf) (nr) (na) (nt) (sp) (wi) (wa) (va) (bo) (ju) (dr) (dn) (sl) (ax) (lf) (wh) (w6) (b6) (hmo) (hss_) (him_) (hkq_) (hsp_) (hwi_) (hwa_) (hva_) (hbo_) (hju_) (hdr_) (hdn_) (hsl_) (hax_) (hlf_) (hwh_) (hw6_) (hb6_) (hst) (by omega) (hdn) (hi0) (hi1) (hrd), ⟨np, nf, nr, na, nt, hst, Or.inl ⟨fun z => c_46 z.2.2.2, rfl, rfl⟩⟩, fun j hj => rfl⟩), by rw [hT9]; exact hP⟩, hS.F hT9⟩) hS.2.2 dX11_person_51
theorem j2_person (l : Launch) (G : gW) (g : Nat → Nat) (hg : gOK g) (f : Nat → va_E) (ss : Nat → Int32) (im : Nat → Int32) (kq : Nat → Int32) (a1 : Int32) (a2 : Int32) (a3 : Int32) (a4 : Int32) (hI : mJ G g f ss im kq) (htA : ∀ n : Nat, n ≤ 10 → ss 4 = nI n → trOK ss n) : Met l yX11_person (wsT yX11_person cX11_person 6 (some .int)) ({ frames := 1, cells := 0, slots := 0, locals := 25 }) (bP G g f [.ref (g 315), .int a1, .int a2, .int a3, .int a4]) (bQi G g (fun (z9 : Int32) (f' : Nat → va_E) => ∃ ss9 : Nat → Int32, (mJ G g f' ss9 im kq) ∧ (∃ p9 f9 r9 u9 t9, stOK ss p9 f9 r9 u9 t9 ∧ ((¬ (inB 0 a1 3 = true ∧ inB 0 a2 3 = true ∧ inB 0 a3 1000 = true ∧ inB 0 a4 99 = true) ∧ z9 = -2 ∧ ss9 = ss) ∨ ((inB 0 a1 3 = true ∧ inB 0 a2 3 = true ∧ inB 0 a3 1000 = true ∧ inB 0 a4 99 = true) ∧ p9 = 30 ∧ z9 = -4 ∧ ss9 = ss) ∨ ((inB 0 a1 3 = true ∧ inB 0 a2 3 = true ∧ inB 0 a3 1000 = true ∧ inB 0 a4 99 = true) ∧ p9 < 30 ∧ z9 = nI p9 ∧ ss9 = upd (upd (upd (upd (upd ss (4 * p9 + 10) a1) (4 * p9 + 11) a2) (4 * p9 + 12) a3) (4 * p9 + 13) a4) 0 (nI (p9 + 1))))) ∧ ∀ j, j < 315 → f' j = f j)) 0 0 (gA g) := mJ_elim hI (fun ab2 be2 sn wn sa ly rdy fd np nf nr na nt sp wi wa va bo ju dr dn sl ax lf wh w6 b6 hmo hss_ him_ hkq_ hsp_ hwi_ hwa_ hva_ hbo_ hju_ hdr_ hdn_ hsl_ hax_ hlf_ hwh_ hw6_ hb6_ hst hfo hdn hi0 hi1 hrd => jn2_person l G g hg f ab2 be2 sn wn sa ly rdy fd ss np nf nr na nt im kq sp wi wa va bo ju dr dn sl ax lf wh w6 b6 a1 a2 a3 a4 hmo hss_ him_ hkq_ hsp_ hwi_ hwa_ hva_ hbo_ hju_ hdr_ hdn_ hsl_ hax_ hlf_ hwh_ hw6_ hb6_ hst hfo hdn hi0 hi1 hrd htA)
set_option maxHeartbeats 4000000 in
set_option maxRecDepth 100000 in
theorem jn2_kin (l : Launch) (G : gW) (g : Nat → Nat) (hg : gOK g) (f : Nat → va_E) (ab2 : Int64) (be2 : Int64) (sn : Int32) (wn : Int32) (sa : Int32) (ly : Int32) (rdy : Int32) (fd : Nat) (ss : Nat → Int32) (np : Nat) (nf : Nat) (nr : Nat) (na : Nat) (nt : Nat) (im : Nat → Int32) (kq : Nat → Int32) (sp : Nat → Int32) (wi : Nat → Int32) (wa : Nat → Int32) (va : Nat → Int64) (bo : Nat → Int32) (ju : Nat → Int32) (dr : Nat → Int32) (dn : Nat → Int32) (sl : Nat → Int32) (ax : Nat → Int32) (lf : Nat → Int32) (wh : Nat → Int32) (w6 : Nat → Int32) (b6 : Nat → Int32) (a1 : Int32) (a2 : Int32) (a3 : Int32) (hmo : f 315 = eO 10 [.ref (g 316), .ref (g 317), .ref (g 318), .long ab2, .long be2, .int sn, .ref (g 319), .ref (g 320), .int wn, .ref (g 321), .ref (g 322), .int sa, .int ly, .int rdy, .int (nI fd), .ref (g 323), .ref (g 324), .ref (g 325), .ref (g 326), .ref (g 327), .ref (g 328), .ref (g 329), .ref (g 330), .ref (g 331), .ref (g 332)]) (hss_ : f 316 = eI G 2246 ss) (him_ : f 317 = eI G 4492 im) (hkq_ : f 318 = eZ G 2 kq) (hsp_ : f 319 = eI G 70 sp) (hwi_ : f 320 = eI G 70 wi) (hwa_ : f 321 = eI G 70 wa) (hva_ : f 322 = eJ G 70 va) (hbo_ : f 323 = eI G 11 bo) (hju_ : f 324 = eI G 11 ju) (hdr_ : f 325 = eI G 264 dr) (hdn_ : f 326 = eI G 11 dn) (hsl_ : f 327 = eI G 330 sl) (hax_ : f 328 = eI G 44 ax) (hlf_ : f 329 = eI G 30 lf) (hwh_ : f 330 = eI G 6 wh) (hw6_ : f 331 = eI G 6 w6) (hb6_ : f 332 = eI G 6 b6) (hst : stOK ss np nf nr na nt) (hfo : fd ≤ 10) (hdn : ∀ k, k < 11 → ∃ d, d ≤ 24 ∧ dn k = nI d) (hi0 : stI im 0) (hi1 : stI im 2246) (hrd : ¬ rdy = 0 → fd = nt ∧ ∀ z, z < nt → rHz np nf nr na ss bo ju dr dn sl ax z) (htA : ∀ n : Nat, n ≤ 10 → ss 4 = nI n → trOK ss n) : Met l yX11_kin (wsT yX11_kin cX11_kin 5 (some .int)) ({ frames := 2, cells := 0, slots := 0, locals := 47 }) (bP G g f [.ref (g 315), .int a1, .int a2, .int a3]) (bQi G g (fun (z9 : Int32) (f' : Nat → va_E) => ∃ ss9 : Nat → Int32, (mJ G g f' ss9 im kq) ∧ (∃ p9 f9 r9 u9 t9, stOK ss p9 f9 r9 u9 t9 ∧ ((¬ (inN a1 p9 = true ∧ inB 0 a2 9 = true ∧ inB 0 a3 9999 = true) ∧ z9 = -2 ∧ ss9 = ss) ∨ ((inN a1 p9 = true ∧ inB 0 a2 9 = true ∧ inB 0 a3 9999 = true) ∧ f9 = 40 ∧ z9 = -4 ∧ ss9 = ss) ∨ ((inN a1 p9 = true ∧ inB 0 a2 9 = true ∧ inB 0 a3 9999 = true) ∧ f9 < 40 ∧ z9 = nI f9 ∧ ss9 = upd (upd (upd (upd ss (3 * f9 + 130) a1) (3 * f9 + 131) a2) (3 * f9 + 132) a3) 1 (nI (f9 + 1))))) ∧ ∀ j, j < 315 → f' j = f j)) 0 0 (gA g) := by
  refine Met.ofW (cc := cX11_kin) (maxL := 5) (ret := (some .int)) (by decide) rfl ?_
  intro p e s m args below meth c s₁ B hml hv
  obtain ⟨rfl, hP, hG⟩ := hv
  have hx := B.exec
  have hb := B.bytes
  have hr := B.returns
  have hts := my_hts (atoms_spec (ws := wsT yX11_kin cX11_kin 5 (some .int)) B.pre)
  have hown : s.vm.findClass RX11 = some m.cls := findClass_of_methodNamed B.named
  have hlocks := B.notSynchronized
  have hS : va_S (gA g) s.heap s.heap [] := va_S.rf
  have hl := lv_entry ([.ref (g 315), .int a1, .int a2, .int a3]) (n := 5) (Nat.le_of_ble_eq_true rfl)
  rw [lg_entry_eq]
  generalize (lg_sl ([.ref (g 315), .int a1, .int a2, .int a3]) ++ List.replicate (5 - (lg_sl ([.ref (g 315), .int a1, .int a2, .int a3])).length) Slot.unset).toArray = ls at hl ⊢
  have hl : lv_has ls 5 [(0, .ref (g 315)), (1, .int a1), (2, .int a2), (3, .int a3)] := hl
  refine W_q8 (fun Q9 hQ9 => ?_)
  have hc0 := hst.c0
  have hc1 := hst.c1
  have hc2 := hst.c2
  have hc3 := hst.c3
  have hc4 := hst.c4
  have htr := htA nt hst.c4 hst.h4
  refine lv_aload_n hx hb dX11_kin_0 rfl (lv_at hl 0 rfl) ?_
  refine lv_iconst (v := 0) hx hb dX11_kin_1 (by decide) ?_
  refine lv_iload_n hx hb dX11_kin_2 rfl (lv_at hl 1 rfl) ?_
  refine rd_calli (va_runV (As := [.int 0, .int a1]) (rest := []) ⟨hx, hb, hml, hown, hts⟩ (r_is l G g hg f ab2 be2 sn wn sa ly rdy (nI fd) ss 0 np a1 hmo hss_ (by first | assumption | omega | decide) (hst.h0) (by first | assumption | omega | decide)) (my_cwV hts ok_X11_is w_186 rfl rfl ⟨Nat.le_of_ble_eq_true rfl, Nat.le_of_ble_eq_true rfl⟩) ⟨bP.blind, va_recv hG.1 hP (ci := 10) (q0 := 315) rfl (wl_at (by decide) hmo), fun U hU hW => ⟨rfl, by rw [hU]; exact hP, kG.warm hW hG⟩⟩ rfl rfl hl.1 rfl (lv_room (Nat.le_of_ble_eq_true rfl)) dX11_kin_3 ⟨Nat.le_of_ble_eq_true rfl, Nat.le_of_ble_eq_true rfl⟩) (fun r hr9 => ?_)
  subst hr9
  refine my_ifeq (tgt := 28) hx hb dX11_kin_6 (by decide) (fun c_6 => ?_) (fun c_6 => ?_)
  · refine lv_bipush (v := (-2)) hx hb dX11_kin_28 (by decide) ?_
    refine W_q9 hQ9 ?_
    exact W.iret (v := (-2)) hx hb hr (fun _ hT9 _ => ⟨⟨_, f, rfl, (⟨ss, mJ_mk (ab2) (be2) (sn) (wn) (sa) (ly) (rdy) (fd) (np) (nf) (nr) (na) (nt) (sp) (wi) (wa) (va) (bo) (ju) (dr) (dn) (sl) (ax) (lf) (wh) (w6) (b6) (hmo) (hss_) (him_) (hkq_) (hsp_) (hwi_) (hwa_) (hva_) (hbo_) (hju_) (hdr_) (hdn_) (hsl_) (hax_) (hlf_) (hwh_) (hw6_) (hb6_) (hst) (by omega) (hdn) (hi0) (hi1) (hrd), ⟨np, nf, nr, na, nt, hst, Or.inl ⟨fun z => c_6 z.1, rfl, rfl⟩⟩, fun j hj => rfl⟩), by rw [hT9]; exact hP⟩, hS.F hT9⟩) hS.2.2 dX11_kin_30
  · refine lv_iload_n hx hb dX11_kin_9 rfl (lv_at hl 2 rfl) ?_
    refine lv_i2l hx hb dX11_kin_10 rfl ?_
    refine lv_lconst (v := 0) hx hb dX11_kin_11 (by decide) ?_
    refine my_bel (v := Int32.toInt64 0) (by decide) ?_
    refine lv_ldc2 (v := 9) hx hb hown (hts (.constantLong RX11 91 (9)) w_185) dX11_kin_12 ?_
    refine my_bel (v := Int32.toInt64 9) (by decide) ?_
    refine rd_calli (va_runS (As := [.long (Int32.toInt64 a2), .long (Int32.toInt64 0), .long (Int32.toInt64 9)]) (rest := []) ⟨hx, hb, hml, hown, hts⟩ (r_in l G g hg f a2 0 9  ) (my_cwS hts ok_X11_in w_162 rfl rfl ⟨Nat.le_of_ble_eq_true rfl, Nat.le_of_ble_eq_true rfl⟩) ⟨bP.blind, fun U hU hW => ⟨rfl, by rw [hU]; exact hP, kG.warm hW hG⟩⟩ rfl rfl hl.1 rfl (lv_room (Nat.le_of_ble_eq_true rfl)) dX11_kin_15 ⟨Nat.le_of_ble_eq_true rfl, Nat.le_of_ble_eq_true rfl⟩) (fun r hr9 => ?_)
    subst hr9
    refine my_ifeq (tgt := 28) hx hb dX11_kin_18 (by decide) (fun c_18 => ?_) (fun c_18 => ?_)
    · refine lv_bipush (v := (-2)) hx hb dX11_kin_28 (by decide) ?_
      refine W_q9 hQ9 ?_
      exact W.iret (v := (-2)) hx hb hr (fun _ hT9 _ => ⟨⟨_, f, rfl, (⟨ss, mJ_mk (ab2) (be2) (sn) (wn) (sa) (ly) (rdy) (fd) (np) (nf) (nr) (na) (nt) (sp) (wi) (wa) (va) (bo) (ju) (dr) (dn) (sl) (ax) (lf) (wh) (w6) (b6) (hmo) (hss_) (him_) (hkq_) (hsp_) (hwi_) (hwa_) (hva_) (hbo_) (hju_) (hdr_) (hdn_) (hsl_) (hax_) (hlf_) (hwh_) (hw6_) (hb6_) (hst) (by omega) (hdn) (hi0) (hi1) (hrd), ⟨np, nf, nr, na, nt, hst, Or.inl ⟨fun z => c_18 z.2.1, rfl, rfl⟩⟩, fun j hj => rfl⟩), by rw [hT9]; exact hP⟩, hS.F hT9⟩) hS.2.2 dX11_kin_30
    · refine lv_iload_n hx hb dX11_kin_21 rfl (lv_at hl 3 rfl) ?_
      refine rd_calli (va_runS (As := [.int a3]) (rest := []) ⟨hx, hb, hml, hown, hts⟩ (r_isDay l G g hg f a3  ) (my_cwS hts ok_X11_isDay w_190 rfl rfl ⟨Nat.le_of_ble_eq_true rfl, Nat.le_of_ble_eq_true rfl⟩) ⟨bP.blind, fun U hU hW => ⟨rfl, by rw [hU]; exact hP, kG.warm hW hG⟩⟩ rfl rfl hl.1 rfl (lv_room (Nat.le_of_ble_eq_true rfl)) dX11_kin_22 ⟨Nat.le_of_ble_eq_true rfl, Nat.le_of_ble_eq_true rfl⟩) (fun r hr9 => ?_)
      subst hr9
      refine my_ifne (tgt := 31) hx hb dX11_kin_25 (by decide) (fun c_25 => ?_) (fun c_25 => ?_)
      · refine lv_aload_n hx hb dX11_kin_31 rfl (lv_at hl 0 rfl) ?_
        refine va_get (D := G.1) (ci := 10) (v := .ref (g 316)) (C := RX11) (T := TX11) (N := 25) hx hb hts inlX11 hown hG.1 hP 315 (wl_at (by decide) hmo) rfl 0 (by decide) (hts (.fieldLink RX11 7 "SwornListsModel" "st" "[I") w_112) (fun _ h9 => h9) rfl dX11_kin_32 ?_
        refine lv_iconst (v := 1) hx hb dX11_kin_35 (by decide) ?_
        refine va_iald hx hb hG.1 hP 316 0 (wl_at (by decide) hss_) rfl (by unfold vp_in; decide) dX11_kin_36 ?_
        refine my_bei (v := ss 1) (rfl) ?_
        refine my_bei (v := nI nf) (hst.h1) ?_
        refine lv_bipush (v := 40) hx hb dX11_kin_37 (by decide) ?_
        refine lv_icmp_ne (tgt := 45) hx hb dX11_kin_39 (by decide) (fun c_39 => ?_) (fun c_39 => ?_)
        · have k_39 : ¬ nf = 40 := fun z9 => c_39 ((nI_eq (a := nf) (b := 40) (by omega) (by omega)).mpr z9)
          refine lv_sipush (v := 130) hx hb dX11_kin_45 (by decide) ?_
          refine lv_iconst (v := 3) hx hb dX11_kin_48 (by decide) ?_
          refine lv_aload_n hx hb dX11_kin_49 rfl (lv_at hl 0 rfl) ?_
          refine va_get (D := G.1) (ci := 10) (v := .ref (g 316)) (C := RX11) (T := TX11) (N := 25) hx hb hts inlX11 hown hG.1 hP 315 (wl_at (by decide) hmo) rfl 0 (by decide) (hts (.fieldLink RX11 7 "SwornListsModel" "st" "[I") w_112) (fun _ h9 => h9) rfl dX11_kin_50 ?_
          refine lv_iconst (v := 1) hx hb dX11_kin_53 (by decide) ?_
          refine va_iald hx hb hG.1 hP 316 0 (wl_at (by decide) hss_) rfl (by unfold vp_in; decide) dX11_kin_54 ?_
          refine my_bei (v := ss 1) (rfl) ?_
          refine my_bei (v := nI nf) (hst.h1) ?_
          refine lv_imul hx hb dX11_kin_55 ?_
          refine my_bei (v := nI (3 * nf)) (pk_mul 3 nf) ?_
          refine lv_iadd hx hb dX11_kin_56 ?_
          refine my_bei (v := nI (3 * nf + 130)) ((nI_add 130 (3 * nf)).trans (congrArg nI (show 130 + (3 * nf) = 3 * nf + 130 by omega))) ?_
          refine lv_istore (lv' := [(4, .int (nI (3 * nf + 130))), (0, .ref (g 315)), (1, .int a1), (2, .int a2), (3, .int a3)]) hx hb dX11_kin_57 hl (by decide) rfl (fun ls hl => ?_)
          refine lv_aload_n hx hb dX11_kin_59 rfl (lv_at hl 1 rfl) ?_
          refine va_get (D := G.1) (ci := 10) (v := .ref (g 316)) (C := RX11) (T := TX11) (N := 25) hx hb hts inlX11 hown hG.1 hP 315 (wl_at (by decide) hmo) rfl 0 (by decide) (hts (.fieldLink RX11 7 "SwornListsModel" "st" "[I") w_112) (fun _ h9 => h9) rfl dX11_kin_60 ?_
          refine lv_iload hx hb dX11_kin_63 (lv_at hl 0 rfl) ?_
          refine lv_iload_n hx hb dX11_kin_65 rfl (lv_at hl 2 rfl) ?_
          refine va_iast hx hb hG.1 hP (wl_D hg f) hS 316 0 (wl_at (by decide) hss_) rfl (vp_in_nI (by omega) (by decide)) dX11_kin_66 (fun H locs hP _ hS => ?_)
          have hP := (congrArg (fun z9 => va_P G.1 vwCl ((wl g f).set 316 (g 316, eI G 2246 ((upd ss z9 a1)))) H) (show Int32.toNatClampNeg (nI (3 * nf + 130)) = 3 * nf + 130 from nI_clamp (by omega))).mp hP
          obtain ⟨f_1, hP, e_1, o_1⟩ := b_put (by decide) hP
          have hss_ : f_1 316 = eI G 2246 (upd ss (3 * nf + 130) a1) := e_1
          refine lv_aload_n hx hb dX11_kin_67 rfl (lv_at hl 1 rfl) ?_
          replace hmo := ((o_1 315 (by decide))).trans hmo
          refine va_get (D := G.1) (ci := 10) (v := .ref (g 316)) (C := RX11) (T := TX11) (N := 25) hx hb hts inlX11 hown hG.1 hP 315 (wl_at (by decide) hmo) rfl 0 (by decide) (hts (.fieldLink RX11 7 "SwornListsModel" "st" "[I") w_112) (fun _ h9 => h9) rfl dX11_kin_68 ?_
          refine lv_iload hx hb dX11_kin_71 (lv_at hl 0 rfl) ?_
          refine lv_iconst (v := 1) hx hb dX11_kin_73 (by decide) ?_
          refine lv_iadd hx hb dX11_kin_74 ?_
          refine my_bei (v := nI (3 * nf + 131)) ((nI_add (3 * nf + 130) 1).trans (congrArg nI (show (3 * nf + 130) + 1 = 3 * nf + 131 by omega))) ?_
          refine lv_iload_n hx hb dX11_kin_75 rfl (lv_at hl 3 rfl) ?_
          refine va_iast hx hb hG.1 hP (wl_D hg f_1) hS 316 0 (wl_at (by decide) hss_) rfl (vp_in_nI (by omega) (by decide)) dX11_kin_76 (fun H locs hP _ hS => ?_)
          have hP := (congrArg (fun z9 => va_P G.1 vwCl ((wl g f_1).set 316 (g 316, eI G 2246 ((upd (upd ss (3 * nf + 130) a1) z9 a2)))) H) (show Int32.toNatClampNeg (nI (3 * nf + 131)) = 3 * nf + 131 from nI_clamp (by omega))).mp hP
          obtain ⟨f_2, hP, e_2, o_2⟩ := b_put (by decide) hP
          have hss_ : f_2 316 = eI G 2246 (upd (upd ss (3 * nf + 130) a1) (3 * nf + 131) a2) := e_2
          refine lv_aload_n hx hb dX11_kin_77 rfl (lv_at hl 1 rfl) ?_
          replace hmo := ((o_2 315 (by decide))).trans hmo
          refine va_get (D := G.1) (ci := 10) (v := .ref (g 316)) (C := RX11) (T := TX11) (N := 25) hx hb hts inlX11 hown hG.1 hP 315 (wl_at (by decide) hmo) rfl 0 (by decide) (hts (.fieldLink RX11 7 "SwornListsModel" "st" "[I") w_112) (fun _ h9 => h9) rfl dX11_kin_78 ?_
          refine lv_iload hx hb dX11_kin_81 (lv_at hl 0 rfl) ?_
          refine lv_iconst (v := 2) hx hb dX11_kin_83 (by decide) ?_
          refine lv_iadd hx hb dX11_kin_84 ?_
          refine my_bei (v := nI (3 * nf + 132)) ((nI_add (3 * nf + 130) 2).trans (congrArg nI (show (3 * nf + 130) + 2 = 3 * nf + 132 by omega))) ?_
          refine lv_iload_n hx hb dX11_kin_85 rfl (lv_at hl 4 rfl) ?_
          refine va_iast hx hb hG.1 hP (wl_D hg f_2) hS 316 0 (wl_at (by decide) hss_) rfl (vp_in_nI (by omega) (by decide)) dX11_kin_86 (fun H locs hP _ hS => ?_)
          have hP := (congrArg (fun z9 => va_P G.1 vwCl ((wl g f_2).set 316 (g 316, eI G 2246 ((upd (upd (upd ss (3 * nf + 130) a1) (3 * nf + 131) a2) z9 a3)))) H) (show Int32.toNatClampNeg (nI (3 * nf + 132)) = 3 * nf + 132 from nI_clamp (by omega))).mp hP
          obtain ⟨f_3, hP, e_3, o_3⟩ := b_put (by decide) hP
          have hss_ : f_3 316 = eI G 2246 (upd (upd (upd ss (3 * nf + 130) a1) (3 * nf + 131) a2) (3 * nf + 132) a3) := e_3
          refine lv_aload_n hx hb dX11_kin_87 rfl (lv_at hl 1 rfl) ?_
          refine lv_iconst (v := 1) hx hb dX11_kin_88 (by decide) ?_
          replace hmo := ((o_3 315 (by decide))).trans hmo
          refine b_calli (va_runV (As := [.int 1]) (rest := []) ⟨hx, hb, hml, hown, hts⟩ (r_one l G g hg f_3 ab2 be2 sn wn sa ly rdy (nI fd) (upd (upd (upd ss (3 * nf + 130) a1) (3 * nf + 131) a2) (3 * nf + 132) a3) 1 nf hmo hss_ (by first | assumption | omega | decide) ((pk_un (by first | decide | omega)).trans ((pk_un (by first | decide | omega)).trans ((pk_un (by first | decide | omega)).trans (hst.h1)))) (by first | assumption | omega | decide)) (my_cwV hts ok_X11_one w_165 rfl rfl ⟨Nat.le_of_ble_eq_true rfl, Nat.le_of_ble_eq_true rfl⟩) ⟨bP.blind, va_recv hG.1 hP (ci := 10) (q0 := 315) rfl (wl_at (by decide) hmo), fun U hU hW => ⟨rfl, by rw [hU]; exact hP, kG.warm hW hG⟩⟩ rfl rfl hl.1 rfl (lv_room (Nat.le_of_ble_eq_true rfl)) dX11_kin_89 ⟨Nat.le_of_ble_eq_true rfl, Nat.le_of_ble_eq_true rfl⟩) hS (fun v1 f_4 H locs hq9 hP hS => ?_)
          obtain ⟨rfl, hq_4_0, hq_4_1, o_4⟩ := hq9
          have hmo : f_4 315 = eO 10 [.ref (g 316), .ref (g 317), .ref (g 318), .long ab2, .long be2, .int sn, .ref (g 319), .ref (g 320), .int wn, .ref (g 321), .ref (g 322), .int sa, .int ly, .int 0, .int (nI fd), .ref (g 323), .ref (g 324), .ref (g 325), .ref (g 326), .ref (g 327), .ref (g 328), .ref (g 329), .ref (g 330), .ref (g 331), .ref (g 332)] := hq_4_0
          have hss_ : f_4 316 = eI G 2246 (upd (upd (upd (upd ss (3 * nf + 130) a1) (3 * nf + 131) a2) (3 * nf + 132) a3) 1 (nI (nf + 1))) := hq_4_1
          refine W_q9 hQ9 ?_
          replace him_ := ((o_4 317 (by first | decide | omega)).trans ((o_3 317 (by decide)).trans ((o_2 317 (by decide)).trans ((o_1 317 (by decide)))))).trans him_
          replace hkq_ := ((o_4 318 (by first | decide | omega)).trans ((o_3 318 (by decide)).trans ((o_2 318 (by decide)).trans ((o_1 318 (by decide)))))).trans hkq_
          replace hsp_ := ((o_4 319 (by first | decide | omega)).trans ((o_3 319 (by decide)).trans ((o_2 319 (by decide)).trans ((o_1 319 (by decide)))))).trans hsp_
          replace hwi_ := ((o_4 320 (by first | decide | omega)).trans ((o_3 320 (by decide)).trans ((o_2 320 (by decide)).trans ((o_1 320 (by decide)))))).trans hwi_
          replace hwa_ := ((o_4 321 (by first | decide | omega)).trans ((o_3 321 (by decide)).trans ((o_2 321 (by decide)).trans ((o_1 321 (by decide)))))).trans hwa_
          replace hva_ := ((o_4 322 (by first | decide | omega)).trans ((o_3 322 (by decide)).trans ((o_2 322 (by decide)).trans ((o_1 322 (by decide)))))).trans hva_
          replace hbo_ := ((o_4 323 (by first | decide | omega)).trans ((o_3 323 (by decide)).trans ((o_2 323 (by decide)).trans ((o_1 323 (by decide)))))).trans hbo_
          replace hju_ := ((o_4 324 (by first | decide | omega)).trans ((o_3 324 (by decide)).trans ((o_2 324 (by decide)).trans ((o_1 324 (by decide)))))).trans hju_
          replace hdr_ := ((o_4 325 (by first | decide | omega)).trans ((o_3 325 (by decide)).trans ((o_2 325 (by decide)).trans ((o_1 325 (by decide)))))).trans hdr_
          replace hdn_ := ((o_4 326 (by first | decide | omega)).trans ((o_3 326 (by decide)).trans ((o_2 326 (by decide)).trans ((o_1 326 (by decide)))))).trans hdn_
          replace hsl_ := ((o_4 327 (by first | decide | omega)).trans ((o_3 327 (by decide)).trans ((o_2 327 (by decide)).trans ((o_1 327 (by decide)))))).trans hsl_
          replace hax_ := ((o_4 328 (by first | decide | omega)).trans ((o_3 328 (by decide)).trans ((o_2 328 (by decide)).trans ((o_1 328 (by decide)))))).trans hax_
          replace hlf_ := ((o_4 329 (by first | decide | omega)).trans ((o_3 329 (by decide)).trans ((o_2 329 (by decide)).trans ((o_1 329 (by decide)))))).trans hlf_
          replace hwh_ := ((o_4 330 (by first | decide | omega)).trans ((o_3 330 (by decide)).trans ((o_2 330 (by decide)).trans ((o_1 330 (by decide)))))).trans hwh_
          replace hw6_ := ((o_4 331 (by first | decide | omega)).trans ((o_3 331 (by decide)).trans ((o_2 331 (by decide)).trans ((o_1 331 (by decide)))))).trans hw6_
          replace hb6_ := ((o_4 332 (by first | decide | omega)).trans ((o_3 332 (by decide)).trans ((o_2 332 (by decide)).trans ((o_1 332 (by decide)))))).trans hb6_
          exact W.iret (v := nI nf) hx hb hr (fun _ hT9 _ => ⟨⟨_, f_4, rfl, (⟨(upd (upd (upd (upd ss (3 * nf + 130) a1) (3 * nf + 131) a2) (3 * nf + 132) a3) 1 (nI (nf + 1))), mJ_mk (ab2) (be2) (sn) (wn) (sa) (ly) (0) (fd) (np) ((nf + 1)) (nr) (na) (nt) (sp) (wi) (wa) (va) (bo) (ju) (dr) (dn) (sl) (ax) (lf) (wh) (w6) (b6) (hmo) (hss_) (him_) (hkq_) (hsp_) (hwi_) (hwa_) (hva_) (hbo_) (hju_) (hdr_) (hdn_) (hsl_) (hax_) (hlf_) (hwh_) (hw6_) (hb6_) ((stOK.nf1 (stOK.upd1 (stOK.upd1 (stOK.upd1 hst (by omega) (fun t h => by omega) (fun a j h1 h2 => by omega) (fun t h => by omega)) (by omega) (fun t h => by omega) (fun a j h1 h2 => by omega) (fun t h => by omega)) (by omega) (fun t h => by omega) (fun a j h1 h2 => by omega) (fun t h => by omega)) (by omega))) (by omega) (hdn) (hi0) (hi1) ((fun z => absurd rfl z)), ⟨np, nf, nr, na, nt, hst, Or.inr (Or.inr ⟨⟨c_6, c_18, c_25⟩, by omega, rfl, rfl⟩)⟩, fun j hj => ((((o_4 j (by omega))).trans (o_3 j (by omega))).trans (o_2 j (by omega))).trans (o_1 j (by omega))⟩), by rw [hT9]; exact hP⟩, hS.F hT9⟩) hS.2.2 dX11_kin_92
        · have k_39 : nf = 40 := (nI_eq (a := nf) (b := 40) (by omega) (by omega)).mp c_39
          refine lv_bipush (v := (-4)) hx hb dX11_kin_42 (by decide) ?_
          refine W_q9 hQ9 ?_
          exact W.iret (v := (-4)) hx hb hr (fun _ hT9 _ => ⟨⟨_, f, rfl, (⟨ss, mJ_mk (ab2) (be2) (sn) (wn) (sa) (ly) (rdy) (fd) (np) (nf) (nr) (na) (nt) (sp) (wi) (wa) (va) (bo) (ju) (dr) (dn) (sl) (ax) (lf) (wh) (w6) (b6) (hmo) (hss_) (him_) (hkq_) (hsp_) (hwi_) (hwa_) (hva_) (hbo_) (hju_) (hdr_) (hdn_) (hsl_) (hax_) (hlf_) (hwh_) (hw6_) (hb6_) (hst) (by omega) (hdn) (hi0) (hi1) (hrd), ⟨np, nf, nr, na, nt, hst, Or.inr (Or.inl ⟨⟨c_6, c_18, c_25⟩, k_39, rfl, rfl⟩)⟩, fun j hj => rfl⟩), by rw [hT9]; exact hP⟩, hS.F hT9⟩) hS.2.2 dX11_kin_44
      · refine lv_bipush (v := (-2)) hx hb dX11_kin_28 (by decide) ?_
        refine W_q9 hQ9 ?_
        exact W.iret (v := (-2)) hx hb hr (fun _ hT9 _ => ⟨⟨_, f, rfl, (⟨ss, mJ_mk (ab2) (be2) (sn) (wn) (sa) (ly) (rdy) (fd) (np) (nf) (nr) (na) (nt) (sp) (wi) (wa) (va) (bo) (ju) (dr) (dn) (sl) (ax) (lf) (wh) (w6) (b6) (hmo) (hss_) (him_) (hkq_) (hsp_) (hwi_) (hwa_) (hva_) (hbo_) (hju_) (hdr_) (hdn_) (hsl_) (hax_) (hlf_) (hwh_) (hw6_) (hb6_) (hst) (by omega) (hdn) (hi0) (hi1) (hrd), ⟨np, nf, nr, na, nt, hst, Or.inl ⟨fun z => c_25 z.2.2, rfl, rfl⟩⟩, fun j hj => rfl⟩), by rw [hT9]; exact hP⟩, hS.F hT9⟩) hS.2.2 dX11_kin_30
theorem j2_kin (l : Launch) (G : gW) (g : Nat → Nat) (hg : gOK g) (f : Nat → va_E) (ss : Nat → Int32) (im : Nat → Int32) (kq : Nat → Int32) (a1 : Int32) (a2 : Int32) (a3 : Int32) (hI : mJ G g f ss im kq) (htA : ∀ n : Nat, n ≤ 10 → ss 4 = nI n → trOK ss n) : Met l yX11_kin (wsT yX11_kin cX11_kin 5 (some .int)) ({ frames := 2, cells := 0, slots := 0, locals := 47 }) (bP G g f [.ref (g 315), .int a1, .int a2, .int a3]) (bQi G g (fun (z9 : Int32) (f' : Nat → va_E) => ∃ ss9 : Nat → Int32, (mJ G g f' ss9 im kq) ∧ (∃ p9 f9 r9 u9 t9, stOK ss p9 f9 r9 u9 t9 ∧ ((¬ (inN a1 p9 = true ∧ inB 0 a2 9 = true ∧ inB 0 a3 9999 = true) ∧ z9 = -2 ∧ ss9 = ss) ∨ ((inN a1 p9 = true ∧ inB 0 a2 9 = true ∧ inB 0 a3 9999 = true) ∧ f9 = 40 ∧ z9 = -4 ∧ ss9 = ss) ∨ ((inN a1 p9 = true ∧ inB 0 a2 9 = true ∧ inB 0 a3 9999 = true) ∧ f9 < 40 ∧ z9 = nI f9 ∧ ss9 = upd (upd (upd (upd ss (3 * f9 + 130) a1) (3 * f9 + 131) a2) (3 * f9 + 132) a3) 1 (nI (f9 + 1))))) ∧ ∀ j, j < 315 → f' j = f j)) 0 0 (gA g) := mJ_elim hI (fun ab2 be2 sn wn sa ly rdy fd np nf nr na nt sp wi wa va bo ju dr dn sl ax lf wh w6 b6 hmo hss_ him_ hkq_ hsp_ hwi_ hwa_ hva_ hbo_ hju_ hdr_ hdn_ hsl_ hax_ hlf_ hwh_ hw6_ hb6_ hst hfo hdn hi0 hi1 hrd => jn2_kin l G g hg f ab2 be2 sn wn sa ly rdy fd ss np nf nr na nt im kq sp wi wa va bo ju dr dn sl ax lf wh w6 b6 a1 a2 a3 hmo hss_ him_ hkq_ hsp_ hwi_ hwa_ hva_ hbo_ hju_ hdr_ hdn_ hsl_ hax_ hlf_ hwh_ hw6_ hb6_ hst hfo hdn hi0 hi1 hrd htA)
set_option maxHeartbeats 4000000 in
set_option maxRecDepth 100000 in
theorem jn2_roll (l : Launch) (G : gW) (g : Nat → Nat) (hg : gOK g) (f : Nat → va_E) (ab2 : Int64) (be2 : Int64) (sn : Int32) (wn : Int32) (sa : Int32) (ly : Int32) (rdy : Int32) (fd : Nat) (ss : Nat → Int32) (np : Nat) (nf : Nat) (nr : Nat) (na : Nat) (nt : Nat) (im : Nat → Int32) (kq : Nat → Int32) (sp : Nat → Int32) (wi : Nat → Int32) (wa : Nat → Int32) (va : Nat → Int64) (bo : Nat → Int32) (ju : Nat → Int32) (dr : Nat → Int32) (dn : Nat → Int32) (sl : Nat → Int32) (ax : Nat → Int32) (lf : Nat → Int32) (wh : Nat → Int32) (w6 : Nat → Int32) (b6 : Nat → Int32) (a1 : Int32) (a2 : Int32) (a3 : Int32) (hmo : f 315 = eO 10 [.ref (g 316), .ref (g 317), .ref (g 318), .long ab2, .long be2, .int sn, .ref (g 319), .ref (g 320), .int wn, .ref (g 321), .ref (g 322), .int sa, .int ly, .int rdy, .int (nI fd), .ref (g 323), .ref (g 324), .ref (g 325), .ref (g 326), .ref (g 327), .ref (g 328), .ref (g 329), .ref (g 330), .ref (g 331), .ref (g 332)]) (hss_ : f 316 = eI G 2246 ss) (him_ : f 317 = eI G 4492 im) (hkq_ : f 318 = eZ G 2 kq) (hsp_ : f 319 = eI G 70 sp) (hwi_ : f 320 = eI G 70 wi) (hwa_ : f 321 = eI G 70 wa) (hva_ : f 322 = eJ G 70 va) (hbo_ : f 323 = eI G 11 bo) (hju_ : f 324 = eI G 11 ju) (hdr_ : f 325 = eI G 264 dr) (hdn_ : f 326 = eI G 11 dn) (hsl_ : f 327 = eI G 330 sl) (hax_ : f 328 = eI G 44 ax) (hlf_ : f 329 = eI G 30 lf) (hwh_ : f 330 = eI G 6 wh) (hw6_ : f 331 = eI G 6 w6) (hb6_ : f 332 = eI G 6 b6) (hst : stOK ss np nf nr na nt) (hfo : fd ≤ 10) (hdn : ∀ k, k < 11 → ∃ d, d ≤ 24 ∧ dn k = nI d) (hi0 : stI im 0) (hi1 : stI im 2246) (hrd : ¬ rdy = 0 → fd = nt ∧ ∀ z, z < nt → rHz np nf nr na ss bo ju dr dn sl ax z) (htA : ∀ n : Nat, n ≤ 10 → ss 4 = nI n → trOK ss n) : Met l yX11_roll (wsT yX11_roll cX11_roll 5 (some .int)) ({ frames := 2, cells := 0, slots := 0, locals := 45 }) (bP G g f [.ref (g 315), .int a1, .int a2, .int a3]) (bQi G g (fun (z9 : Int32) (f' : Nat → va_E) => ∃ ss9 : Nat → Int32, (mJ G g f' ss9 im kq) ∧ (∃ p9 f9 r9 u9 t9, stOK ss p9 f9 r9 u9 t9 ∧ ((¬ (inB 0 a1 ((1 <<< (nI p9 &&& 31)) - 1) = true ∧ inB 0 a2 199 = true ∧ inB 0 a3 9999 = true) ∧ z9 = -2 ∧ ss9 = ss) ∨ ((inB 0 a1 ((1 <<< (nI p9 &&& 31)) - 1) = true ∧ inB 0 a2 199 = true ∧ inB 0 a3 9999 = true) ∧ r9 = 4 ∧ z9 = -4 ∧ ss9 = ss) ∨ ((inB 0 a1 ((1 <<< (nI p9 &&& 31)) - 1) = true ∧ inB 0 a2 199 = true ∧ inB 0 a3 9999 = true) ∧ r9 < 4 ∧ z9 = nI r9 ∧ ss9 = upd (upd (upd (upd ss (3 * r9 + 250) a1) (3 * r9 + 251) a2) (3 * r9 + 252) a3) 2 (nI (r9 + 1))))) ∧ ∀ j, j < 315 → f' j = f j)) 0 0 (gA g) := by
  refine Met.ofW (cc := cX11_roll) (maxL := 5) (ret := (some .int)) (by decide) rfl ?_
  intro p e s m args below meth c s₁ B hml hv
  obtain ⟨rfl, hP, hG⟩ := hv
  have hx := B.exec
  have hb := B.bytes
  have hr := B.returns
  have hts := my_hts (atoms_spec (ws := wsT yX11_roll cX11_roll 5 (some .int)) B.pre)
  have hown : s.vm.findClass RX11 = some m.cls := findClass_of_methodNamed B.named
  have hlocks := B.notSynchronized
  have hS : va_S (gA g) s.heap s.heap [] := va_S.rf
  have hl := lv_entry ([.ref (g 315), .int a1, .int a2, .int a3]) (n := 5) (Nat.le_of_ble_eq_true rfl)
  rw [lg_entry_eq]
  generalize (lg_sl ([.ref (g 315), .int a1, .int a2, .int a3]) ++ List.replicate (5 - (lg_sl ([.ref (g 315), .int a1, .int a2, .int a3])).length) Slot.unset).toArray = ls at hl ⊢
  have hl : lv_has ls 5 [(0, .ref (g 315)), (1, .int a1), (2, .int a2), (3, .int a3)] := hl
  refine W_q8 (fun Q9 hQ9 => ?_)
  have hc0 := hst.c0
  have hc1 := hst.c1
  have hc2 := hst.c2
  have hc3 := hst.c3
  have hc4 := hst.c4
  have htr := htA nt hst.c4 hst.h4
  refine lv_iload_n hx hb dX11_roll_0 rfl (lv_at hl 1 rfl) ?_
  refine lv_i2l hx hb dX11_roll_1 rfl ?_
  refine lv_lconst (v := 0) hx hb dX11_roll_2 (by decide) ?_
  refine my_bel (v := Int32.toInt64 0) (by decide) ?_
  refine lv_aload_n hx hb dX11_roll_3 rfl (lv_at hl 0 rfl) ?_
  refine rd_calli (va_runV (As := []) (rest := [.long (Int32.toInt64 0), .long (Int32.toInt64 a1)]) ⟨hx, hb, hml, hown, hts⟩ (r_people l G g hg f ab2 be2 sn wn sa ly rdy (nI fd) ss np hmo hss_ (hst.h0)) (my_cwV hts ok_X11_people w_213 rfl rfl ⟨Nat.le_of_ble_eq_true rfl, Nat.le_of_ble_eq_true rfl⟩) ⟨bP.blind, va_recv hG.1 hP (ci := 10) (q0 := 315) rfl (wl_at (by decide) hmo), fun U hU hW => ⟨rfl, by rw [hU]; exact hP, kG.warm hW hG⟩⟩ rfl rfl hl.1 rfl (lv_room (Nat.le_of_ble_eq_true rfl)) dX11_roll_4 ⟨Nat.le_of_ble_eq_true rfl, Nat.le_of_ble_eq_true rfl⟩) (fun r hr9 => ?_)
  subst hr9
  refine lv_i2l hx hb dX11_roll_7 rfl ?_
  refine rd_calli (va_runS (As := [.long (Int32.toInt64 a1), .long (Int32.toInt64 0), .long (Int32.toInt64 ((1 <<< (nI np &&& 31)) - 1))]) (rest := []) ⟨hx, hb, hml, hown, hts⟩ (r_in l G g hg f a1 0 ((1 <<< (nI np &&& 31)) - 1)  ) (my_cwS hts ok_X11_in w_162 rfl rfl ⟨Nat.le_of_ble_eq_true rfl, Nat.le_of_ble_eq_true rfl⟩) ⟨bP.blind, fun U hU hW => ⟨rfl, by rw [hU]; exact hP, kG.warm hW hG⟩⟩ rfl rfl hl.1 rfl (lv_room (Nat.le_of_ble_eq_true rfl)) dX11_roll_8 ⟨Nat.le_of_ble_eq_true rfl, Nat.le_of_ble_eq_true rfl⟩) (fun r hr9 => ?_)
  subst hr9
  refine my_ifeq (tgt := 33) hx hb dX11_roll_11 (by decide) (fun c_11 => ?_) (fun c_11 => ?_)
  · refine lv_bipush (v := (-2)) hx hb dX11_roll_33 (by decide) ?_
    refine W_q9 hQ9 ?_
    exact W.iret (v := (-2)) hx hb hr (fun _ hT9 _ => ⟨⟨_, f, rfl, (⟨ss, mJ_mk (ab2) (be2) (sn) (wn) (sa) (ly) (rdy) (fd) (np) (nf) (nr) (na) (nt) (sp) (wi) (wa) (va) (bo) (ju) (dr) (dn) (sl) (ax) (lf) (wh) (w6) (b6) (hmo) (hss_) (him_) (hkq_) (hsp_) (hwi_) (hwa_) (hva_) (hbo_) (hju_) (hdr_) (hdn_) (hsl_) (hax_) (hlf_) (hwh_) (hw6_) (hb6_) (hst) (by omega) (hdn) (hi0) (hi1) (hrd), ⟨np, nf, nr, na, nt, hst, Or.inl ⟨fun z => c_11 z.1, rfl, rfl⟩⟩, fun j hj => rfl⟩), by rw [hT9]; exact hP⟩, hS.F hT9⟩) hS.2.2 dX11_roll_35
  · refine lv_iload_n hx hb dX11_roll_14 rfl (lv_at hl 2 rfl) ?_
    refine lv_i2l hx hb dX11_roll_15 rfl ?_
    refine lv_lconst (v := 0) hx hb dX11_roll_16 (by decide) ?_
    refine my_bel (v := Int32.toInt64 0) (by decide) ?_
    refine lv_ldc2 (v := 199) hx hb hown (hts (.constantLong RX11 101 (199)) w_212) dX11_roll_17 ?_
    refine my_bel (v := Int32.toInt64 199) (by decide) ?_
    refine rd_calli (va_runS (As := [.long (Int32.toInt64 a2), .long (Int32.toInt64 0), .long (Int32.toInt64 199)]) (rest := []) ⟨hx, hb, hml, hown, hts⟩ (r_in l G g hg f a2 0 199  ) (my_cwS hts ok_X11_in w_162 rfl rfl ⟨Nat.le_of_ble_eq_true rfl, Nat.le_of_ble_eq_true rfl⟩) ⟨bP.blind, fun U hU hW => ⟨rfl, by rw [hU]; exact hP, kG.warm hW hG⟩⟩ rfl rfl hl.1 rfl (lv_room (Nat.le_of_ble_eq_true rfl)) dX11_roll_20 ⟨Nat.le_of_ble_eq_true rfl, Nat.le_of_ble_eq_true rfl⟩) (fun r hr9 => ?_)
    subst hr9
    refine my_ifeq (tgt := 33) hx hb dX11_roll_23 (by decide) (fun c_23 => ?_) (fun c_23 => ?_)
    · refine lv_bipush (v := (-2)) hx hb dX11_roll_33 (by decide) ?_
      refine W_q9 hQ9 ?_
      exact W.iret (v := (-2)) hx hb hr (fun _ hT9 _ => ⟨⟨_, f, rfl, (⟨ss, mJ_mk (ab2) (be2) (sn) (wn) (sa) (ly) (rdy) (fd) (np) (nf) (nr) (na) (nt) (sp) (wi) (wa) (va) (bo) (ju) (dr) (dn) (sl) (ax) (lf) (wh) (w6) (b6) (hmo) (hss_) (him_) (hkq_) (hsp_) (hwi_) (hwa_) (hva_) (hbo_) (hju_) (hdr_) (hdn_) (hsl_) (hax_) (hlf_) (hwh_) (hw6_) (hb6_) (hst) (by omega) (hdn) (hi0) (hi1) (hrd), ⟨np, nf, nr, na, nt, hst, Or.inl ⟨fun z => c_23 z.2.1, rfl, rfl⟩⟩, fun j hj => rfl⟩), by rw [hT9]; exact hP⟩, hS.F hT9⟩) hS.2.2 dX11_roll_35
    · refine lv_iload_n hx hb dX11_roll_26 rfl (lv_at hl 3 rfl) ?_
      refine rd_calli (va_runS (As := [.int a3]) (rest := []) ⟨hx, hb, hml, hown, hts⟩ (r_isDay l G g hg f a3  ) (my_cwS hts ok_X11_isDay w_190 rfl rfl ⟨Nat.le_of_ble_eq_true rfl, Nat.le_of_ble_eq_true rfl⟩) ⟨bP.blind, fun U hU hW => ⟨rfl, by rw [hU]; exact hP, kG.warm hW hG⟩⟩ rfl rfl hl.1 rfl (lv_room (Nat.le_of_ble_eq_true rfl)) dX11_roll_27 ⟨Nat.le_of_ble_eq_true rfl, Nat.le_of_ble_eq_true rfl⟩) (fun r hr9 => ?_)
      subst hr9
      refine my_ifne (tgt := 36) hx hb dX11_roll_30 (by decide) (fun c_30 => ?_) (fun c_30 => ?_)
      · refine lv_aload_n hx hb dX11_roll_36 rfl (lv_at hl 0 rfl) ?_
        refine va_get (D := G.1) (ci := 10) (v := .ref (g 316)) (C := RX11) (T := TX11) (N := 25) hx hb hts inlX11 hown hG.1 hP 315 (wl_at (by decide) hmo) rfl 0 (by decide) (hts (.fieldLink RX11 7 "SwornListsModel" "st" "[I") w_112) (fun _ h9 => h9) rfl dX11_roll_37 ?_
        refine lv_iconst (v := 2) hx hb dX11_roll_40 (by decide) ?_
        refine va_iald hx hb hG.1 hP 316 0 (wl_at (by decide) hss_) rfl (by unfold vp_in; decide) dX11_roll_41 ?_
        refine my_bei (v := ss 2) (rfl) ?_
        refine my_bei (v := nI nr) (hst.h2) ?_
        refine lv_iconst (v := 4) hx hb dX11_roll_42 (by decide) ?_
        refine lv_icmp_ne (tgt := 49) hx hb dX11_roll_43 (by decide) (fun c_43 => ?_) (fun c_43 => ?_)
        · have k_43 : ¬ nr = 4 := fun z9 => c_43 ((nI_eq (a := nr) (b := 4) (by omega) (by omega)).mpr z9)
          refine lv_sipush (v := 250) hx hb dX11_roll_49 (by decide) ?_
          refine lv_iconst (v := 3) hx hb dX11_roll_52 (by decide) ?_
          refine lv_aload_n hx hb dX11_roll_53 rfl (lv_at hl 0 rfl) ?_
          refine va_get (D := G.1) (ci := 10) (v := .ref (g 316)) (C := RX11) (T := TX11) (N := 25) hx hb hts inlX11 hown hG.1 hP 315 (wl_at (by decide) hmo) rfl 0 (by decide) (hts (.fieldLink RX11 7 "SwornListsModel" "st" "[I") w_112) (fun _ h9 => h9) rfl dX11_roll_54 ?_
          refine lv_iconst (v := 2) hx hb dX11_roll_57 (by decide) ?_
          refine va_iald hx hb hG.1 hP 316 0 (wl_at (by decide) hss_) rfl (by unfold vp_in; decide) dX11_roll_58 ?_
          refine my_bei (v := ss 2) (rfl) ?_
          refine my_bei (v := nI nr) (hst.h2) ?_
          refine lv_imul hx hb dX11_roll_59 ?_
          refine my_bei (v := nI (3 * nr)) (pk_mul 3 nr) ?_
          refine lv_iadd hx hb dX11_roll_60 ?_
          refine my_bei (v := nI (3 * nr + 250)) ((nI_add 250 (3 * nr)).trans (congrArg nI (show 250 + (3 * nr) = 3 * nr + 250 by omega))) ?_
          refine lv_istore (lv' := [(4, .int (nI (3 * nr + 250))), (0, .ref (g 315)), (1, .int a1), (2, .int a2), (3, .int a3)]) hx hb dX11_roll_61 hl (by decide) rfl (fun ls hl => ?_)
          refine lv_aload_n hx hb dX11_roll_63 rfl (lv_at hl 1 rfl) ?_
          refine va_get (D := G.1) (ci := 10) (v := .ref (g 316)) (C := RX11) (T := TX11) (N := 25) hx hb hts inlX11 hown hG.1 hP 315 (wl_at (by decide) hmo) rfl 0 (by decide) (hts (.fieldLink RX11 7 "SwornListsModel" "st" "[I") w_112) (fun _ h9 => h9) rfl dX11_roll_64 ?_
          refine lv_iload hx hb dX11_roll_67 (lv_at hl 0 rfl) ?_
          refine lv_iload_n hx hb dX11_roll_69 rfl (lv_at hl 2 rfl) ?_
          refine va_iast hx hb hG.1 hP (wl_D hg f) hS 316 0 (wl_at (by decide) hss_) rfl (vp_in_nI (by omega) (by decide)) dX11_roll_70 (fun H locs hP _ hS => ?_)
          have hP := (congrArg (fun z9 => va_P G.1 vwCl ((wl g f).set 316 (g 316, eI G 2246 ((upd ss z9 a1)))) H) (show Int32.toNatClampNeg (nI (3 * nr + 250)) = 3 * nr + 250 from nI_clamp (by omega))).mp hP
          obtain ⟨f_1, hP, e_1, o_1⟩ := b_put (by decide) hP
          have hss_ : f_1 316 = eI G 2246 (upd ss (3 * nr + 250) a1) := e_1
          refine lv_aload_n hx hb dX11_roll_71 rfl (lv_at hl 1 rfl) ?_
          replace hmo := ((o_1 315 (by decide))).trans hmo
          refine va_get (D := G.1) (ci := 10) (v := .ref (g 316)) (C := RX11) (T := TX11) (N := 25) hx hb hts inlX11 hown hG.1 hP 315 (wl_at (by decide) hmo) rfl 0 (by decide) (hts (.fieldLink RX11 7 "SwornListsModel" "st" "[I") w_112) (fun _ h9 => h9) rfl dX11_roll_72 ?_
          refine lv_iload hx hb dX11_roll_75 (lv_at hl 0 rfl) ?_
          refine lv_iconst (v := 1) hx hb dX11_roll_77 (by decide) ?_
          refine lv_iadd hx hb dX11_roll_78 ?_
          refine my_bei (v := nI (3 * nr + 251)) ((nI_add (3 * nr + 250) 1).trans (congrArg nI (show (3 * nr + 250) + 1 = 3 * nr + 251 by omega))) ?_
          refine lv_iload_n hx hb dX11_roll_79 rfl (lv_at hl 3 rfl) ?_
          refine va_iast hx hb hG.1 hP (wl_D hg f_1) hS 316 0 (wl_at (by decide) hss_) rfl (vp_in_nI (by omega) (by decide)) dX11_roll_80 (fun H locs hP _ hS => ?_)
          have hP := (congrArg (fun z9 => va_P G.1 vwCl ((wl g f_1).set 316 (g 316, eI G 2246 ((upd (upd ss (3 * nr + 250) a1) z9 a2)))) H) (show Int32.toNatClampNeg (nI (3 * nr + 251)) = 3 * nr + 251 from nI_clamp (by omega))).mp hP
          obtain ⟨f_2, hP, e_2, o_2⟩ := b_put (by decide) hP
          have hss_ : f_2 316 = eI G 2246 (upd (upd ss (3 * nr + 250) a1) (3 * nr + 251) a2) := e_2
          refine lv_aload_n hx hb dX11_roll_81 rfl (lv_at hl 1 rfl) ?_
          replace hmo := ((o_2 315 (by decide))).trans hmo
          refine va_get (D := G.1) (ci := 10) (v := .ref (g 316)) (C := RX11) (T := TX11) (N := 25) hx hb hts inlX11 hown hG.1 hP 315 (wl_at (by decide) hmo) rfl 0 (by decide) (hts (.fieldLink RX11 7 "SwornListsModel" "st" "[I") w_112) (fun _ h9 => h9) rfl dX11_roll_82 ?_
          refine lv_iload hx hb dX11_roll_85 (lv_at hl 0 rfl) ?_
          refine lv_iconst (v := 2) hx hb dX11_roll_87 (by decide) ?_
          refine lv_iadd hx hb dX11_roll_88 ?_
          refine my_bei (v := nI (3 * nr + 252)) ((nI_add (3 * nr + 250) 2).trans (congrArg nI (show (3 * nr + 250) + 2 = 3 * nr + 252 by omega))) ?_
          refine lv_iload_n hx hb dX11_roll_89 rfl (lv_at hl 4 rfl) ?_
          refine va_iast hx hb hG.1 hP (wl_D hg f_2) hS 316 0 (wl_at (by decide) hss_) rfl (vp_in_nI (by omega) (by decide)) dX11_roll_90 (fun H locs hP _ hS => ?_)
          have hP := (congrArg (fun z9 => va_P G.1 vwCl ((wl g f_2).set 316 (g 316, eI G 2246 ((upd (upd (upd ss (3 * nr + 250) a1) (3 * nr + 251) a2) z9 a3)))) H) (show Int32.toNatClampNeg (nI (3 * nr + 252)) = 3 * nr + 252 from nI_clamp (by omega))).mp hP
          obtain ⟨f_3, hP, e_3, o_3⟩ := b_put (by decide) hP
          have hss_ : f_3 316 = eI G 2246 (upd (upd (upd ss (3 * nr + 250) a1) (3 * nr + 251) a2) (3 * nr + 252) a3) := e_3
          refine lv_aload_n hx hb dX11_roll_91 rfl (lv_at hl 1 rfl) ?_
          refine lv_iconst (v := 2) hx hb dX11_roll_92 (by decide) ?_
          replace hmo := ((o_3 315 (by decide))).trans hmo
          refine b_calli (va_runV (As := [.int 2]) (rest := []) ⟨hx, hb, hml, hown, hts⟩ (r_one l G g hg f_3 ab2 be2 sn wn sa ly rdy (nI fd) (upd (upd (upd ss (3 * nr + 250) a1) (3 * nr + 251) a2) (3 * nr + 252) a3) 2 nr hmo hss_ (by first | assumption | omega | decide) ((pk_un (by first | decide | omega)).trans ((pk_un (by first | decide | omega)).trans ((pk_un (by first | decide | omega)).trans (hst.h2)))) (by first | assumption | omega | decide)) (my_cwV hts ok_X11_one w_165 rfl rfl ⟨Nat.le_of_ble_eq_true rfl, Nat.le_of_ble_eq_true rfl⟩) ⟨bP.blind, va_recv hG.1 hP (ci := 10) (q0 := 315) rfl (wl_at (by decide) hmo), fun U hU hW => ⟨rfl, by rw [hU]; exact hP, kG.warm hW hG⟩⟩ rfl rfl hl.1 rfl (lv_room (Nat.le_of_ble_eq_true rfl)) dX11_roll_93 ⟨Nat.le_of_ble_eq_true rfl, Nat.le_of_ble_eq_true rfl⟩) hS (fun v1 f_4 H locs hq9 hP hS => ?_)
          obtain ⟨rfl, hq_4_0, hq_4_1, o_4⟩ := hq9
          have hmo : f_4 315 = eO 10 [.ref (g 316), .ref (g 317), .ref (g 318), .long ab2, .long be2, .int sn, .ref (g 319), .ref (g 320), .int wn, .ref (g 321), .ref (g 322), .int sa, .int ly, .int 0, .int (nI fd), .ref (g 323), .ref (g 324), .ref (g 325), .ref (g 326), .ref (g 327), .ref (g 328), .ref (g 329), .ref (g 330), .ref (g 331), .ref (g 332)] := hq_4_0
          have hss_ : f_4 316 = eI G 2246 (upd (upd (upd (upd ss (3 * nr + 250) a1) (3 * nr + 251) a2) (3 * nr + 252) a3) 2 (nI (nr + 1))) := hq_4_1
          refine W_q9 hQ9 ?_
          replace him_ := ((o_4 317 (by first | decide | omega)).trans ((o_3 317 (by decide)).trans ((o_2 317 (by decide)).trans ((o_1 317 (by decide)))))).trans him_
          replace hkq_ := ((o_4 318 (by first | decide | omega)).trans ((o_3 318 (by decide)).trans ((o_2 318 (by decide)).trans ((o_1 318 (by decide)))))).trans hkq_
          replace hsp_ := ((o_4 319 (by first | decide | omega)).trans ((o_3 319 (by decide)).trans ((o_2 319 (by decide)).trans ((o_1 319 (by decide)))))).trans hsp_
          replace hwi_ := ((o_4 320 (by first | decide | omega)).trans ((o_3 320 (by decide)).trans ((o_2 320 (by decide)).trans ((o_1 320 (by decide)))))).trans hwi_
          replace hwa_ := ((o_4 321 (by first | decide | omega)).trans ((o_3 321 (by decide)).trans ((o_2 321 (by decide)).trans ((o_1 321 (by decide)))))).trans hwa_
          replace hva_ := ((o_4 322 (by first | decide | omega)).trans ((o_3 322 (by decide)).trans ((o_2 322 (by decide)).trans ((o_1 322 (by decide)))))).trans hva_
          replace hbo_ := ((o_4 323 (by first | decide | omega)).trans ((o_3 323 (by decide)).trans ((o_2 323 (by decide)).trans ((o_1 323 (by decide)))))).trans hbo_
          replace hju_ := ((o_4 324 (by first | decide | omega)).trans ((o_3 324 (by decide)).trans ((o_2 324 (by decide)).trans ((o_1 324 (by decide)))))).trans hju_
          replace hdr_ := ((o_4 325 (by first | decide | omega)).trans ((o_3 325 (by decide)).trans ((o_2 325 (by decide)).trans ((o_1 325 (by decide)))))).trans hdr_
          replace hdn_ := ((o_4 326 (by first | decide | omega)).trans ((o_3 326 (by decide)).trans ((o_2 326 (by decide)).trans ((o_1 326 (by decide)))))).trans hdn_
          replace hsl_ := ((o_4 327 (by first | decide | omega)).trans ((o_3 327 (by decide)).trans ((o_2 327 (by decide)).trans ((o_1 327 (by decide)))))).trans hsl_
          replace hax_ := ((o_4 328 (by first | decide | omega)).trans ((o_3 328 (by decide)).trans ((o_2 328 (by decide)).trans ((o_1 328 (by decide)))))).trans hax_
          replace hlf_ := ((o_4 329 (by first | decide | omega)).trans ((o_3 329 (by decide)).trans ((o_2 329 (by decide)).trans ((o_1 329 (by decide)))))).trans hlf_
          replace hwh_ := ((o_4 330 (by first | decide | omega)).trans ((o_3 330 (by decide)).trans ((o_2 330 (by decide)).trans ((o_1 330 (by decide)))))).trans hwh_
          replace hw6_ := ((o_4 331 (by first | decide | omega)).trans ((o_3 331 (by decide)).trans ((o_2 331 (by decide)).trans ((o_1 331 (by decide)))))).trans hw6_
          replace hb6_ := ((o_4 332 (by first | decide | omega)).trans ((o_3 332 (by decide)).trans ((o_2 332 (by decide)).trans ((o_1 332 (by decide)))))).trans hb6_
          exact W.iret (v := nI nr) hx hb hr (fun _ hT9 _ => ⟨⟨_, f_4, rfl, (⟨(upd (upd (upd (upd ss (3 * nr + 250) a1) (3 * nr + 251) a2) (3 * nr + 252) a3) 2 (nI (nr + 1))), mJ_mk (ab2) (be2) (sn) (wn) (sa) (ly) (0) (fd) (np) (nf) ((nr + 1)) (na) (nt) (sp) (wi) (wa) (va) (bo) (ju) (dr) (dn) (sl) (ax) (lf) (wh) (w6) (b6) (hmo) (hss_) (him_) (hkq_) (hsp_) (hwi_) (hwa_) (hva_) (hbo_) (hju_) (hdr_) (hdn_) (hsl_) (hax_) (hlf_) (hwh_) (hw6_) (hb6_) ((stOK.nr1 (stOK.upd1 (stOK.upd1 (stOK.upd1 hst (by omega) (fun t h => by omega) (fun a j h1 h2 => by omega) (fun t h => by omega)) (by omega) (fun t h => by omega) (fun a j h1 h2 => by omega) (fun t h => by omega)) (by omega) (fun t h => by omega) (fun a j h1 h2 => by omega) (fun t h => by omega)) (by omega))) (by omega) (hdn) (hi0) (hi1) ((fun z => absurd rfl z)), ⟨np, nf, nr, na, nt, hst, Or.inr (Or.inr ⟨⟨c_11, c_23, c_30⟩, by omega, rfl, rfl⟩)⟩, fun j hj => ((((o_4 j (by omega))).trans (o_3 j (by omega))).trans (o_2 j (by omega))).trans (o_1 j (by omega))⟩), by rw [hT9]; exact hP⟩, hS.F hT9⟩) hS.2.2 dX11_roll_96
        · have k_43 : nr = 4 := (nI_eq (a := nr) (b := 4) (by omega) (by omega)).mp c_43
          refine lv_bipush (v := (-4)) hx hb dX11_roll_46 (by decide) ?_
          refine W_q9 hQ9 ?_
          exact W.iret (v := (-4)) hx hb hr (fun _ hT9 _ => ⟨⟨_, f, rfl, (⟨ss, mJ_mk (ab2) (be2) (sn) (wn) (sa) (ly) (rdy) (fd) (np) (nf) (nr) (na) (nt) (sp) (wi) (wa) (va) (bo) (ju) (dr) (dn) (sl) (ax) (lf) (wh) (w6) (b6) (hmo) (hss_) (him_) (hkq_) (hsp_) (hwi_) (hwa_) (hva_) (hbo_) (hju_) (hdr_) (hdn_) (hsl_) (hax_) (hlf_) (hwh_) (hw6_) (hb6_) (hst) (by omega) (hdn) (hi0) (hi1) (hrd), ⟨np, nf, nr, na, nt, hst, Or.inr (Or.inl ⟨⟨c_11, c_23, c_30⟩, k_43, rfl, rfl⟩)⟩, fun j hj => rfl⟩), by rw [hT9]; exact hP⟩, hS.F hT9⟩) hS.2.2 dX11_roll_48
      · refine lv_bipush (v := (-2)) hx hb dX11_roll_33 (by decide) ?_
        refine W_q9 hQ9 ?_
        exact W.iret (v := (-2)) hx hb hr (fun _ hT9 _ => ⟨⟨_, f, rfl, (⟨ss, mJ_mk (ab2) (be2) (sn) (wn) (sa) (ly) (rdy) (fd) (np) (nf) (nr) (na) (nt) (sp) (wi) (wa) (va) (bo) (ju) (dr) (dn) (sl) (ax) (lf) (wh) (w6) (b6) (hmo) (hss_) (him_) (hkq_) (hsp_) (hwi_) (hwa_) (hva_) (hbo_) (hju_) (hdr_) (hdn_) (hsl_) (hax_) (hlf_) (hwh_) (hw6_) (hb6_) (hst) (by omega) (hdn) (hi0) (hi1) (hrd), ⟨np, nf, nr, na, nt, hst, Or.inl ⟨fun z => c_30 z.2.2, rfl, rfl⟩⟩, fun j hj => rfl⟩), by rw [hT9]; exact hP⟩, hS.F hT9⟩) hS.2.2 dX11_roll_35
theorem j2_roll (l : Launch) (G : gW) (g : Nat → Nat) (hg : gOK g) (f : Nat → va_E) (ss : Nat → Int32) (im : Nat → Int32) (kq : Nat → Int32) (a1 : Int32) (a2 : Int32) (a3 : Int32) (hI : mJ G g f ss im kq) (htA : ∀ n : Nat, n ≤ 10 → ss 4 = nI n → trOK ss n) : Met l yX11_roll (wsT yX11_roll cX11_roll 5 (some .int)) ({ frames := 2, cells := 0, slots := 0, locals := 45 }) (bP G g f [.ref (g 315), .int a1, .int a2, .int a3]) (bQi G g (fun (z9 : Int32) (f' : Nat → va_E) => ∃ ss9 : Nat → Int32, (mJ G g f' ss9 im kq) ∧ (∃ p9 f9 r9 u9 t9, stOK ss p9 f9 r9 u9 t9 ∧ ((¬ (inB 0 a1 ((1 <<< (nI p9 &&& 31)) - 1) = true ∧ inB 0 a2 199 = true ∧ inB 0 a3 9999 = true) ∧ z9 = -2 ∧ ss9 = ss) ∨ ((inB 0 a1 ((1 <<< (nI p9 &&& 31)) - 1) = true ∧ inB 0 a2 199 = true ∧ inB 0 a3 9999 = true) ∧ r9 = 4 ∧ z9 = -4 ∧ ss9 = ss) ∨ ((inB 0 a1 ((1 <<< (nI p9 &&& 31)) - 1) = true ∧ inB 0 a2 199 = true ∧ inB 0 a3 9999 = true) ∧ r9 < 4 ∧ z9 = nI r9 ∧ ss9 = upd (upd (upd (upd ss (3 * r9 + 250) a1) (3 * r9 + 251) a2) (3 * r9 + 252) a3) 2 (nI (r9 + 1))))) ∧ ∀ j, j < 315 → f' j = f j)) 0 0 (gA g) := mJ_elim hI (fun ab2 be2 sn wn sa ly rdy fd np nf nr na nt sp wi wa va bo ju dr dn sl ax lf wh w6 b6 hmo hss_ him_ hkq_ hsp_ hwi_ hwa_ hva_ hbo_ hju_ hdr_ hdn_ hsl_ hax_ hlf_ hwh_ hw6_ hb6_ hst hfo hdn hi0 hi1 hrd => jn2_roll l G g hg f ab2 be2 sn wn sa ly rdy fd ss np nf nr na nt im kq sp wi wa va bo ju dr dn sl ax lf wh w6 b6 a1 a2 a3 hmo hss_ him_ hkq_ hsp_ hwi_ hwa_ hva_ hbo_ hju_ hdr_ hdn_ hsl_ hax_ hlf_ hwh_ hw6_ hb6_ hst hfo hdn hi0 hi1 hrd htA)
set_option maxHeartbeats 4000000 in
set_option maxRecDepth 100000 in
theorem jn2_rollOf (l : Launch) (G : gW) (g : Nat → Nat) (hg : gOK g) (f : Nat → va_E) (ab2 : Int64) (be2 : Int64) (sn : Int32) (wn : Int32) (sa : Int32) (ly : Int32) (rdy : Int32) (fd : Nat) (ss : Nat → Int32) (np : Nat) (nf : Nat) (nr : Nat) (na : Nat) (nt : Nat) (im : Nat → Int32) (kq : Nat → Int32) (sp : Nat → Int32) (wi : Nat → Int32) (wa : Nat → Int32) (va : Nat → Int64) (bo : Nat → Int32) (ju : Nat → Int32) (dr : Nat → Int32) (dn : Nat → Int32) (sl : Nat → Int32) (ax : Nat → Int32) (lf : Nat → Int32) (wh : Nat → Int32) (w6 : Nat → Int32) (b6 : Nat → Int32) (a1 : Int32) (hmo : f 315 = eO 10 [.ref (g 316), .ref (g 317), .ref (g 318), .long ab2, .long be2, .int sn, .ref (g 319), .ref (g 320), .int wn, .ref (g 321), .ref (g 322), .int sa, .int ly, .int rdy, .int (nI fd), .ref (g 323), .ref (g 324), .ref (g 325), .ref (g 326), .ref (g 327), .ref (g 328), .ref (g 329), .ref (g 330), .ref (g 331), .ref (g 332)]) (hss_ : f 316 = eI G 2246 ss) (him_ : f 317 = eI G 4492 im) (hkq_ : f 318 = eZ G 2 kq) (hsp_ : f 319 = eI G 70 sp) (hwi_ : f 320 = eI G 70 wi) (hwa_ : f 321 = eI G 70 wa) (hva_ : f 322 = eJ G 70 va) (hbo_ : f 323 = eI G 11 bo) (hju_ : f 324 = eI G 11 ju) (hdr_ : f 325 = eI G 264 dr) (hdn_ : f 326 = eI G 11 dn) (hsl_ : f 327 = eI G 330 sl) (hax_ : f 328 = eI G 44 ax) (hlf_ : f 329 = eI G 30 lf) (hwh_ : f 330 = eI G 6 wh) (hw6_ : f 331 = eI G 6 w6) (hb6_ : f 332 = eI G 6 b6) (hst : stOK ss np nf nr na nt) (hfo : fd ≤ 10) (hdn : ∀ k, k < 11 → ∃ d, d ≤ 24 ∧ dn k = nI d) (hi0 : stI im 0) (hi1 : stI im 2246) (hrd : ¬ rdy = 0 → fd = nt ∧ ∀ z, z < nt → rHz np nf nr na ss bo ju dr dn sl ax z) (htA : ∀ n : Nat, n ≤ 10 → ss 4 = nI n → trOK ss n) : Met l yX11_rollOf (wsT yX11_rollOf cX11_rollOf 2 (some .int)) ({ frames := 2, cells := 0, slots := 0, locals := 45 }) (bP G g f [.ref (g 315), .int a1]) (bQi G g (fun (z9 : Int32) (f' : Nat → va_E) => (mJ G g f' ss im kq) ∧ (∃ p9 f9 r9 u9 t9, stOK ss p9 f9 r9 u9 t9 ∧ (z9 = (if inB 0 a1 9999 = true then rlV p9 r9 (fun i c => ss (3 * i + c + 250)) a1 else -2))) ∧ ∀ j, j < 315 → f' j = f j)) 0 0 (gA g) := by
  refine Met.ofW (cc := cX11_rollOf) (maxL := 2) (ret := (some .int)) (by decide) rfl ?_
  intro p e s m args below meth c s₁ B hml hv
  obtain ⟨rfl, hP, hG⟩ := hv
  have hx := B.exec
  have hb := B.bytes
  have hr := B.returns
  have hts := my_hts (atoms_spec (ws := wsT yX11_rollOf cX11_rollOf 2 (some .int)) B.pre)
  have hown : s.vm.findClass RX11 = some m.cls := findClass_of_methodNamed B.named
  have hlocks := B.notSynchronized
  have hS : va_S (gA g) s.heap s.heap [] := va_S.rf
  have hl := lv_entry ([.ref (g 315), .int a1]) (n := 2) (Nat.le_of_ble_eq_true rfl)
  rw [lg_entry_eq]
  generalize (lg_sl ([.ref (g 315), .int a1]) ++ List.replicate (2 - (lg_sl ([.ref (g 315), .int a1])).length) Slot.unset).toArray = ls at hl ⊢
  have hl : lv_has ls 2 [(0, .ref (g 315)), (1, .int a1)] := hl
  refine W_q8 (fun Q9 hQ9 => ?_)
  have hc0 := hst.c0
  have hc1 := hst.c1
  have hc2 := hst.c2
  have hc3 := hst.c3
  have hc4 := hst.c4
  have htr := htA nt hst.c4 hst.h4
  refine lv_iload_n hx hb dX11_rollOf_0 rfl (lv_at hl 1 rfl) ?_
  refine rd_calli (va_runS (As := [.int a1]) (rest := []) ⟨hx, hb, hml, hown, hts⟩ (r_isDay l G g hg f a1  ) (my_cwS hts ok_X11_isDay w_190 rfl rfl ⟨Nat.le_of_ble_eq_true rfl, Nat.le_of_ble_eq_true rfl⟩) ⟨bP.blind, fun U hU hW => ⟨rfl, by rw [hU]; exact hP, kG.warm hW hG⟩⟩ rfl rfl hl.1 rfl (lv_room (Nat.le_of_ble_eq_true rfl)) dX11_rollOf_1 ⟨Nat.le_of_ble_eq_true rfl, Nat.le_of_ble_eq_true rfl⟩) (fun r hr9 => ?_)
  subst hr9
  refine my_ifeq (tgt := 15) hx hb dX11_rollOf_4 (by decide) (fun c_4 => ?_) (fun c_4 => ?_)
  · refine lv_bipush (v := (-2)) hx hb dX11_rollOf_15 (by decide) ?_
    refine W_q9 hQ9 ?_
    exact W.iret (v := (-2)) hx hb hr (fun _ hT9 _ => ⟨⟨_, f, rfl, (⟨mJ_mk (ab2) (be2) (sn) (wn) (sa) (ly) (rdy) (fd) (np) (nf) (nr) (na) (nt) (sp) (wi) (wa) (va) (bo) (ju) (dr) (dn) (sl) (ax) (lf) (wh) (w6) (b6) (hmo) (hss_) (him_) (hkq_) (hsp_) (hwi_) (hwa_) (hva_) (hbo_) (hju_) (hdr_) (hdn_) (hsl_) (hax_) (hlf_) (hwh_) (hw6_) (hb6_) (hst) (by omega) (hdn) (hi0) (hi1) (hrd), ⟨np, nf, nr, na, nt, hst, (if_neg c_4).symm⟩, fun j hj => rfl⟩), by rw [hT9]; exact hP⟩, hS.F hT9⟩) hS.2.2 dX11_rollOf_17
  · refine lv_aload_n hx hb dX11_rollOf_7 rfl (lv_at hl 0 rfl) ?_
    refine lv_iload_n hx hb dX11_rollOf_8 rfl (lv_at hl 1 rfl) ?_
    refine rd_calli (va_runV (As := [.int a1]) (rest := []) ⟨hx, hb, hml, hown, hts⟩ (r_theRollE l G g hg f ab2 be2 sn wn sa ly rdy (nI fd) ss np nf nr na nt a1 hmo hss_ (by first | assumption | omega | decide)) (my_cwV hts ok_X11_theRoll w_234 rfl rfl ⟨Nat.le_of_ble_eq_true rfl, Nat.le_of_ble_eq_true rfl⟩) ⟨bP.blind, va_recv hG.1 hP (ci := 10) (q0 := 315) rfl (wl_at (by decide) hmo), fun U hU hW => ⟨rfl, by rw [hU]; exact hP, kG.warm hW hG⟩⟩ rfl rfl hl.1 rfl (lv_room (Nat.le_of_ble_eq_true rfl)) dX11_rollOf_9 ⟨Nat.le_of_ble_eq_true rfl, Nat.le_of_ble_eq_true rfl⟩) (fun r hr9 => ?_)
    subst hr9
    refine lv_goto (tgt := 17) hx hb dX11_rollOf_12 (by decide) ?_
    refine W_q9 hQ9 ?_
    exact W.iret (v := rlV np nr (fun i c => ss (3 * i + c + 250)) a1) hx hb hr (fun _ hT9 _ => ⟨⟨_, f, rfl, (⟨mJ_mk (ab2) (be2) (sn) (wn) (sa) (ly) (rdy) (fd) (np) (nf) (nr) (na) (nt) (sp) (wi) (wa) (va) (bo) (ju) (dr) (dn) (sl) (ax) (lf) (wh) (w6) (b6) (hmo) (hss_) (him_) (hkq_) (hsp_) (hwi_) (hwa_) (hva_) (hbo_) (hju_) (hdr_) (hdn_) (hsl_) (hax_) (hlf_) (hwh_) (hw6_) (hb6_) (hst) (by omega) (hdn) (hi0) (hi1) (hrd), ⟨np, nf, nr, na, nt, hst, (if_pos c_4).symm⟩, fun j hj => rfl⟩), by rw [hT9]; exact hP⟩, hS.F hT9⟩) hS.2.2 dX11_rollOf_17
theorem j2_rollOf (l : Launch) (G : gW) (g : Nat → Nat) (hg : gOK g) (f : Nat → va_E) (ss : Nat → Int32) (im : Nat → Int32) (kq : Nat → Int32) (a1 : Int32) (hI : mJ G g f ss im kq) (htA : ∀ n : Nat, n ≤ 10 → ss 4 = nI n → trOK ss n) : Met l yX11_rollOf (wsT yX11_rollOf cX11_rollOf 2 (some .int)) ({ frames := 2, cells := 0, slots := 0, locals := 45 }) (bP G g f [.ref (g 315), .int a1]) (bQi G g (fun (z9 : Int32) (f' : Nat → va_E) => (mJ G g f' ss im kq) ∧ (∃ p9 f9 r9 u9 t9, stOK ss p9 f9 r9 u9 t9 ∧ (z9 = (if inB 0 a1 9999 = true then rlV p9 r9 (fun i c => ss (3 * i + c + 250)) a1 else -2))) ∧ ∀ j, j < 315 → f' j = f j)) 0 0 (gA g) := mJ_elim hI (fun ab2 be2 sn wn sa ly rdy fd np nf nr na nt sp wi wa va bo ju dr dn sl ax lf wh w6 b6 hmo hss_ him_ hkq_ hsp_ hwi_ hwa_ hva_ hbo_ hju_ hdr_ hdn_ hsl_ hax_ hlf_ hwh_ hw6_ hb6_ hst hfo hdn hi0 hi1 hrd => jn2_rollOf l G g hg f ab2 be2 sn wn sa ly rdy fd ss np nf nr na nt im kq sp wi wa va bo ju dr dn sl ax lf wh w6 b6 a1 hmo hss_ him_ hkq_ hsp_ hwi_ hwa_ hva_ hbo_ hju_ hdr_ hdn_ hsl_ hax_ hlf_ hwh_ hw6_ hb6_ hst hfo hdn hi0 hi1 hrd htA)
set_option maxHeartbeats 4000000 in
set_option maxRecDepth 100000 in
theorem jn2_write (l : Launch) (G : gW) (g : Nat → Nat) (hg : gOK g) (f : Nat → va_E) (ab2 : Int64) (be2 : Int64) (sn : Int32) (wn : Int32) (sa : Int32) (ly : Int32) (rdy : Int32) (fd : Nat) (ss : Nat → Int32) (np : Nat) (nf : Nat) (nr : Nat) (na : Nat) (nt : Nat) (im : Nat → Int32) (kq : Nat → Int32) (sp : Nat → Int32) (wi : Nat → Int32) (wa : Nat → Int32) (va : Nat → Int64) (bo : Nat → Int32) (ju : Nat → Int32) (dr : Nat → Int32) (dn : Nat → Int32) (sl : Nat → Int32) (ax : Nat → Int32) (lf : Nat → Int32) (wh : Nat → Int32) (w6 : Nat → Int32) (b6 : Nat → Int32) (a1 : Int32) (a2 : Int32) (hmo : f 315 = eO 10 [.ref (g 316), .ref (g 317), .ref (g 318), .long ab2, .long be2, .int sn, .ref (g 319), .ref (g 320), .int wn, .ref (g 321), .ref (g 322), .int sa, .int ly, .int rdy, .int (nI fd), .ref (g 323), .ref (g 324), .ref (g 325), .ref (g 326), .ref (g 327), .ref (g 328), .ref (g 329), .ref (g 330), .ref (g 331), .ref (g 332)]) (hss_ : f 316 = eI G 2246 ss) (him_ : f 317 = eI G 4492 im) (hkq_ : f 318 = eZ G 2 kq) (hsp_ : f 319 = eI G 70 sp) (hwi_ : f 320 = eI G 70 wi) (hwa_ : f 321 = eI G 70 wa) (hva_ : f 322 = eJ G 70 va) (hbo_ : f 323 = eI G 11 bo) (hju_ : f 324 = eI G 11 ju) (hdr_ : f 325 = eI G 264 dr) (hdn_ : f 326 = eI G 11 dn) (hsl_ : f 327 = eI G 330 sl) (hax_ : f 328 = eI G 44 ax) (hlf_ : f 329 = eI G 30 lf) (hwh_ : f 330 = eI G 6 wh) (hw6_ : f 331 = eI G 6 w6) (hb6_ : f 332 = eI G 6 b6) (hst : stOK ss np nf nr na nt) (hfo : fd ≤ 10) (hdn : ∀ k, k < 11 → ∃ d, d ≤ 24 ∧ dn k = nI d) (hi0 : stI im 0) (hi1 : stI im 2246) (hrd : ¬ rdy = 0 → fd = nt ∧ ∀ z, z < nt → rHz np nf nr na ss bo ju dr dn sl ax z) (htA : ∀ n : Nat, n ≤ 10 → ss 4 = nI n → trOK ss n) : Met l yX11_write (wsT yX11_write cX11_write 4 (some .int)) ({ frames := 2, cells := 0, slots := 0, locals := 45 }) (bP G g f [.ref (g 315), .int a1, .int a2]) (bQi G g (fun (z9 : Int32) (f' : Nat → va_E) => ∃ ss9 : Nat → Int32, (mJ G g f' ss9 im kq) ∧ (∃ p9 f9 r9 u9 t9, stOK ss p9 f9 r9 u9 t9 ∧ ((¬ (inB 0 a1 3 = true ∧ inB 0 a2 127 = true) ∧ z9 = -2 ∧ ss9 = ss) ∨ ((inB 0 a1 3 = true ∧ inB 0 a2 127 = true) ∧ ∃ x l, x ≤ 3 ∧ a1 = nI x ∧ l ≤ 50 ∧ ss (51 * x + 262) = nI l ∧ ((l = 50 ∧ z9 = -4 ∧ ss9 = ss) ∨ (l < 50 ∧ z9 = nI (l + 1) ∧ ss9 = upd (upd ss (51 * x + 262) (nI (l + 1))) (l + 51 * x + 263) a2))))) ∧ ∀ j, j < 315 → f' j = f j)) 0 0 (gA g) := by
  refine Met.ofW (cc := cX11_write) (maxL := 4) (ret := (some .int)) (by decide) rfl ?_
  intro p e s m args below meth c s₁ B hml hv
  obtain ⟨rfl, hP, hG⟩ := hv
  have hx := B.exec
  have hb := B.bytes
  have hr := B.returns
  have hts := my_hts (atoms_spec (ws := wsT yX11_write cX11_write 4 (some .int)) B.pre)
  have hown : s.vm.findClass RX11 = some m.cls := findClass_of_methodNamed B.named
  have hlocks := B.notSynchronized
  have hS : va_S (gA g) s.heap s.heap [] := va_S.rf
  have hl := lv_entry ([.ref (g 315), .int a1, .int a2]) (n := 4) (Nat.le_of_ble_eq_true rfl)
  rw [lg_entry_eq]
  generalize (lg_sl ([.ref (g 315), .int a1, .int a2]) ++ List.replicate (4 - (lg_sl ([.ref (g 315), .int a1, .int a2])).length) Slot.unset).toArray = ls at hl ⊢
  have hl : lv_has ls 4 [(0, .ref (g 315)), (1, .int a1), (2, .int a2)] := hl
  refine W_q8 (fun Q9 hQ9 => ?_)
  have hc0 := hst.c0
  have hc1 := hst.c1
  have hc2 := hst.c2
  have hc3 := hst.c3
  have hc4 := hst.c4
  have htr := htA nt hst.c4 hst.h4
  refine lv_iload_n hx hb dX11_write_0 rfl (lv_at hl 1 rfl) ?_
  refine rd_calli (va_runS (As := [.int a1]) (rest := []) ⟨hx, hb, hml, hown, hts⟩ (r_isText l G g hg f a1  ) (my_cwS hts ok_X11_isText w_259 rfl rfl ⟨Nat.le_of_ble_eq_true rfl, Nat.le_of_ble_eq_true rfl⟩) ⟨bP.blind, fun U hU hW => ⟨rfl, by rw [hU]; exact hP, kG.warm hW hG⟩⟩ rfl rfl hl.1 rfl (lv_room (Nat.le_of_ble_eq_true rfl)) dX11_write_1 ⟨Nat.le_of_ble_eq_true rfl, Nat.le_of_ble_eq_true rfl⟩) (fun r hr9 => ?_)
  subst hr9
  refine my_ifeq (tgt := 19) hx hb dX11_write_4 (by decide) (fun c_4 => ?_) (fun c_4 => ?_)
  · refine lv_bipush (v := (-2)) hx hb dX11_write_19 (by decide) ?_
    refine W_q9 hQ9 ?_
    exact W.iret (v := (-2)) hx hb hr (fun _ hT9 _ => ⟨⟨_, f, rfl, (⟨ss, mJ_mk (ab2) (be2) (sn) (wn) (sa) (ly) (rdy) (fd) (np) (nf) (nr) (na) (nt) (sp) (wi) (wa) (va) (bo) (ju) (dr) (dn) (sl) (ax) (lf) (wh) (w6) (b6) (hmo) (hss_) (him_) (hkq_) (hsp_) (hwi_) (hwa_) (hva_) (hbo_) (hju_) (hdr_) (hdn_) (hsl_) (hax_) (hlf_) (hwh_) (hw6_) (hb6_) (hst) (by omega) (hdn) (hi0) (hi1) (hrd), ⟨np, nf, nr, na, nt, hst, Or.inl ⟨fun z => c_4 z.1, rfl, rfl⟩⟩, fun j hj => rfl⟩), by rw [hT9]; exact hP⟩, hS.F hT9⟩) hS.2.2 dX11_write_21
  · refine lv_iload_n hx hb dX11_write_7 rfl (lv_at hl 2 rfl) ?_
    refine lv_i2l hx hb dX11_write_8 rfl ?_
    refine lv_lconst (v := 0) hx hb dX11_write_9 (by decide) ?_
    refine my_bel (v := Int32.toInt64 0) (by decide) ?_
    refine lv_ldc2 (v := 127) hx hb hown (hts (.constantLong RX11 169 (127)) w_258) dX11_write_10 ?_
    refine my_bel (v := Int32.toInt64 127) (by decide) ?_
    refine rd_calli (va_runS (As := [.long (Int32.toInt64 a2), .long (Int32.toInt64 0), .long (Int32.toInt64 127)]) (rest := []) ⟨hx, hb, hml, hown, hts⟩ (r_in l G g hg f a2 0 127  ) (my_cwS hts ok_X11_in w_162 rfl rfl ⟨Nat.le_of_ble_eq_true rfl, Nat.le_of_ble_eq_true rfl⟩) ⟨bP.blind, fun U hU hW => ⟨rfl, by rw [hU]; exact hP, kG.warm hW hG⟩⟩ rfl rfl hl.1 rfl (lv_room (Nat.le_of_ble_eq_true rfl)) dX11_write_13 ⟨Nat.le_of_ble_eq_true rfl, Nat.le_of_ble_eq_true rfl⟩) (fun r hr9 => ?_)
    subst hr9
    refine my_ifne (tgt := 22) hx hb dX11_write_16 (by decide) (fun c_16 => ?_) (fun c_16 => ?_)
    · obtain ⟨xn, hxn, rfl⟩ := inB_n (b := 3) (by omega) c_4
      obtain ⟨l7, hl7, he7⟩ := hst.tx xn (by omega)
      refine lv_sipush (v := 262) hx hb dX11_write_22 (by decide) ?_
      refine lv_bipush (v := 51) hx hb dX11_write_25 (by decide) ?_
      refine lv_iload_n hx hb dX11_write_27 rfl (lv_at hl 1 rfl) ?_
      refine lv_imul hx hb dX11_write_28 ?_
      refine my_bei (v := nI (51 * xn)) (pk_mul 51 xn) ?_
      refine lv_iadd hx hb dX11_write_29 ?_
      refine my_bei (v := nI (51 * xn + 262)) ((nI_add 262 (51 * xn)).trans (congrArg nI (show 262 + (51 * xn) = 51 * xn + 262 by omega))) ?_
      refine lv_istore_n (lv' := [(3, .int (nI (51 * xn + 262))), (0, .ref (g 315)), (1, .int (nI xn)), (2, .int a2)]) hx hb dX11_write_30 rfl hl (by decide) rfl (fun ls hl => ?_)
      refine lv_aload_n hx hb dX11_write_31 rfl (lv_at hl 1 rfl) ?_
      refine va_get (D := G.1) (ci := 10) (v := .ref (g 316)) (C := RX11) (T := TX11) (N := 25) hx hb hts inlX11 hown hG.1 hP 315 (wl_at (by decide) hmo) rfl 0 (by decide) (hts (.fieldLink RX11 7 "SwornListsModel" "st" "[I") w_112) (fun _ h9 => h9) rfl dX11_write_32 ?_
      refine lv_iload_n hx hb dX11_write_35 rfl (lv_at hl 0 rfl) ?_
      refine va_iald hx hb hG.1 hP 316 0 (wl_at (by decide) hss_) rfl (vp_in_nI (by omega) (by decide)) dX11_write_36 ?_
      refine my_bei (v := ss (51 * xn + 262)) (congrArg ss (nI_clamp (n := 51 * xn + 262) (by omega))) ?_
      refine my_bei (v := nI l7) (he7) ?_
      refine lv_bipush (v := 50) hx hb dX11_write_37 (by decide) ?_
      refine lv_icmp_ne (tgt := 45) hx hb dX11_write_39 (by decide) (fun c_39 => ?_) (fun c_39 => ?_)
      · have k_39 : ¬ l7 = 50 := fun z9 => c_39 ((nI_eq (a := l7) (b := 50) (by omega) (by omega)).mpr z9)
        refine lv_aload_n hx hb dX11_write_45 rfl (lv_at hl 1 rfl) ?_
        refine va_get (D := G.1) (ci := 10) (v := .ref (g 316)) (C := RX11) (T := TX11) (N := 25) hx hb hts inlX11 hown hG.1 hP 315 (wl_at (by decide) hmo) rfl 0 (by decide) (hts (.fieldLink RX11 7 "SwornListsModel" "st" "[I") w_112) (fun _ h9 => h9) rfl dX11_write_46 ?_
        refine lv_iload_n hx hb dX11_write_49 rfl (lv_at hl 0 rfl) ?_
        refine lv_dup2_11 hx hb dX11_write_50 rfl rfl ?_
        refine va_iald hx hb hG.1 hP 316 0 (wl_at (by decide) hss_) rfl (vp_in_nI (by omega) (by decide)) dX11_write_51 ?_
        refine my_bei (v := ss (51 * xn + 262)) (congrArg ss (nI_clamp (n := 51 * xn + 262) (by omega))) ?_
        refine my_bei (v := nI l7) (he7) ?_
        refine lv_iconst (v := 1) hx hb dX11_write_52 (by decide) ?_
        refine lv_iadd hx hb dX11_write_53 ?_
        refine my_bei (v := nI (l7 + 1)) (nI_add l7 1) ?_
        refine va_iast hx hb hG.1 hP (wl_D hg f) hS 316 0 (wl_at (by decide) hss_) rfl (vp_in_nI (by omega) (by decide)) dX11_write_54 (fun H locs hP _ hS => ?_)
        have hP := (congrArg (fun z9 => va_P G.1 vwCl ((wl g f).set 316 (g 316, eI G 2246 ((upd ss z9 (nI (l7 + 1)))))) H) (show Int32.toNatClampNeg (nI (51 * xn + 262)) = 51 * xn + 262 from nI_clamp (by omega))).mp hP
        obtain ⟨f_1, hP, e_1, o_1⟩ := b_put (by decide) hP
        have hss_ : f_1 316 = eI G 2246 (upd ss (51 * xn + 262) (nI (l7 + 1))) := e_1
        refine lv_aload_n hx hb dX11_write_55 rfl (lv_at hl 1 rfl) ?_
        replace hmo := ((o_1 315 (by decide))).trans hmo
        refine va_get (D := G.1) (ci := 10) (v := .ref (g 316)) (C := RX11) (T := TX11) (N := 25) hx hb hts inlX11 hown hG.1 hP 315 (wl_at (by decide) hmo) rfl 0 (by decide) (hts (.fieldLink RX11 7 "SwornListsModel" "st" "[I") w_112) (fun _ h9 => h9) rfl dX11_write_56 ?_
        refine lv_iload_n hx hb dX11_write_59 rfl (lv_at hl 0 rfl) ?_
        refine lv_aload_n hx hb dX11_write_60 rfl (lv_at hl 1 rfl) ?_
        refine va_get (D := G.1) (ci := 10) (v := .ref (g 316)) (C := RX11) (T := TX11) (N := 25) hx hb hts inlX11 hown hG.1 hP 315 (wl_at (by decide) hmo) rfl 0 (by decide) (hts (.fieldLink RX11 7 "SwornListsModel" "st" "[I") w_112) (fun _ h9 => h9) rfl dX11_write_61 ?_
        refine lv_iload_n hx hb dX11_write_64 rfl (lv_at hl 0 rfl) ?_
        refine va_iald hx hb hG.1 hP 316 0 (wl_at (by decide) hss_) rfl (vp_in_nI (by omega) (by decide)) dX11_write_65 ?_
        refine my_bei (v := (upd ss (51 * xn + 262) (nI (l7 + 1))) (51 * xn + 262)) (congrArg (upd ss (51 * xn + 262) (nI (l7 + 1))) (nI_clamp (n := 51 * xn + 262) (by omega))) ?_
        refine my_bei (v := nI (l7 + 1)) (pk_us) ?_
        refine lv_iadd hx hb dX11_write_66 ?_
        refine my_bei (v := nI (l7 + 51 * xn + 263)) ((nI_add (51 * xn + 262) (l7 + 1)).trans (congrArg nI (show (51 * xn + 262) + (l7 + 1) = l7 + 51 * xn + 263 by omega))) ?_
        refine lv_iload_n hx hb dX11_write_67 rfl (lv_at hl 3 rfl) ?_
        refine va_iast hx hb hG.1 hP (wl_D hg f_1) hS 316 0 (wl_at (by decide) hss_) rfl (vp_in_nI (by omega) (by decide)) dX11_write_68 (fun H locs hP _ hS => ?_)
        have hP := (congrArg (fun z9 => va_P G.1 vwCl ((wl g f_1).set 316 (g 316, eI G 2246 ((upd (upd ss (51 * xn + 262) (nI (l7 + 1))) z9 a2)))) H) (show Int32.toNatClampNeg (nI (l7 + 51 * xn + 263)) = l7 + 51 * xn + 263 from nI_clamp (by omega))).mp hP
        obtain ⟨f_2, hP, e_2, o_2⟩ := b_put (by decide) hP
        have hss_ : f_2 316 = eI G 2246 (upd (upd ss (51 * xn + 262) (nI (l7 + 1))) (l7 + 51 * xn + 263) a2) := e_2
        refine lv_aload_n hx hb dX11_write_69 rfl (lv_at hl 1 rfl) ?_
        replace hmo := ((o_2 315 (by decide))).trans hmo
        refine va_get (D := G.1) (ci := 10) (v := .ref (g 316)) (C := RX11) (T := TX11) (N := 25) hx hb hts inlX11 hown hG.1 hP 315 (wl_at (by decide) hmo) rfl 0 (by decide) (hts (.fieldLink RX11 7 "SwornListsModel" "st" "[I") w_112) (fun _ h9 => h9) rfl dX11_write_70 ?_
        refine lv_iload_n hx hb dX11_write_73 rfl (lv_at hl 0 rfl) ?_
        refine va_iald hx hb hG.1 hP 316 0 (wl_at (by decide) hss_) rfl (vp_in_nI (by omega) (by decide)) dX11_write_74 ?_
        refine my_bei (v := (upd (upd ss (51 * xn + 262) (nI (l7 + 1))) (l7 + 51 * xn + 263) a2) (51 * xn + 262)) (congrArg (upd (upd ss (51 * xn + 262) (nI (l7 + 1))) (l7 + 51 * xn + 263) a2) (nI_clamp (n := 51 * xn + 262) (by omega))) ?_
        refine W_q9 hQ9 ?_
        replace him_ := ((o_2 317 (by decide)).trans ((o_1 317 (by decide)))).trans him_
        replace hkq_ := ((o_2 318 (by decide)).trans ((o_1 318 (by decide)))).trans hkq_
        replace hsp_ := ((o_2 319 (by decide)).trans ((o_1 319 (by decide)))).trans hsp_
        replace hwi_ := ((o_2 320 (by decide)).trans ((o_1 320 (by decide)))).trans hwi_
        replace hwa_ := ((o_2 321 (by decide)).trans ((o_1 321 (by decide)))).trans hwa_
        replace hva_ := ((o_2 322 (by decide)).trans ((o_1 322 (by decide)))).trans hva_
        replace hbo_ := ((o_2 323 (by decide)).trans ((o_1 323 (by decide)))).trans hbo_
        replace hju_ := ((o_2 324 (by decide)).trans ((o_1 324 (by decide)))).trans hju_
        replace hdr_ := ((o_2 325 (by decide)).trans ((o_1 325 (by decide)))).trans hdr_
        replace hdn_ := ((o_2 326 (by decide)).trans ((o_1 326 (by decide)))).trans hdn_
        replace hsl_ := ((o_2 327 (by decide)).trans ((o_1 327 (by decide)))).trans hsl_
        replace hax_ := ((o_2 328 (by decide)).trans ((o_1 328 (by decide)))).trans hax_
        replace hlf_ := ((o_2 329 (by decide)).trans ((o_1 329 (by decide)))).trans hlf_
        replace hwh_ := ((o_2 330 (by decide)).trans ((o_1 330 (by decide)))).trans hwh_
        replace hw6_ := ((o_2 331 (by decide)).trans ((o_1 331 (by decide)))).trans hw6_
        replace hb6_ := ((o_2 332 (by decide)).trans ((o_1 332 (by decide)))).trans hb6_
        exact W.iret (v := (upd (upd ss (51 * xn + 262) (nI (l7 + 1))) (l7 + 51 * xn + 263) a2) (51 * xn + 262)) hx hb hr (fun _ hT9 _ => ⟨⟨_, f_2, rfl, (⟨(upd (upd ss (51 * xn + 262) (nI (l7 + 1))) (l7 + 51 * xn + 263) a2), mJ_mk (ab2) (be2) (sn) (wn) (sa) (ly) (rdy) (fd) (np) (nf) (nr) (na) (nt) (sp) (wi) (wa) (va) (bo) (ju) (dr) (dn) (sl) (ax) (lf) (wh) (w6) (b6) (hmo) (hss_) (him_) (hkq_) (hsp_) (hwi_) (hwa_) (hva_) (hbo_) (hju_) (hdr_) (hdn_) (hsl_) (hax_) (hlf_) (hwh_) (hw6_) (hb6_) ((stOK.upd1 (stOK.txu (x := xn) (l := l7 + 1) hst (by omega) (by omega)) (by omega) (fun t h => by omega) (fun a j h1 h2 => by omega) (fun t h => by omega))) (by omega) (hdn) (hi0) (hi1) ((fun q => ⟨(hrd q).1, fun z hz => rHz_ss hst.c0 hst.c1 hst.c2 (fun k hk => (pk_un (by omega)).trans (pk_un (by omega))) ((hrd q).2 z hz)⟩)), ⟨np, nf, nr, na, nt, hst, Or.inr ⟨⟨c_4, c_16⟩, xn, l7, hxn, rfl, hl7, he7, Or.inr ⟨by omega, (by rw [pk_un (by omega), pk_us]), rfl⟩⟩⟩, fun j hj => ((o_2 j (by omega))).trans (o_1 j (by omega))⟩), by rw [hT9]; exact hP⟩, hS.F hT9⟩) hS.2.2 dX11_write_75
      · have k_39 : l7 = 50 := (nI_eq (a := l7) (b := 50) (by omega) (by omega)).mp c_39
        refine lv_bipush (v := (-4)) hx hb dX11_write_42 (by decide) ?_
        refine W_q9 hQ9 ?_
        exact W.iret (v := (-4)) hx hb hr (fun _ hT9 _ => ⟨⟨_, f, rfl, (⟨ss, mJ_mk (ab2) (be2) (sn) (wn) (sa) (ly) (rdy) (fd) (np) (nf) (nr) (na) (nt) (sp) (wi) (wa) (va) (bo) (ju) (dr) (dn) (sl) (ax) (lf) (wh) (w6) (b6) (hmo) (hss_) (him_) (hkq_) (hsp_) (hwi_) (hwa_) (hva_) (hbo_) (hju_) (hdr_) (hdn_) (hsl_) (hax_) (hlf_) (hwh_) (hw6_) (hb6_) (hst) (by omega) (hdn) (hi0) (hi1) (hrd), ⟨np, nf, nr, na, nt, hst, Or.inr ⟨⟨c_4, c_16⟩, xn, l7, hxn, rfl, hl7, he7, Or.inl ⟨k_39, rfl, rfl⟩⟩⟩, fun j hj => rfl⟩), by rw [hT9]; exact hP⟩, hS.F hT9⟩) hS.2.2 dX11_write_44
    · refine lv_bipush (v := (-2)) hx hb dX11_write_19 (by decide) ?_
      refine W_q9 hQ9 ?_
      exact W.iret (v := (-2)) hx hb hr (fun _ hT9 _ => ⟨⟨_, f, rfl, (⟨ss, mJ_mk (ab2) (be2) (sn) (wn) (sa) (ly) (rdy) (fd) (np) (nf) (nr) (na) (nt) (sp) (wi) (wa) (va) (bo) (ju) (dr) (dn) (sl) (ax) (lf) (wh) (w6) (b6) (hmo) (hss_) (him_) (hkq_) (hsp_) (hwi_) (hwa_) (hva_) (hbo_) (hju_) (hdr_) (hdn_) (hsl_) (hax_) (hlf_) (hwh_) (hw6_) (hb6_) (hst) (by omega) (hdn) (hi0) (hi1) (hrd), ⟨np, nf, nr, na, nt, hst, Or.inl ⟨fun z => c_16 z.2, rfl, rfl⟩⟩, fun j hj => rfl⟩), by rw [hT9]; exact hP⟩, hS.F hT9⟩) hS.2.2 dX11_write_21
theorem j2_write (l : Launch) (G : gW) (g : Nat → Nat) (hg : gOK g) (f : Nat → va_E) (ss : Nat → Int32) (im : Nat → Int32) (kq : Nat → Int32) (a1 : Int32) (a2 : Int32) (hI : mJ G g f ss im kq) (htA : ∀ n : Nat, n ≤ 10 → ss 4 = nI n → trOK ss n) : Met l yX11_write (wsT yX11_write cX11_write 4 (some .int)) ({ frames := 2, cells := 0, slots := 0, locals := 45 }) (bP G g f [.ref (g 315), .int a1, .int a2]) (bQi G g (fun (z9 : Int32) (f' : Nat → va_E) => ∃ ss9 : Nat → Int32, (mJ G g f' ss9 im kq) ∧ (∃ p9 f9 r9 u9 t9, stOK ss p9 f9 r9 u9 t9 ∧ ((¬ (inB 0 a1 3 = true ∧ inB 0 a2 127 = true) ∧ z9 = -2 ∧ ss9 = ss) ∨ ((inB 0 a1 3 = true ∧ inB 0 a2 127 = true) ∧ ∃ x l, x ≤ 3 ∧ a1 = nI x ∧ l ≤ 50 ∧ ss (51 * x + 262) = nI l ∧ ((l = 50 ∧ z9 = -4 ∧ ss9 = ss) ∨ (l < 50 ∧ z9 = nI (l + 1) ∧ ss9 = upd (upd ss (51 * x + 262) (nI (l + 1))) (l + 51 * x + 263) a2))))) ∧ ∀ j, j < 315 → f' j = f j)) 0 0 (gA g) := mJ_elim hI (fun ab2 be2 sn wn sa ly rdy fd np nf nr na nt sp wi wa va bo ju dr dn sl ax lf wh w6 b6 hmo hss_ him_ hkq_ hsp_ hwi_ hwa_ hva_ hbo_ hju_ hdr_ hdn_ hsl_ hax_ hlf_ hwh_ hw6_ hb6_ hst hfo hdn hi0 hi1 hrd => jn2_write l G g hg f ab2 be2 sn wn sa ly rdy fd ss np nf nr na nt im kq sp wi wa va bo ju dr dn sl ax lf wh w6 b6 a1 a2 hmo hss_ him_ hkq_ hsp_ hwi_ hwa_ hva_ hbo_ hju_ hdr_ hdn_ hsl_ hax_ hlf_ hwh_ hw6_ hb6_ hst hfo hdn hi0 hi1 hrd htA)
set_option maxHeartbeats 4000000 in
set_option maxRecDepth 100000 in
theorem jn2_erase (l : Launch) (G : gW) (g : Nat → Nat) (hg : gOK g) (f : Nat → va_E) (ab2 : Int64) (be2 : Int64) (sn : Int32) (wn : Int32) (sa : Int32) (ly : Int32) (rdy : Int32) (fd : Nat) (ss : Nat → Int32) (np : Nat) (nf : Nat) (nr : Nat) (na : Nat) (nt : Nat) (im : Nat → Int32) (kq : Nat → Int32) (sp : Nat → Int32) (wi : Nat → Int32) (wa : Nat → Int32) (va : Nat → Int64) (bo : Nat → Int32) (ju : Nat → Int32) (dr : Nat → Int32) (dn : Nat → Int32) (sl : Nat → Int32) (ax : Nat → Int32) (lf : Nat → Int32) (wh : Nat → Int32) (w6 : Nat → Int32) (b6 : Nat → Int32) (a1 : Int32) (hmo : f 315 = eO 10 [.ref (g 316), .ref (g 317), .ref (g 318), .long ab2, .long be2, .int sn, .ref (g 319), .ref (g 320), .int wn, .ref (g 321), .ref (g 322), .int sa, .int ly, .int rdy, .int (nI fd), .ref (g 323), .ref (g 324), .ref (g 325), .ref (g 326), .ref (g 327), .ref (g 328), .ref (g 329), .ref (g 330), .ref (g 331), .ref (g 332)]) (hss_ : f 316 = eI G 2246 ss) (him_ : f 317 = eI G 4492 im) (hkq_ : f 318 = eZ G 2 kq) (hsp_ : f 319 = eI G 70 sp) (hwi_ : f 320 = eI G 70 wi) (hwa_ : f 321 = eI G 70 wa) (hva_ : f 322 = eJ G 70 va) (hbo_ : f 323 = eI G 11 bo) (hju_ : f 324 = eI G 11 ju) (hdr_ : f 325 = eI G 264 dr) (hdn_ : f 326 = eI G 11 dn) (hsl_ : f 327 = eI G 330 sl) (hax_ : f 328 = eI G 44 ax) (hlf_ : f 329 = eI G 30 lf) (hwh_ : f 330 = eI G 6 wh) (hw6_ : f 331 = eI G 6 w6) (hb6_ : f 332 = eI G 6 b6) (hst : stOK ss np nf nr na nt) (hfo : fd ≤ 10) (hdn : ∀ k, k < 11 → ∃ d, d ≤ 24 ∧ dn k = nI d) (hi0 : stI im 0) (hi1 : stI im 2246) (hrd : ¬ rdy = 0 → fd = nt ∧ ∀ z, z < nt → rHz np nf nr na ss bo ju dr dn sl ax z) (htA : ∀ n : Nat, n ≤ 10 → ss 4 = nI n → trOK ss n) : Met l yX11_erase (wsT yX11_erase cX11_erase 3 (some .int)) ({ frames := 2, cells := 0, slots := 0, locals := 45 }) (bP G g f [.ref (g 315), .int a1]) (bQi G g (fun (z9 : Int32) (f' : Nat → va_E) => ∃ ss9 : Nat → Int32, (mJ G g f' ss9 im kq) ∧ (∃ p9 f9 r9 u9 t9, stOK ss p9 f9 r9 u9 t9 ∧ ((¬ inB 0 a1 3 = true ∧ z9 = -2 ∧ ss9 = ss) ∨ (∃ x l, x ≤ 3 ∧ a1 = nI x ∧ ss (51 * x + 262) = nI l ∧ z9 = nI l ∧ ss9 = upd ss (51 * x + 262) 0))) ∧ ∀ j, j < 315 → f' j = f j)) 0 0 (gA g) := by
  refine Met.ofW (cc := cX11_erase) (maxL := 3) (ret := (some .int)) (by decide) rfl ?_
  intro p e s m args below meth c s₁ B hml hv
  obtain ⟨rfl, hP, hG⟩ := hv
  have hx := B.exec
  have hb := B.bytes
  have hr := B.returns
  have hts := my_hts (atoms_spec (ws := wsT yX11_erase cX11_erase 3 (some .int)) B.pre)
  have hown : s.vm.findClass RX11 = some m.cls := findClass_of_methodNamed B.named
  have hlocks := B.notSynchronized
  have hS : va_S (gA g) s.heap s.heap [] := va_S.rf
  have hl := lv_entry ([.ref (g 315), .int a1]) (n := 3) (Nat.le_of_ble_eq_true rfl)
  rw [lg_entry_eq]
  generalize (lg_sl ([.ref (g 315), .int a1]) ++ List.replicate (3 - (lg_sl ([.ref (g 315), .int a1])).length) Slot.unset).toArray = ls at hl ⊢
  have hl : lv_has ls 3 [(0, .ref (g 315)), (1, .int a1)] := hl
  refine W_q8 (fun Q9 hQ9 => ?_)
  have hc0 := hst.c0
  have hc1 := hst.c1
  have hc2 := hst.c2
  have hc3 := hst.c3
  have hc4 := hst.c4
  have htr := htA nt hst.c4 hst.h4
  refine lv_iload_n hx hb dX11_erase_0 rfl (lv_at hl 1 rfl) ?_
  refine rd_calli (va_runS (As := [.int a1]) (rest := []) ⟨hx, hb, hml, hown, hts⟩ (r_isText l G g hg f a1  ) (my_cwS hts ok_X11_isText w_259 rfl rfl ⟨Nat.le_of_ble_eq_true rfl, Nat.le_of_ble_eq_true rfl⟩) ⟨bP.blind, fun U hU hW => ⟨rfl, by rw [hU]; exact hP, kG.warm hW hG⟩⟩ rfl rfl hl.1 rfl (lv_room (Nat.le_of_ble_eq_true rfl)) dX11_erase_1 ⟨Nat.le_of_ble_eq_true rfl, Nat.le_of_ble_eq_true rfl⟩) (fun r hr9 => ?_)
  subst hr9
  refine my_ifne (tgt := 10) hx hb dX11_erase_4 (by decide) (fun c_4 => ?_) (fun c_4 => ?_)
  · obtain ⟨xn, hxn, rfl⟩ := inB_n (b := 3) (by omega) c_4
    obtain ⟨l7, hl7, he7⟩ := hst.tx xn (by omega)
    refine lv_aload_n hx hb dX11_erase_10 rfl (lv_at hl 0 rfl) ?_
    refine va_get (D := G.1) (ci := 10) (v := .ref (g 316)) (C := RX11) (T := TX11) (N := 25) hx hb hts inlX11 hown hG.1 hP 315 (wl_at (by decide) hmo) rfl 0 (by decide) (hts (.fieldLink RX11 7 "SwornListsModel" "st" "[I") w_112) (fun _ h9 => h9) rfl dX11_erase_11 ?_
    refine lv_sipush (v := 262) hx hb dX11_erase_14 (by decide) ?_
    refine lv_bipush (v := 51) hx hb dX11_erase_17 (by decide) ?_
    refine lv_iload_n hx hb dX11_erase_19 rfl (lv_at hl 1 rfl) ?_
    refine lv_imul hx hb dX11_erase_20 ?_
    refine my_bei (v := nI (51 * xn)) (pk_mul 51 xn) ?_
    refine lv_iadd hx hb dX11_erase_21 ?_
    refine my_bei (v := nI (51 * xn + 262)) ((nI_add 262 (51 * xn)).trans (congrArg nI (show 262 + (51 * xn) = 51 * xn + 262 by omega))) ?_
    refine va_iald hx hb hG.1 hP 316 0 (wl_at (by decide) hss_) rfl (vp_in_nI (by omega) (by decide)) dX11_erase_22 ?_
    refine my_bei (v := ss (51 * xn + 262)) (congrArg ss (nI_clamp (n := 51 * xn + 262) (by omega))) ?_
    refine my_bei (v := nI l7) (he7) ?_
    refine lv_istore_n (lv' := [(2, .int (nI l7)), (0, .ref (g 315)), (1, .int (nI xn))]) hx hb dX11_erase_23 rfl hl (by decide) rfl (fun ls hl => ?_)
    refine lv_aload_n hx hb dX11_erase_24 rfl (lv_at hl 1 rfl) ?_
    refine va_get (D := G.1) (ci := 10) (v := .ref (g 316)) (C := RX11) (T := TX11) (N := 25) hx hb hts inlX11 hown hG.1 hP 315 (wl_at (by decide) hmo) rfl 0 (by decide) (hts (.fieldLink RX11 7 "SwornListsModel" "st" "[I") w_112) (fun _ h9 => h9) rfl dX11_erase_25 ?_
    refine lv_sipush (v := 262) hx hb dX11_erase_28 (by decide) ?_
    refine lv_bipush (v := 51) hx hb dX11_erase_31 (by decide) ?_
    refine lv_iload_n hx hb dX11_erase_33 rfl (lv_at hl 2 rfl) ?_
    refine lv_imul hx hb dX11_erase_34 ?_
    refine my_bei (v := nI (51 * xn)) (pk_mul 51 xn) ?_
    refine lv_iadd hx hb dX11_erase_35 ?_
    refine my_bei (v := nI (51 * xn + 262)) ((nI_add 262 (51 * xn)).trans (congrArg nI (show 262 + (51 * xn) = 51 * xn + 262 by omega))) ?_
    refine lv_iconst (v := 0) hx hb dX11_erase_36 (by decide) ?_
    refine va_iast hx hb hG.1 hP (wl_D hg f) hS 316 0 (wl_at (by decide) hss_) rfl (vp_in_nI (by omega) (by decide)) dX11_erase_37 (fun H locs hP _ hS => ?_)
    have hP := (congrArg (fun z9 => va_P G.1 vwCl ((wl g f).set 316 (g 316, eI G 2246 ((upd ss z9 0)))) H) (show Int32.toNatClampNeg (nI (51 * xn + 262)) = 51 * xn + 262 from nI_clamp (by omega))).mp hP
    obtain ⟨f_1, hP, e_1, o_1⟩ := b_put (by decide) hP
    have hss_ : f_1 316 = eI G 2246 (upd ss (51 * xn + 262) 0) := e_1
    refine lv_iload_n hx hb dX11_erase_38 rfl (lv_at hl 0 rfl) ?_
    refine W_q9 hQ9 ?_
    replace hmo := ((o_1 315 (by decide))).trans hmo
    replace him_ := ((o_1 317 (by decide))).trans him_
    replace hkq_ := ((o_1 318 (by decide))).trans hkq_
    replace hsp_ := ((o_1 319 (by decide))).trans hsp_
    replace hwi_ := ((o_1 320 (by decide))).trans hwi_
    replace hwa_ := ((o_1 321 (by decide))).trans hwa_
    replace hva_ := ((o_1 322 (by decide))).trans hva_
    replace hbo_ := ((o_1 323 (by decide))).trans hbo_
    replace hju_ := ((o_1 324 (by decide))).trans hju_
    replace hdr_ := ((o_1 325 (by decide))).trans hdr_
    replace hdn_ := ((o_1 326 (by decide))).trans hdn_
    replace hsl_ := ((o_1 327 (by decide))).trans hsl_
    replace hax_ := ((o_1 328 (by decide))).trans hax_
    replace hlf_ := ((o_1 329 (by decide))).trans hlf_
    replace hwh_ := ((o_1 330 (by decide))).trans hwh_
    replace hw6_ := ((o_1 331 (by decide))).trans hw6_
    replace hb6_ := ((o_1 332 (by decide))).trans hb6_
    exact W.iret (v := nI l7) hx hb hr (fun _ hT9 _ => ⟨⟨_, f_1, rfl, (⟨(upd ss (51 * xn + 262) 0), mJ_mk (ab2) (be2) (sn) (wn) (sa) (ly) (rdy) (fd) (np) (nf) (nr) (na) (nt) (sp) (wi) (wa) (va) (bo) (ju) (dr) (dn) (sl) (ax) (lf) (wh) (w6) (b6) (hmo) (hss_) (him_) (hkq_) (hsp_) (hwi_) (hwa_) (hva_) (hbo_) (hju_) (hdr_) (hdn_) (hsl_) (hax_) (hlf_) (hwh_) (hw6_) (hb6_) ((stOK.txu (x := xn) (l := 0) hst (by omega) (by omega))) (by omega) (hdn) (hi0) (hi1) ((fun q => ⟨(hrd q).1, fun z hz => rHz_ss hst.c0 hst.c1 hst.c2 (fun k hk => pk_un (by omega)) ((hrd q).2 z hz)⟩)), ⟨np, nf, nr, na, nt, hst, Or.inr ⟨xn, l7, hxn, rfl, he7, rfl, rfl⟩⟩, fun j hj => (o_1 j (by omega))⟩), by rw [hT9]; exact hP⟩, hS.F hT9⟩) hS.2.2 dX11_erase_39
  · refine lv_bipush (v := (-2)) hx hb dX11_erase_7 (by decide) ?_
    refine W_q9 hQ9 ?_
    exact W.iret (v := (-2)) hx hb hr (fun _ hT9 _ => ⟨⟨_, f, rfl, (⟨ss, mJ_mk (ab2) (be2) (sn) (wn) (sa) (ly) (rdy) (fd) (np) (nf) (nr) (na) (nt) (sp) (wi) (wa) (va) (bo) (ju) (dr) (dn) (sl) (ax) (lf) (wh) (w6) (b6) (hmo) (hss_) (him_) (hkq_) (hsp_) (hwi_) (hwa_) (hva_) (hbo_) (hju_) (hdr_) (hdn_) (hsl_) (hax_) (hlf_) (hwh_) (hw6_) (hb6_) (hst) (by omega) (hdn) (hi0) (hi1) (hrd), ⟨np, nf, nr, na, nt, hst, Or.inl ⟨c_4, rfl, rfl⟩⟩, fun j hj => rfl⟩), by rw [hT9]; exact hP⟩, hS.F hT9⟩) hS.2.2 dX11_erase_9
theorem j2_erase (l : Launch) (G : gW) (g : Nat → Nat) (hg : gOK g) (f : Nat → va_E) (ss : Nat → Int32) (im : Nat → Int32) (kq : Nat → Int32) (a1 : Int32) (hI : mJ G g f ss im kq) (htA : ∀ n : Nat, n ≤ 10 → ss 4 = nI n → trOK ss n) : Met l yX11_erase (wsT yX11_erase cX11_erase 3 (some .int)) ({ frames := 2, cells := 0, slots := 0, locals := 45 }) (bP G g f [.ref (g 315), .int a1]) (bQi G g (fun (z9 : Int32) (f' : Nat → va_E) => ∃ ss9 : Nat → Int32, (mJ G g f' ss9 im kq) ∧ (∃ p9 f9 r9 u9 t9, stOK ss p9 f9 r9 u9 t9 ∧ ((¬ inB 0 a1 3 = true ∧ z9 = -2 ∧ ss9 = ss) ∨ (∃ x l, x ≤ 3 ∧ a1 = nI x ∧ ss (51 * x + 262) = nI l ∧ z9 = nI l ∧ ss9 = upd ss (51 * x + 262) 0))) ∧ ∀ j, j < 315 → f' j = f j)) 0 0 (gA g) := mJ_elim hI (fun ab2 be2 sn wn sa ly rdy fd np nf nr na nt sp wi wa va bo ju dr dn sl ax lf wh w6 b6 hmo hss_ him_ hkq_ hsp_ hwi_ hwa_ hva_ hbo_ hju_ hdr_ hdn_ hsl_ hax_ hlf_ hwh_ hw6_ hb6_ hst hfo hdn hi0 hi1 hrd => jn2_erase l G g hg f ab2 be2 sn wn sa ly rdy fd ss np nf nr na nt im kq sp wi wa va bo ju dr dn sl ax lf wh w6 b6 a1 hmo hss_ him_ hkq_ hsp_ hwi_ hwa_ hva_ hbo_ hju_ hdr_ hdn_ hsl_ hax_ hlf_ hwh_ hw6_ hb6_ hst hfo hdn hi0 hi1 hrd htA)
set_option maxHeartbeats 4000000 in
set_option maxRecDepth 100000 in
theorem jn2_fault (l : Launch) (G : gW) (g : Nat → Nat) (hg : gOK g) (f : Nat → va_E) (ab2 : Int64) (be2 : Int64) (sn : Int32) (wn : Int32) (sa : Int32) (ly : Int32) (rdy : Int32) (fd : Nat) (ss : Nat → Int32) (np : Nat) (nf : Nat) (nr : Nat) (na : Nat) (nt : Nat) (im : Nat → Int32) (kq : Nat → Int32) (sp : Nat → Int32) (wi : Nat → Int32) (wa : Nat → Int32) (va : Nat → Int64) (bo : Nat → Int32) (ju : Nat → Int32) (dr : Nat → Int32) (dn : Nat → Int32) (sl : Nat → Int32) (ax : Nat → Int32) (lf : Nat → Int32) (wh : Nat → Int32) (w6 : Nat → Int32) (b6 : Nat → Int32) (a1 : Int32) (hmo : f 315 = eO 10 [.ref (g 316), .ref (g 317), .ref (g 318), .long ab2, .long be2, .int sn, .ref (g 319), .ref (g 320), .int wn, .ref (g 321), .ref (g 322), .int sa, .int ly, .int rdy, .int (nI fd), .ref (g 323), .ref (g 324), .ref (g 325), .ref (g 326), .ref (g 327), .ref (g 328), .ref (g 329), .ref (g 330), .ref (g 331), .ref (g 332)]) (hss_ : f 316 = eI G 2246 ss) (him_ : f 317 = eI G 4492 im) (hkq_ : f 318 = eZ G 2 kq) (hsp_ : f 319 = eI G 70 sp) (hwi_ : f 320 = eI G 70 wi) (hwa_ : f 321 = eI G 70 wa) (hva_ : f 322 = eJ G 70 va) (hbo_ : f 323 = eI G 11 bo) (hju_ : f 324 = eI G 11 ju) (hdr_ : f 325 = eI G 264 dr) (hdn_ : f 326 = eI G 11 dn) (hsl_ : f 327 = eI G 330 sl) (hax_ : f 328 = eI G 44 ax) (hlf_ : f 329 = eI G 30 lf) (hwh_ : f 330 = eI G 6 wh) (hw6_ : f 331 = eI G 6 w6) (hb6_ : f 332 = eI G 6 b6) (hst : stOK ss np nf nr na nt) (hfo : fd ≤ 10) (hdn : ∀ k, k < 11 → ∃ d, d ≤ 24 ∧ dn k = nI d) (hi0 : stI im 0) (hi1 : stI im 2246) (hrd : ¬ rdy = 0 → fd = nt ∧ ∀ z, z < nt → rHz np nf nr na ss bo ju dr dn sl ax z) (htA : ∀ n : Nat, n ≤ 10 → ss 4 = nI n → trOK ss n) : Met l yX11_fault (wsT yX11_fault cX11_fault 2 (some .int)) ({ frames := 4, cells := 0, slots := 0, locals := 93 }) (bP G g f [.ref (g 315), .int a1]) (bQi G g (fun (z9 : Int32) (f' : Nat → va_E) => (mJ G g f' ss im kq) ∧ (∃ p9 f9 r9 u9 t9, stOK ss p9 f9 r9 u9 t9 ∧ ((¬ inB 0 a1 3 = true ∧ z9 = -2) ∨ (∃ x l, x ≤ 3 ∧ a1 = nI x ∧ l ≤ 50 ∧ ss (51 * x + 262) = nI l ∧ z9 = rdA l (fun k => ss (51 * x + 262 + k + 1))))) ∧ ∀ j, j < 315 → f' j = f j)) 0 0 (gA g) := by
  refine Met.ofW (cc := cX11_fault) (maxL := 2) (ret := (some .int)) (by decide) rfl ?_
  intro p e s m args below meth c s₁ B hml hv
  obtain ⟨rfl, hP, hG⟩ := hv
  have hx := B.exec
  have hb := B.bytes
  have hr := B.returns
  have hts := my_hts (atoms_spec (ws := wsT yX11_fault cX11_fault 2 (some .int)) B.pre)
  have hown : s.vm.findClass RX11 = some m.cls := findClass_of_methodNamed B.named
  have hlocks := B.notSynchronized
  have hS : va_S (gA g) s.heap s.heap [] := va_S.rf
  have hl := lv_entry ([.ref (g 315), .int a1]) (n := 2) (Nat.le_of_ble_eq_true rfl)
  rw [lg_entry_eq]
  generalize (lg_sl ([.ref (g 315), .int a1]) ++ List.replicate (2 - (lg_sl ([.ref (g 315), .int a1])).length) Slot.unset).toArray = ls at hl ⊢
  have hl : lv_has ls 2 [(0, .ref (g 315)), (1, .int a1)] := hl
  refine W_q8 (fun Q9 hQ9 => ?_)
  have hc0 := hst.c0
  have hc1 := hst.c1
  have hc2 := hst.c2
  have hc3 := hst.c3
  have hc4 := hst.c4
  have htr := htA nt hst.c4 hst.h4
  refine lv_iload_n hx hb dX11_fault_0 rfl (lv_at hl 1 rfl) ?_
  refine rd_calli (va_runS (As := [.int a1]) (rest := []) ⟨hx, hb, hml, hown, hts⟩ (r_isText l G g hg f a1  ) (my_cwS hts ok_X11_isText w_259 rfl rfl ⟨Nat.le_of_ble_eq_true rfl, Nat.le_of_ble_eq_true rfl⟩) ⟨bP.blind, fun U hU hW => ⟨rfl, by rw [hU]; exact hP, kG.warm hW hG⟩⟩ rfl rfl hl.1 rfl (lv_room (Nat.le_of_ble_eq_true rfl)) dX11_fault_1 ⟨Nat.le_of_ble_eq_true rfl, Nat.le_of_ble_eq_true rfl⟩) (fun r hr9 => ?_)
  subst hr9
  refine my_ifeq (tgt := 22) hx hb dX11_fault_4 (by decide) (fun c_4 => ?_) (fun c_4 => ?_)
  · refine lv_bipush (v := (-2)) hx hb dX11_fault_22 (by decide) ?_
    refine W_q9 hQ9 ?_
    exact W.iret (v := (-2)) hx hb hr (fun _ hT9 _ => ⟨⟨_, f, rfl, (⟨mJ_mk (ab2) (be2) (sn) (wn) (sa) (ly) (rdy) (fd) (np) (nf) (nr) (na) (nt) (sp) (wi) (wa) (va) (bo) (ju) (dr) (dn) (sl) (ax) (lf) (wh) (w6) (b6) (hmo) (hss_) (him_) (hkq_) (hsp_) (hwi_) (hwa_) (hva_) (hbo_) (hju_) (hdr_) (hdn_) (hsl_) (hax_) (hlf_) (hwh_) (hw6_) (hb6_) (hst) (by omega) (hdn) (hi0) (hi1) (hrd), ⟨np, nf, nr, na, nt, hst, Or.inl ⟨c_4, rfl⟩⟩, fun j hj => rfl⟩), by rw [hT9]; exact hP⟩, hS.F hT9⟩) hS.2.2 dX11_fault_24
  · obtain ⟨xn, hxn, rfl⟩ := inB_n (b := 3) (by omega) c_4
    obtain ⟨l7, hl7, he7⟩ := hst.tx xn (by omega)
    refine lv_aload_n hx hb dX11_fault_7 rfl (lv_at hl 0 rfl) ?_
    refine lv_sipush (v := 262) hx hb dX11_fault_8 (by decide) ?_
    refine lv_bipush (v := 51) hx hb dX11_fault_11 (by decide) ?_
    refine lv_iload_n hx hb dX11_fault_13 rfl (lv_at hl 1 rfl) ?_
    refine lv_imul hx hb dX11_fault_14 ?_
    refine my_bei (v := nI (51 * xn)) (pk_mul 51 xn) ?_
    refine lv_iadd hx hb dX11_fault_15 ?_
    refine my_bei (v := nI (51 * xn + 262)) ((nI_add 262 (51 * xn)).trans (congrArg nI (show 262 + (51 * xn) = 51 * xn + 262 by omega))) ?_
    refine b_calli (va_runV (As := [.int (nI (51 * xn + 262))]) (rest := []) ⟨hx, hb, hml, hown, hts⟩ (r_reads l G g hg f ab2 be2 sn wn sa ly rdy (nI fd) ss sp wi wa (51 * xn + 262) l7 hmo hss_ hsp_ hwi_ hwa_ (by first | assumption | omega | decide) (he7) (by first | assumption | omega | decide)) (my_cwV hts ok_X11_reads w_345 rfl rfl ⟨Nat.le_of_ble_eq_true rfl, Nat.le_of_ble_eq_true rfl⟩) ⟨bP.blind, va_recv hG.1 hP (ci := 10) (q0 := 315) rfl (wl_at (by decide) hmo), fun U hU hW => ⟨rfl, by rw [hU]; exact hP, kG.warm hW hG⟩⟩ rfl rfl hl.1 rfl (lv_room (Nat.le_of_ble_eq_true rfl)) dX11_fault_16 ⟨Nat.le_of_ble_eq_true rfl, Nat.le_of_ble_eq_true rfl⟩) hS (fun v1 f_1 H locs hq9 hP hS => ?_)
    obtain ⟨sn92, wn93, sp94, wi95, wa96, rfl, hq_1_0, hq_1_1, hq_1_2, hq_1_3, hx_1_0, o_1⟩ := hq9
    have hmo : f_1 315 = eO 10 [.ref (g 316), .ref (g 317), .ref (g 318), .long ab2, .long be2, .int (nI sn92), .ref (g 319), .ref (g 320), .int (nI wn93), .ref (g 321), .ref (g 322), .int sa, .int ly, .int rdy, .int (nI fd), .ref (g 323), .ref (g 324), .ref (g 325), .ref (g 326), .ref (g 327), .ref (g 328), .ref (g 329), .ref (g 330), .ref (g 331), .ref (g 332)] := hq_1_0
    have hsp_ : f_1 319 = eI G 70 sp94 := hq_1_1
    have hwi_ : f_1 320 = eI G 70 wi95 := hq_1_2
    have hwa_ : f_1 321 = eI G 70 wa96 := hq_1_3
    refine lv_goto (tgt := 24) hx hb dX11_fault_19 (by decide) ?_
    refine W_q9 hQ9 ?_
    replace hss_ := ((o_1 316 (by first | decide | omega))).trans hss_
    replace him_ := ((o_1 317 (by first | decide | omega))).trans him_
    replace hkq_ := ((o_1 318 (by first | decide | omega))).trans hkq_
    replace hva_ := ((o_1 322 (by first | decide | omega))).trans hva_
    replace hbo_ := ((o_1 323 (by first | decide | omega))).trans hbo_
    replace hju_ := ((o_1 324 (by first | decide | omega))).trans hju_
    replace hdr_ := ((o_1 325 (by first | decide | omega))).trans hdr_
    replace hdn_ := ((o_1 326 (by first | decide | omega))).trans hdn_
    replace hsl_ := ((o_1 327 (by first | decide | omega))).trans hsl_
    replace hax_ := ((o_1 328 (by first | decide | omega))).trans hax_
    replace hlf_ := ((o_1 329 (by first | decide | omega))).trans hlf_
    replace hwh_ := ((o_1 330 (by first | decide | omega))).trans hwh_
    replace hw6_ := ((o_1 331 (by first | decide | omega))).trans hw6_
    replace hb6_ := ((o_1 332 (by first | decide | omega))).trans hb6_
    exact W.iret (v := rdA l7 (fun k => ss ((51 * xn + 262) + k + 1))) hx hb hr (fun _ hT9 _ => ⟨⟨_, f_1, rfl, (⟨mJ_mk (ab2) (be2) ((nI sn92)) ((nI wn93)) (sa) (ly) (rdy) (fd) (np) (nf) (nr) (na) (nt) (sp94) (wi95) (wa96) (va) (bo) (ju) (dr) (dn) (sl) (ax) (lf) (wh) (w6) (b6) (hmo) (hss_) (him_) (hkq_) (hsp_) (hwi_) (hwa_) (hva_) (hbo_) (hju_) (hdr_) (hdn_) (hsl_) (hax_) (hlf_) (hwh_) (hw6_) (hb6_) (hst) (by omega) (hdn) (hi0) (hi1) (hrd), ⟨np, nf, nr, na, nt, hst, Or.inr ⟨xn, l7, hxn, rfl, hl7, he7, rfl⟩⟩, fun j hj => (o_1 j (by omega))⟩), by rw [hT9]; exact hP⟩, hS.F hT9⟩) hS.2.2 dX11_fault_24
theorem j2_fault (l : Launch) (G : gW) (g : Nat → Nat) (hg : gOK g) (f : Nat → va_E) (ss : Nat → Int32) (im : Nat → Int32) (kq : Nat → Int32) (a1 : Int32) (hI : mJ G g f ss im kq) (htA : ∀ n : Nat, n ≤ 10 → ss 4 = nI n → trOK ss n) : Met l yX11_fault (wsT yX11_fault cX11_fault 2 (some .int)) ({ frames := 4, cells := 0, slots := 0, locals := 93 }) (bP G g f [.ref (g 315), .int a1]) (bQi G g (fun (z9 : Int32) (f' : Nat → va_E) => (mJ G g f' ss im kq) ∧ (∃ p9 f9 r9 u9 t9, stOK ss p9 f9 r9 u9 t9 ∧ ((¬ inB 0 a1 3 = true ∧ z9 = -2) ∨ (∃ x l, x ≤ 3 ∧ a1 = nI x ∧ l ≤ 50 ∧ ss (51 * x + 262) = nI l ∧ z9 = rdA l (fun k => ss (51 * x + 262 + k + 1))))) ∧ ∀ j, j < 315 → f' j = f j)) 0 0 (gA g) := mJ_elim hI (fun ab2 be2 sn wn sa ly rdy fd np nf nr na nt sp wi wa va bo ju dr dn sl ax lf wh w6 b6 hmo hss_ him_ hkq_ hsp_ hwi_ hwa_ hva_ hbo_ hju_ hdr_ hdn_ hsl_ hax_ hlf_ hwh_ hw6_ hb6_ hst hfo hdn hi0 hi1 hrd => jn2_fault l G g hg f ab2 be2 sn wn sa ly rdy fd ss np nf nr na nt im kq sp wi wa va bo ju dr dn sl ax lf wh w6 b6 a1 hmo hss_ him_ hkq_ hsp_ hwi_ hwa_ hva_ hbo_ hju_ hdr_ hdn_ hsl_ hax_ hlf_ hwh_ hw6_ hb6_ hst hfo hdn hi0 hi1 hrd htA)
set_option maxHeartbeats 4000000 in
set_option maxRecDepth 100000 in
theorem jn2_tells (l : Launch) (G : gW) (g : Nat → Nat) (hg : gOK g) (f : Nat → va_E) (ab2 : Int64) (be2 : Int64) (sn : Int32) (wn : Int32) (sa : Int32) (ly : Int32) (rdy : Int32) (fd : Nat) (ss : Nat → Int32) (np : Nat) (nf : Nat) (nr : Nat) (na : Nat) (nt : Nat) (im : Nat → Int32) (kq : Nat → Int32) (sp : Nat → Int32) (wi : Nat → Int32) (wa : Nat → Int32) (va : Nat → Int64) (bo : Nat → Int32) (ju : Nat → Int32) (dr : Nat → Int32) (dn : Nat → Int32) (sl : Nat → Int32) (ax : Nat → Int32) (lf : Nat → Int32) (wh : Nat → Int32) (w6 : Nat → Int32) (b6 : Nat → Int32) (a1 : Int32) (a2 : Int32) (a3 : Int32) (hmo : f 315 = eO 10 [.ref (g 316), .ref (g 317), .ref (g 318), .long ab2, .long be2, .int sn, .ref (g 319), .ref (g 320), .int wn, .ref (g 321), .ref (g 322), .int sa, .int ly, .int rdy, .int (nI fd), .ref (g 323), .ref (g 324), .ref (g 325), .ref (g 326), .ref (g 327), .ref (g 328), .ref (g 329), .ref (g 330), .ref (g 331), .ref (g 332)]) (hss_ : f 316 = eI G 2246 ss) (him_ : f 317 = eI G 4492 im) (hkq_ : f 318 = eZ G 2 kq) (hsp_ : f 319 = eI G 70 sp) (hwi_ : f 320 = eI G 70 wi) (hwa_ : f 321 = eI G 70 wa) (hva_ : f 322 = eJ G 70 va) (hbo_ : f 323 = eI G 11 bo) (hju_ : f 324 = eI G 11 ju) (hdr_ : f 325 = eI G 264 dr) (hdn_ : f 326 = eI G 11 dn) (hsl_ : f 327 = eI G 330 sl) (hax_ : f 328 = eI G 44 ax) (hlf_ : f 329 = eI G 30 lf) (hwh_ : f 330 = eI G 6 wh) (hw6_ : f 331 = eI G 6 w6) (hb6_ : f 332 = eI G 6 b6) (hst : stOK ss np nf nr na nt) (hfo : fd ≤ 10) (hdn : ∀ k, k < 11 → ∃ d, d ≤ 24 ∧ dn k = nI d) (hi0 : stI im 0) (hi1 : stI im 2246) (hrd : ¬ rdy = 0 → fd = nt ∧ ∀ z, z < nt → rHz np nf nr na ss bo ju dr dn sl ax z) (htA : ∀ n : Nat, n ≤ 10 → ss 4 = nI n → trOK ss n) : Met l yX11_tells (wsT yX11_tells cX11_tells 4 (some .long)) ({ frames := 7, cells := 0, slots := 0, locals := 173 }) (bP G g f [.ref (g 315), .int a1, .int a2, .int a3]) (bQl G g (fun (z9 : Int64) (f' : Nat → va_E) => (mJ G g f' ss im kq) ∧ (∃ p9 f9 r9 u9 t9, stOK ss p9 f9 r9 u9 t9 ∧ ((¬ (inB 0 a1 3 = true ∧ inN a2 p9 = true ∧ inB 0 a3 9999 = true) ∧ z9 = -2000000000000000000) ∨ (∃ x l pn, x ≤ 3 ∧ a1 = nI x ∧ l ≤ 50 ∧ ss (51 * x + 262) = nI l ∧ pn < p9 ∧ a2 = nI pn ∧ inB 0 a3 9999 = true ∧ ((¬ rdA l (fun k => ss (51 * x + 262 + k + 1)) = -1 ∧ z9 = -3000000000000000000) ∨ (rdA l (fun k => ss (51 * x + 262 + k + 1)) = -1 ∧ z9 = (ev (nvF (fun i c => ss (4 * i + c + 10)) (fun t c => ss (10 * t + c + 1546)) (rJr p9 f9 r9 u9 ss) a3 t9 pn) (rdO l (fun k => ss (51 * x + 262 + k + 1)))).headD 0))))) ∧ ∀ j, j < 315 → f' j = f j)) 0 0 (gA g) := by
  refine Met.ofW (cc := cX11_tells) (maxL := 4) (ret := (some .long)) (by decide) rfl ?_
  intro p e s m args below meth c s₁ B hml hv
  obtain ⟨rfl, hP, hG⟩ := hv
  have hx := B.exec
  have hb := B.bytes
  have hr := B.returns
  have hts := my_hts (atoms_spec (ws := wsT yX11_tells cX11_tells 4 (some .long)) B.pre)
  have hown : s.vm.findClass RX11 = some m.cls := findClass_of_methodNamed B.named
  have hlocks := B.notSynchronized
  have hS : va_S (gA g) s.heap s.heap [] := va_S.rf
  have hl := lv_entry ([.ref (g 315), .int a1, .int a2, .int a3]) (n := 4) (Nat.le_of_ble_eq_true rfl)
  rw [lg_entry_eq]
  generalize (lg_sl ([.ref (g 315), .int a1, .int a2, .int a3]) ++ List.replicate (4 - (lg_sl ([.ref (g 315), .int a1, .int a2, .int a3])).length) Slot.unset).toArray = ls at hl ⊢
  have hl : lv_has ls 4 [(0, .ref (g 315)), (1, .int a1), (2, .int a2), (3, .int a3)] := hl
  refine W_q8 (fun Q9 hQ9 => ?_)
  have hc0 := hst.c0
  have hc1 := hst.c1
  have hc2 := hst.c2
  have hc3 := hst.c3
  have hc4 := hst.c4
  have htr := htA nt hst.c4 hst.h4
  refine lv_iload_n hx hb dX11_tells_0 rfl (lv_at hl 1 rfl) ?_
  refine rd_calli (va_runS (As := [.int a1]) (rest := []) ⟨hx, hb, hml, hown, hts⟩ (r_isText l G g hg f a1  ) (my_cwS hts ok_X11_isText w_259 rfl rfl ⟨Nat.le_of_ble_eq_true rfl, Nat.le_of_ble_eq_true rfl⟩) ⟨bP.blind, fun U hU hW => ⟨rfl, by rw [hU]; exact hP, kG.warm hW hG⟩⟩ rfl rfl hl.1 rfl (lv_room (Nat.le_of_ble_eq_true rfl)) dX11_tells_1 ⟨Nat.le_of_ble_eq_true rfl, Nat.le_of_ble_eq_true rfl⟩) (fun r hr9 => ?_)
  subst hr9
  refine my_ifeq (tgt := 23) hx hb dX11_tells_4 (by decide) (fun c_4 => ?_) (fun c_4 => ?_)
  · refine lv_ldc2 (v := (-2000000000000000000)) hx hb hown (hts (.constantLong RX11 174 (-2000000000000000000)) w_521) dX11_tells_23 ?_
    refine W_q9 hQ9 ?_
    exact W.lret (v := (-2000000000000000000)) hx hb hr (fun _ hT9 _ => ⟨⟨_, f, rfl, (⟨mJ_mk (ab2) (be2) (sn) (wn) (sa) (ly) (rdy) (fd) (np) (nf) (nr) (na) (nt) (sp) (wi) (wa) (va) (bo) (ju) (dr) (dn) (sl) (ax) (lf) (wh) (w6) (b6) (hmo) (hss_) (him_) (hkq_) (hsp_) (hwi_) (hwa_) (hva_) (hbo_) (hju_) (hdr_) (hdn_) (hsl_) (hax_) (hlf_) (hwh_) (hw6_) (hb6_) (hst) (by omega) (hdn) (hi0) (hi1) (hrd), ⟨np, nf, nr, na, nt, hst, Or.inl ⟨fun z => c_4 z.1, rfl⟩⟩, fun j hj => rfl⟩), by rw [hT9]; exact hP⟩, hS.F hT9⟩) hS.2.2 dX11_tells_26
  · refine lv_aload_n hx hb dX11_tells_7 rfl (lv_at hl 0 rfl) ?_
    refine lv_iconst (v := 0) hx hb dX11_tells_8 (by decide) ?_
    refine lv_iload_n hx hb dX11_tells_9 rfl (lv_at hl 2 rfl) ?_
    refine rd_calli (va_runV (As := [.int 0, .int a2]) (rest := []) ⟨hx, hb, hml, hown, hts⟩ (r_is l G g hg f ab2 be2 sn wn sa ly rdy (nI fd) ss 0 np a2 hmo hss_ (by first | assumption | omega | decide) (hst.h0) (by first | assumption | omega | decide)) (my_cwV hts ok_X11_is w_186 rfl rfl ⟨Nat.le_of_ble_eq_true rfl, Nat.le_of_ble_eq_true rfl⟩) ⟨bP.blind, va_recv hG.1 hP (ci := 10) (q0 := 315) rfl (wl_at (by decide) hmo), fun U hU hW => ⟨rfl, by rw [hU]; exact hP, kG.warm hW hG⟩⟩ rfl rfl hl.1 rfl (lv_room (Nat.le_of_ble_eq_true rfl)) dX11_tells_10 ⟨Nat.le_of_ble_eq_true rfl, Nat.le_of_ble_eq_true rfl⟩) (fun r hr9 => ?_)
    subst hr9
    refine my_ifeq (tgt := 23) hx hb dX11_tells_13 (by decide) (fun c_13 => ?_) (fun c_13 => ?_)
    · refine lv_ldc2 (v := (-2000000000000000000)) hx hb hown (hts (.constantLong RX11 174 (-2000000000000000000)) w_521) dX11_tells_23 ?_
      refine W_q9 hQ9 ?_
      exact W.lret (v := (-2000000000000000000)) hx hb hr (fun _ hT9 _ => ⟨⟨_, f, rfl, (⟨mJ_mk (ab2) (be2) (sn) (wn) (sa) (ly) (rdy) (fd) (np) (nf) (nr) (na) (nt) (sp) (wi) (wa) (va) (bo) (ju) (dr) (dn) (sl) (ax) (lf) (wh) (w6) (b6) (hmo) (hss_) (him_) (hkq_) (hsp_) (hwi_) (hwa_) (hva_) (hbo_) (hju_) (hdr_) (hdn_) (hsl_) (hax_) (hlf_) (hwh_) (hw6_) (hb6_) (hst) (by omega) (hdn) (hi0) (hi1) (hrd), ⟨np, nf, nr, na, nt, hst, Or.inl ⟨fun z => c_13 z.2.1, rfl⟩⟩, fun j hj => rfl⟩), by rw [hT9]; exact hP⟩, hS.F hT9⟩) hS.2.2 dX11_tells_26
    · refine lv_iload_n hx hb dX11_tells_16 rfl (lv_at hl 3 rfl) ?_
      refine rd_calli (va_runS (As := [.int a3]) (rest := []) ⟨hx, hb, hml, hown, hts⟩ (r_isDay l G g hg f a3  ) (my_cwS hts ok_X11_isDay w_190 rfl rfl ⟨Nat.le_of_ble_eq_true rfl, Nat.le_of_ble_eq_true rfl⟩) ⟨bP.blind, fun U hU hW => ⟨rfl, by rw [hU]; exact hP, kG.warm hW hG⟩⟩ rfl rfl hl.1 rfl (lv_room (Nat.le_of_ble_eq_true rfl)) dX11_tells_17 ⟨Nat.le_of_ble_eq_true rfl, Nat.le_of_ble_eq_true rfl⟩) (fun r hr9 => ?_)
      subst hr9
      refine my_ifne (tgt := 27) hx hb dX11_tells_20 (by decide) (fun c_20 => ?_) (fun c_20 => ?_)
      · obtain ⟨xn, hxn, rfl⟩ := inB_n (b := 3) (by omega) c_4
        obtain ⟨pn, hpn, rfl⟩ := inN_nat (by omega) c_13
        obtain ⟨l7, hl7, he7⟩ := hst.tx xn (by omega)
        refine lv_aload_n hx hb dX11_tells_27 rfl (lv_at hl 0 rfl) ?_
        refine b_callv (va_runV (As := []) (rest := []) ⟨hx, hb, hml, hown, hts⟩ (r_findsE l G g hg f ab2 be2 sn wn sa ly rdy fd ss np nf nr na nt sp wi wa va bo ju dr dn sl ax lf hmo hss_ hsp_ hwi_ hwa_ hva_ hbo_ hju_ hdr_ hdn_ hsl_ hax_ hlf_ (by first | assumption | omega | decide) (by first | assumption | omega | decide) (by first | assumption | omega | decide) (by first | assumption | omega | decide) (by first | assumption | omega | decide)) (my_cwV hts ok_X11_finds w_523 rfl rfl ⟨Nat.le_of_ble_eq_true rfl, Nat.le_of_ble_eq_true rfl⟩) ⟨bP.blind, va_recv hG.1 hP (ci := 10) (q0 := 315) rfl (wl_at (by decide) hmo), fun U hU hW => ⟨rfl, by rw [hU]; exact hP, kG.warm hW hG⟩⟩ rfl rfl hl.1 rfl (lv_room (Nat.le_of_ble_eq_true rfl)) dX11_tells_28 ⟨Nat.le_of_ble_eq_true rfl, Nat.le_of_ble_eq_true rfl⟩) hS (fun f_1 H locs hq9 hP hS => ?_)
        obtain ⟨sn91, wn92, sa93, ly94, sp95, wi96, wa97, va98, bo99, ju910, dr911, dn912, sl913, ax914, lf915, rdy916, fd917, hq_1_0, hq_1_1, hq_1_2, hq_1_3, hq_1_4, hq_1_5, hq_1_6, hq_1_7, hq_1_8, hq_1_9, hq_1_10, hq_1_11, hx_1_0, hx_1_1, hx_1_2, hx_1_3, hx_1_4, o_1⟩ := hq9
        have hmo : f_1 315 = eO 10 [.ref (g 316), .ref (g 317), .ref (g 318), .long ab2, .long be2, .int sn91, .ref (g 319), .ref (g 320), .int wn92, .ref (g 321), .ref (g 322), .int sa93, .int ly94, .int rdy916, .int (nI fd917), .ref (g 323), .ref (g 324), .ref (g 325), .ref (g 326), .ref (g 327), .ref (g 328), .ref (g 329), .ref (g 330), .ref (g 331), .ref (g 332)] := hq_1_0
        have hsp_ : f_1 319 = eI G 70 sp95 := hq_1_1
        have hwi_ : f_1 320 = eI G 70 wi96 := hq_1_2
        have hwa_ : f_1 321 = eI G 70 wa97 := hq_1_3
        have hva_ : f_1 322 = eJ G 70 va98 := hq_1_4
        have hbo_ : f_1 323 = eI G 11 bo99 := hq_1_5
        have hju_ : f_1 324 = eI G 11 ju910 := hq_1_6
        have hdr_ : f_1 325 = eI G 264 dr911 := hq_1_7
        have hdn_ : f_1 326 = eI G 11 dn912 := hq_1_8
        have hsl_ : f_1 327 = eI G 330 sl913 := hq_1_9
        have hax_ : f_1 328 = eI G 44 ax914 := hq_1_10
        have hlf_ : f_1 329 = eI G 30 lf915 := hq_1_11
        refine lv_aload_n hx hb dX11_tells_31 rfl (lv_at hl 0 rfl) ?_
        refine lv_sipush (v := 262) hx hb dX11_tells_32 (by decide) ?_
        refine lv_bipush (v := 51) hx hb dX11_tells_35 (by decide) ?_
        refine lv_iload_n hx hb dX11_tells_37 rfl (lv_at hl 1 rfl) ?_
        refine lv_imul hx hb dX11_tells_38 ?_
        refine my_bei (v := nI (51 * xn)) (pk_mul 51 xn) ?_
        refine lv_iadd hx hb dX11_tells_39 ?_
        refine my_bei (v := nI (51 * xn + 262)) ((nI_add 262 (51 * xn)).trans (congrArg nI (show 262 + (51 * xn) = 51 * xn + 262 by omega))) ?_
        replace hss_ := ((o_1 316 (by first | decide | omega))).trans hss_
        refine b_calli (va_runV (As := [.int (nI (51 * xn + 262))]) (rest := []) ⟨hx, hb, hml, hown, hts⟩ (r_readsE l G g hg f_1 ab2 be2 sn91 wn92 sa93 ly94 rdy916 (nI fd917) ss sp95 wi96 wa97 (51 * xn + 262) l7 hmo hss_ hsp_ hwi_ hwa_ (by first | assumption | omega | decide) (he7) (by first | assumption | omega | decide)) (my_cwV hts ok_X11_reads w_345 rfl rfl ⟨Nat.le_of_ble_eq_true rfl, Nat.le_of_ble_eq_true rfl⟩) ⟨bP.blind, va_recv hG.1 hP (ci := 10) (q0 := 315) rfl (wl_at (by decide) hmo), fun U hU hW => ⟨rfl, by rw [hU]; exact hP, kG.warm hW hG⟩⟩ rfl rfl hl.1 rfl (lv_room (Nat.le_of_ble_eq_true rfl)) dX11_tells_40 ⟨Nat.le_of_ble_eq_true rfl, Nat.le_of_ble_eq_true rfl⟩) hS (fun v18 f_2 H locs hq9 hP hS => ?_)
        obtain ⟨sn919, wn920, sp921, wi922, wa923, rfl, hq_2_0, hq_2_1, hq_2_2, hq_2_3, hx_2_0, hx_2_1, o_2⟩ := hq9
        have hmo : f_2 315 = eO 10 [.ref (g 316), .ref (g 317), .ref (g 318), .long ab2, .long be2, .int (nI sn919), .ref (g 319), .ref (g 320), .int (nI wn920), .ref (g 321), .ref (g 322), .int sa93, .int ly94, .int rdy916, .int (nI fd917), .ref (g 323), .ref (g 324), .ref (g 325), .ref (g 326), .ref (g 327), .ref (g 328), .ref (g 329), .ref (g 330), .ref (g 331), .ref (g 332)] := hq_2_0
        have hsp_ : f_2 319 = eI G 70 sp921 := hq_2_1
        have hwi_ : f_2 320 = eI G 70 wi922 := hq_2_2
        have hwa_ : f_2 321 = eI G 70 wa923 := hq_2_3
        refine lv_iconst (v := (-1)) hx hb dX11_tells_43 (by decide) ?_
        refine lv_icmp_eq (tgt := 53) hx hb dX11_tells_44 (by decide) (fun c_44 => ?_) (fun c_44 => ?_)
        · obtain ⟨hdp1, hdp2⟩ := hx_2_0 c_44
          have hst9 := hx_2_1 c_44
          have hgd := rdO_good hl7 c_44
          have hlen9 : (rdO l7 (fun k => ss (51 * xn + 262 + k + 1))).length = sn919 := by
            have h9 := congrArg List.length hst9
            rw [stp_len] at h9
            exact h9.symm
          refine lv_aload_n hx hb dX11_tells_53 rfl (lv_at hl 0 rfl) ?_
          refine lv_iload_n hx hb dX11_tells_54 rfl (lv_at hl 2 rfl) ?_
          refine lv_iload_n hx hb dX11_tells_55 rfl (lv_at hl 3 rfl) ?_
          replace hss_ := ((o_2 316 (by first | decide | omega))).trans hss_
          replace hva_ := ((o_2 322 (by first | decide | omega))).trans hva_
          replace hju_ := ((o_2 324 (by first | decide | omega))).trans hju_
          refine b_calll (va_runV (As := [.int (nI pn), .int a3]) (rest := []) ⟨hx, hb, hml, hown, hts⟩ (r_tellsOfE l G g hg f_2 ab2 be2 sn919 (nI wn920) sa93 ly94 rdy916 fd917 ss ju910 sp921 wi922 va98 pn (rdO l7 (fun k => ss (51 * xn + 262 + k + 1))) a3 hmo hss_ hsp_ hwi_ hva_ hju_ (by first | assumption | omega | decide) (by first | assumption | omega | decide) (by omega) (hst9) (hlen9) (hgd.1) (hgd.2) (fun o ho => htr.d0 o (by omega)) (fun o o' h1 h2 => htr.2 o o' h1 (by omega))) (my_cwV hts ok_X11_tellsOf w_544 rfl rfl ⟨Nat.le_of_ble_eq_true rfl, Nat.le_of_ble_eq_true rfl⟩) ⟨bP.blind, va_recv hG.1 hP (ci := 10) (q0 := 315) rfl (wl_at (by decide) hmo), fun U hU hW => ⟨rfl, by rw [hU]; exact hP, kG.warm hW hG⟩⟩ rfl rfl hl.1 rfl (lv_room (Nat.le_of_ble_eq_true rfl)) dX11_tells_56 ⟨Nat.le_of_ble_eq_true rfl, Nat.le_of_ble_eq_true rfl⟩) hS (fun v24 f_3 H locs hq9 hP hS => ?_)
          obtain ⟨sa925, ly926, va927, rfl, hq_3_0, hq_3_1, o_3⟩ := hq9
          have hmo : f_3 315 = eO 10 [.ref (g 316), .ref (g 317), .ref (g 318), .long ab2, .long be2, .int (nI sn919), .ref (g 319), .ref (g 320), .int (nI wn920), .ref (g 321), .ref (g 322), .int sa925, .int ly926, .int rdy916, .int (nI fd917), .ref (g 323), .ref (g 324), .ref (g 325), .ref (g 326), .ref (g 327), .ref (g 328), .ref (g 329), .ref (g 330), .ref (g 331), .ref (g 332)] := hq_3_0
          have hva_ : f_3 322 = eJ G 70 va927 := hq_3_1
          refine W_q9 hQ9 ?_
          replace hss_ := ((o_3 316 (by first | decide | omega))).trans hss_
          replace him_ := ((o_3 317 (by first | decide | omega)).trans ((o_2 317 (by first | decide | omega)).trans ((o_1 317 (by first | decide | omega))))).trans him_
          replace hkq_ := ((o_3 318 (by first | decide | omega)).trans ((o_2 318 (by first | decide | omega)).trans ((o_1 318 (by first | decide | omega))))).trans hkq_
          replace hsp_ := ((o_3 319 (by first | decide | omega))).trans hsp_
          replace hwi_ := ((o_3 320 (by first | decide | omega))).trans hwi_
          replace hwa_ := ((o_3 321 (by first | decide | omega))).trans hwa_
          replace hbo_ := ((o_3 323 (by first | decide | omega)).trans ((o_2 323 (by first | decide | omega)))).trans hbo_
          replace hju_ := ((o_3 324 (by first | decide | omega))).trans hju_
          replace hdr_ := ((o_3 325 (by first | decide | omega)).trans ((o_2 325 (by first | decide | omega)))).trans hdr_
          replace hdn_ := ((o_3 326 (by first | decide | omega)).trans ((o_2 326 (by first | decide | omega)))).trans hdn_
          replace hsl_ := ((o_3 327 (by first | decide | omega)).trans ((o_2 327 (by first | decide | omega)))).trans hsl_
          replace hax_ := ((o_3 328 (by first | decide | omega)).trans ((o_2 328 (by first | decide | omega)))).trans hax_
          replace hlf_ := ((o_3 329 (by first | decide | omega)).trans ((o_2 329 (by first | decide | omega)))).trans hlf_
          replace hwh_ := ((o_3 330 (by first | decide | omega)).trans ((o_2 330 (by first | decide | omega)).trans ((o_1 330 (by first | decide | omega))))).trans hwh_
          replace hw6_ := ((o_3 331 (by first | decide | omega)).trans ((o_2 331 (by first | decide | omega)).trans ((o_1 331 (by first | decide | omega))))).trans hw6_
          replace hb6_ := ((o_3 332 (by first | decide | omega)).trans ((o_2 332 (by first | decide | omega)).trans ((o_1 332 (by first | decide | omega))))).trans hb6_
          exact W.lret (v := (ev (ltk (fun i c => ss (4 * i + c + 10)) (satN (fun t c => ss (10 * t + c + 1546)) ju910 a3 pn fd917) (sinV (fun t c => ss (10 * t + c + 1546)) ju910 a3 pn fd917) pn a3) (rdO l7 (fun k => ss (51 * xn + 262 + k + 1)))).headD 0) hx hb hr (fun _ hT9 _ => ⟨⟨_, f_3, rfl, (⟨mJ_mk (ab2) (be2) ((nI sn919)) ((nI wn920)) (sa925) (ly926) (rdy916) (fd917) (np) (nf) (nr) (na) (nt) (sp921) (wi922) (wa923) (va927) (bo99) (ju910) (dr911) (dn912) (sl913) (ax914) (lf915) (wh) (w6) (b6) (hmo) (hss_) (him_) (hkq_) (hsp_) (hwi_) (hwa_) (hva_) (hbo_) (hju_) (hdr_) (hdn_) (hsl_) (hax_) (hlf_) (hwh_) (hw6_) (hb6_) (hst) (by omega) (hx_1_0) (hi0) (hi1) ((fun _ => ⟨hx_1_3, hx_1_4⟩)), ⟨np, nf, nr, na, nt, hst, Or.inr ⟨xn, l7, pn, hxn, rfl, hl7, he7, hpn, rfl, c_20, Or.inr ⟨c_44, congrArg (fun n9 => (ev n9 (rdO l7 (fun k => ss (51 * xn + 262 + k + 1)))).headD 0) (by rw [hx_1_3]; exact nvF_congr (P := (fun i c => ss (4 * i + c + 10))) (T := (fun t c => ss (10 * t + c + 1546))) (fun _ _ => rfl) (fun _ _ => rfl) (fun z hz => rHz_ju (hx_1_4 z (by omega))))⟩⟩⟩, fun j hj => (((o_3 j (by omega))).trans (o_2 j (by omega))).trans (o_1 j (by omega))⟩), by rw [hT9]; exact hP⟩, hS.F hT9⟩) hS.2.2 dX11_tells_59
        · refine lv_ldc2 (v := (-3000000000000000000)) hx hb hown (hts (.constantLong RX11 179 (-3000000000000000000)) w_522) dX11_tells_47 ?_
          refine lv_goto (tgt := 59) hx hb dX11_tells_50 (by decide) ?_
          refine W_q9 hQ9 ?_
          replace hss_ := ((o_2 316 (by first | decide | omega))).trans hss_
          replace him_ := ((o_2 317 (by first | decide | omega)).trans ((o_1 317 (by first | decide | omega)))).trans him_
          replace hkq_ := ((o_2 318 (by first | decide | omega)).trans ((o_1 318 (by first | decide | omega)))).trans hkq_
          replace hva_ := ((o_2 322 (by first | decide | omega))).trans hva_
          replace hbo_ := ((o_2 323 (by first | decide | omega))).trans hbo_
          replace hju_ := ((o_2 324 (by first | decide | omega))).trans hju_
          replace hdr_ := ((o_2 325 (by first | decide | omega))).trans hdr_
          replace hdn_ := ((o_2 326 (by first | decide | omega))).trans hdn_
          replace hsl_ := ((o_2 327 (by first | decide | omega))).trans hsl_
          replace hax_ := ((o_2 328 (by first | decide | omega))).trans hax_
          replace hlf_ := ((o_2 329 (by first | decide | omega))).trans hlf_
          replace hwh_ := ((o_2 330 (by first | decide | omega)).trans ((o_1 330 (by first | decide | omega)))).trans hwh_
          replace hw6_ := ((o_2 331 (by first | decide | omega)).trans ((o_1 331 (by first | decide | omega)))).trans hw6_
          replace hb6_ := ((o_2 332 (by first | decide | omega)).trans ((o_1 332 (by first | decide | omega)))).trans hb6_
          exact W.lret (v := (-3000000000000000000)) hx hb hr (fun _ hT9 _ => ⟨⟨_, f_2, rfl, (⟨mJ_mk (ab2) (be2) ((nI sn919)) ((nI wn920)) (sa93) (ly94) (rdy916) (fd917) (np) (nf) (nr) (na) (nt) (sp921) (wi922) (wa923) (va98) (bo99) (ju910) (dr911) (dn912) (sl913) (ax914) (lf915) (wh) (w6) (b6) (hmo) (hss_) (him_) (hkq_) (hsp_) (hwi_) (hwa_) (hva_) (hbo_) (hju_) (hdr_) (hdn_) (hsl_) (hax_) (hlf_) (hwh_) (hw6_) (hb6_) (hst) (by omega) (hx_1_0) (hi0) (hi1) ((fun _ => ⟨hx_1_3, hx_1_4⟩)), ⟨np, nf, nr, na, nt, hst, Or.inr ⟨xn, l7, pn, hxn, rfl, hl7, he7, hpn, rfl, c_20, Or.inl ⟨c_44, rfl⟩⟩⟩, fun j hj => ((o_2 j (by omega))).trans (o_1 j (by omega))⟩), by rw [hT9]; exact hP⟩, hS.F hT9⟩) hS.2.2 dX11_tells_59
      · refine lv_ldc2 (v := (-2000000000000000000)) hx hb hown (hts (.constantLong RX11 174 (-2000000000000000000)) w_521) dX11_tells_23 ?_
        refine W_q9 hQ9 ?_
        exact W.lret (v := (-2000000000000000000)) hx hb hr (fun _ hT9 _ => ⟨⟨_, f, rfl, (⟨mJ_mk (ab2) (be2) (sn) (wn) (sa) (ly) (rdy) (fd) (np) (nf) (nr) (na) (nt) (sp) (wi) (wa) (va) (bo) (ju) (dr) (dn) (sl) (ax) (lf) (wh) (w6) (b6) (hmo) (hss_) (him_) (hkq_) (hsp_) (hwi_) (hwa_) (hva_) (hbo_) (hju_) (hdr_) (hdn_) (hsl_) (hax_) (hlf_) (hwh_) (hw6_) (hb6_) (hst) (by omega) (hdn) (hi0) (hi1) (hrd), ⟨np, nf, nr, na, nt, hst, Or.inl ⟨fun z => c_20 z.2.2, rfl⟩⟩, fun j hj => rfl⟩), by rw [hT9]; exact hP⟩, hS.F hT9⟩) hS.2.2 dX11_tells_26
theorem j2_tells (l : Launch) (G : gW) (g : Nat → Nat) (hg : gOK g) (f : Nat → va_E) (ss : Nat → Int32) (im : Nat → Int32) (kq : Nat → Int32) (a1 : Int32) (a2 : Int32) (a3 : Int32) (hI : mJ G g f ss im kq) (htA : ∀ n : Nat, n ≤ 10 → ss 4 = nI n → trOK ss n) : Met l yX11_tells (wsT yX11_tells cX11_tells 4 (some .long)) ({ frames := 7, cells := 0, slots := 0, locals := 173 }) (bP G g f [.ref (g 315), .int a1, .int a2, .int a3]) (bQl G g (fun (z9 : Int64) (f' : Nat → va_E) => (mJ G g f' ss im kq) ∧ (∃ p9 f9 r9 u9 t9, stOK ss p9 f9 r9 u9 t9 ∧ ((¬ (inB 0 a1 3 = true ∧ inN a2 p9 = true ∧ inB 0 a3 9999 = true) ∧ z9 = -2000000000000000000) ∨ (∃ x l pn, x ≤ 3 ∧ a1 = nI x ∧ l ≤ 50 ∧ ss (51 * x + 262) = nI l ∧ pn < p9 ∧ a2 = nI pn ∧ inB 0 a3 9999 = true ∧ ((¬ rdA l (fun k => ss (51 * x + 262 + k + 1)) = -1 ∧ z9 = -3000000000000000000) ∨ (rdA l (fun k => ss (51 * x + 262 + k + 1)) = -1 ∧ z9 = (ev (nvF (fun i c => ss (4 * i + c + 10)) (fun t c => ss (10 * t + c + 1546)) (rJr p9 f9 r9 u9 ss) a3 t9 pn) (rdO l (fun k => ss (51 * x + 262 + k + 1)))).headD 0))))) ∧ ∀ j, j < 315 → f' j = f j)) 0 0 (gA g) := mJ_elim hI (fun ab2 be2 sn wn sa ly rdy fd np nf nr na nt sp wi wa va bo ju dr dn sl ax lf wh w6 b6 hmo hss_ him_ hkq_ hsp_ hwi_ hwa_ hva_ hbo_ hju_ hdr_ hdn_ hsl_ hax_ hlf_ hwh_ hw6_ hb6_ hst hfo hdn hi0 hi1 hrd => jn2_tells l G g hg f ab2 be2 sn wn sa ly rdy fd ss np nf nr na nt im kq sp wi wa va bo ju dr dn sl ax lf wh w6 b6 a1 a2 a3 hmo hss_ him_ hkq_ hsp_ hwi_ hwa_ hva_ hbo_ hju_ hdr_ hdn_ hsl_ hax_ hlf_ hwh_ hw6_ hb6_ hst hfo hdn hi0 hi1 hrd htA)
set_option maxHeartbeats 4000000 in
set_option maxRecDepth 100000 in
theorem jn2_strikeOut (l : Launch) (G : gW) (g : Nat → Nat) (hg : gOK g) (f : Nat → va_E) (ab2 : Int64) (be2 : Int64) (sn : Int32) (wn : Int32) (sa : Int32) (ly : Int32) (rdy : Int32) (fd : Nat) (ss : Nat → Int32) (np : Nat) (nf : Nat) (nr : Nat) (na : Nat) (nt : Nat) (im : Nat → Int32) (kq : Nat → Int32) (sp : Nat → Int32) (wi : Nat → Int32) (wa : Nat → Int32) (va : Nat → Int64) (bo : Nat → Int32) (ju : Nat → Int32) (dr : Nat → Int32) (dn : Nat → Int32) (sl : Nat → Int32) (ax : Nat → Int32) (lf : Nat → Int32) (wh : Nat → Int32) (w6 : Nat → Int32) (b6 : Nat → Int32) (a1 : Int32) (a2 : Int32) (hmo : f 315 = eO 10 [.ref (g 316), .ref (g 317), .ref (g 318), .long ab2, .long be2, .int sn, .ref (g 319), .ref (g 320), .int wn, .ref (g 321), .ref (g 322), .int sa, .int ly, .int rdy, .int (nI fd), .ref (g 323), .ref (g 324), .ref (g 325), .ref (g 326), .ref (g 327), .ref (g 328), .ref (g 329), .ref (g 330), .ref (g 331), .ref (g 332)]) (hss_ : f 316 = eI G 2246 ss) (him_ : f 317 = eI G 4492 im) (hkq_ : f 318 = eZ G 2 kq) (hsp_ : f 319 = eI G 70 sp) (hwi_ : f 320 = eI G 70 wi) (hwa_ : f 321 = eI G 70 wa) (hva_ : f 322 = eJ G 70 va) (hbo_ : f 323 = eI G 11 bo) (hju_ : f 324 = eI G 11 ju) (hdr_ : f 325 = eI G 264 dr) (hdn_ : f 326 = eI G 11 dn) (hsl_ : f 327 = eI G 330 sl) (hax_ : f 328 = eI G 44 ax) (hlf_ : f 329 = eI G 30 lf) (hwh_ : f 330 = eI G 6 wh) (hw6_ : f 331 = eI G 6 w6) (hb6_ : f 332 = eI G 6 b6) (hst : stOK ss np nf nr na nt) (hfo : fd ≤ 10) (hdn : ∀ k, k < 11 → ∃ d, d ≤ 24 ∧ dn k = nI d) (hi0 : stI im 0) (hi1 : stI im 2246) (hrd : ¬ rdy = 0 → fd = nt ∧ ∀ z, z < nt → rHz np nf nr na ss bo ju dr dn sl ax z) (htA : ∀ n : Nat, n ≤ 10 → ss 4 = nI n → trOK ss n) : Met l yX11_strikeOut (wsT yX11_strikeOut cX11_strikeOut 4 (some .int)) ({ frames := 2, cells := 0, slots := 0, locals := 47 }) (bP G g f [.ref (g 315), .int a1, .int a2]) (bQi G g (fun (z9 : Int32) (f' : Nat → va_E) => ∃ ss9 : Nat → Int32, (mJ G g f' ss9 im kq) ∧ (∃ p9 f9 r9 u9 t9, stOK ss p9 f9 r9 u9 t9 ∧ ((¬ (inN a1 u9 = true ∧ inB 0 a2 9999 = true) ∧ z9 = -2 ∧ ss9 = ss) ∨ (inB 0 a2 9999 = true ∧ ∃ x, x < u9 ∧ a1 = nI x ∧ ((¬ ss (54 * x + 468) = -1 ∧ z9 = -3 ∧ ss9 = ss) ∨ (ss (54 * x + 468) = -1 ∧ z9 = 1 ∧ ss9 = upd ss (54 * x + 468) a2))))) ∧ ∀ j, j < 315 → f' j = f j)) 0 0 (gA g) := by
  refine Met.ofW (cc := cX11_strikeOut) (maxL := 4) (ret := (some .int)) (by decide) rfl ?_
  intro p e s m args below meth c s₁ B hml hv
  obtain ⟨rfl, hP, hG⟩ := hv
  have hx := B.exec
  have hb := B.bytes
  have hr := B.returns
  have hts := my_hts (atoms_spec (ws := wsT yX11_strikeOut cX11_strikeOut 4 (some .int)) B.pre)
  have hown : s.vm.findClass RX11 = some m.cls := findClass_of_methodNamed B.named
  have hlocks := B.notSynchronized
  have hS : va_S (gA g) s.heap s.heap [] := va_S.rf
  have hl := lv_entry ([.ref (g 315), .int a1, .int a2]) (n := 4) (Nat.le_of_ble_eq_true rfl)
  rw [lg_entry_eq]
  generalize (lg_sl ([.ref (g 315), .int a1, .int a2]) ++ List.replicate (4 - (lg_sl ([.ref (g 315), .int a1, .int a2])).length) Slot.unset).toArray = ls at hl ⊢
  have hl : lv_has ls 4 [(0, .ref (g 315)), (1, .int a1), (2, .int a2)] := hl
  refine W_q8 (fun Q9 hQ9 => ?_)
  have hc0 := hst.c0
  have hc1 := hst.c1
  have hc2 := hst.c2
  have hc3 := hst.c3
  have hc4 := hst.c4
  have htr := htA nt hst.c4 hst.h4
  refine lv_aload_n hx hb dX11_strikeOut_0 rfl (lv_at hl 0 rfl) ?_
  refine lv_iconst (v := 3) hx hb dX11_strikeOut_1 (by decide) ?_
  refine lv_iload_n hx hb dX11_strikeOut_2 rfl (lv_at hl 1 rfl) ?_
  refine rd_calli (va_runV (As := [.int 3, .int a1]) (rest := []) ⟨hx, hb, hml, hown, hts⟩ (r_is l G g hg f ab2 be2 sn wn sa ly rdy (nI fd) ss 3 na a1 hmo hss_ (by first | assumption | omega | decide) (hst.h3) (by first | assumption | omega | decide)) (my_cwV hts ok_X11_is w_186 rfl rfl ⟨Nat.le_of_ble_eq_true rfl, Nat.le_of_ble_eq_true rfl⟩) ⟨bP.blind, va_recv hG.1 hP (ci := 10) (q0 := 315) rfl (wl_at (by decide) hmo), fun U hU hW => ⟨rfl, by rw [hU]; exact hP, kG.warm hW hG⟩⟩ rfl rfl hl.1 rfl (lv_room (Nat.le_of_ble_eq_true rfl)) dX11_strikeOut_3 ⟨Nat.le_of_ble_eq_true rfl, Nat.le_of_ble_eq_true rfl⟩) (fun r hr9 => ?_)
  subst hr9
  refine my_ifeq (tgt := 16) hx hb dX11_strikeOut_6 (by decide) (fun c_6 => ?_) (fun c_6 => ?_)
  · refine lv_bipush (v := (-2)) hx hb dX11_strikeOut_16 (by decide) ?_
    refine W_q9 hQ9 ?_
    exact W.iret (v := (-2)) hx hb hr (fun _ hT9 _ => ⟨⟨_, f, rfl, (⟨ss, mJ_mk (ab2) (be2) (sn) (wn) (sa) (ly) (rdy) (fd) (np) (nf) (nr) (na) (nt) (sp) (wi) (wa) (va) (bo) (ju) (dr) (dn) (sl) (ax) (lf) (wh) (w6) (b6) (hmo) (hss_) (him_) (hkq_) (hsp_) (hwi_) (hwa_) (hva_) (hbo_) (hju_) (hdr_) (hdn_) (hsl_) (hax_) (hlf_) (hwh_) (hw6_) (hb6_) (hst) (by omega) (hdn) (hi0) (hi1) (hrd), ⟨np, nf, nr, na, nt, hst, Or.inl ⟨fun z => c_6 z.1, rfl, rfl⟩⟩, fun j hj => rfl⟩), by rw [hT9]; exact hP⟩, hS.F hT9⟩) hS.2.2 dX11_strikeOut_18
  · refine lv_iload_n hx hb dX11_strikeOut_9 rfl (lv_at hl 2 rfl) ?_
    refine rd_calli (va_runS (As := [.int a2]) (rest := []) ⟨hx, hb, hml, hown, hts⟩ (r_isDay l G g hg f a2  ) (my_cwS hts ok_X11_isDay w_190 rfl rfl ⟨Nat.le_of_ble_eq_true rfl, Nat.le_of_ble_eq_true rfl⟩) ⟨bP.blind, fun U hU hW => ⟨rfl, by rw [hU]; exact hP, kG.warm hW hG⟩⟩ rfl rfl hl.1 rfl (lv_room (Nat.le_of_ble_eq_true rfl)) dX11_strikeOut_10 ⟨Nat.le_of_ble_eq_true rfl, Nat.le_of_ble_eq_true rfl⟩) (fun r hr9 => ?_)
    subst hr9
    refine my_ifne (tgt := 19) hx hb dX11_strikeOut_13 (by decide) (fun c_13 => ?_) (fun c_13 => ?_)
    · obtain ⟨an, han, rfl⟩ := inN_nat (by omega) c_6
      refine lv_sipush (v := 466) hx hb dX11_strikeOut_19 (by decide) ?_
      refine lv_bipush (v := 54) hx hb dX11_strikeOut_22 (by decide) ?_
      refine lv_iload_n hx hb dX11_strikeOut_24 rfl (lv_at hl 1 rfl) ?_
      refine lv_imul hx hb dX11_strikeOut_25 ?_
      refine my_bei (v := nI (54 * an)) (pk_mul 54 an) ?_
      refine lv_iadd hx hb dX11_strikeOut_26 ?_
      refine my_bei (v := nI (54 * an + 466)) ((nI_add 466 (54 * an)).trans (congrArg nI (show 466 + (54 * an) = 54 * an + 466 by omega))) ?_
      refine lv_istore_n (lv' := [(3, .int (nI (54 * an + 466))), (0, .ref (g 315)), (1, .int (nI an)), (2, .int a2)]) hx hb dX11_strikeOut_27 rfl hl (by decide) rfl (fun ls hl => ?_)
      refine lv_aload_n hx hb dX11_strikeOut_28 rfl (lv_at hl 1 rfl) ?_
      refine va_get (D := G.1) (ci := 10) (v := .ref (g 316)) (C := RX11) (T := TX11) (N := 25) hx hb hts inlX11 hown hG.1 hP 315 (wl_at (by decide) hmo) rfl 0 (by decide) (hts (.fieldLink RX11 7 "SwornListsModel" "st" "[I") w_112) (fun _ h9 => h9) rfl dX11_strikeOut_29 ?_
      refine lv_iload_n hx hb dX11_strikeOut_32 rfl (lv_at hl 0 rfl) ?_
      refine lv_iconst (v := 2) hx hb dX11_strikeOut_33 (by decide) ?_
      refine lv_iadd hx hb dX11_strikeOut_34 ?_
      refine my_bei (v := nI (54 * an + 468)) ((nI_add (54 * an + 466) 2).trans (congrArg nI (show (54 * an + 466) + 2 = 54 * an + 468 by omega))) ?_
      refine va_iald hx hb hG.1 hP 316 0 (wl_at (by decide) hss_) rfl (vp_in_nI (by omega) (by decide)) dX11_strikeOut_35 ?_
      refine my_bei (v := ss (54 * an + 468)) (congrArg ss (nI_clamp (n := 54 * an + 468) (by omega))) ?_
      refine lv_iconst (v := (-1)) hx hb dX11_strikeOut_36 (by decide) ?_
      refine lv_icmp_eq (tgt := 43) hx hb dX11_strikeOut_37 (by decide) (fun c_37 => ?_) (fun c_37 => ?_)
      · refine lv_aload_n hx hb dX11_strikeOut_43 rfl (lv_at hl 1 rfl) ?_
        refine va_get (D := G.1) (ci := 10) (v := .ref (g 316)) (C := RX11) (T := TX11) (N := 25) hx hb hts inlX11 hown hG.1 hP 315 (wl_at (by decide) hmo) rfl 0 (by decide) (hts (.fieldLink RX11 7 "SwornListsModel" "st" "[I") w_112) (fun _ h9 => h9) rfl dX11_strikeOut_44 ?_
        refine lv_iload_n hx hb dX11_strikeOut_47 rfl (lv_at hl 0 rfl) ?_
        refine lv_iconst (v := 2) hx hb dX11_strikeOut_48 (by decide) ?_
        refine lv_iadd hx hb dX11_strikeOut_49 ?_
        refine my_bei (v := nI (54 * an + 468)) ((nI_add (54 * an + 466) 2).trans (congrArg nI (show (54 * an + 466) + 2 = 54 * an + 468 by omega))) ?_
        refine lv_iload_n hx hb dX11_strikeOut_50 rfl (lv_at hl 3 rfl) ?_
        refine va_iast hx hb hG.1 hP (wl_D hg f) hS 316 0 (wl_at (by decide) hss_) rfl (vp_in_nI (by omega) (by decide)) dX11_strikeOut_51 (fun H locs hP _ hS => ?_)
        have hP := (congrArg (fun z9 => va_P G.1 vwCl ((wl g f).set 316 (g 316, eI G 2246 ((upd ss z9 a2)))) H) (show Int32.toNatClampNeg (nI (54 * an + 468)) = 54 * an + 468 from nI_clamp (by omega))).mp hP
        obtain ⟨f_1, hP, e_1, o_1⟩ := b_put (by decide) hP
        have hss_ : f_1 316 = eI G 2246 (upd ss (54 * an + 468) a2) := e_1
        refine lv_aload_n hx hb dX11_strikeOut_52 rfl (lv_at hl 1 rfl) ?_
        refine lv_iconst (v := 0) hx hb dX11_strikeOut_53 (by decide) ?_
        replace hmo := ((o_1 315 (by decide))).trans hmo
        refine va_put (D := G.1) (ci := 10) (v := .int 0) (ty := .boolean) (C := RX11) (T := TX11) (N := 25) hx hb hts inlX11 tyX11 tyX11_ok nmX11 hown hG.1 hP (wl_D hg f_1) hS 315 (wl_at (by decide) hmo) rfl 13 (by decide) (hts (.fieldLink RX11 71 "SwornListsModel" "isReady" "Z") w_169) (fun _ h9 => h9) rfl (by decide +kernel) rfl rfl (Nat.le_of_ble_eq_true rfl) dX11_strikeOut_54 (fun H locs hP _ hS => ?_)
        obtain ⟨f_2, hP, e_2, o_2⟩ := b_put (by decide) hP
        have hmo : f_2 315 = eO 10 [.ref (g 316), .ref (g 317), .ref (g 318), .long ab2, .long be2, .int sn, .ref (g 319), .ref (g 320), .int wn, .ref (g 321), .ref (g 322), .int sa, .int ly, .int 0, .int (nI fd), .ref (g 323), .ref (g 324), .ref (g 325), .ref (g 326), .ref (g 327), .ref (g 328), .ref (g 329), .ref (g 330), .ref (g 331), .ref (g 332)] := e_2
        refine lv_iconst (v := 1) hx hb dX11_strikeOut_57 (by decide) ?_
        refine W_q9 hQ9 ?_
        replace hss_ := ((o_2 316 (by decide))).trans hss_
        replace him_ := ((o_2 317 (by decide)).trans ((o_1 317 (by decide)))).trans him_
        replace hkq_ := ((o_2 318 (by decide)).trans ((o_1 318 (by decide)))).trans hkq_
        replace hsp_ := ((o_2 319 (by decide)).trans ((o_1 319 (by decide)))).trans hsp_
        replace hwi_ := ((o_2 320 (by decide)).trans ((o_1 320 (by decide)))).trans hwi_
        replace hwa_ := ((o_2 321 (by decide)).trans ((o_1 321 (by decide)))).trans hwa_
        replace hva_ := ((o_2 322 (by decide)).trans ((o_1 322 (by decide)))).trans hva_
        replace hbo_ := ((o_2 323 (by decide)).trans ((o_1 323 (by decide)))).trans hbo_
        replace hju_ := ((o_2 324 (by decide)).trans ((o_1 324 (by decide)))).trans hju_
        replace hdr_ := ((o_2 325 (by decide)).trans ((o_1 325 (by decide)))).trans hdr_
        replace hdn_ := ((o_2 326 (by decide)).trans ((o_1 326 (by decide)))).trans hdn_
        replace hsl_ := ((o_2 327 (by decide)).trans ((o_1 327 (by decide)))).trans hsl_
        replace hax_ := ((o_2 328 (by decide)).trans ((o_1 328 (by decide)))).trans hax_
        replace hlf_ := ((o_2 329 (by decide)).trans ((o_1 329 (by decide)))).trans hlf_
        replace hwh_ := ((o_2 330 (by decide)).trans ((o_1 330 (by decide)))).trans hwh_
        replace hw6_ := ((o_2 331 (by decide)).trans ((o_1 331 (by decide)))).trans hw6_
        replace hb6_ := ((o_2 332 (by decide)).trans ((o_1 332 (by decide)))).trans hb6_
        exact W.iret (v := 1) hx hb hr (fun _ hT9 _ => ⟨⟨_, f_2, rfl, (⟨(upd ss (54 * an + 468) a2), mJ_mk (ab2) (be2) (sn) (wn) (sa) (ly) (0) (fd) (np) (nf) (nr) (na) (nt) (sp) (wi) (wa) (va) (bo) (ju) (dr) (dn) (sl) (ax) (lf) (wh) (w6) (b6) (hmo) (hss_) (him_) (hkq_) (hsp_) (hwi_) (hwa_) (hva_) (hbo_) (hju_) (hdr_) (hdn_) (hsl_) (hax_) (hlf_) (hwh_) (hw6_) (hb6_) ((stOK.upd1 hst (by omega) (fun t h => by omega) (fun a j h1 h2 => by omega) (fun t h => by omega))) (by omega) (hdn) (hi0) (hi1) ((fun z => absurd rfl z)), ⟨np, nf, nr, na, nt, hst, Or.inr ⟨c_13, an, han, rfl, Or.inr ⟨c_37, rfl, rfl⟩⟩⟩, fun j hj => ((o_2 j (by omega))).trans (o_1 j (by omega))⟩), by rw [hT9]; exact hP⟩, hS.F hT9⟩) hS.2.2 dX11_strikeOut_58
      · refine lv_bipush (v := (-3)) hx hb dX11_strikeOut_40 (by decide) ?_
        refine W_q9 hQ9 ?_
        exact W.iret (v := (-3)) hx hb hr (fun _ hT9 _ => ⟨⟨_, f, rfl, (⟨ss, mJ_mk (ab2) (be2) (sn) (wn) (sa) (ly) (rdy) (fd) (np) (nf) (nr) (na) (nt) (sp) (wi) (wa) (va) (bo) (ju) (dr) (dn) (sl) (ax) (lf) (wh) (w6) (b6) (hmo) (hss_) (him_) (hkq_) (hsp_) (hwi_) (hwa_) (hva_) (hbo_) (hju_) (hdr_) (hdn_) (hsl_) (hax_) (hlf_) (hwh_) (hw6_) (hb6_) (hst) (by omega) (hdn) (hi0) (hi1) (hrd), ⟨np, nf, nr, na, nt, hst, Or.inr ⟨c_13, an, han, rfl, Or.inl ⟨c_37, rfl, rfl⟩⟩⟩, fun j hj => rfl⟩), by rw [hT9]; exact hP⟩, hS.F hT9⟩) hS.2.2 dX11_strikeOut_42
    · refine lv_bipush (v := (-2)) hx hb dX11_strikeOut_16 (by decide) ?_
      refine W_q9 hQ9 ?_
      exact W.iret (v := (-2)) hx hb hr (fun _ hT9 _ => ⟨⟨_, f, rfl, (⟨ss, mJ_mk (ab2) (be2) (sn) (wn) (sa) (ly) (rdy) (fd) (np) (nf) (nr) (na) (nt) (sp) (wi) (wa) (va) (bo) (ju) (dr) (dn) (sl) (ax) (lf) (wh) (w6) (b6) (hmo) (hss_) (him_) (hkq_) (hsp_) (hwi_) (hwa_) (hva_) (hbo_) (hju_) (hdr_) (hdn_) (hsl_) (hax_) (hlf_) (hwh_) (hw6_) (hb6_) (hst) (by omega) (hdn) (hi0) (hi1) (hrd), ⟨np, nf, nr, na, nt, hst, Or.inl ⟨fun z => c_13 z.2, rfl, rfl⟩⟩, fun j hj => rfl⟩), by rw [hT9]; exact hP⟩, hS.F hT9⟩) hS.2.2 dX11_strikeOut_18
theorem j2_strikeOut (l : Launch) (G : gW) (g : Nat → Nat) (hg : gOK g) (f : Nat → va_E) (ss : Nat → Int32) (im : Nat → Int32) (kq : Nat → Int32) (a1 : Int32) (a2 : Int32) (hI : mJ G g f ss im kq) (htA : ∀ n : Nat, n ≤ 10 → ss 4 = nI n → trOK ss n) : Met l yX11_strikeOut (wsT yX11_strikeOut cX11_strikeOut 4 (some .int)) ({ frames := 2, cells := 0, slots := 0, locals := 47 }) (bP G g f [.ref (g 315), .int a1, .int a2]) (bQi G g (fun (z9 : Int32) (f' : Nat → va_E) => ∃ ss9 : Nat → Int32, (mJ G g f' ss9 im kq) ∧ (∃ p9 f9 r9 u9 t9, stOK ss p9 f9 r9 u9 t9 ∧ ((¬ (inN a1 u9 = true ∧ inB 0 a2 9999 = true) ∧ z9 = -2 ∧ ss9 = ss) ∨ (inB 0 a2 9999 = true ∧ ∃ x, x < u9 ∧ a1 = nI x ∧ ((¬ ss (54 * x + 468) = -1 ∧ z9 = -3 ∧ ss9 = ss) ∨ (ss (54 * x + 468) = -1 ∧ z9 = 1 ∧ ss9 = upd ss (54 * x + 468) a2))))) ∧ ∀ j, j < 315 → f' j = f j)) 0 0 (gA g) := mJ_elim hI (fun ab2 be2 sn wn sa ly rdy fd np nf nr na nt sp wi wa va bo ju dr dn sl ax lf wh w6 b6 hmo hss_ him_ hkq_ hsp_ hwi_ hwa_ hva_ hbo_ hju_ hdr_ hdn_ hsl_ hax_ hlf_ hwh_ hw6_ hb6_ hst hfo hdn hi0 hi1 hrd => jn2_strikeOut l G g hg f ab2 be2 sn wn sa ly rdy fd ss np nf nr na nt im kq sp wi wa va bo ju dr dn sl ax lf wh w6 b6 a1 a2 hmo hss_ him_ hkq_ hsp_ hwi_ hwa_ hva_ hbo_ hju_ hdr_ hdn_ hsl_ hax_ hlf_ hwh_ hw6_ hb6_ hst hfo hdn hi0 hi1 hrd htA)
set_option maxHeartbeats 4000000 in
set_option maxRecDepth 100000 in
theorem jn2_force (l : Launch) (G : gW) (g : Nat → Nat) (hg : gOK g) (f : Nat → va_E) (ab2 : Int64) (be2 : Int64) (sn : Int32) (wn : Int32) (sa : Int32) (ly : Int32) (rdy : Int32) (fd : Nat) (ss : Nat → Int32) (np : Nat) (nf : Nat) (nr : Nat) (na : Nat) (nt : Nat) (im : Nat → Int32) (kq : Nat → Int32) (sp : Nat → Int32) (wi : Nat → Int32) (wa : Nat → Int32) (va : Nat → Int64) (bo : Nat → Int32) (ju : Nat → Int32) (dr : Nat → Int32) (dn : Nat → Int32) (sl : Nat → Int32) (ax : Nat → Int32) (lf : Nat → Int32) (wh : Nat → Int32) (w6 : Nat → Int32) (b6 : Nat → Int32) (a1 : Int32) (a2 : Int32) (hmo : f 315 = eO 10 [.ref (g 316), .ref (g 317), .ref (g 318), .long ab2, .long be2, .int sn, .ref (g 319), .ref (g 320), .int wn, .ref (g 321), .ref (g 322), .int sa, .int ly, .int rdy, .int (nI fd), .ref (g 323), .ref (g 324), .ref (g 325), .ref (g 326), .ref (g 327), .ref (g 328), .ref (g 329), .ref (g 330), .ref (g 331), .ref (g 332)]) (hss_ : f 316 = eI G 2246 ss) (him_ : f 317 = eI G 4492 im) (hkq_ : f 318 = eZ G 2 kq) (hsp_ : f 319 = eI G 70 sp) (hwi_ : f 320 = eI G 70 wi) (hwa_ : f 321 = eI G 70 wa) (hva_ : f 322 = eJ G 70 va) (hbo_ : f 323 = eI G 11 bo) (hju_ : f 324 = eI G 11 ju) (hdr_ : f 325 = eI G 264 dr) (hdn_ : f 326 = eI G 11 dn) (hsl_ : f 327 = eI G 330 sl) (hax_ : f 328 = eI G 44 ax) (hlf_ : f 329 = eI G 30 lf) (hwh_ : f 330 = eI G 6 wh) (hw6_ : f 331 = eI G 6 w6) (hb6_ : f 332 = eI G 6 b6) (hst : stOK ss np nf nr na nt) (hfo : fd ≤ 10) (hdn : ∀ k, k < 11 → ∃ d, d ≤ 24 ∧ dn k = nI d) (hi0 : stI im 0) (hi1 : stI im 2246) (hrd : ¬ rdy = 0 → fd = nt ∧ ∀ z, z < nt → rHz np nf nr na ss bo ju dr dn sl ax z) (htA : ∀ n : Nat, n ≤ 10 → ss 4 = nI n → trOK ss n) : Met l yX11_force (wsT yX11_force cX11_force 3 (some .int)) ({ frames := 2, cells := 0, slots := 0, locals := 45 }) (bP G g f [.ref (g 315), .int a1, .int a2]) (bQi G g (fun (z9 : Int32) (f' : Nat → va_E) => (mJ G g f' ss im kq) ∧ (∃ p9 f9 r9 u9 t9, stOK ss p9 f9 r9 u9 t9 ∧ ((¬ (inB 0 a1 1 = true ∧ inB 0 a2 9999 = true) ∧ z9 = -2) ∨ ((inB 0 a1 1 = true ∧ inB 0 a2 9999 = true) ∧ z9 = fo (fcB (fun i c => ss (54 * i + c + 466)) a1 a2 u9)))) ∧ ∀ j, j < 315 → f' j = f j)) 0 0 (gA g) := by
  refine Met.ofW (cc := cX11_force) (maxL := 3) (ret := (some .int)) (by decide) rfl ?_
  intro p e s m args below meth c s₁ B hml hv
  obtain ⟨rfl, hP, hG⟩ := hv
  have hx := B.exec
  have hb := B.bytes
  have hr := B.returns
  have hts := my_hts (atoms_spec (ws := wsT yX11_force cX11_force 3 (some .int)) B.pre)
  have hown : s.vm.findClass RX11 = some m.cls := findClass_of_methodNamed B.named
  have hlocks := B.notSynchronized
  have hS : va_S (gA g) s.heap s.heap [] := va_S.rf
  have hl := lv_entry ([.ref (g 315), .int a1, .int a2]) (n := 3) (Nat.le_of_ble_eq_true rfl)
  rw [lg_entry_eq]
  generalize (lg_sl ([.ref (g 315), .int a1, .int a2]) ++ List.replicate (3 - (lg_sl ([.ref (g 315), .int a1, .int a2])).length) Slot.unset).toArray = ls at hl ⊢
  have hl : lv_has ls 3 [(0, .ref (g 315)), (1, .int a1), (2, .int a2)] := hl
  refine W_q8 (fun Q9 hQ9 => ?_)
  have hc0 := hst.c0
  have hc1 := hst.c1
  have hc2 := hst.c2
  have hc3 := hst.c3
  have hc4 := hst.c4
  have htr := htA nt hst.c4 hst.h4
  refine lv_iload_n hx hb dX11_force_0 rfl (lv_at hl 1 rfl) ?_
  refine lv_i2l hx hb dX11_force_1 rfl ?_
  refine lv_lconst (v := 0) hx hb dX11_force_2 (by decide) ?_
  refine my_bel (v := Int32.toInt64 0) (by decide) ?_
  refine lv_lconst (v := 1) hx hb dX11_force_3 (by decide) ?_
  refine my_bel (v := Int32.toInt64 1) (by decide) ?_
  refine rd_calli (va_runS (As := [.long (Int32.toInt64 a1), .long (Int32.toInt64 0), .long (Int32.toInt64 1)]) (rest := []) ⟨hx, hb, hml, hown, hts⟩ (r_in l G g hg f a1 0 1  ) (my_cwS hts ok_X11_in w_162 rfl rfl ⟨Nat.le_of_ble_eq_true rfl, Nat.le_of_ble_eq_true rfl⟩) ⟨bP.blind, fun U hU hW => ⟨rfl, by rw [hU]; exact hP, kG.warm hW hG⟩⟩ rfl rfl hl.1 rfl (lv_room (Nat.le_of_ble_eq_true rfl)) dX11_force_4 ⟨Nat.le_of_ble_eq_true rfl, Nat.le_of_ble_eq_true rfl⟩) (fun r hr9 => ?_)
  subst hr9
  refine my_ifeq (tgt := 26) hx hb dX11_force_7 (by decide) (fun c_7 => ?_) (fun c_7 => ?_)
  · refine lv_bipush (v := (-2)) hx hb dX11_force_26 (by decide) ?_
    refine W_q9 hQ9 ?_
    exact W.iret (v := (-2)) hx hb hr (fun _ hT9 _ => ⟨⟨_, f, rfl, (⟨mJ_mk (ab2) (be2) (sn) (wn) (sa) (ly) (rdy) (fd) (np) (nf) (nr) (na) (nt) (sp) (wi) (wa) (va) (bo) (ju) (dr) (dn) (sl) (ax) (lf) (wh) (w6) (b6) (hmo) (hss_) (him_) (hkq_) (hsp_) (hwi_) (hwa_) (hva_) (hbo_) (hju_) (hdr_) (hdn_) (hsl_) (hax_) (hlf_) (hwh_) (hw6_) (hb6_) (hst) (by omega) (hdn) (hi0) (hi1) (hrd), ⟨np, nf, nr, na, nt, hst, Or.inl ⟨fun z => c_7 z.1, rfl⟩⟩, fun j hj => rfl⟩), by rw [hT9]; exact hP⟩, hS.F hT9⟩) hS.2.2 dX11_force_28
  · refine lv_iload_n hx hb dX11_force_10 rfl (lv_at hl 2 rfl) ?_
    refine rd_calli (va_runS (As := [.int a2]) (rest := []) ⟨hx, hb, hml, hown, hts⟩ (r_isDay l G g hg f a2  ) (my_cwS hts ok_X11_isDay w_190 rfl rfl ⟨Nat.le_of_ble_eq_true rfl, Nat.le_of_ble_eq_true rfl⟩) ⟨bP.blind, fun U hU hW => ⟨rfl, by rw [hU]; exact hP, kG.warm hW hG⟩⟩ rfl rfl hl.1 rfl (lv_room (Nat.le_of_ble_eq_true rfl)) dX11_force_11 ⟨Nat.le_of_ble_eq_true rfl, Nat.le_of_ble_eq_true rfl⟩) (fun r hr9 => ?_)
    subst hr9
    refine my_ifeq (tgt := 26) hx hb dX11_force_14 (by decide) (fun c_14 => ?_) (fun c_14 => ?_)
    · refine lv_bipush (v := (-2)) hx hb dX11_force_26 (by decide) ?_
      refine W_q9 hQ9 ?_
      exact W.iret (v := (-2)) hx hb hr (fun _ hT9 _ => ⟨⟨_, f, rfl, (⟨mJ_mk (ab2) (be2) (sn) (wn) (sa) (ly) (rdy) (fd) (np) (nf) (nr) (na) (nt) (sp) (wi) (wa) (va) (bo) (ju) (dr) (dn) (sl) (ax) (lf) (wh) (w6) (b6) (hmo) (hss_) (him_) (hkq_) (hsp_) (hwi_) (hwa_) (hva_) (hbo_) (hju_) (hdr_) (hdn_) (hsl_) (hax_) (hlf_) (hwh_) (hw6_) (hb6_) (hst) (by omega) (hdn) (hi0) (hi1) (hrd), ⟨np, nf, nr, na, nt, hst, Or.inl ⟨fun z => c_14 z.2, rfl⟩⟩, fun j hj => rfl⟩), by rw [hT9]; exact hP⟩, hS.F hT9⟩) hS.2.2 dX11_force_28
    · refine lv_aload_n hx hb dX11_force_17 rfl (lv_at hl 0 rfl) ?_
      refine lv_iload_n hx hb dX11_force_18 rfl (lv_at hl 1 rfl) ?_
      refine lv_iload_n hx hb dX11_force_19 rfl (lv_at hl 2 rfl) ?_
      refine rd_calli (va_runV (As := [.int a1, .int a2]) (rest := []) ⟨hx, hb, hml, hown, hts⟩ (r_inForceE l G g hg f ab2 be2 sn wn sa ly rdy (nI fd) ss np nf nr na nt a1 a2 hmo hss_ (by first | assumption | omega | decide)) (my_cwV hts ok_X11_inForce w_540 rfl rfl ⟨Nat.le_of_ble_eq_true rfl, Nat.le_of_ble_eq_true rfl⟩) ⟨bP.blind, va_recv hG.1 hP (ci := 10) (q0 := 315) rfl (wl_at (by decide) hmo), fun U hU hW => ⟨rfl, by rw [hU]; exact hP, kG.warm hW hG⟩⟩ rfl rfl hl.1 rfl (lv_room (Nat.le_of_ble_eq_true rfl)) dX11_force_20 ⟨Nat.le_of_ble_eq_true rfl, Nat.le_of_ble_eq_true rfl⟩) (fun r hr9 => ?_)
      obtain ⟨o91, rfl, hx_1_0, hx_1_1⟩ := hr9
      refine lv_goto (tgt := 28) hx hb dX11_force_23 (by decide) ?_
      refine W_q9 hQ9 ?_
      exact W.iret (v := fo o91) hx hb hr (fun _ hT9 _ => ⟨⟨_, f, rfl, (⟨mJ_mk (ab2) (be2) (sn) (wn) (sa) (ly) (rdy) (fd) (np) (nf) (nr) (na) (nt) (sp) (wi) (wa) (va) (bo) (ju) (dr) (dn) (sl) (ax) (lf) (wh) (w6) (b6) (hmo) (hss_) (him_) (hkq_) (hsp_) (hwi_) (hwa_) (hva_) (hbo_) (hju_) (hdr_) (hdn_) (hsl_) (hax_) (hlf_) (hwh_) (hw6_) (hb6_) (hst) (by omega) (hdn) (hi0) (hi1) (hrd), ⟨np, nf, nr, na, nt, hst, Or.inr ⟨⟨c_7, c_14⟩, (congrArg fo hx_1_1).symm⟩⟩, fun j hj => rfl⟩), by rw [hT9]; exact hP⟩, hS.F hT9⟩) hS.2.2 dX11_force_28
theorem j2_force (l : Launch) (G : gW) (g : Nat → Nat) (hg : gOK g) (f : Nat → va_E) (ss : Nat → Int32) (im : Nat → Int32) (kq : Nat → Int32) (a1 : Int32) (a2 : Int32) (hI : mJ G g f ss im kq) (htA : ∀ n : Nat, n ≤ 10 → ss 4 = nI n → trOK ss n) : Met l yX11_force (wsT yX11_force cX11_force 3 (some .int)) ({ frames := 2, cells := 0, slots := 0, locals := 45 }) (bP G g f [.ref (g 315), .int a1, .int a2]) (bQi G g (fun (z9 : Int32) (f' : Nat → va_E) => (mJ G g f' ss im kq) ∧ (∃ p9 f9 r9 u9 t9, stOK ss p9 f9 r9 u9 t9 ∧ ((¬ (inB 0 a1 1 = true ∧ inB 0 a2 9999 = true) ∧ z9 = -2) ∨ ((inB 0 a1 1 = true ∧ inB 0 a2 9999 = true) ∧ z9 = fo (fcB (fun i c => ss (54 * i + c + 466)) a1 a2 u9)))) ∧ ∀ j, j < 315 → f' j = f j)) 0 0 (gA g) := mJ_elim hI (fun ab2 be2 sn wn sa ly rdy fd np nf nr na nt sp wi wa va bo ju dr dn sl ax lf wh w6 b6 hmo hss_ him_ hkq_ hsp_ hwi_ hwa_ hva_ hbo_ hju_ hdr_ hdn_ hsl_ hax_ hlf_ hwh_ hw6_ hb6_ hst hfo hdn hi0 hi1 hrd => jn2_force l G g hg f ab2 be2 sn wn sa ly rdy fd ss np nf nr na nt im kq sp wi wa va bo ju dr dn sl ax lf wh w6 b6 a1 a2 hmo hss_ him_ hkq_ hsp_ hwi_ hwa_ hva_ hbo_ hju_ hdr_ hdn_ hsl_ hax_ hlf_ hwh_ hw6_ hb6_ hst hfo hdn hi0 hi1 hrd htA)
set_option maxHeartbeats 4000000 in
set_option maxRecDepth 100000 in
theorem jn2_may (l : Launch) (G : gW) (g : Nat → Nat) (hg : gOK g) (f : Nat → va_E) (ab2 : Int64) (be2 : Int64) (sn : Int32) (wn : Int32) (sa : Int32) (ly : Int32) (rdy : Int32) (fd : Nat) (ss : Nat → Int32) (np : Nat) (nf : Nat) (nr : Nat) (na : Nat) (nt : Nat) (im : Nat → Int32) (kq : Nat → Int32) (sp : Nat → Int32) (wi : Nat → Int32) (wa : Nat → Int32) (va : Nat → Int64) (bo : Nat → Int32) (ju : Nat → Int32) (dr : Nat → Int32) (dn : Nat → Int32) (sl : Nat → Int32) (ax : Nat → Int32) (lf : Nat → Int32) (wh : Nat → Int32) (w6 : Nat → Int32) (b6 : Nat → Int32) (a1 : Int32) (a2 : Int32) (a3 : Int32) (hmo : f 315 = eO 10 [.ref (g 316), .ref (g 317), .ref (g 318), .long ab2, .long be2, .int sn, .ref (g 319), .ref (g 320), .int wn, .ref (g 321), .ref (g 322), .int sa, .int ly, .int rdy, .int (nI fd), .ref (g 323), .ref (g 324), .ref (g 325), .ref (g 326), .ref (g 327), .ref (g 328), .ref (g 329), .ref (g 330), .ref (g 331), .ref (g 332)]) (hss_ : f 316 = eI G 2246 ss) (him_ : f 317 = eI G 4492 im) (hkq_ : f 318 = eZ G 2 kq) (hsp_ : f 319 = eI G 70 sp) (hwi_ : f 320 = eI G 70 wi) (hwa_ : f 321 = eI G 70 wa) (hva_ : f 322 = eJ G 70 va) (hbo_ : f 323 = eI G 11 bo) (hju_ : f 324 = eI G 11 ju) (hdr_ : f 325 = eI G 264 dr) (hdn_ : f 326 = eI G 11 dn) (hsl_ : f 327 = eI G 330 sl) (hax_ : f 328 = eI G 44 ax) (hlf_ : f 329 = eI G 30 lf) (hwh_ : f 330 = eI G 6 wh) (hw6_ : f 331 = eI G 6 w6) (hb6_ : f 332 = eI G 6 b6) (hst : stOK ss np nf nr na nt) (hfo : fd ≤ 10) (hdn : ∀ k, k < 11 → ∃ d, d ≤ 24 ∧ dn k = nI d) (hi0 : stI im 0) (hi1 : stI im 2246) (hrd : ¬ rdy = 0 → fd = nt ∧ ∀ z, z < nt → rHz np nf nr na ss bo ju dr dn sl ax z) (htA : ∀ n : Nat, n ≤ 10 → ss 4 = nI n → trOK ss n) : Met l yX11_may (wsT yX11_may cX11_may 4 (some .int)) ({ frames := 7, cells := 0, slots := 0, locals := 173 }) (bP G g f [.ref (g 315), .int a1, .int a2, .int a3]) (bQi G g (fun (z9 : Int32) (f' : Nat → va_E) => (mJ G g f' ss im kq) ∧ (∃ p9 f9 r9 u9 t9, stOK ss p9 f9 r9 u9 t9 ∧ ((¬ (inN a1 p9 = true ∧ inB 0 a2 9999 = true ∧ inB 0 a3 1 = true) ∧ z9 = -2) ∨ (∃ pn k, pn < p9 ∧ a1 = nI pn ∧ inB 0 a2 9999 = true ∧ k ≤ 1 ∧ a3 = nI k ∧ z9 = myV (nvF (fun i c => ss (4 * i + c + 10)) (fun t c => ss (10 * t + c + 1546)) (rJr p9 f9 r9 u9 ss) a2 t9 pn) k ((fcB (fun i c => ss (54 * i + c + 466)) (nI k) a2 u9).map (rL ss))))) ∧ ∀ j, j < 315 → f' j = f j)) 0 0 (gA g) := by
  refine Met.ofW (cc := cX11_may) (maxL := 4) (ret := (some .int)) (by decide) rfl ?_
  intro p e s m args below meth c s₁ B hml hv
  obtain ⟨rfl, hP, hG⟩ := hv
  have hx := B.exec
  have hb := B.bytes
  have hr := B.returns
  have hts := my_hts (atoms_spec (ws := wsT yX11_may cX11_may 4 (some .int)) B.pre)
  have hown : s.vm.findClass RX11 = some m.cls := findClass_of_methodNamed B.named
  have hlocks := B.notSynchronized
  have hS : va_S (gA g) s.heap s.heap [] := va_S.rf
  have hl := lv_entry ([.ref (g 315), .int a1, .int a2, .int a3]) (n := 4) (Nat.le_of_ble_eq_true rfl)
  rw [lg_entry_eq]
  generalize (lg_sl ([.ref (g 315), .int a1, .int a2, .int a3]) ++ List.replicate (4 - (lg_sl ([.ref (g 315), .int a1, .int a2, .int a3])).length) Slot.unset).toArray = ls at hl ⊢
  have hl : lv_has ls 4 [(0, .ref (g 315)), (1, .int a1), (2, .int a2), (3, .int a3)] := hl
  refine W_q8 (fun Q9 hQ9 => ?_)
  have hc0 := hst.c0
  have hc1 := hst.c1
  have hc2 := hst.c2
  have hc3 := hst.c3
  have hc4 := hst.c4
  have htr := htA nt hst.c4 hst.h4
  refine lv_aload_n hx hb dX11_may_0 rfl (lv_at hl 0 rfl) ?_
  refine lv_iconst (v := 0) hx hb dX11_may_1 (by decide) ?_
  refine lv_iload_n hx hb dX11_may_2 rfl (lv_at hl 1 rfl) ?_
  refine rd_calli (va_runV (As := [.int 0, .int a1]) (rest := []) ⟨hx, hb, hml, hown, hts⟩ (r_is l G g hg f ab2 be2 sn wn sa ly rdy (nI fd) ss 0 np a1 hmo hss_ (by first | assumption | omega | decide) (hst.h0) (by first | assumption | omega | decide)) (my_cwV hts ok_X11_is w_186 rfl rfl ⟨Nat.le_of_ble_eq_true rfl, Nat.le_of_ble_eq_true rfl⟩) ⟨bP.blind, va_recv hG.1 hP (ci := 10) (q0 := 315) rfl (wl_at (by decide) hmo), fun U hU hW => ⟨rfl, by rw [hU]; exact hP, kG.warm hW hG⟩⟩ rfl rfl hl.1 rfl (lv_room (Nat.le_of_ble_eq_true rfl)) dX11_may_3 ⟨Nat.le_of_ble_eq_true rfl, Nat.le_of_ble_eq_true rfl⟩) (fun r hr9 => ?_)
  subst hr9
  refine my_ifeq (tgt := 26) hx hb dX11_may_6 (by decide) (fun c_6 => ?_) (fun c_6 => ?_)
  · refine lv_bipush (v := (-2)) hx hb dX11_may_26 (by decide) ?_
    refine W_q9 hQ9 ?_
    exact W.iret (v := (-2)) hx hb hr (fun _ hT9 _ => ⟨⟨_, f, rfl, (⟨mJ_mk (ab2) (be2) (sn) (wn) (sa) (ly) (rdy) (fd) (np) (nf) (nr) (na) (nt) (sp) (wi) (wa) (va) (bo) (ju) (dr) (dn) (sl) (ax) (lf) (wh) (w6) (b6) (hmo) (hss_) (him_) (hkq_) (hsp_) (hwi_) (hwa_) (hva_) (hbo_) (hju_) (hdr_) (hdn_) (hsl_) (hax_) (hlf_) (hwh_) (hw6_) (hb6_) (hst) (by omega) (hdn) (hi0) (hi1) (hrd), ⟨np, nf, nr, na, nt, hst, Or.inl ⟨fun z => c_6 z.1, rfl⟩⟩, fun j hj => rfl⟩), by rw [hT9]; exact hP⟩, hS.F hT9⟩) hS.2.2 dX11_may_28
  · refine lv_iload_n hx hb dX11_may_9 rfl (lv_at hl 2 rfl) ?_
    refine rd_calli (va_runS (As := [.int a2]) (rest := []) ⟨hx, hb, hml, hown, hts⟩ (r_isDay l G g hg f a2  ) (my_cwS hts ok_X11_isDay w_190 rfl rfl ⟨Nat.le_of_ble_eq_true rfl, Nat.le_of_ble_eq_true rfl⟩) ⟨bP.blind, fun U hU hW => ⟨rfl, by rw [hU]; exact hP, kG.warm hW hG⟩⟩ rfl rfl hl.1 rfl (lv_room (Nat.le_of_ble_eq_true rfl)) dX11_may_10 ⟨Nat.le_of_ble_eq_true rfl, Nat.le_of_ble_eq_true rfl⟩) (fun r hr9 => ?_)
    subst hr9
    refine my_ifeq (tgt := 26) hx hb dX11_may_13 (by decide) (fun c_13 => ?_) (fun c_13 => ?_)
    · refine lv_bipush (v := (-2)) hx hb dX11_may_26 (by decide) ?_
      refine W_q9 hQ9 ?_
      exact W.iret (v := (-2)) hx hb hr (fun _ hT9 _ => ⟨⟨_, f, rfl, (⟨mJ_mk (ab2) (be2) (sn) (wn) (sa) (ly) (rdy) (fd) (np) (nf) (nr) (na) (nt) (sp) (wi) (wa) (va) (bo) (ju) (dr) (dn) (sl) (ax) (lf) (wh) (w6) (b6) (hmo) (hss_) (him_) (hkq_) (hsp_) (hwi_) (hwa_) (hva_) (hbo_) (hju_) (hdr_) (hdn_) (hsl_) (hax_) (hlf_) (hwh_) (hw6_) (hb6_) (hst) (by omega) (hdn) (hi0) (hi1) (hrd), ⟨np, nf, nr, na, nt, hst, Or.inl ⟨fun z => c_13 z.2.1, rfl⟩⟩, fun j hj => rfl⟩), by rw [hT9]; exact hP⟩, hS.F hT9⟩) hS.2.2 dX11_may_28
    · refine lv_iload_n hx hb dX11_may_16 rfl (lv_at hl 3 rfl) ?_
      refine lv_i2l hx hb dX11_may_17 rfl ?_
      refine lv_lconst (v := 0) hx hb dX11_may_18 (by decide) ?_
      refine my_bel (v := Int32.toInt64 0) (by decide) ?_
      refine lv_lconst (v := 1) hx hb dX11_may_19 (by decide) ?_
      refine my_bel (v := Int32.toInt64 1) (by decide) ?_
      refine rd_calli (va_runS (As := [.long (Int32.toInt64 a3), .long (Int32.toInt64 0), .long (Int32.toInt64 1)]) (rest := []) ⟨hx, hb, hml, hown, hts⟩ (r_in l G g hg f a3 0 1  ) (my_cwS hts ok_X11_in w_162 rfl rfl ⟨Nat.le_of_ble_eq_true rfl, Nat.le_of_ble_eq_true rfl⟩) ⟨bP.blind, fun U hU hW => ⟨rfl, by rw [hU]; exact hP, kG.warm hW hG⟩⟩ rfl rfl hl.1 rfl (lv_room (Nat.le_of_ble_eq_true rfl)) dX11_may_20 ⟨Nat.le_of_ble_eq_true rfl, Nat.le_of_ble_eq_true rfl⟩) (fun r hr9 => ?_)
      subst hr9
      refine my_ifne (tgt := 29) hx hb dX11_may_23 (by decide) (fun c_23 => ?_) (fun c_23 => ?_)
      · rcases inB_01.mp c_23 with e9 | e9
        · subst e9
          obtain ⟨pn, hpn, rfl⟩ := inN_nat (by omega) c_6
          refine lv_aload_n hx hb dX11_may_29 rfl (lv_at hl 0 rfl) ?_
          refine b_callv (va_runV (As := []) (rest := []) ⟨hx, hb, hml, hown, hts⟩ (r_findsE l G g hg f ab2 be2 sn wn sa ly rdy fd ss np nf nr na nt sp wi wa va bo ju dr dn sl ax lf hmo hss_ hsp_ hwi_ hwa_ hva_ hbo_ hju_ hdr_ hdn_ hsl_ hax_ hlf_ (by first | assumption | omega | decide) (by first | assumption | omega | decide) (by first | assumption | omega | decide) (by first | assumption | omega | decide) (by first | assumption | omega | decide)) (my_cwV hts ok_X11_finds w_523 rfl rfl ⟨Nat.le_of_ble_eq_true rfl, Nat.le_of_ble_eq_true rfl⟩) ⟨bP.blind, va_recv hG.1 hP (ci := 10) (q0 := 315) rfl (wl_at (by decide) hmo), fun U hU hW => ⟨rfl, by rw [hU]; exact hP, kG.warm hW hG⟩⟩ rfl rfl hl.1 rfl (lv_room (Nat.le_of_ble_eq_true rfl)) dX11_may_30 ⟨Nat.le_of_ble_eq_true rfl, Nat.le_of_ble_eq_true rfl⟩) hS (fun f_1 H locs hq9 hP hS => ?_)
          obtain ⟨sn91, wn92, sa93, ly94, sp95, wi96, wa97, va98, bo99, ju910, dr911, dn912, sl913, ax914, lf915, rdy916, fd917, hq_1_0, hq_1_1, hq_1_2, hq_1_3, hq_1_4, hq_1_5, hq_1_6, hq_1_7, hq_1_8, hq_1_9, hq_1_10, hq_1_11, hx_1_0, hx_1_1, hx_1_2, hx_1_3, hx_1_4, o_1⟩ := hq9
          have hmo : f_1 315 = eO 10 [.ref (g 316), .ref (g 317), .ref (g 318), .long ab2, .long be2, .int sn91, .ref (g 319), .ref (g 320), .int wn92, .ref (g 321), .ref (g 322), .int sa93, .int ly94, .int rdy916, .int (nI fd917), .ref (g 323), .ref (g 324), .ref (g 325), .ref (g 326), .ref (g 327), .ref (g 328), .ref (g 329), .ref (g 330), .ref (g 331), .ref (g 332)] := hq_1_0
          have hsp_ : f_1 319 = eI G 70 sp95 := hq_1_1
          have hwi_ : f_1 320 = eI G 70 wi96 := hq_1_2
          have hwa_ : f_1 321 = eI G 70 wa97 := hq_1_3
          have hva_ : f_1 322 = eJ G 70 va98 := hq_1_4
          have hbo_ : f_1 323 = eI G 11 bo99 := hq_1_5
          have hju_ : f_1 324 = eI G 11 ju910 := hq_1_6
          have hdr_ : f_1 325 = eI G 264 dr911 := hq_1_7
          have hdn_ : f_1 326 = eI G 11 dn912 := hq_1_8
          have hsl_ : f_1 327 = eI G 330 sl913 := hq_1_9
          have hax_ : f_1 328 = eI G 44 ax914 := hq_1_10
          have hlf_ : f_1 329 = eI G 30 lf915 := hq_1_11
          refine lv_aload_n hx hb dX11_may_33 rfl (lv_at hl 0 rfl) ?_
          refine lv_iload_n hx hb dX11_may_34 rfl (lv_at hl 3 rfl) ?_
          refine lv_iload_n hx hb dX11_may_35 rfl (lv_at hl 2 rfl) ?_
          refine lv_iconst (v := (-1)) hx hb dX11_may_36 (by decide) ?_
          replace hss_ := ((o_1 316 (by first | decide | omega))).trans hss_
          refine b_calli (va_runV (As := [.int 0, .int a2, .int (-1)]) (rest := []) ⟨hx, hb, hml, hown, hts⟩ (r_whomE0 l G g hg f_1 ab2 be2 sn91 wn92 sa93 ly94 rdy916 fd917 ss np nf nr na nt sp95 wi96 wa97 va98 ju910 a2 hmo hss_ hsp_ hwi_ hwa_ hva_ hju_ (by first | assumption | omega | decide) (by first | assumption | omega | decide) (fun o ho => htr.d0 o (by omega)) (fun o o' h1 h2 => htr.2 o o' h1 (by omega))) (my_cwV hts ok_X11_whom w_536 rfl rfl ⟨Nat.le_of_ble_eq_true rfl, Nat.le_of_ble_eq_true rfl⟩) ⟨bP.blind, va_recv hG.1 hP (ci := 10) (q0 := 315) rfl (wl_at (by decide) hmo), fun U hU hW => ⟨rfl, by rw [hU]; exact hP, kG.warm hW hG⟩⟩ rfl rfl hl.1 rfl (lv_room (Nat.le_of_ble_eq_true rfl)) dX11_may_37 ⟨Nat.le_of_ble_eq_true rfl, Nat.le_of_ble_eq_true rfl⟩) hS (fun v18 f_2 H locs hq9 hP hS => ?_)
          obtain ⟨sn919, wn920, sa921, ly922, sp923, wi924, wa925, va926, rfl, hq_2_0, hq_2_1, hq_2_2, hq_2_3, hq_2_4, o_2⟩ := hq9
          have hmo : f_2 315 = eO 10 [.ref (g 316), .ref (g 317), .ref (g 318), .long ab2, .long be2, .int sn919, .ref (g 319), .ref (g 320), .int wn920, .ref (g 321), .ref (g 322), .int sa921, .int ly922, .int rdy916, .int (nI fd917), .ref (g 323), .ref (g 324), .ref (g 325), .ref (g 326), .ref (g 327), .ref (g 328), .ref (g 329), .ref (g 330), .ref (g 331), .ref (g 332)] := hq_2_0
          have hsp_ : f_2 319 = eI G 70 sp923 := hq_2_1
          have hwi_ : f_2 320 = eI G 70 wi924 := hq_2_2
          have hwa_ : f_2 321 = eI G 70 wa925 := hq_2_3
          have hva_ : f_2 322 = eJ G 70 va926 := hq_2_4
          refine lv_iload_n hx hb dX11_may_40 rfl (lv_at hl 1 rfl) ?_
          refine lv_ishr hx hb dX11_may_41 ?_
          refine lv_iconst (v := 1) hx hb dX11_may_42 (by decide) ?_
          refine lv_iand hx hb dX11_may_43 ?_
          refine my_bei (v := (if bt (whV np (nvF (fun i c => ss (4 * i + c + 10)) (fun t c => ss (10 * t + c + 1546)) ju910 a2 fd917) ((1 <<< (nI np &&& 31)) - 1) ((fcB (fun i c => ss (54 * i + c + 466)) 0 a2 na).map (rL ss))) pn = true then 1 else 0)) (sr_bt (by omega)) ?_
          refine W_q9 hQ9 ?_
          replace hss_ := ((o_2 316 (by first | decide | omega))).trans hss_
          replace him_ := ((o_2 317 (by first | decide | omega)).trans ((o_1 317 (by first | decide | omega)))).trans him_
          replace hkq_ := ((o_2 318 (by first | decide | omega)).trans ((o_1 318 (by first | decide | omega)))).trans hkq_
          replace hbo_ := ((o_2 323 (by first | decide | omega))).trans hbo_
          replace hju_ := ((o_2 324 (by first | decide | omega))).trans hju_
          replace hdr_ := ((o_2 325 (by first | decide | omega))).trans hdr_
          replace hdn_ := ((o_2 326 (by first | decide | omega))).trans hdn_
          replace hsl_ := ((o_2 327 (by first | decide | omega))).trans hsl_
          replace hax_ := ((o_2 328 (by first | decide | omega))).trans hax_
          replace hlf_ := ((o_2 329 (by first | decide | omega))).trans hlf_
          replace hwh_ := ((o_2 330 (by first | decide | omega)).trans ((o_1 330 (by first | decide | omega)))).trans hwh_
          replace hw6_ := ((o_2 331 (by first | decide | omega)).trans ((o_1 331 (by first | decide | omega)))).trans hw6_
          replace hb6_ := ((o_2 332 (by first | decide | omega)).trans ((o_1 332 (by first | decide | omega)))).trans hb6_
          exact W.iret (v := (if bt (whV np (nvF (fun i c => ss (4 * i + c + 10)) (fun t c => ss (10 * t + c + 1546)) ju910 a2 fd917) ((1 <<< (nI np &&& 31)) - 1) ((fcB (fun i c => ss (54 * i + c + 466)) 0 a2 na).map (rL ss))) pn = true then 1 else 0)) hx hb hr (fun _ hT9 _ => ⟨⟨_, f_2, rfl, (⟨mJ_mk (ab2) (be2) (sn919) (wn920) (sa921) (ly922) (rdy916) (fd917) (np) (nf) (nr) (na) (nt) (sp923) (wi924) (wa925) (va926) (bo99) (ju910) (dr911) (dn912) (sl913) (ax914) (lf915) (wh) (w6) (b6) (hmo) (hss_) (him_) (hkq_) (hsp_) (hwi_) (hwa_) (hva_) (hbo_) (hju_) (hdr_) (hdn_) (hsl_) (hax_) (hlf_) (hwh_) (hw6_) (hb6_) (hst) (by omega) (hx_1_0) (hi0) (hi1) ((fun _ => ⟨hx_1_3, hx_1_4⟩)), ⟨np, nf, nr, na, nt, hst, Or.inr ⟨pn, 0, hpn, rfl, c_13, by decide, rfl, my_r (N := nvF (fun i c => ss (4 * i + c + 10)) (fun t c => ss (10 * t + c + 1546)) ju910 a2 fd917) hpn (by omega) (by rw [hx_1_3]; exact nvF_congr (P := (fun i c => ss (4 * i + c + 10))) (T := (fun t c => ss (10 * t + c + 1546))) (fun _ _ => rfl) (fun _ _ => rfl) (fun z hz => rHz_ju (hx_1_4 z (by omega)))) ⟨fun _ => rfl, fun z => absurd rfl z⟩⟩⟩, fun j hj => ((o_2 j (by omega))).trans (o_1 j (by omega))⟩), by rw [hT9]; exact hP⟩, hS.F hT9⟩) hS.2.2 dX11_may_44
        · subst e9
          obtain ⟨pn, hpn, rfl⟩ := inN_nat (by omega) c_6
          refine lv_aload_n hx hb dX11_may_29 rfl (lv_at hl 0 rfl) ?_
          refine b_callv (va_runV (As := []) (rest := []) ⟨hx, hb, hml, hown, hts⟩ (r_findsE l G g hg f ab2 be2 sn wn sa ly rdy fd ss np nf nr na nt sp wi wa va bo ju dr dn sl ax lf hmo hss_ hsp_ hwi_ hwa_ hva_ hbo_ hju_ hdr_ hdn_ hsl_ hax_ hlf_ (by first | assumption | omega | decide) (by first | assumption | omega | decide) (by first | assumption | omega | decide) (by first | assumption | omega | decide) (by first | assumption | omega | decide)) (my_cwV hts ok_X11_finds w_523 rfl rfl ⟨Nat.le_of_ble_eq_true rfl, Nat.le_of_ble_eq_true rfl⟩) ⟨bP.blind, va_recv hG.1 hP (ci := 10) (q0 := 315) rfl (wl_at (by decide) hmo), fun U hU hW => ⟨rfl, by rw [hU]; exact hP, kG.warm hW hG⟩⟩ rfl rfl hl.1 rfl (lv_room (Nat.le_of_ble_eq_true rfl)) dX11_may_30 ⟨Nat.le_of_ble_eq_true rfl, Nat.le_of_ble_eq_true rfl⟩) hS (fun f_3 H locs hq9 hP hS => ?_)
          obtain ⟨sn927, wn928, sa929, ly930, sp931, wi932, wa933, va934, bo935, ju936, dr937, dn938, sl939, ax940, lf941, rdy942, fd943, hq_3_0, hq_3_1, hq_3_2, hq_3_3, hq_3_4, hq_3_5, hq_3_6, hq_3_7, hq_3_8, hq_3_9, hq_3_10, hq_3_11, hx_3_0, hx_3_1, hx_3_2, hx_3_3, hx_3_4, o_3⟩ := hq9
          have hmo : f_3 315 = eO 10 [.ref (g 316), .ref (g 317), .ref (g 318), .long ab2, .long be2, .int sn927, .ref (g 319), .ref (g 320), .int wn928, .ref (g 321), .ref (g 322), .int sa929, .int ly930, .int rdy942, .int (nI fd943), .ref (g 323), .ref (g 324), .ref (g 325), .ref (g 326), .ref (g 327), .ref (g 328), .ref (g 329), .ref (g 330), .ref (g 331), .ref (g 332)] := hq_3_0
          have hsp_ : f_3 319 = eI G 70 sp931 := hq_3_1
          have hwi_ : f_3 320 = eI G 70 wi932 := hq_3_2
          have hwa_ : f_3 321 = eI G 70 wa933 := hq_3_3
          have hva_ : f_3 322 = eJ G 70 va934 := hq_3_4
          have hbo_ : f_3 323 = eI G 11 bo935 := hq_3_5
          have hju_ : f_3 324 = eI G 11 ju936 := hq_3_6
          have hdr_ : f_3 325 = eI G 264 dr937 := hq_3_7
          have hdn_ : f_3 326 = eI G 11 dn938 := hq_3_8
          have hsl_ : f_3 327 = eI G 330 sl939 := hq_3_9
          have hax_ : f_3 328 = eI G 44 ax940 := hq_3_10
          have hlf_ : f_3 329 = eI G 30 lf941 := hq_3_11
          refine lv_aload_n hx hb dX11_may_33 rfl (lv_at hl 0 rfl) ?_
          refine lv_iload_n hx hb dX11_may_34 rfl (lv_at hl 3 rfl) ?_
          refine lv_iload_n hx hb dX11_may_35 rfl (lv_at hl 2 rfl) ?_
          refine lv_iconst (v := (-1)) hx hb dX11_may_36 (by decide) ?_
          replace hss_ := ((o_3 316 (by first | decide | omega))).trans hss_
          refine b_calli (va_runV (As := [.int 1, .int a2, .int (-1)]) (rest := []) ⟨hx, hb, hml, hown, hts⟩ (r_whomE1 l G g hg f_3 ab2 be2 sn927 wn928 sa929 ly930 rdy942 fd943 ss np nf nr na nt sp931 wi932 wa933 va934 ju936 a2 hmo hss_ hsp_ hwi_ hwa_ hva_ hju_ (by first | assumption | omega | decide) (by first | assumption | omega | decide) (fun o ho => htr.d0 o (by omega)) (fun o o' h1 h2 => htr.2 o o' h1 (by omega))) (my_cwV hts ok_X11_whom w_536 rfl rfl ⟨Nat.le_of_ble_eq_true rfl, Nat.le_of_ble_eq_true rfl⟩) ⟨bP.blind, va_recv hG.1 hP (ci := 10) (q0 := 315) rfl (wl_at (by decide) hmo), fun U hU hW => ⟨rfl, by rw [hU]; exact hP, kG.warm hW hG⟩⟩ rfl rfl hl.1 rfl (lv_room (Nat.le_of_ble_eq_true rfl)) dX11_may_37 ⟨Nat.le_of_ble_eq_true rfl, Nat.le_of_ble_eq_true rfl⟩) hS (fun v44 f_4 H locs hq9 hP hS => ?_)
          obtain ⟨sn945, wn946, sa947, ly948, sp949, wi950, wa951, va952, rfl, hq_4_0, hq_4_1, hq_4_2, hq_4_3, hq_4_4, o_4⟩ := hq9
          have hmo : f_4 315 = eO 10 [.ref (g 316), .ref (g 317), .ref (g 318), .long ab2, .long be2, .int sn945, .ref (g 319), .ref (g 320), .int wn946, .ref (g 321), .ref (g 322), .int sa947, .int ly948, .int rdy942, .int (nI fd943), .ref (g 323), .ref (g 324), .ref (g 325), .ref (g 326), .ref (g 327), .ref (g 328), .ref (g 329), .ref (g 330), .ref (g 331), .ref (g 332)] := hq_4_0
          have hsp_ : f_4 319 = eI G 70 sp949 := hq_4_1
          have hwi_ : f_4 320 = eI G 70 wi950 := hq_4_2
          have hwa_ : f_4 321 = eI G 70 wa951 := hq_4_3
          have hva_ : f_4 322 = eJ G 70 va952 := hq_4_4
          refine lv_iload_n hx hb dX11_may_40 rfl (lv_at hl 1 rfl) ?_
          refine lv_ishr hx hb dX11_may_41 ?_
          refine lv_iconst (v := 1) hx hb dX11_may_42 (by decide) ?_
          refine lv_iand hx hb dX11_may_43 ?_
          refine my_bei (v := (if bt (whV np (nvF (fun i c => ss (4 * i + c + 10)) (fun t c => ss (10 * t + c + 1546)) ju936 a2 fd943) 0 ((fcB (fun i c => ss (54 * i + c + 466)) 1 a2 na).map (rL ss))) pn = true then 1 else 0)) (sr_bt (by omega)) ?_
          refine W_q9 hQ9 ?_
          replace hss_ := ((o_4 316 (by first | decide | omega))).trans hss_
          replace him_ := ((o_4 317 (by first | decide | omega)).trans ((o_3 317 (by first | decide | omega)))).trans him_
          replace hkq_ := ((o_4 318 (by first | decide | omega)).trans ((o_3 318 (by first | decide | omega)))).trans hkq_
          replace hbo_ := ((o_4 323 (by first | decide | omega))).trans hbo_
          replace hju_ := ((o_4 324 (by first | decide | omega))).trans hju_
          replace hdr_ := ((o_4 325 (by first | decide | omega))).trans hdr_
          replace hdn_ := ((o_4 326 (by first | decide | omega))).trans hdn_
          replace hsl_ := ((o_4 327 (by first | decide | omega))).trans hsl_
          replace hax_ := ((o_4 328 (by first | decide | omega))).trans hax_
          replace hlf_ := ((o_4 329 (by first | decide | omega))).trans hlf_
          replace hwh_ := ((o_4 330 (by first | decide | omega)).trans ((o_3 330 (by first | decide | omega)))).trans hwh_
          replace hw6_ := ((o_4 331 (by first | decide | omega)).trans ((o_3 331 (by first | decide | omega)))).trans hw6_
          replace hb6_ := ((o_4 332 (by first | decide | omega)).trans ((o_3 332 (by first | decide | omega)))).trans hb6_
          exact W.iret (v := (if bt (whV np (nvF (fun i c => ss (4 * i + c + 10)) (fun t c => ss (10 * t + c + 1546)) ju936 a2 fd943) 0 ((fcB (fun i c => ss (54 * i + c + 466)) 1 a2 na).map (rL ss))) pn = true then 1 else 0)) hx hb hr (fun _ hT9 _ => ⟨⟨_, f_4, rfl, (⟨mJ_mk (ab2) (be2) (sn945) (wn946) (sa947) (ly948) (rdy942) (fd943) (np) (nf) (nr) (na) (nt) (sp949) (wi950) (wa951) (va952) (bo935) (ju936) (dr937) (dn938) (sl939) (ax940) (lf941) (wh) (w6) (b6) (hmo) (hss_) (him_) (hkq_) (hsp_) (hwi_) (hwa_) (hva_) (hbo_) (hju_) (hdr_) (hdn_) (hsl_) (hax_) (hlf_) (hwh_) (hw6_) (hb6_) (hst) (by omega) (hx_3_0) (hi0) (hi1) ((fun _ => ⟨hx_3_3, hx_3_4⟩)), ⟨np, nf, nr, na, nt, hst, Or.inr ⟨pn, 1, hpn, rfl, c_13, by decide, rfl, my_r (N := nvF (fun i c => ss (4 * i + c + 10)) (fun t c => ss (10 * t + c + 1546)) ju936 a2 fd943) hpn (by omega) (by rw [hx_3_3]; exact nvF_congr (P := (fun i c => ss (4 * i + c + 10))) (T := (fun t c => ss (10 * t + c + 1546))) (fun _ _ => rfl) (fun _ _ => rfl) (fun z hz => rHz_ju (hx_3_4 z (by omega)))) ⟨fun z => absurd z (by decide), fun _ => rfl⟩⟩⟩, fun j hj => ((o_4 j (by omega))).trans (o_3 j (by omega))⟩), by rw [hT9]; exact hP⟩, hS.F hT9⟩) hS.2.2 dX11_may_44
      · refine lv_bipush (v := (-2)) hx hb dX11_may_26 (by decide) ?_
        refine W_q9 hQ9 ?_
        exact W.iret (v := (-2)) hx hb hr (fun _ hT9 _ => ⟨⟨_, f, rfl, (⟨mJ_mk (ab2) (be2) (sn) (wn) (sa) (ly) (rdy) (fd) (np) (nf) (nr) (na) (nt) (sp) (wi) (wa) (va) (bo) (ju) (dr) (dn) (sl) (ax) (lf) (wh) (w6) (b6) (hmo) (hss_) (him_) (hkq_) (hsp_) (hwi_) (hwa_) (hva_) (hbo_) (hju_) (hdr_) (hdn_) (hsl_) (hax_) (hlf_) (hwh_) (hw6_) (hb6_) (hst) (by omega) (hdn) (hi0) (hi1) (hrd), ⟨np, nf, nr, na, nt, hst, Or.inl ⟨fun z => c_23 z.2.2, rfl⟩⟩, fun j hj => rfl⟩), by rw [hT9]; exact hP⟩, hS.F hT9⟩) hS.2.2 dX11_may_28
theorem j2_may (l : Launch) (G : gW) (g : Nat → Nat) (hg : gOK g) (f : Nat → va_E) (ss : Nat → Int32) (im : Nat → Int32) (kq : Nat → Int32) (a1 : Int32) (a2 : Int32) (a3 : Int32) (hI : mJ G g f ss im kq) (htA : ∀ n : Nat, n ≤ 10 → ss 4 = nI n → trOK ss n) : Met l yX11_may (wsT yX11_may cX11_may 4 (some .int)) ({ frames := 7, cells := 0, slots := 0, locals := 173 }) (bP G g f [.ref (g 315), .int a1, .int a2, .int a3]) (bQi G g (fun (z9 : Int32) (f' : Nat → va_E) => (mJ G g f' ss im kq) ∧ (∃ p9 f9 r9 u9 t9, stOK ss p9 f9 r9 u9 t9 ∧ ((¬ (inN a1 p9 = true ∧ inB 0 a2 9999 = true ∧ inB 0 a3 1 = true) ∧ z9 = -2) ∨ (∃ pn k, pn < p9 ∧ a1 = nI pn ∧ inB 0 a2 9999 = true ∧ k ≤ 1 ∧ a3 = nI k ∧ z9 = myV (nvF (fun i c => ss (4 * i + c + 10)) (fun t c => ss (10 * t + c + 1546)) (rJr p9 f9 r9 u9 ss) a2 t9 pn) k ((fcB (fun i c => ss (54 * i + c + 466)) (nI k) a2 u9).map (rL ss))))) ∧ ∀ j, j < 315 → f' j = f j)) 0 0 (gA g) := mJ_elim hI (fun ab2 be2 sn wn sa ly rdy fd np nf nr na nt sp wi wa va bo ju dr dn sl ax lf wh w6 b6 hmo hss_ him_ hkq_ hsp_ hwi_ hwa_ hva_ hbo_ hju_ hdr_ hdn_ hsl_ hax_ hlf_ hwh_ hw6_ hb6_ hst hfo hdn hi0 hi1 hrd => jn2_may l G g hg f ab2 be2 sn wn sa ly rdy fd ss np nf nr na nt im kq sp wi wa va bo ju dr dn sl ax lf wh w6 b6 a1 a2 a3 hmo hss_ him_ hkq_ hsp_ hwi_ hwa_ hva_ hbo_ hju_ hdr_ hdn_ hsl_ hax_ hlf_ hwh_ hw6_ hb6_ hst hfo hdn hi0 hi1 hrd htA)
set_option maxHeartbeats 4000000 in
set_option maxRecDepth 100000 in
theorem jn2_away (l : Launch) (G : gW) (g : Nat → Nat) (hg : gOK g) (f : Nat → va_E) (ab2 : Int64) (be2 : Int64) (sn : Int32) (wn : Int32) (sa : Int32) (ly : Int32) (rdy : Int32) (fd : Nat) (ss : Nat → Int32) (np : Nat) (nf : Nat) (nr : Nat) (na : Nat) (nt : Nat) (im : Nat → Int32) (kq : Nat → Int32) (sp : Nat → Int32) (wi : Nat → Int32) (wa : Nat → Int32) (va : Nat → Int64) (bo : Nat → Int32) (ju : Nat → Int32) (dr : Nat → Int32) (dn : Nat → Int32) (sl : Nat → Int32) (ax : Nat → Int32) (lf : Nat → Int32) (wh : Nat → Int32) (w6 : Nat → Int32) (b6 : Nat → Int32) (a1 : Int32) (a2 : Int32) (a3 : Int32) (hmo : f 315 = eO 10 [.ref (g 316), .ref (g 317), .ref (g 318), .long ab2, .long be2, .int sn, .ref (g 319), .ref (g 320), .int wn, .ref (g 321), .ref (g 322), .int sa, .int ly, .int rdy, .int (nI fd), .ref (g 323), .ref (g 324), .ref (g 325), .ref (g 326), .ref (g 327), .ref (g 328), .ref (g 329), .ref (g 330), .ref (g 331), .ref (g 332)]) (hss_ : f 316 = eI G 2246 ss) (him_ : f 317 = eI G 4492 im) (hkq_ : f 318 = eZ G 2 kq) (hsp_ : f 319 = eI G 70 sp) (hwi_ : f 320 = eI G 70 wi) (hwa_ : f 321 = eI G 70 wa) (hva_ : f 322 = eJ G 70 va) (hbo_ : f 323 = eI G 11 bo) (hju_ : f 324 = eI G 11 ju) (hdr_ : f 325 = eI G 264 dr) (hdn_ : f 326 = eI G 11 dn) (hsl_ : f 327 = eI G 330 sl) (hax_ : f 328 = eI G 44 ax) (hlf_ : f 329 = eI G 30 lf) (hwh_ : f 330 = eI G 6 wh) (hw6_ : f 331 = eI G 6 w6) (hb6_ : f 332 = eI G 6 b6) (hst : stOK ss np nf nr na nt) (hfo : fd ≤ 10) (hdn : ∀ k, k < 11 → ∃ d, d ≤ 24 ∧ dn k = nI d) (hi0 : stI im 0) (hi1 : stI im 2246) (hrd : ¬ rdy = 0 → fd = nt ∧ ∀ z, z < nt → rHz np nf nr na ss bo ju dr dn sl ax z) (htA : ∀ n : Nat, n ≤ 10 → ss 4 = nI n → trOK ss n) : Met l yX11_away (wsT yX11_away cX11_away 5 (some .int)) ({ frames := 2, cells := 0, slots := 0, locals := 47 }) (bP G g f [.ref (g 315), .int a1, .int a2, .int a3]) (bQi G g (fun (z9 : Int32) (f' : Nat → va_E) => ∃ ss9 : Nat → Int32, (mJ G g f' ss9 im kq) ∧ (∃ p9 f9 r9 u9 t9, stOK ss p9 f9 r9 u9 t9 ∧ ((¬ (inN a1 t9 = true ∧ inN a2 p9 = true) ∧ z9 = -2 ∧ ss9 = ss) ∨ (inN a2 p9 = true ∧ ∃ x, x < t9 ∧ a1 = nI x ∧ ((((ss (10 * x + 1555) >>> (a2 &&& 31) &&& 1 = 1 ∧ a3 = 1) ∨ (¬ ss (10 * x + 1555) >>> (a2 &&& 31) &&& 1 = 1 ∧ a3 = 0)) ∧ z9 = -3 ∧ ss9 = ss) ∨ (((ss (10 * x + 1555) >>> (a2 &&& 31) &&& 1 = 1 ∧ ¬ a3 = 1) ∨ (¬ ss (10 * x + 1555) >>> (a2 &&& 31) &&& 1 = 1 ∧ ¬ a3 = 0)) ∧ z9 = 1 ∧ ss9 = upd ss (10 * x + 1555) (ss (10 * x + 1555) ^^^ ((1 : Int32) <<< (a2 &&& 31)))))))) ∧ ∀ j, j < 315 → f' j = f j)) 0 0 (gA g) := by
  refine Met.ofW (cc := cX11_away) (maxL := 5) (ret := (some .int)) (by decide) rfl ?_
  intro p e s m args below meth c s₁ B hml hv
  obtain ⟨rfl, hP, hG⟩ := hv
  have hx := B.exec
  have hb := B.bytes
  have hr := B.returns
  have hts := my_hts (atoms_spec (ws := wsT yX11_away cX11_away 5 (some .int)) B.pre)
  have hown : s.vm.findClass RX11 = some m.cls := findClass_of_methodNamed B.named
  have hlocks := B.notSynchronized
  have hS : va_S (gA g) s.heap s.heap [] := va_S.rf
  have hl := lv_entry ([.ref (g 315), .int a1, .int a2, .int a3]) (n := 5) (Nat.le_of_ble_eq_true rfl)
  rw [lg_entry_eq]
  generalize (lg_sl ([.ref (g 315), .int a1, .int a2, .int a3]) ++ List.replicate (5 - (lg_sl ([.ref (g 315), .int a1, .int a2, .int a3])).length) Slot.unset).toArray = ls at hl ⊢
  have hl : lv_has ls 5 [(0, .ref (g 315)), (1, .int a1), (2, .int a2), (3, .int a3)] := hl
  refine W_q8 (fun Q9 hQ9 => ?_)
  have hc0 := hst.c0
  have hc1 := hst.c1
  have hc2 := hst.c2
  have hc3 := hst.c3
  have hc4 := hst.c4
  have htr := htA nt hst.c4 hst.h4
  refine lv_aload_n hx hb dX11_away_0 rfl (lv_at hl 0 rfl) ?_
  refine lv_iconst (v := 4) hx hb dX11_away_1 (by decide) ?_
  refine lv_iload_n hx hb dX11_away_2 rfl (lv_at hl 1 rfl) ?_
  refine rd_calli (va_runV (As := [.int 4, .int a1]) (rest := []) ⟨hx, hb, hml, hown, hts⟩ (r_is l G g hg f ab2 be2 sn wn sa ly rdy (nI fd) ss 4 nt a1 hmo hss_ (by first | assumption | omega | decide) (hst.h4) (by first | assumption | omega | decide)) (my_cwV hts ok_X11_is w_186 rfl rfl ⟨Nat.le_of_ble_eq_true rfl, Nat.le_of_ble_eq_true rfl⟩) ⟨bP.blind, va_recv hG.1 hP (ci := 10) (q0 := 315) rfl (wl_at (by decide) hmo), fun U hU hW => ⟨rfl, by rw [hU]; exact hP, kG.warm hW hG⟩⟩ rfl rfl hl.1 rfl (lv_room (Nat.le_of_ble_eq_true rfl)) dX11_away_3 ⟨Nat.le_of_ble_eq_true rfl, Nat.le_of_ble_eq_true rfl⟩) (fun r hr9 => ?_)
  subst hr9
  refine my_ifeq (tgt := 18) hx hb dX11_away_6 (by decide) (fun c_6 => ?_) (fun c_6 => ?_)
  · refine lv_bipush (v := (-2)) hx hb dX11_away_18 (by decide) ?_
    refine W_q9 hQ9 ?_
    exact W.iret (v := (-2)) hx hb hr (fun _ hT9 _ => ⟨⟨_, f, rfl, (⟨ss, mJ_mk (ab2) (be2) (sn) (wn) (sa) (ly) (rdy) (fd) (np) (nf) (nr) (na) (nt) (sp) (wi) (wa) (va) (bo) (ju) (dr) (dn) (sl) (ax) (lf) (wh) (w6) (b6) (hmo) (hss_) (him_) (hkq_) (hsp_) (hwi_) (hwa_) (hva_) (hbo_) (hju_) (hdr_) (hdn_) (hsl_) (hax_) (hlf_) (hwh_) (hw6_) (hb6_) (hst) (by omega) (hdn) (hi0) (hi1) (hrd), ⟨np, nf, nr, na, nt, hst, Or.inl ⟨fun z => c_6 z.1, rfl, rfl⟩⟩, fun j hj => rfl⟩), by rw [hT9]; exact hP⟩, hS.F hT9⟩) hS.2.2 dX11_away_20
  · refine lv_aload_n hx hb dX11_away_9 rfl (lv_at hl 0 rfl) ?_
    refine lv_iconst (v := 0) hx hb dX11_away_10 (by decide) ?_
    refine lv_iload_n hx hb dX11_away_11 rfl (lv_at hl 2 rfl) ?_
    refine rd_calli (va_runV (As := [.int 0, .int a2]) (rest := []) ⟨hx, hb, hml, hown, hts⟩ (r_is l G g hg f ab2 be2 sn wn sa ly rdy (nI fd) ss 0 np a2 hmo hss_ (by first | assumption | omega | decide) (hst.h0) (by first | assumption | omega | decide)) (my_cwV hts ok_X11_is w_186 rfl rfl ⟨Nat.le_of_ble_eq_true rfl, Nat.le_of_ble_eq_true rfl⟩) ⟨bP.blind, va_recv hG.1 hP (ci := 10) (q0 := 315) rfl (wl_at (by decide) hmo), fun U hU hW => ⟨rfl, by rw [hU]; exact hP, kG.warm hW hG⟩⟩ rfl rfl hl.1 rfl (lv_room (Nat.le_of_ble_eq_true rfl)) dX11_away_12 ⟨Nat.le_of_ble_eq_true rfl, Nat.le_of_ble_eq_true rfl⟩) (fun r hr9 => ?_)
    subst hr9
    refine my_ifne (tgt := 21) hx hb dX11_away_15 (by decide) (fun c_15 => ?_) (fun c_15 => ?_)
    · obtain ⟨tn, htn, rfl⟩ := inN_nat (by omega) c_6
      refine lv_sipush (v := 1546) hx hb dX11_away_21 (by decide) ?_
      refine lv_bipush (v := 10) hx hb dX11_away_24 (by decide) ?_
      refine lv_iload_n hx hb dX11_away_26 rfl (lv_at hl 1 rfl) ?_
      refine lv_imul hx hb dX11_away_27 ?_
      refine my_bei (v := nI (10 * tn)) (pk_mul 10 tn) ?_
      refine lv_iadd hx hb dX11_away_28 ?_
      refine my_bei (v := nI (10 * tn + 1546)) ((nI_add 1546 (10 * tn)).trans (congrArg nI (show 1546 + (10 * tn) = 10 * tn + 1546 by omega))) ?_
      refine lv_bipush (v := 9) hx hb dX11_away_29 (by decide) ?_
      refine lv_iadd hx hb dX11_away_31 ?_
      refine my_bei (v := nI (10 * tn + 1555)) ((nI_add (10 * tn + 1546) 9).trans (congrArg nI (show (10 * tn + 1546) + 9 = 10 * tn + 1555 by omega))) ?_
      refine lv_istore (lv' := [(4, .int (nI (10 * tn + 1555))), (0, .ref (g 315)), (1, .int (nI tn)), (2, .int a2), (3, .int a3)]) hx hb dX11_away_32 hl (by decide) rfl (fun ls hl => ?_)
      refine lv_aload_n hx hb dX11_away_34 rfl (lv_at hl 1 rfl) ?_
      refine va_get (D := G.1) (ci := 10) (v := .ref (g 316)) (C := RX11) (T := TX11) (N := 25) hx hb hts inlX11 hown hG.1 hP 315 (wl_at (by decide) hmo) rfl 0 (by decide) (hts (.fieldLink RX11 7 "SwornListsModel" "st" "[I") w_112) (fun _ h9 => h9) rfl dX11_away_35 ?_
      refine lv_iload hx hb dX11_away_38 (lv_at hl 0 rfl) ?_
      refine va_iald hx hb hG.1 hP 316 0 (wl_at (by decide) hss_) rfl (vp_in_nI (by omega) (by decide)) dX11_away_40 ?_
      refine my_bei (v := ss (10 * tn + 1555)) (congrArg ss (nI_clamp (n := 10 * tn + 1555) (by omega))) ?_
      refine lv_iload_n hx hb dX11_away_41 rfl (lv_at hl 3 rfl) ?_
      refine lv_ishr hx hb dX11_away_42 ?_
      refine lv_iconst (v := 1) hx hb dX11_away_43 (by decide) ?_
      refine lv_iand hx hb dX11_away_44 ?_
      refine lv_iconst (v := 1) hx hb dX11_away_45 (by decide) ?_
      refine lv_icmp_ne (tgt := 53) hx hb dX11_away_46 (by decide) (fun c_46 => ?_) (fun c_46 => ?_)
      · refine lv_iconst (v := 0) hx hb dX11_away_53 (by decide) ?_
        refine lv_iload_n hx hb dX11_away_54 rfl (lv_at hl 4 rfl) ?_
        refine lv_icmp_ne (tgt := 61) hx hb dX11_away_55 (by decide) (fun c_55 => ?_) (fun c_55 => ?_)
        · refine lv_aload_n hx hb dX11_away_61 rfl (lv_at hl 1 rfl) ?_
          refine va_get (D := G.1) (ci := 10) (v := .ref (g 316)) (C := RX11) (T := TX11) (N := 25) hx hb hts inlX11 hown hG.1 hP 315 (wl_at (by decide) hmo) rfl 0 (by decide) (hts (.fieldLink RX11 7 "SwornListsModel" "st" "[I") w_112) (fun _ h9 => h9) rfl dX11_away_62 ?_
          refine lv_iload hx hb dX11_away_65 (lv_at hl 0 rfl) ?_
          refine lv_dup2_11 hx hb dX11_away_67 rfl rfl ?_
          refine va_iald hx hb hG.1 hP 316 0 (wl_at (by decide) hss_) rfl (vp_in_nI (by omega) (by decide)) dX11_away_68 ?_
          refine my_bei (v := ss (10 * tn + 1555)) (congrArg ss (nI_clamp (n := 10 * tn + 1555) (by omega))) ?_
          refine lv_iconst (v := 1) hx hb dX11_away_69 (by decide) ?_
          refine lv_iload_n hx hb dX11_away_70 rfl (lv_at hl 3 rfl) ?_
          refine lv_ishl hx hb dX11_away_71 ?_
          refine lv_ixor hx hb dX11_away_72 ?_
          refine va_iast hx hb hG.1 hP (wl_D hg f) hS 316 0 (wl_at (by decide) hss_) rfl (vp_in_nI (by omega) (by decide)) dX11_away_73 (fun H locs hP _ hS => ?_)
          have hP := (congrArg (fun z9 => va_P G.1 vwCl ((wl g f).set 316 (g 316, eI G 2246 ((upd ss z9 ((ss (10 * tn + 1555)) ^^^ (1 <<< (a2 &&& 31))))))) H) (show Int32.toNatClampNeg (nI (10 * tn + 1555)) = 10 * tn + 1555 from nI_clamp (by omega))).mp hP
          obtain ⟨f_1, hP, e_1, o_1⟩ := b_put (by decide) hP
          have hss_ : f_1 316 = eI G 2246 (upd ss (10 * tn + 1555) ((ss (10 * tn + 1555)) ^^^ (1 <<< (a2 &&& 31)))) := e_1
          refine lv_aload_n hx hb dX11_away_74 rfl (lv_at hl 1 rfl) ?_
          refine lv_iconst (v := 0) hx hb dX11_away_75 (by decide) ?_
          replace hmo := ((o_1 315 (by decide))).trans hmo
          refine va_put (D := G.1) (ci := 10) (v := .int 0) (ty := .boolean) (C := RX11) (T := TX11) (N := 25) hx hb hts inlX11 tyX11 tyX11_ok nmX11 hown hG.1 hP (wl_D hg f_1) hS 315 (wl_at (by decide) hmo) rfl 13 (by decide) (hts (.fieldLink RX11 71 "SwornListsModel" "isReady" "Z") w_169) (fun _ h9 => h9) rfl (by decide +kernel) rfl rfl (Nat.le_of_ble_eq_true rfl) dX11_away_76 (fun H locs hP _ hS => ?_)
          obtain ⟨f_2, hP, e_2, o_2⟩ := b_put (by decide) hP
          have hmo : f_2 315 = eO 10 [.ref (g 316), .ref (g 317), .ref (g 318), .long ab2, .long be2, .int sn, .ref (g 319), .ref (g 320), .int wn, .ref (g 321), .ref (g 322), .int sa, .int ly, .int 0, .int (nI fd), .ref (g 323), .ref (g 324), .ref (g 325), .ref (g 326), .ref (g 327), .ref (g 328), .ref (g 329), .ref (g 330), .ref (g 331), .ref (g 332)] := e_2
          refine lv_iconst (v := 1) hx hb dX11_away_79 (by decide) ?_
          refine W_q9 hQ9 ?_
          replace hss_ := ((o_2 316 (by decide))).trans hss_
          replace him_ := ((o_2 317 (by decide)).trans ((o_1 317 (by decide)))).trans him_
          replace hkq_ := ((o_2 318 (by decide)).trans ((o_1 318 (by decide)))).trans hkq_
          replace hsp_ := ((o_2 319 (by decide)).trans ((o_1 319 (by decide)))).trans hsp_
          replace hwi_ := ((o_2 320 (by decide)).trans ((o_1 320 (by decide)))).trans hwi_
          replace hwa_ := ((o_2 321 (by decide)).trans ((o_1 321 (by decide)))).trans hwa_
          replace hva_ := ((o_2 322 (by decide)).trans ((o_1 322 (by decide)))).trans hva_
          replace hbo_ := ((o_2 323 (by decide)).trans ((o_1 323 (by decide)))).trans hbo_
          replace hju_ := ((o_2 324 (by decide)).trans ((o_1 324 (by decide)))).trans hju_
          replace hdr_ := ((o_2 325 (by decide)).trans ((o_1 325 (by decide)))).trans hdr_
          replace hdn_ := ((o_2 326 (by decide)).trans ((o_1 326 (by decide)))).trans hdn_
          replace hsl_ := ((o_2 327 (by decide)).trans ((o_1 327 (by decide)))).trans hsl_
          replace hax_ := ((o_2 328 (by decide)).trans ((o_1 328 (by decide)))).trans hax_
          replace hlf_ := ((o_2 329 (by decide)).trans ((o_1 329 (by decide)))).trans hlf_
          replace hwh_ := ((o_2 330 (by decide)).trans ((o_1 330 (by decide)))).trans hwh_
          replace hw6_ := ((o_2 331 (by decide)).trans ((o_1 331 (by decide)))).trans hw6_
          replace hb6_ := ((o_2 332 (by decide)).trans ((o_1 332 (by decide)))).trans hb6_
          exact W.iret (v := 1) hx hb hr (fun _ hT9 _ => ⟨⟨_, f_2, rfl, (⟨(upd ss (10 * tn + 1555) ((ss (10 * tn + 1555)) ^^^ (1 <<< (a2 &&& 31)))), mJ_mk (ab2) (be2) (sn) (wn) (sa) (ly) (0) (fd) (np) (nf) (nr) (na) (nt) (sp) (wi) (wa) (va) (bo) (ju) (dr) (dn) (sl) (ax) (lf) (wh) (w6) (b6) (hmo) (hss_) (him_) (hkq_) (hsp_) (hwi_) (hwa_) (hva_) (hbo_) (hju_) (hdr_) (hdn_) (hsl_) (hax_) (hlf_) (hwh_) (hw6_) (hb6_) ((stOK.upd1 hst (by omega) (fun t h => by omega) (fun a j h1 h2 => by omega) (fun t h => by omega))) (by omega) (hdn) (hi0) (hi1) ((fun z => absurd rfl z)), ⟨np, nf, nr, na, nt, hst, Or.inr ⟨c_15, tn, htn, rfl, Or.inr ⟨Or.inr ⟨c_46, fun z => c_55 z.symm⟩, rfl, rfl⟩⟩⟩, fun j hj => ((o_2 j (by omega))).trans (o_1 j (by omega))⟩), by rw [hT9]; exact hP⟩, hS.F hT9⟩) hS.2.2 dX11_away_80
        · refine lv_bipush (v := (-3)) hx hb dX11_away_58 (by decide) ?_
          refine W_q9 hQ9 ?_
          exact W.iret (v := (-3)) hx hb hr (fun _ hT9 _ => ⟨⟨_, f, rfl, (⟨ss, mJ_mk (ab2) (be2) (sn) (wn) (sa) (ly) (rdy) (fd) (np) (nf) (nr) (na) (nt) (sp) (wi) (wa) (va) (bo) (ju) (dr) (dn) (sl) (ax) (lf) (wh) (w6) (b6) (hmo) (hss_) (him_) (hkq_) (hsp_) (hwi_) (hwa_) (hva_) (hbo_) (hju_) (hdr_) (hdn_) (hsl_) (hax_) (hlf_) (hwh_) (hw6_) (hb6_) (hst) (by omega) (hdn) (hi0) (hi1) (hrd), ⟨np, nf, nr, na, nt, hst, Or.inr ⟨c_15, tn, htn, rfl, Or.inl ⟨Or.inr ⟨c_46, Eq.symm c_55⟩, rfl, rfl⟩⟩⟩, fun j hj => rfl⟩), by rw [hT9]; exact hP⟩, hS.F hT9⟩) hS.2.2 dX11_away_60
      · refine lv_iconst (v := 1) hx hb dX11_away_49 (by decide) ?_
        refine lv_goto (tgt := 54) hx hb dX11_away_50 (by decide) ?_
        refine lv_iload_n hx hb dX11_away_54 rfl (lv_at hl 4 rfl) ?_
        refine lv_icmp_ne (tgt := 61) hx hb dX11_away_55 (by decide) (fun c_55 => ?_) (fun c_55 => ?_)
        · refine lv_aload_n hx hb dX11_away_61 rfl (lv_at hl 1 rfl) ?_
          refine va_get (D := G.1) (ci := 10) (v := .ref (g 316)) (C := RX11) (T := TX11) (N := 25) hx hb hts inlX11 hown hG.1 hP 315 (wl_at (by decide) hmo) rfl 0 (by decide) (hts (.fieldLink RX11 7 "SwornListsModel" "st" "[I") w_112) (fun _ h9 => h9) rfl dX11_away_62 ?_
          refine lv_iload hx hb dX11_away_65 (lv_at hl 0 rfl) ?_
          refine lv_dup2_11 hx hb dX11_away_67 rfl rfl ?_
          refine va_iald hx hb hG.1 hP 316 0 (wl_at (by decide) hss_) rfl (vp_in_nI (by omega) (by decide)) dX11_away_68 ?_
          refine my_bei (v := ss (10 * tn + 1555)) (congrArg ss (nI_clamp (n := 10 * tn + 1555) (by omega))) ?_
          refine lv_iconst (v := 1) hx hb dX11_away_69 (by decide) ?_
          refine lv_iload_n hx hb dX11_away_70 rfl (lv_at hl 3 rfl) ?_
          refine lv_ishl hx hb dX11_away_71 ?_
          refine lv_ixor hx hb dX11_away_72 ?_
          refine va_iast hx hb hG.1 hP (wl_D hg f) hS 316 0 (wl_at (by decide) hss_) rfl (vp_in_nI (by omega) (by decide)) dX11_away_73 (fun H locs hP _ hS => ?_)
          have hP := (congrArg (fun z9 => va_P G.1 vwCl ((wl g f).set 316 (g 316, eI G 2246 ((upd ss z9 ((ss (10 * tn + 1555)) ^^^ (1 <<< (a2 &&& 31))))))) H) (show Int32.toNatClampNeg (nI (10 * tn + 1555)) = 10 * tn + 1555 from nI_clamp (by omega))).mp hP
          obtain ⟨f_3, hP, e_3, o_3⟩ := b_put (by decide) hP
          have hss_ : f_3 316 = eI G 2246 (upd ss (10 * tn + 1555) ((ss (10 * tn + 1555)) ^^^ (1 <<< (a2 &&& 31)))) := e_3
          refine lv_aload_n hx hb dX11_away_74 rfl (lv_at hl 1 rfl) ?_
          refine lv_iconst (v := 0) hx hb dX11_away_75 (by decide) ?_
          replace hmo := ((o_3 315 (by decide))).trans hmo
          refine va_put (D := G.1) (ci := 10) (v := .int 0) (ty := .boolean) (C := RX11) (T := TX11) (N := 25) hx hb hts inlX11 tyX11 tyX11_ok nmX11 hown hG.1 hP (wl_D hg f_3) hS 315 (wl_at (by decide) hmo) rfl 13 (by decide) (hts (.fieldLink RX11 71 "SwornListsModel" "isReady" "Z") w_169) (fun _ h9 => h9) rfl (by decide +kernel) rfl rfl (Nat.le_of_ble_eq_true rfl) dX11_away_76 (fun H locs hP _ hS => ?_)
          obtain ⟨f_4, hP, e_4, o_4⟩ := b_put (by decide) hP
          have hmo : f_4 315 = eO 10 [.ref (g 316), .ref (g 317), .ref (g 318), .long ab2, .long be2, .int sn, .ref (g 319), .ref (g 320), .int wn, .ref (g 321), .ref (g 322), .int sa, .int ly, .int 0, .int (nI fd), .ref (g 323), .ref (g 324), .ref (g 325), .ref (g 326), .ref (g 327), .ref (g 328), .ref (g 329), .ref (g 330), .ref (g 331), .ref (g 332)] := e_4
          refine lv_iconst (v := 1) hx hb dX11_away_79 (by decide) ?_
          refine W_q9 hQ9 ?_
          replace hss_ := ((o_4 316 (by decide))).trans hss_
          replace him_ := ((o_4 317 (by decide)).trans ((o_3 317 (by decide)))).trans him_
          replace hkq_ := ((o_4 318 (by decide)).trans ((o_3 318 (by decide)))).trans hkq_
          replace hsp_ := ((o_4 319 (by decide)).trans ((o_3 319 (by decide)))).trans hsp_
          replace hwi_ := ((o_4 320 (by decide)).trans ((o_3 320 (by decide)))).trans hwi_
          replace hwa_ := ((o_4 321 (by decide)).trans ((o_3 321 (by decide)))).trans hwa_
          replace hva_ := ((o_4 322 (by decide)).trans ((o_3 322 (by decide)))).trans hva_
          replace hbo_ := ((o_4 323 (by decide)).trans ((o_3 323 (by decide)))).trans hbo_
          replace hju_ := ((o_4 324 (by decide)).trans ((o_3 324 (by decide)))).trans hju_
          replace hdr_ := ((o_4 325 (by decide)).trans ((o_3 325 (by decide)))).trans hdr_
          replace hdn_ := ((o_4 326 (by decide)).trans ((o_3 326 (by decide)))).trans hdn_
          replace hsl_ := ((o_4 327 (by decide)).trans ((o_3 327 (by decide)))).trans hsl_
          replace hax_ := ((o_4 328 (by decide)).trans ((o_3 328 (by decide)))).trans hax_
          replace hlf_ := ((o_4 329 (by decide)).trans ((o_3 329 (by decide)))).trans hlf_
          replace hwh_ := ((o_4 330 (by decide)).trans ((o_3 330 (by decide)))).trans hwh_
          replace hw6_ := ((o_4 331 (by decide)).trans ((o_3 331 (by decide)))).trans hw6_
          replace hb6_ := ((o_4 332 (by decide)).trans ((o_3 332 (by decide)))).trans hb6_
          exact W.iret (v := 1) hx hb hr (fun _ hT9 _ => ⟨⟨_, f_4, rfl, (⟨(upd ss (10 * tn + 1555) ((ss (10 * tn + 1555)) ^^^ (1 <<< (a2 &&& 31)))), mJ_mk (ab2) (be2) (sn) (wn) (sa) (ly) (0) (fd) (np) (nf) (nr) (na) (nt) (sp) (wi) (wa) (va) (bo) (ju) (dr) (dn) (sl) (ax) (lf) (wh) (w6) (b6) (hmo) (hss_) (him_) (hkq_) (hsp_) (hwi_) (hwa_) (hva_) (hbo_) (hju_) (hdr_) (hdn_) (hsl_) (hax_) (hlf_) (hwh_) (hw6_) (hb6_) ((stOK.upd1 hst (by omega) (fun t h => by omega) (fun a j h1 h2 => by omega) (fun t h => by omega))) (by omega) (hdn) (hi0) (hi1) ((fun z => absurd rfl z)), ⟨np, nf, nr, na, nt, hst, Or.inr ⟨c_15, tn, htn, rfl, Or.inr ⟨Or.inl ⟨c_46, fun z => c_55 z.symm⟩, rfl, rfl⟩⟩⟩, fun j hj => ((o_4 j (by omega))).trans (o_3 j (by omega))⟩), by rw [hT9]; exact hP⟩, hS.F hT9⟩) hS.2.2 dX11_away_80
        · refine lv_bipush (v := (-3)) hx hb dX11_away_58 (by decide) ?_
          refine W_q9 hQ9 ?_
          exact W.iret (v := (-3)) hx hb hr (fun _ hT9 _ => ⟨⟨_, f, rfl, (⟨ss, mJ_mk (ab2) (be2) (sn) (wn) (sa) (ly) (rdy) (fd) (np) (nf) (nr) (na) (nt) (sp) (wi) (wa) (va) (bo) (ju) (dr) (dn) (sl) (ax) (lf) (wh) (w6) (b6) (hmo) (hss_) (him_) (hkq_) (hsp_) (hwi_) (hwa_) (hva_) (hbo_) (hju_) (hdr_) (hdn_) (hsl_) (hax_) (hlf_) (hwh_) (hw6_) (hb6_) (hst) (by omega) (hdn) (hi0) (hi1) (hrd), ⟨np, nf, nr, na, nt, hst, Or.inr ⟨c_15, tn, htn, rfl, Or.inl ⟨Or.inl ⟨c_46, Eq.symm c_55⟩, rfl, rfl⟩⟩⟩, fun j hj => rfl⟩), by rw [hT9]; exact hP⟩, hS.F hT9⟩) hS.2.2 dX11_away_60
    · refine lv_bipush (v := (-2)) hx hb dX11_away_18 (by decide) ?_
      refine W_q9 hQ9 ?_
      exact W.iret (v := (-2)) hx hb hr (fun _ hT9 _ => ⟨⟨_, f, rfl, (⟨ss, mJ_mk (ab2) (be2) (sn) (wn) (sa) (ly) (rdy) (fd) (np) (nf) (nr) (na) (nt) (sp) (wi) (wa) (va) (bo) (ju) (dr) (dn) (sl) (ax) (lf) (wh) (w6) (b6) (hmo) (hss_) (him_) (hkq_) (hsp_) (hwi_) (hwa_) (hva_) (hbo_) (hju_) (hdr_) (hdn_) (hsl_) (hax_) (hlf_) (hwh_) (hw6_) (hb6_) (hst) (by omega) (hdn) (hi0) (hi1) (hrd), ⟨np, nf, nr, na, nt, hst, Or.inl ⟨fun z => c_15 z.2, rfl, rfl⟩⟩, fun j hj => rfl⟩), by rw [hT9]; exact hP⟩, hS.F hT9⟩) hS.2.2 dX11_away_20
theorem j2_away (l : Launch) (G : gW) (g : Nat → Nat) (hg : gOK g) (f : Nat → va_E) (ss : Nat → Int32) (im : Nat → Int32) (kq : Nat → Int32) (a1 : Int32) (a2 : Int32) (a3 : Int32) (hI : mJ G g f ss im kq) (htA : ∀ n : Nat, n ≤ 10 → ss 4 = nI n → trOK ss n) : Met l yX11_away (wsT yX11_away cX11_away 5 (some .int)) ({ frames := 2, cells := 0, slots := 0, locals := 47 }) (bP G g f [.ref (g 315), .int a1, .int a2, .int a3]) (bQi G g (fun (z9 : Int32) (f' : Nat → va_E) => ∃ ss9 : Nat → Int32, (mJ G g f' ss9 im kq) ∧ (∃ p9 f9 r9 u9 t9, stOK ss p9 f9 r9 u9 t9 ∧ ((¬ (inN a1 t9 = true ∧ inN a2 p9 = true) ∧ z9 = -2 ∧ ss9 = ss) ∨ (inN a2 p9 = true ∧ ∃ x, x < t9 ∧ a1 = nI x ∧ ((((ss (10 * x + 1555) >>> (a2 &&& 31) &&& 1 = 1 ∧ a3 = 1) ∨ (¬ ss (10 * x + 1555) >>> (a2 &&& 31) &&& 1 = 1 ∧ a3 = 0)) ∧ z9 = -3 ∧ ss9 = ss) ∨ (((ss (10 * x + 1555) >>> (a2 &&& 31) &&& 1 = 1 ∧ ¬ a3 = 1) ∨ (¬ ss (10 * x + 1555) >>> (a2 &&& 31) &&& 1 = 1 ∧ ¬ a3 = 0)) ∧ z9 = 1 ∧ ss9 = upd ss (10 * x + 1555) (ss (10 * x + 1555) ^^^ ((1 : Int32) <<< (a2 &&& 31)))))))) ∧ ∀ j, j < 315 → f' j = f j)) 0 0 (gA g) := mJ_elim hI (fun ab2 be2 sn wn sa ly rdy fd np nf nr na nt sp wi wa va bo ju dr dn sl ax lf wh w6 b6 hmo hss_ him_ hkq_ hsp_ hwi_ hwa_ hva_ hbo_ hju_ hdr_ hdn_ hsl_ hax_ hlf_ hwh_ hw6_ hb6_ hst hfo hdn hi0 hi1 hrd => jn2_away l G g hg f ab2 be2 sn wn sa ly rdy fd ss np nf nr na nt im kq sp wi wa va bo ju dr dn sl ax lf wh w6 b6 a1 a2 a3 hmo hss_ him_ hkq_ hsp_ hwi_ hwa_ hva_ hbo_ hju_ hdr_ hdn_ hsl_ hax_ hlf_ hwh_ hw6_ hb6_ hst hfo hdn hi0 hi1 hrd htA)
set_option maxHeartbeats 4000000 in
set_option maxRecDepth 100000 in
theorem jn2_like (l : Launch) (G : gW) (g : Nat → Nat) (hg : gOK g) (f : Nat → va_E) (ab2 : Int64) (be2 : Int64) (sn : Int32) (wn : Int32) (sa : Int32) (ly : Int32) (rdy : Int32) (fd : Nat) (ss : Nat → Int32) (np : Nat) (nf : Nat) (nr : Nat) (na : Nat) (nt : Nat) (im : Nat → Int32) (kq : Nat → Int32) (sp : Nat → Int32) (wi : Nat → Int32) (wa : Nat → Int32) (va : Nat → Int64) (bo : Nat → Int32) (ju : Nat → Int32) (dr : Nat → Int32) (dn : Nat → Int32) (sl : Nat → Int32) (ax : Nat → Int32) (lf : Nat → Int32) (wh : Nat → Int32) (w6 : Nat → Int32) (b6 : Nat → Int32) (a1 : Int32) (a2 : Int32) (a3 : Int32) (a4 : Int32) (hmo : f 315 = eO 10 [.ref (g 316), .ref (g 317), .ref (g 318), .long ab2, .long be2, .int sn, .ref (g 319), .ref (g 320), .int wn, .ref (g 321), .ref (g 322), .int sa, .int ly, .int rdy, .int (nI fd), .ref (g 323), .ref (g 324), .ref (g 325), .ref (g 326), .ref (g 327), .ref (g 328), .ref (g 329), .ref (g 330), .ref (g 331), .ref (g 332)]) (hss_ : f 316 = eI G 2246 ss) (him_ : f 317 = eI G 4492 im) (hkq_ : f 318 = eZ G 2 kq) (hsp_ : f 319 = eI G 70 sp) (hwi_ : f 320 = eI G 70 wi) (hwa_ : f 321 = eI G 70 wa) (hva_ : f 322 = eJ G 70 va) (hbo_ : f 323 = eI G 11 bo) (hju_ : f 324 = eI G 11 ju) (hdr_ : f 325 = eI G 264 dr) (hdn_ : f 326 = eI G 11 dn) (hsl_ : f 327 = eI G 330 sl) (hax_ : f 328 = eI G 44 ax) (hlf_ : f 329 = eI G 30 lf) (hwh_ : f 330 = eI G 6 wh) (hw6_ : f 331 = eI G 6 w6) (hb6_ : f 332 = eI G 6 b6) (hst : stOK ss np nf nr na nt) (hfo : fd ≤ 10) (hdn : ∀ k, k < 11 → ∃ d, d ≤ 24 ∧ dn k = nI d) (hi0 : stI im 0) (hi1 : stI im 2246) (hrd : ¬ rdy = 0 → fd = nt ∧ ∀ z, z < nt → rHz np nf nr na ss bo ju dr dn sl ax z) (htA : ∀ n : Nat, n ≤ 10 → ss 4 = nI n → trOK ss n) : Met l yX11_like (wsT yX11_like cX11_like 7 (some .int)) ({ frames := 2, cells := 0, slots := 0, locals := 47 }) (bP G g f [.ref (g 315), .int a1, .int a2, .int a3, .int a4]) (bQi G g (fun (z9 : Int32) (f' : Nat → va_E) => ∃ ss9 : Nat → Int32, (mJ G g f' ss9 im kq) ∧ (∃ p9 f9 r9 u9 t9, stOK ss p9 f9 r9 u9 t9 ∧ ((¬ (inN a1 t9 = true ∧ inB 0 a2 1 = true ∧ inN a3 p9 = true ∧ inB (-100) a4 100 = true) ∧ z9 = -1000 ∧ ss9 = ss) ∨ (inB (-100) a4 100 = true ∧ ∃ x y q, x < t9 ∧ a1 = nI x ∧ y ≤ 1 ∧ a2 = nI y ∧ q < p9 ∧ a3 = nI q ∧ z9 = ss (q + 30 * y + 60 * x + 1646) ∧ ss9 = upd ss (q + 30 * y + 60 * x + 1646) a4))) ∧ ∀ j, j < 315 → f' j = f j)) 0 0 (gA g) := by
  refine Met.ofW (cc := cX11_like) (maxL := 7) (ret := (some .int)) (by decide) rfl ?_
  intro p e s m args below meth c s₁ B hml hv
  obtain ⟨rfl, hP, hG⟩ := hv
  have hx := B.exec
  have hb := B.bytes
  have hr := B.returns
  have hts := my_hts (atoms_spec (ws := wsT yX11_like cX11_like 7 (some .int)) B.pre)
  have hown : s.vm.findClass RX11 = some m.cls := findClass_of_methodNamed B.named
  have hlocks := B.notSynchronized
  have hS : va_S (gA g) s.heap s.heap [] := va_S.rf
  have hl := lv_entry ([.ref (g 315), .int a1, .int a2, .int a3, .int a4]) (n := 7) (Nat.le_of_ble_eq_true rfl)
  rw [lg_entry_eq]
  generalize (lg_sl ([.ref (g 315), .int a1, .int a2, .int a3, .int a4]) ++ List.replicate (7 - (lg_sl ([.ref (g 315), .int a1, .int a2, .int a3, .int a4])).length) Slot.unset).toArray = ls at hl ⊢
  have hl : lv_has ls 7 [(0, .ref (g 315)), (1, .int a1), (2, .int a2), (3, .int a3), (4, .int a4)] := hl
  refine W_q8 (fun Q9 hQ9 => ?_)
  have hc0 := hst.c0
  have hc1 := hst.c1
  have hc2 := hst.c2
  have hc3 := hst.c3
  have hc4 := hst.c4
  have htr := htA nt hst.c4 hst.h4
  refine lv_aload_n hx hb dX11_like_0 rfl (lv_at hl 0 rfl) ?_
  refine lv_iconst (v := 4) hx hb dX11_like_1 (by decide) ?_
  refine lv_iload_n hx hb dX11_like_2 rfl (lv_at hl 1 rfl) ?_
  refine rd_calli (va_runV (As := [.int 4, .int a1]) (rest := []) ⟨hx, hb, hml, hown, hts⟩ (r_is l G g hg f ab2 be2 sn wn sa ly rdy (nI fd) ss 4 nt a1 hmo hss_ (by first | assumption | omega | decide) (hst.h4) (by first | assumption | omega | decide)) (my_cwV hts ok_X11_is w_186 rfl rfl ⟨Nat.le_of_ble_eq_true rfl, Nat.le_of_ble_eq_true rfl⟩) ⟨bP.blind, va_recv hG.1 hP (ci := 10) (q0 := 315) rfl (wl_at (by decide) hmo), fun U hU hW => ⟨rfl, by rw [hU]; exact hP, kG.warm hW hG⟩⟩ rfl rfl hl.1 rfl (lv_room (Nat.le_of_ble_eq_true rfl)) dX11_like_3 ⟨Nat.le_of_ble_eq_true rfl, Nat.le_of_ble_eq_true rfl⟩) (fun r hr9 => ?_)
  subst hr9
  refine my_ifeq (tgt := 43) hx hb dX11_like_6 (by decide) (fun c_6 => ?_) (fun c_6 => ?_)
  · refine lv_sipush (v := (-1000)) hx hb dX11_like_43 (by decide) ?_
    refine W_q9 hQ9 ?_
    exact W.iret (v := (-1000)) hx hb hr (fun _ hT9 _ => ⟨⟨_, f, rfl, (⟨ss, mJ_mk (ab2) (be2) (sn) (wn) (sa) (ly) (rdy) (fd) (np) (nf) (nr) (na) (nt) (sp) (wi) (wa) (va) (bo) (ju) (dr) (dn) (sl) (ax) (lf) (wh) (w6) (b6) (hmo) (hss_) (him_) (hkq_) (hsp_) (hwi_) (hwa_) (hva_) (hbo_) (hju_) (hdr_) (hdn_) (hsl_) (hax_) (hlf_) (hwh_) (hw6_) (hb6_) (hst) (by omega) (hdn) (hi0) (hi1) (hrd), ⟨np, nf, nr, na, nt, hst, Or.inl ⟨fun z => c_6 z.1, rfl, rfl⟩⟩, fun j hj => rfl⟩), by rw [hT9]; exact hP⟩, hS.F hT9⟩) hS.2.2 dX11_like_46
  · refine lv_iload_n hx hb dX11_like_9 rfl (lv_at hl 2 rfl) ?_
    refine lv_i2l hx hb dX11_like_10 rfl ?_
    refine lv_lconst (v := 0) hx hb dX11_like_11 (by decide) ?_
    refine my_bel (v := Int32.toInt64 0) (by decide) ?_
    refine lv_lconst (v := 1) hx hb dX11_like_12 (by decide) ?_
    refine my_bel (v := Int32.toInt64 1) (by decide) ?_
    refine rd_calli (va_runS (As := [.long (Int32.toInt64 a2), .long (Int32.toInt64 0), .long (Int32.toInt64 1)]) (rest := []) ⟨hx, hb, hml, hown, hts⟩ (r_in l G g hg f a2 0 1  ) (my_cwS hts ok_X11_in w_162 rfl rfl ⟨Nat.le_of_ble_eq_true rfl, Nat.le_of_ble_eq_true rfl⟩) ⟨bP.blind, fun U hU hW => ⟨rfl, by rw [hU]; exact hP, kG.warm hW hG⟩⟩ rfl rfl hl.1 rfl (lv_room (Nat.le_of_ble_eq_true rfl)) dX11_like_13 ⟨Nat.le_of_ble_eq_true rfl, Nat.le_of_ble_eq_true rfl⟩) (fun r hr9 => ?_)
    subst hr9
    refine my_ifeq (tgt := 43) hx hb dX11_like_16 (by decide) (fun c_16 => ?_) (fun c_16 => ?_)
    · refine lv_sipush (v := (-1000)) hx hb dX11_like_43 (by decide) ?_
      refine W_q9 hQ9 ?_
      exact W.iret (v := (-1000)) hx hb hr (fun _ hT9 _ => ⟨⟨_, f, rfl, (⟨ss, mJ_mk (ab2) (be2) (sn) (wn) (sa) (ly) (rdy) (fd) (np) (nf) (nr) (na) (nt) (sp) (wi) (wa) (va) (bo) (ju) (dr) (dn) (sl) (ax) (lf) (wh) (w6) (b6) (hmo) (hss_) (him_) (hkq_) (hsp_) (hwi_) (hwa_) (hva_) (hbo_) (hju_) (hdr_) (hdn_) (hsl_) (hax_) (hlf_) (hwh_) (hw6_) (hb6_) (hst) (by omega) (hdn) (hi0) (hi1) (hrd), ⟨np, nf, nr, na, nt, hst, Or.inl ⟨fun z => c_16 z.2.1, rfl, rfl⟩⟩, fun j hj => rfl⟩), by rw [hT9]; exact hP⟩, hS.F hT9⟩) hS.2.2 dX11_like_46
    · refine lv_aload_n hx hb dX11_like_19 rfl (lv_at hl 0 rfl) ?_
      refine lv_iconst (v := 0) hx hb dX11_like_20 (by decide) ?_
      refine lv_iload_n hx hb dX11_like_21 rfl (lv_at hl 3 rfl) ?_
      refine rd_calli (va_runV (As := [.int 0, .int a3]) (rest := []) ⟨hx, hb, hml, hown, hts⟩ (r_is l G g hg f ab2 be2 sn wn sa ly rdy (nI fd) ss 0 np a3 hmo hss_ (by first | assumption | omega | decide) (hst.h0) (by first | assumption | omega | decide)) (my_cwV hts ok_X11_is w_186 rfl rfl ⟨Nat.le_of_ble_eq_true rfl, Nat.le_of_ble_eq_true rfl⟩) ⟨bP.blind, va_recv hG.1 hP (ci := 10) (q0 := 315) rfl (wl_at (by decide) hmo), fun U hU hW => ⟨rfl, by rw [hU]; exact hP, kG.warm hW hG⟩⟩ rfl rfl hl.1 rfl (lv_room (Nat.le_of_ble_eq_true rfl)) dX11_like_22 ⟨Nat.le_of_ble_eq_true rfl, Nat.le_of_ble_eq_true rfl⟩) (fun r hr9 => ?_)
      subst hr9
      refine my_ifeq (tgt := 43) hx hb dX11_like_25 (by decide) (fun c_25 => ?_) (fun c_25 => ?_)
      · refine lv_sipush (v := (-1000)) hx hb dX11_like_43 (by decide) ?_
        refine W_q9 hQ9 ?_
        exact W.iret (v := (-1000)) hx hb hr (fun _ hT9 _ => ⟨⟨_, f, rfl, (⟨ss, mJ_mk (ab2) (be2) (sn) (wn) (sa) (ly) (rdy) (fd) (np) (nf) (nr) (na) (nt) (sp) (wi) (wa) (va) (bo) (ju) (dr) (dn) (sl) (ax) (lf) (wh) (w6) (b6) (hmo) (hss_) (him_) (hkq_) (hsp_) (hwi_) (hwa_) (hva_) (hbo_) (hju_) (hdr_) (hdn_) (hsl_) (hax_) (hlf_) (hwh_) (hw6_) (hb6_) (hst) (by omega) (hdn) (hi0) (hi1) (hrd), ⟨np, nf, nr, na, nt, hst, Or.inl ⟨fun z => c_25 z.2.2.1, rfl, rfl⟩⟩, fun j hj => rfl⟩), by rw [hT9]; exact hP⟩, hS.F hT9⟩) hS.2.2 dX11_like_46
      · refine lv_iload hx hb dX11_like_28 (lv_at hl 4 rfl) ?_
        refine lv_i2l hx hb dX11_like_30 rfl ?_
        refine lv_ldc2 (v := (-100)) hx hb hown (hts (.constantLong RX11 200 (-100)) w_669) dX11_like_31 ?_
        refine my_bel (v := Int32.toInt64 (-100)) (by decide) ?_
        refine lv_ldc2 (v := 100) hx hb hown (hts (.constantLong RX11 202 (100)) w_670) dX11_like_34 ?_
        refine my_bel (v := Int32.toInt64 100) (by decide) ?_
        refine rd_calli (va_runS (As := [.long (Int32.toInt64 a4), .long (Int32.toInt64 (-100)), .long (Int32.toInt64 100)]) (rest := []) ⟨hx, hb, hml, hown, hts⟩ (r_in l G g hg f a4 (-100) 100  ) (my_cwS hts ok_X11_in w_162 rfl rfl ⟨Nat.le_of_ble_eq_true rfl, Nat.le_of_ble_eq_true rfl⟩) ⟨bP.blind, fun U hU hW => ⟨rfl, by rw [hU]; exact hP, kG.warm hW hG⟩⟩ rfl rfl hl.1 rfl (lv_room (Nat.le_of_ble_eq_true rfl)) dX11_like_37 ⟨Nat.le_of_ble_eq_true rfl, Nat.le_of_ble_eq_true rfl⟩) (fun r hr9 => ?_)
        subst hr9
        refine my_ifne (tgt := 47) hx hb dX11_like_40 (by decide) (fun c_40 => ?_) (fun c_40 => ?_)
        · obtain ⟨tn, htn, rfl⟩ := inN_nat (by omega) c_6
          obtain ⟨sn2, hsn2, rfl⟩ := inB_n (b := 1) (by omega) c_16
          obtain ⟨pn, hpn, rfl⟩ := inN_nat (by omega) c_25
          refine lv_sipush (v := 1646) hx hb dX11_like_47 (by decide) ?_
          refine lv_bipush (v := 60) hx hb dX11_like_50 (by decide) ?_
          refine lv_iload_n hx hb dX11_like_52 rfl (lv_at hl 1 rfl) ?_
          refine lv_imul hx hb dX11_like_53 ?_
          refine my_bei (v := nI (60 * tn)) (pk_mul 60 tn) ?_
          refine lv_iadd hx hb dX11_like_54 ?_
          refine my_bei (v := nI (60 * tn + 1646)) ((nI_add 1646 (60 * tn)).trans (congrArg nI (show 1646 + (60 * tn) = 60 * tn + 1646 by omega))) ?_
          refine lv_bipush (v := 30) hx hb dX11_like_55 (by decide) ?_
          refine lv_iload_n hx hb dX11_like_57 rfl (lv_at hl 2 rfl) ?_
          refine lv_imul hx hb dX11_like_58 ?_
          refine my_bei (v := nI (30 * sn2)) (pk_mul 30 sn2) ?_
          refine lv_iadd hx hb dX11_like_59 ?_
          refine my_bei (v := nI (30 * sn2 + 60 * tn + 1646)) ((nI_add (60 * tn + 1646) (30 * sn2)).trans (congrArg nI (show (60 * tn + 1646) + (30 * sn2) = 30 * sn2 + 60 * tn + 1646 by omega))) ?_
          refine lv_iload_n hx hb dX11_like_60 rfl (lv_at hl 3 rfl) ?_
          refine lv_iadd hx hb dX11_like_61 ?_
          refine my_bei (v := nI (pn + 30 * sn2 + 60 * tn + 1646)) ((nI_add (30 * sn2 + 60 * tn + 1646) pn).trans (congrArg nI (show (30 * sn2 + 60 * tn + 1646) + pn = pn + 30 * sn2 + 60 * tn + 1646 by omega))) ?_
          refine lv_istore (lv' := [(5, .int (nI (pn + 30 * sn2 + 60 * tn + 1646))), (0, .ref (g 315)), (1, .int (nI tn)), (2, .int (nI sn2)), (3, .int (nI pn)), (4, .int a4)]) hx hb dX11_like_62 hl (by decide) rfl (fun ls hl => ?_)
          refine lv_aload_n hx hb dX11_like_64 rfl (lv_at hl 1 rfl) ?_
          refine va_get (D := G.1) (ci := 10) (v := .ref (g 316)) (C := RX11) (T := TX11) (N := 25) hx hb hts inlX11 hown hG.1 hP 315 (wl_at (by decide) hmo) rfl 0 (by decide) (hts (.fieldLink RX11 7 "SwornListsModel" "st" "[I") w_112) (fun _ h9 => h9) rfl dX11_like_65 ?_
          refine lv_iload hx hb dX11_like_68 (lv_at hl 0 rfl) ?_
          refine va_iald hx hb hG.1 hP 316 0 (wl_at (by decide) hss_) rfl (vp_in_nI (by omega) (by decide)) dX11_like_70 ?_
          refine my_bei (v := ss (pn + 30 * sn2 + 60 * tn + 1646)) (congrArg ss (nI_clamp (n := pn + 30 * sn2 + 60 * tn + 1646) (by omega))) ?_
          refine lv_istore (lv' := [(6, .int (ss (pn + 30 * sn2 + 60 * tn + 1646))), (5, .int (nI (pn + 30 * sn2 + 60 * tn + 1646))), (0, .ref (g 315)), (1, .int (nI tn)), (2, .int (nI sn2)), (3, .int (nI pn)), (4, .int a4)]) hx hb dX11_like_71 hl (by decide) rfl (fun ls hl => ?_)
          refine lv_aload_n hx hb dX11_like_73 rfl (lv_at hl 2 rfl) ?_
          refine va_get (D := G.1) (ci := 10) (v := .ref (g 316)) (C := RX11) (T := TX11) (N := 25) hx hb hts inlX11 hown hG.1 hP 315 (wl_at (by decide) hmo) rfl 0 (by decide) (hts (.fieldLink RX11 7 "SwornListsModel" "st" "[I") w_112) (fun _ h9 => h9) rfl dX11_like_74 ?_
          refine lv_iload hx hb dX11_like_77 (lv_at hl 1 rfl) ?_
          refine lv_iload hx hb dX11_like_79 (lv_at hl 6 rfl) ?_
          refine va_iast hx hb hG.1 hP (wl_D hg f) hS 316 0 (wl_at (by decide) hss_) rfl (vp_in_nI (by omega) (by decide)) dX11_like_81 (fun H locs hP _ hS => ?_)
          have hP := (congrArg (fun z9 => va_P G.1 vwCl ((wl g f).set 316 (g 316, eI G 2246 ((upd ss z9 a4)))) H) (show Int32.toNatClampNeg (nI (pn + 30 * sn2 + 60 * tn + 1646)) = pn + 30 * sn2 + 60 * tn + 1646 from nI_clamp (by omega))).mp hP
          obtain ⟨f_1, hP, e_1, o_1⟩ := b_put (by decide) hP
          have hss_ : f_1 316 = eI G 2246 (upd ss (pn + 30 * sn2 + 60 * tn + 1646) a4) := e_1
          refine lv_aload_n hx hb dX11_like_82 rfl (lv_at hl 2 rfl) ?_
          refine lv_iconst (v := 0) hx hb dX11_like_83 (by decide) ?_
          replace hmo := ((o_1 315 (by decide))).trans hmo
          refine va_put (D := G.1) (ci := 10) (v := .int 0) (ty := .boolean) (C := RX11) (T := TX11) (N := 25) hx hb hts inlX11 tyX11 tyX11_ok nmX11 hown hG.1 hP (wl_D hg f_1) hS 315 (wl_at (by decide) hmo) rfl 13 (by decide) (hts (.fieldLink RX11 71 "SwornListsModel" "isReady" "Z") w_169) (fun _ h9 => h9) rfl (by decide +kernel) rfl rfl (Nat.le_of_ble_eq_true rfl) dX11_like_84 (fun H locs hP _ hS => ?_)
          obtain ⟨f_2, hP, e_2, o_2⟩ := b_put (by decide) hP
          have hmo : f_2 315 = eO 10 [.ref (g 316), .ref (g 317), .ref (g 318), .long ab2, .long be2, .int sn, .ref (g 319), .ref (g 320), .int wn, .ref (g 321), .ref (g 322), .int sa, .int ly, .int 0, .int (nI fd), .ref (g 323), .ref (g 324), .ref (g 325), .ref (g 326), .ref (g 327), .ref (g 328), .ref (g 329), .ref (g 330), .ref (g 331), .ref (g 332)] := e_2
          refine lv_iload hx hb dX11_like_87 (lv_at hl 0 rfl) ?_
          refine W_q9 hQ9 ?_
          replace hss_ := ((o_2 316 (by decide))).trans hss_
          replace him_ := ((o_2 317 (by decide)).trans ((o_1 317 (by decide)))).trans him_
          replace hkq_ := ((o_2 318 (by decide)).trans ((o_1 318 (by decide)))).trans hkq_
          replace hsp_ := ((o_2 319 (by decide)).trans ((o_1 319 (by decide)))).trans hsp_
          replace hwi_ := ((o_2 320 (by decide)).trans ((o_1 320 (by decide)))).trans hwi_
          replace hwa_ := ((o_2 321 (by decide)).trans ((o_1 321 (by decide)))).trans hwa_
          replace hva_ := ((o_2 322 (by decide)).trans ((o_1 322 (by decide)))).trans hva_
          replace hbo_ := ((o_2 323 (by decide)).trans ((o_1 323 (by decide)))).trans hbo_
          replace hju_ := ((o_2 324 (by decide)).trans ((o_1 324 (by decide)))).trans hju_
          replace hdr_ := ((o_2 325 (by decide)).trans ((o_1 325 (by decide)))).trans hdr_
          replace hdn_ := ((o_2 326 (by decide)).trans ((o_1 326 (by decide)))).trans hdn_
          replace hsl_ := ((o_2 327 (by decide)).trans ((o_1 327 (by decide)))).trans hsl_
          replace hax_ := ((o_2 328 (by decide)).trans ((o_1 328 (by decide)))).trans hax_
          replace hlf_ := ((o_2 329 (by decide)).trans ((o_1 329 (by decide)))).trans hlf_
          replace hwh_ := ((o_2 330 (by decide)).trans ((o_1 330 (by decide)))).trans hwh_
          replace hw6_ := ((o_2 331 (by decide)).trans ((o_1 331 (by decide)))).trans hw6_
          replace hb6_ := ((o_2 332 (by decide)).trans ((o_1 332 (by decide)))).trans hb6_
          exact W.iret (v := ss (pn + 30 * sn2 + 60 * tn + 1646)) hx hb hr (fun _ hT9 _ => ⟨⟨_, f_2, rfl, (⟨(upd ss (pn + 30 * sn2 + 60 * tn + 1646) a4), mJ_mk (ab2) (be2) (sn) (wn) (sa) (ly) (0) (fd) (np) (nf) (nr) (na) (nt) (sp) (wi) (wa) (va) (bo) (ju) (dr) (dn) (sl) (ax) (lf) (wh) (w6) (b6) (hmo) (hss_) (him_) (hkq_) (hsp_) (hwi_) (hwa_) (hva_) (hbo_) (hju_) (hdr_) (hdn_) (hsl_) (hax_) (hlf_) (hwh_) (hw6_) (hb6_) ((stOK.upd1 hst (by omega) (fun t h => by omega) (fun a j h1 h2 => by omega) (fun t h => by omega))) (by omega) (hdn) (hi0) (hi1) ((fun z => absurd rfl z)), ⟨np, nf, nr, na, nt, hst, Or.inr ⟨c_40, tn, sn2, pn, htn, rfl, hsn2, rfl, hpn, rfl, rfl, rfl⟩⟩, fun j hj => ((o_2 j (by omega))).trans (o_1 j (by omega))⟩), by rw [hT9]; exact hP⟩, hS.F hT9⟩) hS.2.2 dX11_like_89
        · refine lv_sipush (v := (-1000)) hx hb dX11_like_43 (by decide) ?_
          refine W_q9 hQ9 ?_
          exact W.iret (v := (-1000)) hx hb hr (fun _ hT9 _ => ⟨⟨_, f, rfl, (⟨ss, mJ_mk (ab2) (be2) (sn) (wn) (sa) (ly) (rdy) (fd) (np) (nf) (nr) (na) (nt) (sp) (wi) (wa) (va) (bo) (ju) (dr) (dn) (sl) (ax) (lf) (wh) (w6) (b6) (hmo) (hss_) (him_) (hkq_) (hsp_) (hwi_) (hwa_) (hva_) (hbo_) (hju_) (hdr_) (hdn_) (hsl_) (hax_) (hlf_) (hwh_) (hw6_) (hb6_) (hst) (by omega) (hdn) (hi0) (hi1) (hrd), ⟨np, nf, nr, na, nt, hst, Or.inl ⟨fun z => c_40 z.2.2.2, rfl, rfl⟩⟩, fun j hj => rfl⟩), by rw [hT9]; exact hP⟩, hS.F hT9⟩) hS.2.2 dX11_like_46
theorem j2_like (l : Launch) (G : gW) (g : Nat → Nat) (hg : gOK g) (f : Nat → va_E) (ss : Nat → Int32) (im : Nat → Int32) (kq : Nat → Int32) (a1 : Int32) (a2 : Int32) (a3 : Int32) (a4 : Int32) (hI : mJ G g f ss im kq) (htA : ∀ n : Nat, n ≤ 10 → ss 4 = nI n → trOK ss n) : Met l yX11_like (wsT yX11_like cX11_like 7 (some .int)) ({ frames := 2, cells := 0, slots := 0, locals := 47 }) (bP G g f [.ref (g 315), .int a1, .int a2, .int a3, .int a4]) (bQi G g (fun (z9 : Int32) (f' : Nat → va_E) => ∃ ss9 : Nat → Int32, (mJ G g f' ss9 im kq) ∧ (∃ p9 f9 r9 u9 t9, stOK ss p9 f9 r9 u9 t9 ∧ ((¬ (inN a1 t9 = true ∧ inB 0 a2 1 = true ∧ inN a3 p9 = true ∧ inB (-100) a4 100 = true) ∧ z9 = -1000 ∧ ss9 = ss) ∨ (inB (-100) a4 100 = true ∧ ∃ x y q, x < t9 ∧ a1 = nI x ∧ y ≤ 1 ∧ a2 = nI y ∧ q < p9 ∧ a3 = nI q ∧ z9 = ss (q + 30 * y + 60 * x + 1646) ∧ ss9 = upd ss (q + 30 * y + 60 * x + 1646) a4))) ∧ ∀ j, j < 315 → f' j = f j)) 0 0 (gA g) := mJ_elim hI (fun ab2 be2 sn wn sa ly rdy fd np nf nr na nt sp wi wa va bo ju dr dn sl ax lf wh w6 b6 hmo hss_ him_ hkq_ hsp_ hwi_ hwa_ hva_ hbo_ hju_ hdr_ hdn_ hsl_ hax_ hlf_ hwh_ hw6_ hb6_ hst hfo hdn hi0 hi1 hrd => jn2_like l G g hg f ab2 be2 sn wn sa ly rdy fd ss np nf nr na nt im kq sp wi wa va bo ju dr dn sl ax lf wh w6 b6 a1 a2 a3 a4 hmo hss_ him_ hkq_ hsp_ hwi_ hwa_ hva_ hbo_ hju_ hdr_ hdn_ hsl_ hax_ hlf_ hwh_ hw6_ hb6_ hst hfo hdn hi0 hi1 hrd htA)
set_option maxHeartbeats 4000000 in
set_option maxRecDepth 100000 in
theorem jn2_sums (l : Launch) (G : gW) (g : Nat → Nat) (hg : gOK g) (f : Nat → va_E) (ab2 : Int64) (be2 : Int64) (sn : Int32) (wn : Int32) (sa : Int32) (ly : Int32) (rdy : Int32) (fd : Nat) (ss : Nat → Int32) (np : Nat) (nf : Nat) (nr : Nat) (na : Nat) (nt : Nat) (im : Nat → Int32) (kq : Nat → Int32) (sp : Nat → Int32) (wi : Nat → Int32) (wa : Nat → Int32) (va : Nat → Int64) (bo : Nat → Int32) (ju : Nat → Int32) (dr : Nat → Int32) (dn : Nat → Int32) (sl : Nat → Int32) (ax : Nat → Int32) (lf : Nat → Int32) (wh : Nat → Int32) (w6 : Nat → Int32) (b6 : Nat → Int32) (a1 : Int32) (a2 : Int32) (hmo : f 315 = eO 10 [.ref (g 316), .ref (g 317), .ref (g 318), .long ab2, .long be2, .int sn, .ref (g 319), .ref (g 320), .int wn, .ref (g 321), .ref (g 322), .int sa, .int ly, .int rdy, .int (nI fd), .ref (g 323), .ref (g 324), .ref (g 325), .ref (g 326), .ref (g 327), .ref (g 328), .ref (g 329), .ref (g 330), .ref (g 331), .ref (g 332)]) (hss_ : f 316 = eI G 2246 ss) (him_ : f 317 = eI G 4492 im) (hkq_ : f 318 = eZ G 2 kq) (hsp_ : f 319 = eI G 70 sp) (hwi_ : f 320 = eI G 70 wi) (hwa_ : f 321 = eI G 70 wa) (hva_ : f 322 = eJ G 70 va) (hbo_ : f 323 = eI G 11 bo) (hju_ : f 324 = eI G 11 ju) (hdr_ : f 325 = eI G 264 dr) (hdn_ : f 326 = eI G 11 dn) (hsl_ : f 327 = eI G 330 sl) (hax_ : f 328 = eI G 44 ax) (hlf_ : f 329 = eI G 30 lf) (hwh_ : f 330 = eI G 6 wh) (hw6_ : f 331 = eI G 6 w6) (hb6_ : f 332 = eI G 6 b6) (hst : stOK ss np nf nr na nt) (hfo : fd ≤ 10) (hdn : ∀ k, k < 11 → ∃ d, d ≤ 24 ∧ dn k = nI d) (hi0 : stI im 0) (hi1 : stI im 2246) (hrd : ¬ rdy = 0 → fd = nt ∧ ∀ z, z < nt → rHz np nf nr na ss bo ju dr dn sl ax z) (htA : ∀ n : Nat, n ≤ 10 → ss 4 = nI n → trOK ss n) : Met l yX11_sums (wsT yX11_sums cX11_sums 3 (some .int)) ({ frames := 1, cells := 0, slots := 0, locals := 25 }) (bP G g f [.ref (g 315), .int a1, .int a2]) (bQi G g (fun (z9 : Int32) (f' : Nat → va_E) => ∃ ss9 : Nat → Int32, (mJ G g f' ss9 im kq) ∧ (∃ p9 f9 r9 u9 t9, stOK ss p9 f9 r9 u9 t9 ∧ ((¬ (inB 0 a1 100 = true ∧ inB 0 a2 1000 = true) ∧ z9 = -2 ∧ ss9 = ss) ∨ ((inB 0 a1 100 = true ∧ inB 0 a2 1000 = true) ∧ z9 = 1 ∧ ss9 = upd (upd ss 5 a1) 6 a2))) ∧ ∀ j, j < 315 → f' j = f j)) 0 0 (gA g) := by
  refine Met.ofW (cc := cX11_sums) (maxL := 3) (ret := (some .int)) (by decide) rfl ?_
  intro p e s m args below meth c s₁ B hml hv
  obtain ⟨rfl, hP, hG⟩ := hv
  have hx := B.exec
  have hb := B.bytes
  have hr := B.returns
  have hts := my_hts (atoms_spec (ws := wsT yX11_sums cX11_sums 3 (some .int)) B.pre)
  have hown : s.vm.findClass RX11 = some m.cls := findClass_of_methodNamed B.named
  have hlocks := B.notSynchronized
  have hS : va_S (gA g) s.heap s.heap [] := va_S.rf
  have hl := lv_entry ([.ref (g 315), .int a1, .int a2]) (n := 3) (Nat.le_of_ble_eq_true rfl)
  rw [lg_entry_eq]
  generalize (lg_sl ([.ref (g 315), .int a1, .int a2]) ++ List.replicate (3 - (lg_sl ([.ref (g 315), .int a1, .int a2])).length) Slot.unset).toArray = ls at hl ⊢
  have hl : lv_has ls 3 [(0, .ref (g 315)), (1, .int a1), (2, .int a2)] := hl
  refine W_q8 (fun Q9 hQ9 => ?_)
  have hc0 := hst.c0
  have hc1 := hst.c1
  have hc2 := hst.c2
  have hc3 := hst.c3
  have hc4 := hst.c4
  have htr := htA nt hst.c4 hst.h4
  refine lv_iload_n hx hb dX11_sums_0 rfl (lv_at hl 1 rfl) ?_
  refine lv_i2l hx hb dX11_sums_1 rfl ?_
  refine lv_lconst (v := 0) hx hb dX11_sums_2 (by decide) ?_
  refine my_bel (v := Int32.toInt64 0) (by decide) ?_
  refine lv_ldc2 (v := 100) hx hb hown (hts (.constantLong RX11 202 (100)) w_670) dX11_sums_3 ?_
  refine my_bel (v := Int32.toInt64 100) (by decide) ?_
  refine rd_calli (va_runS (As := [.long (Int32.toInt64 a1), .long (Int32.toInt64 0), .long (Int32.toInt64 100)]) (rest := []) ⟨hx, hb, hml, hown, hts⟩ (r_in l G g hg f a1 0 100  ) (my_cwS hts ok_X11_in w_162 rfl rfl ⟨Nat.le_of_ble_eq_true rfl, Nat.le_of_ble_eq_true rfl⟩) ⟨bP.blind, fun U hU hW => ⟨rfl, by rw [hU]; exact hP, kG.warm hW hG⟩⟩ rfl rfl hl.1 rfl (lv_room (Nat.le_of_ble_eq_true rfl)) dX11_sums_6 ⟨Nat.le_of_ble_eq_true rfl, Nat.le_of_ble_eq_true rfl⟩) (fun r hr9 => ?_)
  subst hr9
  refine my_ifeq (tgt := 24) hx hb dX11_sums_9 (by decide) (fun c_9 => ?_) (fun c_9 => ?_)
  · refine lv_bipush (v := (-2)) hx hb dX11_sums_24 (by decide) ?_
    refine W_q9 hQ9 ?_
    exact W.iret (v := (-2)) hx hb hr (fun _ hT9 _ => ⟨⟨_, f, rfl, (⟨ss, mJ_mk (ab2) (be2) (sn) (wn) (sa) (ly) (rdy) (fd) (np) (nf) (nr) (na) (nt) (sp) (wi) (wa) (va) (bo) (ju) (dr) (dn) (sl) (ax) (lf) (wh) (w6) (b6) (hmo) (hss_) (him_) (hkq_) (hsp_) (hwi_) (hwa_) (hva_) (hbo_) (hju_) (hdr_) (hdn_) (hsl_) (hax_) (hlf_) (hwh_) (hw6_) (hb6_) (hst) (by omega) (hdn) (hi0) (hi1) (hrd), ⟨np, nf, nr, na, nt, hst, Or.inl ⟨fun z => c_9 z.1, rfl, rfl⟩⟩, fun j hj => rfl⟩), by rw [hT9]; exact hP⟩, hS.F hT9⟩) hS.2.2 dX11_sums_26
  · refine lv_iload_n hx hb dX11_sums_12 rfl (lv_at hl 2 rfl) ?_
    refine lv_i2l hx hb dX11_sums_13 rfl ?_
    refine lv_lconst (v := 0) hx hb dX11_sums_14 (by decide) ?_
    refine my_bel (v := Int32.toInt64 0) (by decide) ?_
    refine lv_ldc2 (v := 1000) hx hb hown (hts (.constantLong RX11 79 (1000)) w_160) dX11_sums_15 ?_
    refine my_bel (v := Int32.toInt64 1000) (by decide) ?_
    refine rd_calli (va_runS (As := [.long (Int32.toInt64 a2), .long (Int32.toInt64 0), .long (Int32.toInt64 1000)]) (rest := []) ⟨hx, hb, hml, hown, hts⟩ (r_in l G g hg f a2 0 1000  ) (my_cwS hts ok_X11_in w_162 rfl rfl ⟨Nat.le_of_ble_eq_true rfl, Nat.le_of_ble_eq_true rfl⟩) ⟨bP.blind, fun U hU hW => ⟨rfl, by rw [hU]; exact hP, kG.warm hW hG⟩⟩ rfl rfl hl.1 rfl (lv_room (Nat.le_of_ble_eq_true rfl)) dX11_sums_18 ⟨Nat.le_of_ble_eq_true rfl, Nat.le_of_ble_eq_true rfl⟩) (fun r hr9 => ?_)
    subst hr9
    refine my_ifne (tgt := 27) hx hb dX11_sums_21 (by decide) (fun c_21 => ?_) (fun c_21 => ?_)
    · refine lv_aload_n hx hb dX11_sums_27 rfl (lv_at hl 0 rfl) ?_
      refine va_get (D := G.1) (ci := 10) (v := .ref (g 316)) (C := RX11) (T := TX11) (N := 25) hx hb hts inlX11 hown hG.1 hP 315 (wl_at (by decide) hmo) rfl 0 (by decide) (hts (.fieldLink RX11 7 "SwornListsModel" "st" "[I") w_112) (fun _ h9 => h9) rfl dX11_sums_28 ?_
      refine lv_iconst (v := 5) hx hb dX11_sums_31 (by decide) ?_
      refine lv_iload_n hx hb dX11_sums_32 rfl (lv_at hl 1 rfl) ?_
      refine va_iast hx hb hG.1 hP (wl_D hg f) hS 316 0 (wl_at (by decide) hss_) rfl (by unfold vp_in; decide) dX11_sums_33 (fun H locs hP _ hS => ?_)
      have hP := (congrArg (fun z9 => va_P G.1 vwCl ((wl g f).set 316 (g 316, eI G 2246 ((upd ss z9 a1)))) H) (show Int32.toNatClampNeg 5 = 5 from rfl)).mp hP
      obtain ⟨f_1, hP, e_1, o_1⟩ := b_put (by decide) hP
      have hss_ : f_1 316 = eI G 2246 (upd ss 5 a1) := e_1
      refine lv_aload_n hx hb dX11_sums_34 rfl (lv_at hl 0 rfl) ?_
      replace hmo := ((o_1 315 (by decide))).trans hmo
      refine va_get (D := G.1) (ci := 10) (v := .ref (g 316)) (C := RX11) (T := TX11) (N := 25) hx hb hts inlX11 hown hG.1 hP 315 (wl_at (by decide) hmo) rfl 0 (by decide) (hts (.fieldLink RX11 7 "SwornListsModel" "st" "[I") w_112) (fun _ h9 => h9) rfl dX11_sums_35 ?_
      refine lv_bipush (v := 6) hx hb dX11_sums_38 (by decide) ?_
      refine lv_iload_n hx hb dX11_sums_40 rfl (lv_at hl 2 rfl) ?_
      refine va_iast hx hb hG.1 hP (wl_D hg f_1) hS 316 0 (wl_at (by decide) hss_) rfl (by unfold vp_in; decide) dX11_sums_41 (fun H locs hP _ hS => ?_)
      have hP := (congrArg (fun z9 => va_P G.1 vwCl ((wl g f_1).set 316 (g 316, eI G 2246 ((upd (upd ss 5 a1) z9 a2)))) H) (show Int32.toNatClampNeg 6 = 6 from rfl)).mp hP
      obtain ⟨f_2, hP, e_2, o_2⟩ := b_put (by decide) hP
      have hss_ : f_2 316 = eI G 2246 (upd (upd ss 5 a1) 6 a2) := e_2
      refine lv_iconst (v := 1) hx hb dX11_sums_42 (by decide) ?_
      refine W_q9 hQ9 ?_
      replace hmo := ((o_2 315 (by decide))).trans hmo
      replace him_ := ((o_2 317 (by decide)).trans ((o_1 317 (by decide)))).trans him_
      replace hkq_ := ((o_2 318 (by decide)).trans ((o_1 318 (by decide)))).trans hkq_
      replace hsp_ := ((o_2 319 (by decide)).trans ((o_1 319 (by decide)))).trans hsp_
      replace hwi_ := ((o_2 320 (by decide)).trans ((o_1 320 (by decide)))).trans hwi_
      replace hwa_ := ((o_2 321 (by decide)).trans ((o_1 321 (by decide)))).trans hwa_
      replace hva_ := ((o_2 322 (by decide)).trans ((o_1 322 (by decide)))).trans hva_
      replace hbo_ := ((o_2 323 (by decide)).trans ((o_1 323 (by decide)))).trans hbo_
      replace hju_ := ((o_2 324 (by decide)).trans ((o_1 324 (by decide)))).trans hju_
      replace hdr_ := ((o_2 325 (by decide)).trans ((o_1 325 (by decide)))).trans hdr_
      replace hdn_ := ((o_2 326 (by decide)).trans ((o_1 326 (by decide)))).trans hdn_
      replace hsl_ := ((o_2 327 (by decide)).trans ((o_1 327 (by decide)))).trans hsl_
      replace hax_ := ((o_2 328 (by decide)).trans ((o_1 328 (by decide)))).trans hax_
      replace hlf_ := ((o_2 329 (by decide)).trans ((o_1 329 (by decide)))).trans hlf_
      replace hwh_ := ((o_2 330 (by decide)).trans ((o_1 330 (by decide)))).trans hwh_
      replace hw6_ := ((o_2 331 (by decide)).trans ((o_1 331 (by decide)))).trans hw6_
      replace hb6_ := ((o_2 332 (by decide)).trans ((o_1 332 (by decide)))).trans hb6_
      exact W.iret (v := 1) hx hb hr (fun _ hT9 _ => ⟨⟨_, f_2, rfl, (⟨(upd (upd ss 5 a1) 6 a2), mJ_mk (ab2) (be2) (sn) (wn) (sa) (ly) (rdy) (fd) (np) (nf) (nr) (na) (nt) (sp) (wi) (wa) (va) (bo) (ju) (dr) (dn) (sl) (ax) (lf) (wh) (w6) (b6) (hmo) (hss_) (him_) (hkq_) (hsp_) (hwi_) (hwa_) (hva_) (hbo_) (hju_) (hdr_) (hdn_) (hsl_) (hax_) (hlf_) (hwh_) (hw6_) (hb6_) ((stOK.upd1 (stOK.upd1 hst (by omega) (fun t h => by omega) (fun a j h1 h2 => by omega) (fun t h => by omega)) (by omega) (fun t h => by omega) (fun a j h1 h2 => by omega) (fun t h => by omega))) (by omega) (hdn) (hi0) (hi1) ((fun q => ⟨(hrd q).1, fun z hz => rHz_ss hst.c0 hst.c1 hst.c2 (fun k hk => (pk_un (by omega)).trans (pk_un (by omega))) ((hrd q).2 z hz)⟩)), ⟨np, nf, nr, na, nt, hst, Or.inr ⟨⟨c_9, c_21⟩, rfl, rfl⟩⟩, fun j hj => ((o_2 j (by omega))).trans (o_1 j (by omega))⟩), by rw [hT9]; exact hP⟩, hS.F hT9⟩) hS.2.2 dX11_sums_43
    · refine lv_bipush (v := (-2)) hx hb dX11_sums_24 (by decide) ?_
      refine W_q9 hQ9 ?_
      exact W.iret (v := (-2)) hx hb hr (fun _ hT9 _ => ⟨⟨_, f, rfl, (⟨ss, mJ_mk (ab2) (be2) (sn) (wn) (sa) (ly) (rdy) (fd) (np) (nf) (nr) (na) (nt) (sp) (wi) (wa) (va) (bo) (ju) (dr) (dn) (sl) (ax) (lf) (wh) (w6) (b6) (hmo) (hss_) (him_) (hkq_) (hsp_) (hwi_) (hwa_) (hva_) (hbo_) (hju_) (hdr_) (hdn_) (hsl_) (hax_) (hlf_) (hwh_) (hw6_) (hb6_) (hst) (by omega) (hdn) (hi0) (hi1) (hrd), ⟨np, nf, nr, na, nt, hst, Or.inl ⟨fun z => c_21 z.2, rfl, rfl⟩⟩, fun j hj => rfl⟩), by rw [hT9]; exact hP⟩, hS.F hT9⟩) hS.2.2 dX11_sums_26
theorem j2_sums (l : Launch) (G : gW) (g : Nat → Nat) (hg : gOK g) (f : Nat → va_E) (ss : Nat → Int32) (im : Nat → Int32) (kq : Nat → Int32) (a1 : Int32) (a2 : Int32) (hI : mJ G g f ss im kq) (htA : ∀ n : Nat, n ≤ 10 → ss 4 = nI n → trOK ss n) : Met l yX11_sums (wsT yX11_sums cX11_sums 3 (some .int)) ({ frames := 1, cells := 0, slots := 0, locals := 25 }) (bP G g f [.ref (g 315), .int a1, .int a2]) (bQi G g (fun (z9 : Int32) (f' : Nat → va_E) => ∃ ss9 : Nat → Int32, (mJ G g f' ss9 im kq) ∧ (∃ p9 f9 r9 u9 t9, stOK ss p9 f9 r9 u9 t9 ∧ ((¬ (inB 0 a1 100 = true ∧ inB 0 a2 1000 = true) ∧ z9 = -2 ∧ ss9 = ss) ∨ ((inB 0 a1 100 = true ∧ inB 0 a2 1000 = true) ∧ z9 = 1 ∧ ss9 = upd (upd ss 5 a1) 6 a2))) ∧ ∀ j, j < 315 → f' j = f j)) 0 0 (gA g) := mJ_elim hI (fun ab2 be2 sn wn sa ly rdy fd np nf nr na nt sp wi wa va bo ju dr dn sl ax lf wh w6 b6 hmo hss_ him_ hkq_ hsp_ hwi_ hwa_ hva_ hbo_ hju_ hdr_ hdn_ hsl_ hax_ hlf_ hwh_ hw6_ hb6_ hst hfo hdn hi0 hi1 hrd => jn2_sums l G g hg f ab2 be2 sn wn sa ly rdy fd ss np nf nr na nt im kq sp wi wa va bo ju dr dn sl ax lf wh w6 b6 a1 a2 hmo hss_ him_ hkq_ hsp_ hwi_ hwa_ hva_ hbo_ hju_ hdr_ hdn_ hsl_ hax_ hlf_ hwh_ hw6_ hb6_ hst hfo hdn hi0 hi1 hrd htA)
set_option maxHeartbeats 4000000 in
set_option maxRecDepth 100000 in
theorem jn2_part (l : Launch) (G : gW) (g : Nat → Nat) (hg : gOK g) (f : Nat → va_E) (ab2 : Int64) (be2 : Int64) (sn : Int32) (wn : Int32) (sa : Int32) (ly : Int32) (rdy : Int32) (fd : Nat) (ss : Nat → Int32) (np : Nat) (nf : Nat) (nr : Nat) (na : Nat) (nt : Nat) (im : Nat → Int32) (kq : Nat → Int32) (sp : Nat → Int32) (wi : Nat → Int32) (wa : Nat → Int32) (va : Nat → Int64) (bo : Nat → Int32) (ju : Nat → Int32) (dr : Nat → Int32) (dn : Nat → Int32) (sl : Nat → Int32) (ax : Nat → Int32) (lf : Nat → Int32) (wh : Nat → Int32) (w6 : Nat → Int32) (b6 : Nat → Int32) (a1 : Int32) (hmo : f 315 = eO 10 [.ref (g 316), .ref (g 317), .ref (g 318), .long ab2, .long be2, .int sn, .ref (g 319), .ref (g 320), .int wn, .ref (g 321), .ref (g 322), .int sa, .int ly, .int rdy, .int (nI fd), .ref (g 323), .ref (g 324), .ref (g 325), .ref (g 326), .ref (g 327), .ref (g 328), .ref (g 329), .ref (g 330), .ref (g 331), .ref (g 332)]) (hss_ : f 316 = eI G 2246 ss) (him_ : f 317 = eI G 4492 im) (hkq_ : f 318 = eZ G 2 kq) (hsp_ : f 319 = eI G 70 sp) (hwi_ : f 320 = eI G 70 wi) (hwa_ : f 321 = eI G 70 wa) (hva_ : f 322 = eJ G 70 va) (hbo_ : f 323 = eI G 11 bo) (hju_ : f 324 = eI G 11 ju) (hdr_ : f 325 = eI G 264 dr) (hdn_ : f 326 = eI G 11 dn) (hsl_ : f 327 = eI G 330 sl) (hax_ : f 328 = eI G 44 ax) (hlf_ : f 329 = eI G 30 lf) (hwh_ : f 330 = eI G 6 wh) (hw6_ : f 331 = eI G 6 w6) (hb6_ : f 332 = eI G 6 b6) (hst : stOK ss np nf nr na nt) (hfo : fd ≤ 10) (hdn : ∀ k, k < 11 → ∃ d, d ≤ 24 ∧ dn k = nI d) (hi0 : stI im 0) (hi1 : stI im 2246) (hrd : ¬ rdy = 0 → fd = nt ∧ ∀ z, z < nt → rHz np nf nr na ss bo ju dr dn sl ax z) (htA : ∀ n : Nat, n ≤ 10 → ss 4 = nI n → trOK ss n) : Met l yX11_part (wsT yX11_part cX11_part 2 (some .long)) ({ frames := 0, cells := 0, slots := 0, locals := 0 }) (bP G g f [.ref (g 315), .int a1]) (bQl G g (fun (z9 : Int64) (f' : Nat → va_E) => (mJ G g f' ss im kq) ∧ ∀ j, j < 315 → f' j = f j)) 0 0 (gA g) := by
  refine Met.ofW (cc := cX11_part) (maxL := 2) (ret := (some .long)) (by decide) rfl ?_
  intro p e s m args below meth c s₁ B hml hv
  obtain ⟨rfl, hP, hG⟩ := hv
  have hx := B.exec
  have hb := B.bytes
  have hr := B.returns
  have hts := my_hts (atoms_spec (ws := wsT yX11_part cX11_part 2 (some .long)) B.pre)
  have hown : s.vm.findClass RX11 = some m.cls := findClass_of_methodNamed B.named
  have hlocks := B.notSynchronized
  have hS : va_S (gA g) s.heap s.heap [] := va_S.rf
  have hl := lv_entry ([.ref (g 315), .int a1]) (n := 2) (Nat.le_of_ble_eq_true rfl)
  rw [lg_entry_eq]
  generalize (lg_sl ([.ref (g 315), .int a1]) ++ List.replicate (2 - (lg_sl ([.ref (g 315), .int a1])).length) Slot.unset).toArray = ls at hl ⊢
  have hl : lv_has ls 2 [(0, .ref (g 315)), (1, .int a1)] := hl
  refine W_q8 (fun Q9 hQ9 => ?_)
  have hc0 := hst.c0
  have hc1 := hst.c1
  have hc2 := hst.c2
  have hc3 := hst.c3
  have hc4 := hst.c4
  have htr := htA nt hst.c4 hst.h4
  refine lv_iload_n hx hb dX11_part_0 rfl (lv_at hl 1 rfl) ?_
  refine lv_if_ne (tgt := 11) hx hb dX11_part_1 (by decide) (fun c_1 => ?_) (fun c_1 => ?_)
  · refine lv_iload_n hx hb dX11_part_11 rfl (lv_at hl 1 rfl) ?_
    refine lv_iconst (v := 1) hx hb dX11_part_12 (by decide) ?_
    refine lv_icmp_ne (tgt := 23) hx hb dX11_part_13 (by decide) (fun c_13 => ?_) (fun c_13 => ?_)
    · refine lv_ldc2 (v := (-1)) hx hb hown (hts (.constantLong RX11 194 (-1)) w_648) dX11_part_23 ?_
      refine W_q9 hQ9 ?_
      exact W.lret (v := (-1)) hx hb hr (fun _ hT9 _ => ⟨⟨_, f, rfl, (⟨mJ_mk (ab2) (be2) (sn) (wn) (sa) (ly) (rdy) (fd) (np) (nf) (nr) (na) (nt) (sp) (wi) (wa) (va) (bo) (ju) (dr) (dn) (sl) (ax) (lf) (wh) (w6) (b6) (hmo) (hss_) (him_) (hkq_) (hsp_) (hwi_) (hwa_) (hva_) (hbo_) (hju_) (hdr_) (hdn_) (hsl_) (hax_) (hlf_) (hwh_) (hw6_) (hb6_) (hst) (by omega) (hdn) (hi0) (hi1) (hrd), fun j hj => rfl⟩), by rw [hT9]; exact hP⟩, hS.F hT9⟩) hS.2.2 dX11_part_26
    · refine lv_aload_n hx hb dX11_part_16 rfl (lv_at hl 0 rfl) ?_
      refine va_get (D := G.1) (ci := 10) (v := .long be2) (C := RX11) (T := TX11) (N := 25) hx hb hts inlX11 hown hG.1 hP 315 (wl_at (by decide) hmo) rfl 4 (by decide) (hts (.fieldLink RX11 63 "SwornListsModel" "below" "J") w_129) (fun _ h9 => h9) rfl dX11_part_17 ?_
      refine lv_goto (tgt := 26) hx hb dX11_part_20 (by decide) ?_
      refine W_q9 hQ9 ?_
      exact W.lret (v := be2) hx hb hr (fun _ hT9 _ => ⟨⟨_, f, rfl, (⟨mJ_mk (ab2) (be2) (sn) (wn) (sa) (ly) (rdy) (fd) (np) (nf) (nr) (na) (nt) (sp) (wi) (wa) (va) (bo) (ju) (dr) (dn) (sl) (ax) (lf) (wh) (w6) (b6) (hmo) (hss_) (him_) (hkq_) (hsp_) (hwi_) (hwa_) (hva_) (hbo_) (hju_) (hdr_) (hdn_) (hsl_) (hax_) (hlf_) (hwh_) (hw6_) (hb6_) (hst) (by omega) (hdn) (hi0) (hi1) (hrd), fun j hj => rfl⟩), by rw [hT9]; exact hP⟩, hS.F hT9⟩) hS.2.2 dX11_part_26
  · refine lv_aload_n hx hb dX11_part_4 rfl (lv_at hl 0 rfl) ?_
    refine va_get (D := G.1) (ci := 10) (v := .long ab2) (C := RX11) (T := TX11) (N := 25) hx hb hts inlX11 hown hG.1 hP 315 (wl_at (by decide) hmo) rfl 3 (by decide) (hts (.fieldLink RX11 238 "SwornListsModel" "above" "J") w_783) (fun _ h9 => h9) rfl dX11_part_5 ?_
    refine lv_goto (tgt := 26) hx hb dX11_part_8 (by decide) ?_
    refine W_q9 hQ9 ?_
    exact W.lret (v := ab2) hx hb hr (fun _ hT9 _ => ⟨⟨_, f, rfl, (⟨mJ_mk (ab2) (be2) (sn) (wn) (sa) (ly) (rdy) (fd) (np) (nf) (nr) (na) (nt) (sp) (wi) (wa) (va) (bo) (ju) (dr) (dn) (sl) (ax) (lf) (wh) (w6) (b6) (hmo) (hss_) (him_) (hkq_) (hsp_) (hwi_) (hwa_) (hva_) (hbo_) (hju_) (hdr_) (hdn_) (hsl_) (hax_) (hlf_) (hwh_) (hw6_) (hb6_) (hst) (by omega) (hdn) (hi0) (hi1) (hrd), fun j hj => rfl⟩), by rw [hT9]; exact hP⟩, hS.F hT9⟩) hS.2.2 dX11_part_26
theorem j2_part (l : Launch) (G : gW) (g : Nat → Nat) (hg : gOK g) (f : Nat → va_E) (ss : Nat → Int32) (im : Nat → Int32) (kq : Nat → Int32) (a1 : Int32) (hI : mJ G g f ss im kq) (htA : ∀ n : Nat, n ≤ 10 → ss 4 = nI n → trOK ss n) : Met l yX11_part (wsT yX11_part cX11_part 2 (some .long)) ({ frames := 0, cells := 0, slots := 0, locals := 0 }) (bP G g f [.ref (g 315), .int a1]) (bQl G g (fun (z9 : Int64) (f' : Nat → va_E) => (mJ G g f' ss im kq) ∧ ∀ j, j < 315 → f' j = f j)) 0 0 (gA g) := mJ_elim hI (fun ab2 be2 sn wn sa ly rdy fd np nf nr na nt sp wi wa va bo ju dr dn sl ax lf wh w6 b6 hmo hss_ him_ hkq_ hsp_ hwi_ hwa_ hva_ hbo_ hju_ hdr_ hdn_ hsl_ hax_ hlf_ hwh_ hw6_ hb6_ hst hfo hdn hi0 hi1 hrd => jn2_part l G g hg f ab2 be2 sn wn sa ly rdy fd ss np nf nr na nt im kq sp wi wa va bo ju dr dn sl ax lf wh w6 b6 a1 hmo hss_ him_ hkq_ hsp_ hwi_ hwa_ hva_ hbo_ hju_ hdr_ hdn_ hsl_ hax_ hlf_ hwh_ hw6_ hb6_ hst hfo hdn hi0 hi1 hrd htA)


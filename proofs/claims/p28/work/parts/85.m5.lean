set_option maxHeartbeats 4000000 in
set_option maxRecDepth 100000 in
theorem jn2_clash (l : Launch) (G : gW) (g : Nat → Nat) (hg : gOK g) (f : Nat → va_E) (ab2 : Int64) (be2 : Int64) (sn : Int32) (wn : Int32) (sa : Int32) (ly : Int32) (rdy : Int32) (fd : Nat) (ss : Nat → Int32) (np : Nat) (nf : Nat) (nr : Nat) (na : Nat) (nt : Nat) (im : Nat → Int32) (kq : Nat → Int32) (sp : Nat → Int32) (wi : Nat → Int32) (wa : Nat → Int32) (va : Nat → Int64) (bo : Nat → Int32) (ju : Nat → Int32) (dr : Nat → Int32) (dn : Nat → Int32) (sl : Nat → Int32) (ax : Nat → Int32) (lf : Nat → Int32) (wh : Nat → Int32) (w6 : Nat → Int32) (b6 : Nat → Int32) (a1 : Int32) (a2 : Int32) (hmo : f 315 = eO 10 [.ref (g 316), .ref (g 317), .ref (g 318), .long ab2, .long be2, .int sn, .ref (g 319), .ref (g 320), .int wn, .ref (g 321), .ref (g 322), .int sa, .int ly, .int rdy, .int (nI fd), .ref (g 323), .ref (g 324), .ref (g 325), .ref (g 326), .ref (g 327), .ref (g 328), .ref (g 329), .ref (g 330), .ref (g 331), .ref (g 332)]) (hss_ : f 316 = eI G 2246 ss) (him_ : f 317 = eI G 4492 im) (hkq_ : f 318 = eZ G 2 kq) (hsp_ : f 319 = eI G 70 sp) (hwi_ : f 320 = eI G 70 wi) (hwa_ : f 321 = eI G 70 wa) (hva_ : f 322 = eJ G 70 va) (hbo_ : f 323 = eI G 11 bo) (hju_ : f 324 = eI G 11 ju) (hdr_ : f 325 = eI G 264 dr) (hdn_ : f 326 = eI G 11 dn) (hsl_ : f 327 = eI G 330 sl) (hax_ : f 328 = eI G 44 ax) (hlf_ : f 329 = eI G 30 lf) (hwh_ : f 330 = eI G 6 wh) (hw6_ : f 331 = eI G 6 w6) (hb6_ : f 332 = eI G 6 b6) (hst : stOK ss np nf nr na nt) (hfo : fd ≤ 10) (hdn : ∀ k, k < 11 → ∃ d, d ≤ 24 ∧ dn k = nI d) (hi0 : stI im 0) (hi1 : stI im 2246) (hrd : ¬ rdy = 0 → fd = nt ∧ ∀ z, z < nt → rHz np nf nr na ss bo ju dr dn sl ax z) (htA : ∀ n : Nat, n ≤ 10 → ss 4 = nI n → trOK ss n) : Met l yX11_clash (wsT yX11_clash cX11_clash 10 (some .int)) ({ frames := 3, cells := 0, slots := 0, locals := 73 }) (bP G g f [.ref (g 315), .int a1, .int a2]) (bQi G g (fun (z9 : Int32) (f' : Nat → va_E) => (mJ G g f' ss im kq) ∧ ∀ j, j < 315 → f' j = f j)) 0 0 (gA g) := by
  refine Met.ofW (cc := cX11_clash) (maxL := 10) (ret := (some .int)) (by decide) rfl ?_
  intro p e s m args below meth c s₁ B hml hv
  obtain ⟨rfl, hP, hG⟩ := hv
  have hx := B.exec
  have hb := B.bytes
  have hr := B.returns
  have hts := my_hts (atoms_spec (ws := wsT yX11_clash cX11_clash 10 (some .int)) B.pre)
  have hown : s.vm.findClass RX11 = some m.cls := findClass_of_methodNamed B.named
  have hlocks := B.notSynchronized
  have hS : va_S (gA g) s.heap s.heap [] := va_S.rf
  have hl := lv_entry ([.ref (g 315), .int a1, .int a2]) (n := 10) (Nat.le_of_ble_eq_true rfl)
  rw [lg_entry_eq]
  generalize (lg_sl ([.ref (g 315), .int a1, .int a2]) ++ List.replicate (10 - (lg_sl ([.ref (g 315), .int a1, .int a2])).length) Slot.unset).toArray = ls at hl ⊢
  have hl : lv_has ls 10 [(0, .ref (g 315)), (1, .int a1), (2, .int a2)] := hl
  refine W_q8 (fun Q9 hQ9 => ?_)
  have hc0 := hst.c0
  have hc1 := hst.c1
  have hc2 := hst.c2
  have hc3 := hst.c3
  have hc4 := hst.c4
  have htr := htA nt hst.c4 hst.h4
  refine lv_iload_n hx hb dX11_clash_0 rfl (lv_at hl 1 rfl) ?_
  refine lv_i2l hx hb dX11_clash_1 rfl ?_
  refine lv_lconst (v := 0) hx hb dX11_clash_2 (by decide) ?_
  refine my_bel (v := Int32.toInt64 0) (by decide) ?_
  refine lv_iconst (v := 1) hx hb dX11_clash_3 (by decide) ?_
  refine lv_aload_n hx hb dX11_clash_4 rfl (lv_at hl 0 rfl) ?_
  refine va_get (D := G.1) (ci := 10) (v := .ref (g 316)) (C := RX11) (T := TX11) (N := 25) hx hb hts inlX11 hown hG.1 hP 315 (wl_at (by decide) hmo) rfl 0 (by decide) (hts (.fieldLink RX11 7 "SwornListsModel" "st" "[I") w_112) (fun _ h9 => h9) rfl dX11_clash_5 ?_
  refine lv_iconst (v := 4) hx hb dX11_clash_8 (by decide) ?_
  refine va_iald hx hb hG.1 hP 316 0 (wl_at (by decide) hss_) rfl (by unfold vp_in; decide) dX11_clash_9 ?_
  refine my_bei (v := ss 4) (rfl) ?_
  refine my_bei (v := nI nt) (hst.h4) ?_
  refine lv_ishl hx hb dX11_clash_10 ?_
  refine lv_iconst (v := 1) hx hb dX11_clash_11 (by decide) ?_
  refine lv_isub hx hb dX11_clash_12 ?_
  refine lv_i2l hx hb dX11_clash_13 rfl ?_
  refine rd_calli (va_runS (As := [.long (Int32.toInt64 a1), .long (Int32.toInt64 0), .long (Int32.toInt64 ((1 <<< ((nI nt) &&& 31)) - 1))]) (rest := []) ⟨hx, hb, hml, hown, hts⟩ (r_in l G g hg f a1 0 ((1 <<< ((nI nt) &&& 31)) - 1)  ) (my_cwS hts ok_X11_in w_162 rfl rfl ⟨Nat.le_of_ble_eq_true rfl, Nat.le_of_ble_eq_true rfl⟩) ⟨bP.blind, fun U hU hW => ⟨rfl, by rw [hU]; exact hP, kG.warm hW hG⟩⟩ rfl rfl hl.1 rfl (lv_room (Nat.le_of_ble_eq_true rfl)) dX11_clash_14 ⟨Nat.le_of_ble_eq_true rfl, Nat.le_of_ble_eq_true rfl⟩) (fun r hr9 => ?_)
  subst hr9
  refine my_ifeq (tgt := 51) hx hb dX11_clash_17 (by decide) (fun c_17 => ?_) (fun c_17 => ?_)
  · refine lv_bipush (v := (-10)) hx hb dX11_clash_51 (by decide) ?_
    refine W_q9 hQ9 ?_
    exact W.iret (v := (-10)) hx hb hr (fun _ hT9 _ => ⟨⟨_, f, rfl, (⟨mJ_mk (ab2) (be2) (sn) (wn) (sa) (ly) (rdy) (fd) (np) (nf) (nr) (na) (nt) (sp) (wi) (wa) (va) (bo) (ju) (dr) (dn) (sl) (ax) (lf) (wh) (w6) (b6) (hmo) (hss_) (him_) (hkq_) (hsp_) (hwi_) (hwa_) (hva_) (hbo_) (hju_) (hdr_) (hdn_) (hsl_) (hax_) (hlf_) (hwh_) (hw6_) (hb6_) (hst) (by omega) (hdn) (hi0) (hi1) (hrd), fun j hj => rfl⟩), by rw [hT9]; exact hP⟩, hS.F hT9⟩) hS.2.2 dX11_clash_53
  · obtain ⟨hpw1, hpw2⟩ := pw_t nt hc4
    rw [hpw1] at c_17
    obtain ⟨S, hS1, rfl⟩ := inB_n (b := 2 ^ nt - 1) (by omega) c_17
    have hSb : S < 1024 := by omega
    refine lv_iload_n hx hb dX11_clash_20 rfl (lv_at hl 1 rfl) ?_
    refine rd_calli (va_runS (As := [.int (nI S)]) (rest := []) ⟨hx, hb, hml, hown, hts⟩ (r_sizeOf l G g hg f (nI S)  ) (my_cwS hts ok_X11_sizeOf w_584 rfl rfl ⟨Nat.le_of_ble_eq_true rfl, Nat.le_of_ble_eq_true rfl⟩) ⟨bP.blind, fun U hU hW => ⟨rfl, by rw [hU]; exact hP, kG.warm hW hG⟩⟩ rfl rfl hl.1 rfl (lv_room (Nat.le_of_ble_eq_true rfl)) dX11_clash_21 ⟨Nat.le_of_ble_eq_true rfl, Nat.le_of_ble_eq_true rfl⟩) (fun r hr9 => ?_)
    obtain ⟨c91, rfl, hx_1_0, hx_1_1⟩ := hr9
    refine lv_bipush (v := 6) hx hb dX11_clash_24 (by decide) ?_
    refine lv_icmp_gt (tgt := 51) hx hb dX11_clash_26 (by decide) (fun c_26 => ?_) (fun c_26 => ?_)
    · have k_26 : 6 < c91 := (nI_ltI (a := 6) (b := c91) (by omega) (by omega)).mp c_26
      refine lv_bipush (v := (-10)) hx hb dX11_clash_51 (by decide) ?_
      refine W_q9 hQ9 ?_
      exact W.iret (v := (-10)) hx hb hr (fun _ hT9 _ => ⟨⟨_, f, rfl, (⟨mJ_mk (ab2) (be2) (sn) (wn) (sa) (ly) (rdy) (fd) (np) (nf) (nr) (na) (nt) (sp) (wi) (wa) (va) (bo) (ju) (dr) (dn) (sl) (ax) (lf) (wh) (w6) (b6) (hmo) (hss_) (him_) (hkq_) (hsp_) (hwi_) (hwa_) (hva_) (hbo_) (hju_) (hdr_) (hdn_) (hsl_) (hax_) (hlf_) (hwh_) (hw6_) (hb6_) (hst) (by omega) (hdn) (hi0) (hi1) (hrd), fun j hj => rfl⟩), by rw [hT9]; exact hP⟩, hS.F hT9⟩) hS.2.2 dX11_clash_53
    · have k_26 : ¬ 6 < c91 := fun z9 => c_26 ((nI_ltI (a := 6) (b := c91) (by omega) (by omega)).mpr z9)
      have hc9 := hx_1_1 S (by omega) rfl
      refine lv_iload_n hx hb dX11_clash_29 rfl (lv_at hl 2 rfl) ?_
      refine lv_iconst (v := (-1)) hx hb dX11_clash_30 (by decide) ?_
      refine lv_icmp_eq (tgt := 54) hx hb dX11_clash_31 (by decide) (fun c_31 => ?_) (fun c_31 => ?_)
      · subst c_31
        refine lv_iconst (v := 0) hx hb dX11_clash_54 (by decide) ?_
        refine lv_istore_n (lv' := [(3, .int 0), (0, .ref (g 315)), (1, .int (nI S)), (2, .int (-1))]) hx hb dX11_clash_55 rfl hl (by decide) rfl (fun ls hl => ?_)
        refine lv_iconst (v := 1) hx hb dX11_clash_56 (by decide) ?_
        refine lv_istore (lv' := [(4, .int 1), (3, .int 0), (0, .ref (g 315)), (1, .int (nI S)), (2, .int (-1))]) hx hb dX11_clash_57 hl (by decide) rfl (fun ls hl => ?_)
        refine lv_iconst (v := 0) hx hb dX11_clash_59 (by decide) ?_
        refine lv_istore (lv' := [(5, .int 0), (4, .int 1), (3, .int 0), (0, .ref (g 315)), (1, .int (nI S)), (2, .int (-1))]) hx hb dX11_clash_60 hl (by decide) rfl (fun ls hl => ?_)
        have key2 : ∀ (n9_2 : Nat) (t5 : Nat) (n1 : Nat) (wy : Nat) (wh1 : Nat → Int32) (f_2 : Nat → va_E) (H : Heap) (locs : List Loc) (ls : Array Slot), (t5 ≤ nt) → (n1 = pcl S t5) → (wy ≤ 6 ^ n1) → (∀ k, k < n1 → ∃ z, z < 10 ∧ wh1 k = nI z) → (∀ z, z < t5 → S / 2 ^ z % 2 = 1 → ∃ k, k < n1 ∧ wh1 k = nI z) → nt - t5 < n9_2 → f_2 315 = eO 10 [.ref (g 316), .ref (g 317), .ref (g 318), .long ab2, .long be2, .int sn, .ref (g 319), .ref (g 320), .int wn, .ref (g 321), .ref (g 322), .int sa, .int ly, .int rdy, .int (nI fd), .ref (g 323), .ref (g 324), .ref (g 325), .ref (g 326), .ref (g 327), .ref (g 328), .ref (g 329), .ref (g 330), .ref (g 331), .ref (g 332)] → f_2 316 = eI G 2246 ss → f_2 317 = eI G 4492 im → f_2 318 = eZ G 2 kq → f_2 319 = eI G 70 sp → f_2 320 = eI G 70 wi → f_2 321 = eI G 70 wa → f_2 322 = eJ G 70 va → f_2 323 = eI G 11 bo → f_2 324 = eI G 11 ju → f_2 325 = eI G 264 dr → f_2 326 = eI G 11 dn → f_2 327 = eI G 330 sl → f_2 328 = eI G 44 ax → f_2 329 = eI G 30 lf → f_2 330 = eI G 6 wh1 → f_2 331 = eI G 6 w6 → f_2 332 = eI G 6 b6 → (∀ j, j ≠ 330 → f_2 j = f j) → va_P G.1 vwCl (wl g f_2) H → va_S (gA g) s.heap H locs → lv_has ls 10 [(0, .ref (g 315)), (1, .int (nI S)), (2, .int (-1)), (3, .int (nI n1)), (4, .int (nI wy)), (5, .int (nI t5))] → W p l e (headSpec (wsT yX11_clash cX11_clash 10 (some .int)) ({ frames := 3, cells := 0, slots := 0, locals := 73 })).room s m ([.ref (g 315), .int (nI S), .int (-1)] : List Value).toArray below meth c H locs 0 0 Q9 (F0 m 62 ls []) := by
          intro n9_2
          induction n9_2 with
          | zero => intro t5 n1 wy wh1 f_2 H locs ls ht5 hn1 hwy hwh hse hn9_2; exact absurd hn9_2 (Nat.not_lt_zero _)
          | succ n9_2 ih_2 =>
            intro t5 n1 wy wh1 f_2 H locs ls ht5 hn1 hwy hwh hse hn9_2 hmo hss_ him_ hkq_ hsp_ hwi_ hwa_ hva_ hbo_ hju_ hdr_ hdn_ hsl_ hax_ hlf_ hwh_ hw6_ hb6_ o_2 hP hS hl
            refine lv_iload hx hb dX11_clash_62 (lv_at hl 5 rfl) ?_
            refine lv_aload_n hx hb dX11_clash_64 rfl (lv_at hl 0 rfl) ?_
            refine va_get (D := G.1) (ci := 10) (v := .ref (g 316)) (C := RX11) (T := TX11) (N := 25) hx hb hts inlX11 hown hG.1 hP 315 (wl_at (by decide) hmo) rfl 0 (by decide) (hts (.fieldLink RX11 7 "SwornListsModel" "st" "[I") w_112) (fun _ h9 => h9) rfl dX11_clash_65 ?_
            refine lv_iconst (v := 4) hx hb dX11_clash_68 (by decide) ?_
            refine va_iald hx hb hG.1 hP 316 0 (wl_at (by decide) hss_) rfl (by unfold vp_in; decide) dX11_clash_69 ?_
            refine my_bei (v := ss 4) (rfl) ?_
            refine my_bei (v := nI nt) (hst.h4) ?_
            refine lv_icmp_ge (tgt := 107) hx hb dX11_clash_70 (by decide) (fun c_70 => ?_) (fun c_70 => ?_)
            · have k_70 : nt ≤ t5 := (nI_leI (a := nt) (b := t5) (by omega) (by omega)).mp c_70
              have hm5 : pcl S t5 ≤ 6 := pcl_6 (by omega) hc9 (by omega)
              have hwb := six_b hwy (by omega)
              refine lv_iconst (v := (-1)) hx hb dX11_clash_107 (by decide) ?_
              refine lv_istore (lv' := [(5, .int (-1)), (0, .ref (g 315)), (1, .int (nI S)), (2, .int (-1)), (3, .int (nI n1)), (4, .int (nI wy))]) hx hb dX11_clash_108 hl (by decide) rfl (fun ls hl => ?_)
              refine lv_iconst (v := 0) hx hb dX11_clash_110 (by decide) ?_
              refine lv_istore (lv' := [(6, .int 0), (5, .int (-1)), (0, .ref (g 315)), (1, .int (nI S)), (2, .int (-1)), (3, .int (nI n1)), (4, .int (nI wy))]) hx hb dX11_clash_111 hl (by decide) rfl (fun ls hl => ?_)
              have key3 : ∀ (n9_3 : Nat) (cd : Nat) (w : Int32) (w61 : Nat → Int32) (b61 : Nat → Int32) (f_3 : Nat → va_E) (H : Heap) (locs : List Loc) (ls : Array Slot), (cd ≤ wy) → wy - cd < n9_3 → f_3 315 = eO 10 [.ref (g 316), .ref (g 317), .ref (g 318), .long ab2, .long be2, .int sn, .ref (g 319), .ref (g 320), .int wn, .ref (g 321), .ref (g 322), .int sa, .int ly, .int rdy, .int (nI fd), .ref (g 323), .ref (g 324), .ref (g 325), .ref (g 326), .ref (g 327), .ref (g 328), .ref (g 329), .ref (g 330), .ref (g 331), .ref (g 332)] → f_3 316 = eI G 2246 ss → f_3 317 = eI G 4492 im → f_3 318 = eZ G 2 kq → f_3 319 = eI G 70 sp → f_3 320 = eI G 70 wi → f_3 321 = eI G 70 wa → f_3 322 = eJ G 70 va → f_3 323 = eI G 11 bo → f_3 324 = eI G 11 ju → f_3 325 = eI G 264 dr → f_3 326 = eI G 11 dn → f_3 327 = eI G 330 sl → f_3 328 = eI G 44 ax → f_3 329 = eI G 30 lf → f_3 330 = eI G 6 wh1 → f_3 331 = eI G 6 w61 → f_3 332 = eI G 6 b61 → (∀ j, (j ≠ 331 ∧ j ≠ 332) → f_3 j = f_2 j) → va_P G.1 vwCl (wl g f_3) H → va_S (gA g) s.heap H locs → lv_has ls 10 [(0, .ref (g 315)), (1, .int (nI S)), (2, .int (-1)), (3, .int (nI n1)), (4, .int (nI wy)), (5, .int w), (6, .int (nI cd))] → W p l e (headSpec (wsT yX11_clash cX11_clash 10 (some .int)) ({ frames := 3, cells := 0, slots := 0, locals := 73 })).room s m ([.ref (g 315), .int (nI S), .int (-1)] : List Value).toArray below meth c H locs 0 0 Q9 (F0 m 113 ls []) := by
                intro n9_3
                induction n9_3 with
                | zero => intro cd w w61 b61 f_3 H locs ls hcd hn9_3; exact absurd hn9_3 (Nat.not_lt_zero _)
                | succ n9_3 ih_3 =>
                  intro cd w w61 b61 f_3 H locs ls hcd hn9_3 hmo hss_ him_ hkq_ hsp_ hwi_ hwa_ hva_ hbo_ hju_ hdr_ hdn_ hsl_ hax_ hlf_ hwh_ hw6_ hb6_ o_3 hP hS hl
                  refine lv_iload hx hb dX11_clash_113 (lv_at hl 6 rfl) ?_
                  refine lv_iload hx hb dX11_clash_115 (lv_at hl 4 rfl) ?_
                  refine lv_icmp_ge (tgt := 234) hx hb dX11_clash_117 (by decide) (fun c_117 => ?_) (fun c_117 => ?_)
                  · have k_117 : wy ≤ cd := (nI_leI (a := wy) (b := cd) (by omega) (by omega)).mp c_117
                    refine lv_iconst (v := 0) hx hb dX11_clash_234 (by decide) ?_
                    refine lv_istore (lv' := [(6, .int 0), (0, .ref (g 315)), (1, .int (nI S)), (2, .int (-1)), (3, .int (nI n1)), (4, .int (nI wy)), (5, .int w)]) hx hb dX11_clash_235 hl (by decide) rfl (fun ls hl => ?_)
                    refine lv_iload_n hx hb dX11_clash_237 rfl (lv_at hl 3 rfl) ?_
                    refine lv_iconst (v := (-1)) hx hb dX11_clash_238 (by decide) ?_
                    refine lv_icmp_eq (tgt := 259) hx hb dX11_clash_239 (by decide) (fun c_239 => ?_) (fun c_239 => absurd (by decide) c_239)
                    refine lv_iload hx hb dX11_clash_259 (lv_at hl 6 rfl) ?_
                    refine lv_iconst (v := (-1)) hx hb dX11_clash_261 (by decide) ?_
                    refine lv_icmp_ne (tgt := 270) hx hb dX11_clash_262 (by decide) (fun c_262 => ?_) (fun c_262 => ?_)
                    · refine lv_iload_n hx hb dX11_clash_270 rfl (lv_at hl 3 rfl) ?_
                      refine lv_iconst (v := (-1)) hx hb dX11_clash_271 (by decide) ?_
                      refine lv_icmp_ne (tgt := 280) hx hb dX11_clash_272 (by decide) (fun c_272 => absurd (by decide) c_272) (fun c_272 => ?_)
                      refine lv_iload hx hb dX11_clash_275 (lv_at hl 6 rfl) ?_
                      refine lv_goto (tgt := 287) hx hb dX11_clash_277 (by decide) ?_
                      refine W_q9 hQ9 ?_
                      exact W.iret (v := w) hx hb hr (fun _ hT9 _ => ⟨⟨_, f_3, rfl, (⟨mJ_mk (ab2) (be2) (sn) (wn) (sa) (ly) (rdy) (fd) (np) (nf) (nr) (na) (nt) (sp) (wi) (wa) (va) (bo) (ju) (dr) (dn) (sl) (ax) (lf) (wh1) (w61) (b61) (hmo) (hss_) (him_) (hkq_) (hsp_) (hwi_) (hwa_) (hva_) (hbo_) (hju_) (hdr_) (hdn_) (hsl_) (hax_) (hlf_) (hwh_) (hw6_) (hb6_) (hst) (by omega) (hdn) (hi0) (hi1) (hrd), fun j hj => ((o_3 j (by omega))).trans (o_2 j (by omega))⟩), by rw [hT9]; exact hP⟩, hS.F hT9⟩) hS.2.2 dX11_clash_287
                    · refine lv_bipush (v := (-5)) hx hb dX11_clash_265 (by decide) ?_
                      refine lv_goto (tgt := 287) hx hb dX11_clash_267 (by decide) ?_
                      refine W_q9 hQ9 ?_
                      exact W.iret (v := (-5)) hx hb hr (fun _ hT9 _ => ⟨⟨_, f_3, rfl, (⟨mJ_mk (ab2) (be2) (sn) (wn) (sa) (ly) (rdy) (fd) (np) (nf) (nr) (na) (nt) (sp) (wi) (wa) (va) (bo) (ju) (dr) (dn) (sl) (ax) (lf) (wh1) (w61) (b61) (hmo) (hss_) (him_) (hkq_) (hsp_) (hwi_) (hwa_) (hva_) (hbo_) (hju_) (hdr_) (hdn_) (hsl_) (hax_) (hlf_) (hwh_) (hw6_) (hb6_) (hst) (by omega) (hdn) (hi0) (hi1) (hrd), fun j hj => ((o_3 j (by omega))).trans (o_2 j (by omega))⟩), by rw [hT9]; exact hP⟩, hS.F hT9⟩) hS.2.2 dX11_clash_287
                  · have k_117 : ¬ wy ≤ cd := fun z9 => c_117 ((nI_leI (a := wy) (b := cd) (by omega) (by omega)).mpr z9)
                    refine lv_iload hx hb dX11_clash_120 (lv_at hl 6 rfl) ?_
                    refine lv_istore (lv' := [(7, .int (nI cd)), (0, .ref (g 315)), (1, .int (nI S)), (2, .int (-1)), (3, .int (nI n1)), (4, .int (nI wy)), (5, .int w), (6, .int (nI cd))]) hx hb dX11_clash_122 hl (by decide) rfl (fun ls hl => ?_)
                    refine lv_iconst (v := 0) hx hb dX11_clash_124 (by decide) ?_
                    refine lv_istore (lv' := [(8, .int 0), (7, .int (nI cd)), (0, .ref (g 315)), (1, .int (nI S)), (2, .int (-1)), (3, .int (nI n1)), (4, .int (nI wy)), (5, .int w), (6, .int (nI cd))]) hx hb dX11_clash_125 hl (by decide) rfl (fun ls hl => ?_)
                    refine lv_iload_n hx hb dX11_clash_127 rfl (lv_at hl 5 rfl) ?_
                    refine lv_iconst (v := 1) hx hb dX11_clash_128 (by decide) ?_
                    refine lv_isub hx hb dX11_clash_129 ?_
                    refine lv_istore (lv' := [(9, .int ((nI n1) - 1)), (8, .int 0), (7, .int (nI cd)), (0, .ref (g 315)), (1, .int (nI S)), (2, .int (-1)), (3, .int (nI n1)), (4, .int (nI wy)), (5, .int w), (6, .int (nI cd))]) hx hb dX11_clash_130 hl (by decide) rfl (fun ls hl => ?_)
                    have key4 : ∀ (n9_4 : Nat) (k1 : Nat) (u : Int32) (u2 : Int32) (w62 : Nat → Int32) (f_4 : Nat → va_E) (H : Heap) (locs : List Loc) (ls : Array Slot), (k1 ≤ n1) → k1 < n9_4 → f_4 315 = eO 10 [.ref (g 316), .ref (g 317), .ref (g 318), .long ab2, .long be2, .int sn, .ref (g 319), .ref (g 320), .int wn, .ref (g 321), .ref (g 322), .int sa, .int ly, .int rdy, .int (nI fd), .ref (g 323), .ref (g 324), .ref (g 325), .ref (g 326), .ref (g 327), .ref (g 328), .ref (g 329), .ref (g 330), .ref (g 331), .ref (g 332)] → f_4 316 = eI G 2246 ss → f_4 317 = eI G 4492 im → f_4 318 = eZ G 2 kq → f_4 319 = eI G 70 sp → f_4 320 = eI G 70 wi → f_4 321 = eI G 70 wa → f_4 322 = eJ G 70 va → f_4 323 = eI G 11 bo → f_4 324 = eI G 11 ju → f_4 325 = eI G 264 dr → f_4 326 = eI G 11 dn → f_4 327 = eI G 330 sl → f_4 328 = eI G 44 ax → f_4 329 = eI G 30 lf → f_4 330 = eI G 6 wh1 → f_4 331 = eI G 6 w62 → f_4 332 = eI G 6 b61 → (∀ j, j ≠ 331 → f_4 j = f_3 j) → va_P G.1 vwCl (wl g f_4) H → va_S (gA g) s.heap H locs → lv_has ls 10 [(0, .ref (g 315)), (1, .int (nI S)), (2, .int (-1)), (3, .int (nI n1)), (4, .int (nI wy)), (5, .int w), (6, .int (nI cd)), (7, .int u), (8, .int u2), (9, .int (nI k1 - 1))] → W p l e (headSpec (wsT yX11_clash cX11_clash 10 (some .int)) ({ frames := 3, cells := 0, slots := 0, locals := 73 })).room s m ([.ref (g 315), .int (nI S), .int (-1)] : List Value).toArray below meth c H locs 0 0 Q9 (F0 m 132 ls []) := by
                      intro n9_4
                      induction n9_4 with
                      | zero => intro k1 u u2 w62 f_4 H locs ls hk1 hn9_4; exact absurd hn9_4 (Nat.not_lt_zero _)
                      | succ n9_4 ih_4 =>
                        intro k1 u u2 w62 f_4 H locs ls hk1 hn9_4 hmo hss_ him_ hkq_ hsp_ hwi_ hwa_ hva_ hbo_ hju_ hdr_ hdn_ hsl_ hax_ hlf_ hwh_ hw6_ hb6_ o_4 hP hS hl
                        refine lv_iload hx hb dX11_clash_132 (lv_at hl 9 rfl) ?_
                        refine lv_if_lt (tgt := 174) hx hb dX11_clash_134 (by decide) (fun c_134 => ?_) (fun c_134 => ?_)
                        · refine lv_iload hx hb dX11_clash_174 (lv_at hl 5 rfl) ?_
                          refine lv_iconst (v := (-1)) hx hb dX11_clash_176 (by decide) ?_
                          refine lv_icmp_eq (tgt := 187) hx hb dX11_clash_177 (by decide) (fun c_177 => ?_) (fun c_177 => ?_)
                          · refine lv_aload_n hx hb dX11_clash_187 rfl (lv_at hl 0 rfl) ?_
                            refine lv_iload_n hx hb dX11_clash_188 rfl (lv_at hl 3 rfl) ?_
                            refine rd_calli (va_runV (As := [.int (nI n1)]) (rest := []) ⟨hx, hb, hml, hown, hts⟩ (r_areApart l G g hg f_4 ab2 be2 sn wn sa ly rdy (nI fd) ss wh1 w62 n1 hmo hss_ hwh_ hw6_ (by first | assumption | omega | decide) (by first | assumption | omega | decide)) (my_cwV hts ok_X11_areApart w_863 rfl rfl ⟨Nat.le_of_ble_eq_true rfl, Nat.le_of_ble_eq_true rfl⟩) ⟨bP.blind, va_recv hG.1 hP (ci := 10) (q0 := 315) rfl (wl_at (by decide) hmo), fun U hU hW => ⟨rfl, by rw [hU]; exact hP, kG.warm hW hG⟩⟩ rfl rfl hl.1 rfl (lv_room (Nat.le_of_ble_eq_true rfl)) dX11_clash_189 ⟨Nat.le_of_ble_eq_true rfl, Nat.le_of_ble_eq_true rfl⟩) (fun r hr9 => ?_)
                            obtain ⟨bz5, rfl⟩ := hr9
                            refine my_ifeq (tgt := 228) hx hb dX11_clash_192 (by decide) (fun c_192 => ?_) (fun c_192 => ?_)
                            · refine lv_iinc (v := nI (cd + 1)) (lv' := [(6, .int (nI (cd + 1))), (0, .ref (g 315)), (1, .int (nI S)), (2, .int (-1)), (3, .int (nI n1)), (4, .int (nI wy)), (5, .int w), (7, .int u), (8, .int u2), (9, .int (nI k1 - 1))]) hx hb dX11_clash_228 hl (k := 6) rfl (nI_add cd 1) (by decide) rfl (fun ls hl => ?_)
                              refine lv_goto (tgt := 113) hx hb dX11_clash_231 (by decide) ?_
                              exact ih_3 (cd + 1) w w62 b61 f_4 _ _ _ (by omega) (by omega) (hmo) (hss_) (him_) (hkq_) (hsp_) (hwi_) (hwa_) (hva_) (hbo_) (hju_) (hdr_) (hdn_) (hsl_) (hax_) (hlf_) (hwh_) (hw6_) (hb6_) (fun j hj => ((o_4 j (by omega))).trans (o_3 j (by omega))) hP hS (lv_sub hl [1, 2, 3, 4, 5, 6, 0] rfl)
                            · refine lv_iload hx hb dX11_clash_195 (lv_at hl 8 rfl) ?_
                              refine lv_istore (lv' := [(5, .int u2), (0, .ref (g 315)), (1, .int (nI S)), (2, .int (-1)), (3, .int (nI n1)), (4, .int (nI wy)), (6, .int (nI cd)), (7, .int u), (8, .int u2), (9, .int (nI k1 - 1))]) hx hb dX11_clash_197 hl (by decide) rfl (fun ls hl => ?_)
                              refine lv_iconst (v := 0) hx hb dX11_clash_199 (by decide) ?_
                              refine lv_istore (lv' := [(9, .int 0), (5, .int u2), (0, .ref (g 315)), (1, .int (nI S)), (2, .int (-1)), (3, .int (nI n1)), (4, .int (nI wy)), (6, .int (nI cd)), (7, .int u), (8, .int u2)]) hx hb dX11_clash_200 hl (by decide) rfl (fun ls hl => ?_)
                              have key6 : ∀ (n9_6 : Nat) (k6 : Nat) (b62 : Nat → Int32) (f_6 : Nat → va_E) (H : Heap) (locs : List Loc) (ls : Array Slot), (k6 ≤ n1) → n1 - k6 < n9_6 → f_6 315 = eO 10 [.ref (g 316), .ref (g 317), .ref (g 318), .long ab2, .long be2, .int sn, .ref (g 319), .ref (g 320), .int wn, .ref (g 321), .ref (g 322), .int sa, .int ly, .int rdy, .int (nI fd), .ref (g 323), .ref (g 324), .ref (g 325), .ref (g 326), .ref (g 327), .ref (g 328), .ref (g 329), .ref (g 330), .ref (g 331), .ref (g 332)] → f_6 316 = eI G 2246 ss → f_6 317 = eI G 4492 im → f_6 318 = eZ G 2 kq → f_6 319 = eI G 70 sp → f_6 320 = eI G 70 wi → f_6 321 = eI G 70 wa → f_6 322 = eJ G 70 va → f_6 323 = eI G 11 bo → f_6 324 = eI G 11 ju → f_6 325 = eI G 264 dr → f_6 326 = eI G 11 dn → f_6 327 = eI G 330 sl → f_6 328 = eI G 44 ax → f_6 329 = eI G 30 lf → f_6 330 = eI G 6 wh1 → f_6 331 = eI G 6 w62 → f_6 332 = eI G 6 b62 → (∀ j, j ≠ 332 → f_6 j = f_4 j) → va_P G.1 vwCl (wl g f_6) H → va_S (gA g) s.heap H locs → lv_has ls 10 [(0, .ref (g 315)), (1, .int (nI S)), (2, .int (-1)), (3, .int (nI n1)), (4, .int (nI wy)), (5, .int u2), (6, .int (nI cd)), (9, .int (nI k6))] → W p l e (headSpec (wsT yX11_clash cX11_clash 10 (some .int)) ({ frames := 3, cells := 0, slots := 0, locals := 73 })).room s m ([.ref (g 315), .int (nI S), .int (-1)] : List Value).toArray below meth c H locs 0 0 Q9 (F0 m 202 ls []) := by
                                intro n9_6
                                induction n9_6 with
                                | zero => intro k6 b62 f_6 H locs ls hk6 hn9_6; exact absurd hn9_6 (Nat.not_lt_zero _)
                                | succ n9_6 ih_6 =>
                                  intro k6 b62 f_6 H locs ls hk6 hn9_6 hmo hss_ him_ hkq_ hsp_ hwi_ hwa_ hva_ hbo_ hju_ hdr_ hdn_ hsl_ hax_ hlf_ hwh_ hw6_ hb6_ o_6 hP hS hl
                                  refine lv_iload hx hb dX11_clash_202 (lv_at hl 7 rfl) ?_
                                  refine lv_iload_n hx hb dX11_clash_204 rfl (lv_at hl 3 rfl) ?_
                                  refine lv_icmp_ge (tgt := 228) hx hb dX11_clash_205 (by decide) (fun c_205 => ?_) (fun c_205 => ?_)
                                  · have k_205 : n1 ≤ k6 := (nI_leI (a := n1) (b := k6) (by omega) (by omega)).mp c_205
                                    refine lv_iinc (v := nI (cd + 1)) (lv' := [(6, .int (nI (cd + 1))), (0, .ref (g 315)), (1, .int (nI S)), (2, .int (-1)), (3, .int (nI n1)), (4, .int (nI wy)), (5, .int u2), (9, .int (nI k6))]) hx hb dX11_clash_228 hl (k := 6) rfl (nI_add cd 1) (by decide) rfl (fun ls hl => ?_)
                                    refine lv_goto (tgt := 113) hx hb dX11_clash_231 (by decide) ?_
                                    exact ih_3 (cd + 1) u2 w62 b62 f_6 _ _ _ (by omega) (by omega) (hmo) (hss_) (him_) (hkq_) (hsp_) (hwi_) (hwa_) (hva_) (hbo_) (hju_) (hdr_) (hdn_) (hsl_) (hax_) (hlf_) (hwh_) (hw6_) (hb6_) (fun j hj => (((o_6 j (by omega))).trans (o_4 j (by omega))).trans (o_3 j (by omega))) hP hS (lv_sub hl [1, 2, 3, 4, 5, 6, 0] rfl)
                                  · have k_205 : ¬ n1 ≤ k6 := fun z9 => c_205 ((nI_leI (a := n1) (b := k6) (by omega) (by omega)).mpr z9)
                                    refine lv_aload_n hx hb dX11_clash_208 rfl (lv_at hl 0 rfl) ?_
                                    refine va_get (D := G.1) (ci := 10) (v := .ref (g 332)) (C := RX11) (T := TX11) (N := 25) hx hb hts inlX11 hown hG.1 hP 315 (wl_at (by decide) hmo) rfl 24 (by decide) (hts (.fieldLink RX11 60 "SwornListsModel" "best" "[I") w_128) (fun _ h9 => h9) rfl dX11_clash_209 ?_
                                    refine lv_iload hx hb dX11_clash_212 (lv_at hl 7 rfl) ?_
                                    refine lv_aload_n hx hb dX11_clash_214 rfl (lv_at hl 0 rfl) ?_
                                    refine va_get (D := G.1) (ci := 10) (v := .ref (g 331)) (C := RX11) (T := TX11) (N := 25) hx hb hts inlX11 hown hG.1 hP 315 (wl_at (by decide) hmo) rfl 23 (by decide) (hts (.fieldLink RX11 57 "SwornListsModel" "waits6" "[I") w_127) (fun _ h9 => h9) rfl dX11_clash_215 ?_
                                    refine lv_iload hx hb dX11_clash_218 (lv_at hl 7 rfl) ?_
                                    refine va_iald hx hb hG.1 hP 331 0 (wl_at (by decide) hw6_) rfl (vp_in_nI (by omega) (by decide)) dX11_clash_220 ?_
                                    refine my_bei (v := w62 k6) (congrArg w62 (nI_clamp (n := k6) (by omega))) ?_
                                    refine va_iast hx hb hG.1 hP (wl_D hg f_6) hS 332 0 (wl_at (by decide) hb6_) rfl (vp_in_nI (by omega) (by decide)) dX11_clash_221 (fun H locs hP _ hS => ?_)
                                    have hP := (congrArg (fun z9 => va_P G.1 vwCl ((wl g f_6).set 332 (g 332, eI G 6 ((upd b62 z9 (w62 k6))))) H) (show Int32.toNatClampNeg (nI k6) = k6 from nI_clamp (by omega))).mp hP
                                    obtain ⟨f_7, hP, e_7, o_7⟩ := b_put (by decide) hP
                                    have hb6_ : f_7 332 = eI G 6 (upd b62 k6 (w62 k6)) := e_7
                                    refine lv_iinc (v := nI (k6 + 1)) (lv' := [(9, .int (nI (k6 + 1))), (0, .ref (g 315)), (1, .int (nI S)), (2, .int (-1)), (3, .int (nI n1)), (4, .int (nI wy)), (5, .int u2), (6, .int (nI cd))]) hx hb dX11_clash_222 hl (k := 7) rfl (nI_add k6 1) (by decide) rfl (fun ls hl => ?_)
                                    refine lv_goto (tgt := 202) hx hb dX11_clash_225 (by decide) ?_
                                    replace hmo := ((o_7 315 (by decide))).trans hmo
                                    replace hss_ := ((o_7 316 (by decide))).trans hss_
                                    replace him_ := ((o_7 317 (by decide))).trans him_
                                    replace hkq_ := ((o_7 318 (by decide))).trans hkq_
                                    replace hsp_ := ((o_7 319 (by decide))).trans hsp_
                                    replace hwi_ := ((o_7 320 (by decide))).trans hwi_
                                    replace hwa_ := ((o_7 321 (by decide))).trans hwa_
                                    replace hva_ := ((o_7 322 (by decide))).trans hva_
                                    replace hbo_ := ((o_7 323 (by decide))).trans hbo_
                                    replace hju_ := ((o_7 324 (by decide))).trans hju_
                                    replace hdr_ := ((o_7 325 (by decide))).trans hdr_
                                    replace hdn_ := ((o_7 326 (by decide))).trans hdn_
                                    replace hsl_ := ((o_7 327 (by decide))).trans hsl_
                                    replace hax_ := ((o_7 328 (by decide))).trans hax_
                                    replace hlf_ := ((o_7 329 (by decide))).trans hlf_
                                    replace hwh_ := ((o_7 330 (by decide))).trans hwh_
                                    replace hw6_ := ((o_7 331 (by decide))).trans hw6_
                                    exact ih_6 (k6 + 1) (upd b62 k6 (w62 k6)) f_7 _ _ _ (by omega) (by omega) (hmo) (hss_) (him_) (hkq_) (hsp_) (hwi_) (hwa_) (hva_) (hbo_) (hju_) (hdr_) (hdn_) (hsl_) (hax_) (hlf_) (hwh_) (hw6_) (hb6_) (fun j hj => ((o_7 j (by omega))).trans (o_6 j (by omega))) hP hS (lv_sub hl [1, 2, 3, 4, 5, 6, 7, 0] rfl)
                              exact key6 (n1 + 1) 0 b61 f_4 _ _ _ (by omega) (by omega) (hmo) (hss_) (him_) (hkq_) (hsp_) (hwi_) (hwa_) (hva_) (hbo_) (hju_) (hdr_) (hdn_) (hsl_) (hax_) (hlf_) (hwh_) (hw6_) (hb6_) (fun j _ => rfl) hP hS (lv_sub hl [2, 3, 4, 5, 6, 1, 7, 0] rfl)
                          · refine lv_iload hx hb dX11_clash_180 (lv_at hl 8 rfl) ?_
                            refine lv_iload hx hb dX11_clash_182 (lv_at hl 5 rfl) ?_
                            refine lv_icmp_ge (tgt := 228) hx hb dX11_clash_184 (by decide) (fun c_184 => ?_) (fun c_184 => ?_)
                            · refine lv_iinc (v := nI (cd + 1)) (lv' := [(6, .int (nI (cd + 1))), (0, .ref (g 315)), (1, .int (nI S)), (2, .int (-1)), (3, .int (nI n1)), (4, .int (nI wy)), (5, .int w), (7, .int u), (8, .int u2), (9, .int (nI k1 - 1))]) hx hb dX11_clash_228 hl (k := 6) rfl (nI_add cd 1) (by decide) rfl (fun ls hl => ?_)
                              refine lv_goto (tgt := 113) hx hb dX11_clash_231 (by decide) ?_
                              exact ih_3 (cd + 1) w w62 b61 f_4 _ _ _ (by omega) (by omega) (hmo) (hss_) (him_) (hkq_) (hsp_) (hwi_) (hwa_) (hva_) (hbo_) (hju_) (hdr_) (hdn_) (hsl_) (hax_) (hlf_) (hwh_) (hw6_) (hb6_) (fun j hj => ((o_4 j (by omega))).trans (o_3 j (by omega))) hP hS (lv_sub hl [1, 2, 3, 4, 5, 6, 0] rfl)
                            · refine lv_aload_n hx hb dX11_clash_187 rfl (lv_at hl 0 rfl) ?_
                              refine lv_iload_n hx hb dX11_clash_188 rfl (lv_at hl 3 rfl) ?_
                              refine rd_calli (va_runV (As := [.int (nI n1)]) (rest := []) ⟨hx, hb, hml, hown, hts⟩ (r_areApart l G g hg f_4 ab2 be2 sn wn sa ly rdy (nI fd) ss wh1 w62 n1 hmo hss_ hwh_ hw6_ (by first | assumption | omega | decide) (by first | assumption | omega | decide)) (my_cwV hts ok_X11_areApart w_863 rfl rfl ⟨Nat.le_of_ble_eq_true rfl, Nat.le_of_ble_eq_true rfl⟩) ⟨bP.blind, va_recv hG.1 hP (ci := 10) (q0 := 315) rfl (wl_at (by decide) hmo), fun U hU hW => ⟨rfl, by rw [hU]; exact hP, kG.warm hW hG⟩⟩ rfl rfl hl.1 rfl (lv_room (Nat.le_of_ble_eq_true rfl)) dX11_clash_189 ⟨Nat.le_of_ble_eq_true rfl, Nat.le_of_ble_eq_true rfl⟩) (fun r hr9 => ?_)
                              obtain ⟨bz7, rfl⟩ := hr9
                              refine my_ifeq (tgt := 228) hx hb dX11_clash_192 (by decide) (fun c_192 => ?_) (fun c_192 => ?_)
                              · refine lv_iinc (v := nI (cd + 1)) (lv' := [(6, .int (nI (cd + 1))), (0, .ref (g 315)), (1, .int (nI S)), (2, .int (-1)), (3, .int (nI n1)), (4, .int (nI wy)), (5, .int w), (7, .int u), (8, .int u2), (9, .int (nI k1 - 1))]) hx hb dX11_clash_228 hl (k := 6) rfl (nI_add cd 1) (by decide) rfl (fun ls hl => ?_)
                                refine lv_goto (tgt := 113) hx hb dX11_clash_231 (by decide) ?_
                                exact ih_3 (cd + 1) w w62 b61 f_4 _ _ _ (by omega) (by omega) (hmo) (hss_) (him_) (hkq_) (hsp_) (hwi_) (hwa_) (hva_) (hbo_) (hju_) (hdr_) (hdn_) (hsl_) (hax_) (hlf_) (hwh_) (hw6_) (hb6_) (fun j hj => ((o_4 j (by omega))).trans (o_3 j (by omega))) hP hS (lv_sub hl [1, 2, 3, 4, 5, 6, 0] rfl)
                              · refine lv_iload hx hb dX11_clash_195 (lv_at hl 8 rfl) ?_
                                refine lv_istore (lv' := [(5, .int u2), (0, .ref (g 315)), (1, .int (nI S)), (2, .int (-1)), (3, .int (nI n1)), (4, .int (nI wy)), (6, .int (nI cd)), (7, .int u), (8, .int u2), (9, .int (nI k1 - 1))]) hx hb dX11_clash_197 hl (by decide) rfl (fun ls hl => ?_)
                                refine lv_iconst (v := 0) hx hb dX11_clash_199 (by decide) ?_
                                refine lv_istore (lv' := [(9, .int 0), (5, .int u2), (0, .ref (g 315)), (1, .int (nI S)), (2, .int (-1)), (3, .int (nI n1)), (4, .int (nI wy)), (6, .int (nI cd)), (7, .int u), (8, .int u2)]) hx hb dX11_clash_200 hl (by decide) rfl (fun ls hl => ?_)
                                have key8 : ∀ (n9_8 : Nat) (k6 : Nat) (b62 : Nat → Int32) (f_9 : Nat → va_E) (H : Heap) (locs : List Loc) (ls : Array Slot), (k6 ≤ n1) → n1 - k6 < n9_8 → f_9 315 = eO 10 [.ref (g 316), .ref (g 317), .ref (g 318), .long ab2, .long be2, .int sn, .ref (g 319), .ref (g 320), .int wn, .ref (g 321), .ref (g 322), .int sa, .int ly, .int rdy, .int (nI fd), .ref (g 323), .ref (g 324), .ref (g 325), .ref (g 326), .ref (g 327), .ref (g 328), .ref (g 329), .ref (g 330), .ref (g 331), .ref (g 332)] → f_9 316 = eI G 2246 ss → f_9 317 = eI G 4492 im → f_9 318 = eZ G 2 kq → f_9 319 = eI G 70 sp → f_9 320 = eI G 70 wi → f_9 321 = eI G 70 wa → f_9 322 = eJ G 70 va → f_9 323 = eI G 11 bo → f_9 324 = eI G 11 ju → f_9 325 = eI G 264 dr → f_9 326 = eI G 11 dn → f_9 327 = eI G 330 sl → f_9 328 = eI G 44 ax → f_9 329 = eI G 30 lf → f_9 330 = eI G 6 wh1 → f_9 331 = eI G 6 w62 → f_9 332 = eI G 6 b62 → (∀ j, j ≠ 332 → f_9 j = f_4 j) → va_P G.1 vwCl (wl g f_9) H → va_S (gA g) s.heap H locs → lv_has ls 10 [(0, .ref (g 315)), (1, .int (nI S)), (2, .int (-1)), (3, .int (nI n1)), (4, .int (nI wy)), (5, .int u2), (6, .int (nI cd)), (9, .int (nI k6))] → W p l e (headSpec (wsT yX11_clash cX11_clash 10 (some .int)) ({ frames := 3, cells := 0, slots := 0, locals := 73 })).room s m ([.ref (g 315), .int (nI S), .int (-1)] : List Value).toArray below meth c H locs 0 0 Q9 (F0 m 202 ls []) := by
                                  intro n9_8
                                  induction n9_8 with
                                  | zero => intro k6 b62 f_9 H locs ls hk6 hn9_8; exact absurd hn9_8 (Nat.not_lt_zero _)
                                  | succ n9_8 ih_8 =>
                                    intro k6 b62 f_9 H locs ls hk6 hn9_8 hmo hss_ him_ hkq_ hsp_ hwi_ hwa_ hva_ hbo_ hju_ hdr_ hdn_ hsl_ hax_ hlf_ hwh_ hw6_ hb6_ o_9 hP hS hl
                                    refine lv_iload hx hb dX11_clash_202 (lv_at hl 7 rfl) ?_
                                    refine lv_iload_n hx hb dX11_clash_204 rfl (lv_at hl 3 rfl) ?_
                                    refine lv_icmp_ge (tgt := 228) hx hb dX11_clash_205 (by decide) (fun c_205 => ?_) (fun c_205 => ?_)
                                    · have k_205 : n1 ≤ k6 := (nI_leI (a := n1) (b := k6) (by omega) (by omega)).mp c_205
                                      refine lv_iinc (v := nI (cd + 1)) (lv' := [(6, .int (nI (cd + 1))), (0, .ref (g 315)), (1, .int (nI S)), (2, .int (-1)), (3, .int (nI n1)), (4, .int (nI wy)), (5, .int u2), (9, .int (nI k6))]) hx hb dX11_clash_228 hl (k := 6) rfl (nI_add cd 1) (by decide) rfl (fun ls hl => ?_)
                                      refine lv_goto (tgt := 113) hx hb dX11_clash_231 (by decide) ?_
                                      exact ih_3 (cd + 1) u2 w62 b62 f_9 _ _ _ (by omega) (by omega) (hmo) (hss_) (him_) (hkq_) (hsp_) (hwi_) (hwa_) (hva_) (hbo_) (hju_) (hdr_) (hdn_) (hsl_) (hax_) (hlf_) (hwh_) (hw6_) (hb6_) (fun j hj => (((o_9 j (by omega))).trans (o_4 j (by omega))).trans (o_3 j (by omega))) hP hS (lv_sub hl [1, 2, 3, 4, 5, 6, 0] rfl)
                                    · have k_205 : ¬ n1 ≤ k6 := fun z9 => c_205 ((nI_leI (a := n1) (b := k6) (by omega) (by omega)).mpr z9)
                                      refine lv_aload_n hx hb dX11_clash_208 rfl (lv_at hl 0 rfl) ?_
                                      refine va_get (D := G.1) (ci := 10) (v := .ref (g 332)) (C := RX11) (T := TX11) (N := 25) hx hb hts inlX11 hown hG.1 hP 315 (wl_at (by decide) hmo) rfl 24 (by decide) (hts (.fieldLink RX11 60 "SwornListsModel" "best" "[I") w_128) (fun _ h9 => h9) rfl dX11_clash_209 ?_
                                      refine lv_iload hx hb dX11_clash_212 (lv_at hl 7 rfl) ?_
                                      refine lv_aload_n hx hb dX11_clash_214 rfl (lv_at hl 0 rfl) ?_
                                      refine va_get (D := G.1) (ci := 10) (v := .ref (g 331)) (C := RX11) (T := TX11) (N := 25) hx hb hts inlX11 hown hG.1 hP 315 (wl_at (by decide) hmo) rfl 23 (by decide) (hts (.fieldLink RX11 57 "SwornListsModel" "waits6" "[I") w_127) (fun _ h9 => h9) rfl dX11_clash_215 ?_
                                      refine lv_iload hx hb dX11_clash_218 (lv_at hl 7 rfl) ?_
                                      refine va_iald hx hb hG.1 hP 331 0 (wl_at (by decide) hw6_) rfl (vp_in_nI (by omega) (by decide)) dX11_clash_220 ?_
                                      refine my_bei (v := w62 k6) (congrArg w62 (nI_clamp (n := k6) (by omega))) ?_
                                      refine va_iast hx hb hG.1 hP (wl_D hg f_9) hS 332 0 (wl_at (by decide) hb6_) rfl (vp_in_nI (by omega) (by decide)) dX11_clash_221 (fun H locs hP _ hS => ?_)
                                      have hP := (congrArg (fun z9 => va_P G.1 vwCl ((wl g f_9).set 332 (g 332, eI G 6 ((upd b62 z9 (w62 k6))))) H) (show Int32.toNatClampNeg (nI k6) = k6 from nI_clamp (by omega))).mp hP
                                      obtain ⟨f_10, hP, e_10, o_10⟩ := b_put (by decide) hP
                                      have hb6_ : f_10 332 = eI G 6 (upd b62 k6 (w62 k6)) := e_10
                                      refine lv_iinc (v := nI (k6 + 1)) (lv' := [(9, .int (nI (k6 + 1))), (0, .ref (g 315)), (1, .int (nI S)), (2, .int (-1)), (3, .int (nI n1)), (4, .int (nI wy)), (5, .int u2), (6, .int (nI cd))]) hx hb dX11_clash_222 hl (k := 7) rfl (nI_add k6 1) (by decide) rfl (fun ls hl => ?_)
                                      refine lv_goto (tgt := 202) hx hb dX11_clash_225 (by decide) ?_
                                      replace hmo := ((o_10 315 (by decide))).trans hmo
                                      replace hss_ := ((o_10 316 (by decide))).trans hss_
                                      replace him_ := ((o_10 317 (by decide))).trans him_
                                      replace hkq_ := ((o_10 318 (by decide))).trans hkq_
                                      replace hsp_ := ((o_10 319 (by decide))).trans hsp_
                                      replace hwi_ := ((o_10 320 (by decide))).trans hwi_
                                      replace hwa_ := ((o_10 321 (by decide))).trans hwa_
                                      replace hva_ := ((o_10 322 (by decide))).trans hva_
                                      replace hbo_ := ((o_10 323 (by decide))).trans hbo_
                                      replace hju_ := ((o_10 324 (by decide))).trans hju_
                                      replace hdr_ := ((o_10 325 (by decide))).trans hdr_
                                      replace hdn_ := ((o_10 326 (by decide))).trans hdn_
                                      replace hsl_ := ((o_10 327 (by decide))).trans hsl_
                                      replace hax_ := ((o_10 328 (by decide))).trans hax_
                                      replace hlf_ := ((o_10 329 (by decide))).trans hlf_
                                      replace hwh_ := ((o_10 330 (by decide))).trans hwh_
                                      replace hw6_ := ((o_10 331 (by decide))).trans hw6_
                                      exact ih_8 (k6 + 1) (upd b62 k6 (w62 k6)) f_10 _ _ _ (by omega) (by omega) (hmo) (hss_) (him_) (hkq_) (hsp_) (hwi_) (hwa_) (hva_) (hbo_) (hju_) (hdr_) (hdn_) (hsl_) (hax_) (hlf_) (hwh_) (hw6_) (hb6_) (fun j hj => ((o_10 j (by omega))).trans (o_9 j (by omega))) hP hS (lv_sub hl [1, 2, 3, 4, 5, 6, 7, 0] rfl)
                                exact key8 (n1 + 1) 0 b61 f_4 _ _ _ (by omega) (by omega) (hmo) (hss_) (him_) (hkq_) (hsp_) (hwi_) (hwa_) (hva_) (hbo_) (hju_) (hdr_) (hdn_) (hsl_) (hax_) (hlf_) (hwh_) (hw6_) (hb6_) (fun j _ => rfl) hP hS (lv_sub hl [2, 3, 4, 5, 6, 1, 7, 0] rfl)
                        · have hk0 := m1_ge (by omega) c_134
                          obtain ⟨k2, rfl⟩ : ∃ z, k1 = z + 1 := ⟨k1 - 1, by omega⟩
                          rw [nI_pred] at hl
                          refine lv_aload_n hx hb dX11_clash_137 rfl (lv_at hl 0 rfl) ?_
                          refine va_get (D := G.1) (ci := 10) (v := .ref (g 331)) (C := RX11) (T := TX11) (N := 25) hx hb hts inlX11 hown hG.1 hP 315 (wl_at (by decide) hmo) rfl 23 (by decide) (hts (.fieldLink RX11 57 "SwornListsModel" "waits6" "[I") w_127) (fun _ h9 => h9) rfl dX11_clash_138 ?_
                          refine lv_iload hx hb dX11_clash_141 (lv_at hl 9 rfl) ?_
                          refine lv_iload hx hb dX11_clash_143 (lv_at hl 7 rfl) ?_
                          refine lv_bipush (v := 6) hx hb dX11_clash_145 (by decide) ?_
                          refine lv_irem hx hb dX11_clash_147 (by decide) ?_
                          refine va_iast hx hb hG.1 hP (wl_D hg f_4) hS 331 0 (wl_at (by decide) hw6_) rfl (vp_in_nI (by omega) (by decide)) dX11_clash_148 (fun H locs hP _ hS => ?_)
                          have hP := (congrArg (fun z9 => va_P G.1 vwCl ((wl g f_4).set 331 (g 331, eI G 6 ((upd w62 z9 (u - u / 6 * 6))))) H) (show Int32.toNatClampNeg (nI k2) = k2 from nI_clamp (by omega))).mp hP
                          obtain ⟨f_11, hP, e_11, o_11⟩ := b_put (by decide) hP
                          have hw6_ : f_11 331 = eI G 6 (upd w62 k2 (u - u / 6 * 6)) := e_11
                          refine lv_iload hx hb dX11_clash_149 (lv_at hl 7 rfl) ?_
                          refine lv_bipush (v := 6) hx hb dX11_clash_151 (by decide) ?_
                          refine lv_idiv hx hb dX11_clash_153 (by decide) ?_
                          refine lv_istore (lv' := [(7, .int (u / 6)), (0, .ref (g 315)), (1, .int (nI S)), (2, .int (-1)), (3, .int (nI n1)), (4, .int (nI wy)), (5, .int w), (6, .int (nI cd)), (8, .int u2), (9, .int (nI k2))]) hx hb dX11_clash_154 hl (by decide) rfl (fun ls hl => ?_)
                          refine lv_iload hx hb dX11_clash_156 (lv_at hl 8 rfl) ?_
                          refine lv_aload_n hx hb dX11_clash_158 rfl (lv_at hl 1 rfl) ?_
                          replace hmo := ((o_11 315 (by decide))).trans hmo
                          refine va_get (D := G.1) (ci := 10) (v := .ref (g 331)) (C := RX11) (T := TX11) (N := 25) hx hb hts inlX11 hown hG.1 hP 315 (wl_at (by decide) hmo) rfl 23 (by decide) (hts (.fieldLink RX11 57 "SwornListsModel" "waits6" "[I") w_127) (fun _ h9 => h9) rfl dX11_clash_159 ?_
                          refine lv_iload hx hb dX11_clash_162 (lv_at hl 9 rfl) ?_
                          refine va_iald hx hb hG.1 hP 331 0 (wl_at (by decide) hw6_) rfl (vp_in_nI (by omega) (by decide)) dX11_clash_164 ?_
                          refine my_bei (v := (upd w62 k2 (u - u / 6 * 6)) k2) (congrArg (upd w62 k2 (u - u / 6 * 6)) (nI_clamp (n := k2) (by omega))) ?_
                          refine my_bei (v := u - u / 6 * 6) (pk_us) ?_
                          refine lv_iadd hx hb dX11_clash_165 ?_
                          refine lv_istore (lv' := [(8, .int (u2 + (u - u / 6 * 6))), (7, .int (u / 6)), (0, .ref (g 315)), (1, .int (nI S)), (2, .int (-1)), (3, .int (nI n1)), (4, .int (nI wy)), (5, .int w), (6, .int (nI cd)), (9, .int (nI k2))]) hx hb dX11_clash_166 hl (by decide) rfl (fun ls hl => ?_)
                          refine lv_iinc (v := nI k2 - 1) (lv' := [(9, .int (nI k2 - 1)), (8, .int (u2 + (u - u / 6 * 6))), (7, .int (u / 6)), (0, .ref (g 315)), (1, .int (nI S)), (2, .int (-1)), (3, .int (nI n1)), (4, .int (nI wy)), (5, .int w), (6, .int (nI cd))]) hx hb dX11_clash_168 hl (k := 9) rfl (m1_sub _) (by decide) rfl (fun ls hl => ?_)
                          refine lv_goto (tgt := 132) hx hb dX11_clash_171 (by decide) ?_
                          replace hss_ := ((o_11 316 (by decide))).trans hss_
                          replace him_ := ((o_11 317 (by decide))).trans him_
                          replace hkq_ := ((o_11 318 (by decide))).trans hkq_
                          replace hsp_ := ((o_11 319 (by decide))).trans hsp_
                          replace hwi_ := ((o_11 320 (by decide))).trans hwi_
                          replace hwa_ := ((o_11 321 (by decide))).trans hwa_
                          replace hva_ := ((o_11 322 (by decide))).trans hva_
                          replace hbo_ := ((o_11 323 (by decide))).trans hbo_
                          replace hju_ := ((o_11 324 (by decide))).trans hju_
                          replace hdr_ := ((o_11 325 (by decide))).trans hdr_
                          replace hdn_ := ((o_11 326 (by decide))).trans hdn_
                          replace hsl_ := ((o_11 327 (by decide))).trans hsl_
                          replace hax_ := ((o_11 328 (by decide))).trans hax_
                          replace hlf_ := ((o_11 329 (by decide))).trans hlf_
                          replace hwh_ := ((o_11 330 (by decide))).trans hwh_
                          replace hb6_ := ((o_11 332 (by decide))).trans hb6_
                          exact ih_4 k2 (u / 6) (u2 + (u - u / 6 * 6)) (upd w62 k2 (u - u / 6 * 6)) f_11 _ _ _ (by omega) (by omega) (hmo) (hss_) (him_) (hkq_) (hsp_) (hwi_) (hwa_) (hva_) (hbo_) (hju_) (hdr_) (hdn_) (hsl_) (hax_) (hlf_) (hwh_) (hw6_) (hb6_) (fun j hj => ((o_11 j (by omega))).trans (o_4 j (by omega))) hP hS (lv_sub hl [3, 4, 5, 6, 7, 8, 9, 2, 1, 0] rfl)
                    exact key4 (n1 + 1) n1 (nI cd) 0 w61 f_3 _ _ _ (by omega) (by omega) (hmo) (hss_) (him_) (hkq_) (hsp_) (hwi_) (hwa_) (hva_) (hbo_) (hju_) (hdr_) (hdn_) (hsl_) (hax_) (hlf_) (hwh_) (hw6_) (hb6_) (fun j _ => rfl) hP hS (lv_sub hl [3, 4, 5, 6, 7, 8, 9, 2, 1, 0] rfl)
              exact key3 (wy + 1) 0 (-1) w6 b6 f_2 _ _ _ (by omega) (by omega) (hmo) (hss_) (him_) (hkq_) (hsp_) (hwi_) (hwa_) (hva_) (hbo_) (hju_) (hdr_) (hdn_) (hsl_) (hax_) (hlf_) (hwh_) (hw6_) (hb6_) (fun j _ => rfl) hP hS (lv_sub hl [2, 3, 4, 5, 6, 1, 0] rfl)
            · have k_70 : ¬ nt ≤ t5 := fun z9 => c_70 ((nI_leI (a := nt) (b := t5) (by omega) (by omega)).mpr z9)
              have hm5 : pcl S t5 ≤ 6 := pcl_6 (by omega) hc9 (by omega)
              have hwb := six_b hwy (by omega)
              refine lv_iload_n hx hb dX11_clash_73 rfl (lv_at hl 1 rfl) ?_
              refine lv_iload hx hb dX11_clash_74 (lv_at hl 5 rfl) ?_
              refine lv_ishr hx hb dX11_clash_76 ?_
              refine my_bei (v := nI (S / 2 ^ t5)) (shr_t (by omega) (by omega)) ?_
              refine lv_iconst (v := 1) hx hb dX11_clash_77 (by decide) ?_
              refine lv_iand hx hb dX11_clash_78 ?_
              refine my_bei (v := nI (S / 2 ^ t5 % 2)) (and_1 (Nat.lt_of_le_of_lt (Nat.div_le_self _ _) (by omega))) ?_
              refine lv_iconst (v := 1) hx hb dX11_clash_79 (by decide) ?_
              refine lv_icmp_ne (tgt := 101) hx hb dX11_clash_80 (by decide) (fun c_80 => ?_) (fun c_80 => ?_)
              · have k_80 : ¬ S / 2 ^ t5 % 2 = 1 := fun z9 => c_80 ((nI_eq (a := S / 2 ^ t5 % 2) (b := 1) (by omega) (by omega)).mpr z9)
                refine lv_iinc (v := nI (t5 + 1)) (lv' := [(5, .int (nI (t5 + 1))), (0, .ref (g 315)), (1, .int (nI S)), (2, .int (-1)), (3, .int (nI n1)), (4, .int (nI wy))]) hx hb dX11_clash_101 hl (k := 5) rfl (nI_add t5 1) (by decide) rfl (fun ls hl => ?_)
                refine lv_goto (tgt := 62) hx hb dX11_clash_104 (by decide) ?_
                exact ih_2 (t5 + 1) n1 wy wh1 f_2 _ _ _ (by omega) (by show _ = pcl S t5 + S / 2 ^ t5 % 2; omega) (hwy) (hwh) (se_n hse k_80) (by omega) (hmo) (hss_) (him_) (hkq_) (hsp_) (hwi_) (hwa_) (hva_) (hbo_) (hju_) (hdr_) (hdn_) (hsl_) (hax_) (hlf_) (hwh_) (hw6_) (hb6_) (fun j hj => (o_2 j (by omega))) hP hS (lv_sub hl [1, 2, 3, 4, 5, 0] rfl)
              · have k_80 : S / 2 ^ t5 % 2 = 1 := (nI_eq (a := S / 2 ^ t5 % 2) (b := 1) (by omega) (by omega)).mp c_80
                have hm6 : n1 < 6 := by
                  have h9 : pcl S (t5 + 1) ≤ 6 := pcl_6 (by omega) hc9 (by omega)
                  have h8 : pcl S (t5 + 1) = pcl S t5 + S / 2 ^ t5 % 2 := rfl
                  omega
                refine lv_aload_n hx hb dX11_clash_83 rfl (lv_at hl 0 rfl) ?_
                refine va_get (D := G.1) (ci := 10) (v := .ref (g 330)) (C := RX11) (T := TX11) (N := 25) hx hb hts inlX11 hown hG.1 hP 315 (wl_at (by decide) hmo) rfl 22 (by decide) (hts (.fieldLink RX11 54 "SwornListsModel" "which" "[I") w_126) (fun _ h9 => h9) rfl dX11_clash_84 ?_
                refine lv_iload_n hx hb dX11_clash_87 rfl (lv_at hl 3 rfl) ?_
                refine lv_iload hx hb dX11_clash_88 (lv_at hl 5 rfl) ?_
                refine va_iast hx hb hG.1 hP (wl_D hg f_2) hS 330 0 (wl_at (by decide) hwh_) rfl (vp_in_nI (by omega) (by decide)) dX11_clash_90 (fun H locs hP _ hS => ?_)
                have hP := (congrArg (fun z9 => va_P G.1 vwCl ((wl g f_2).set 330 (g 330, eI G 6 ((upd wh1 z9 (nI t5))))) H) (show Int32.toNatClampNeg (nI n1) = n1 from nI_clamp (by omega))).mp hP
                obtain ⟨f_12, hP, e_12, o_12⟩ := b_put (by decide) hP
                have hwh_ : f_12 330 = eI G 6 (upd wh1 n1 (nI t5)) := e_12
                refine lv_iinc (v := nI (n1 + 1)) (lv' := [(3, .int (nI (n1 + 1))), (0, .ref (g 315)), (1, .int (nI S)), (2, .int (-1)), (4, .int (nI wy)), (5, .int (nI t5))]) hx hb dX11_clash_91 hl (k := 3) rfl (nI_add n1 1) (by decide) rfl (fun ls hl => ?_)
                refine lv_iload hx hb dX11_clash_94 (lv_at hl 4 rfl) ?_
                refine lv_bipush (v := 6) hx hb dX11_clash_96 (by decide) ?_
                refine lv_imul hx hb dX11_clash_98 ?_
                refine my_bei (v := nI (6 * wy)) ((pk_mul wy 6).trans (congrArg nI (show wy * 6 = 6 * wy by omega))) ?_
                refine lv_istore (lv' := [(4, .int (nI (6 * wy))), (3, .int (nI (n1 + 1))), (0, .ref (g 315)), (1, .int (nI S)), (2, .int (-1)), (5, .int (nI t5))]) hx hb dX11_clash_99 hl (by decide) rfl (fun ls hl => ?_)
                refine lv_iinc (v := nI (t5 + 1)) (lv' := [(5, .int (nI (t5 + 1))), (4, .int (nI (6 * wy))), (3, .int (nI (n1 + 1))), (0, .ref (g 315)), (1, .int (nI S)), (2, .int (-1))]) hx hb dX11_clash_101 hl (k := 5) rfl (nI_add t5 1) (by decide) rfl (fun ls hl => ?_)
                refine lv_goto (tgt := 62) hx hb dX11_clash_104 (by decide) ?_
                replace hmo := ((o_12 315 (by decide))).trans hmo
                replace hss_ := ((o_12 316 (by decide))).trans hss_
                replace him_ := ((o_12 317 (by decide))).trans him_
                replace hkq_ := ((o_12 318 (by decide))).trans hkq_
                replace hsp_ := ((o_12 319 (by decide))).trans hsp_
                replace hwi_ := ((o_12 320 (by decide))).trans hwi_
                replace hwa_ := ((o_12 321 (by decide))).trans hwa_
                replace hva_ := ((o_12 322 (by decide))).trans hva_
                replace hbo_ := ((o_12 323 (by decide))).trans hbo_
                replace hju_ := ((o_12 324 (by decide))).trans hju_
                replace hdr_ := ((o_12 325 (by decide))).trans hdr_
                replace hdn_ := ((o_12 326 (by decide))).trans hdn_
                replace hsl_ := ((o_12 327 (by decide))).trans hsl_
                replace hax_ := ((o_12 328 (by decide))).trans hax_
                replace hlf_ := ((o_12 329 (by decide))).trans hlf_
                replace hw6_ := ((o_12 331 (by decide))).trans hw6_
                replace hb6_ := ((o_12 332 (by decide))).trans hb6_
                exact ih_2 (t5 + 1) (n1 + 1) (6 * wy) (upd wh1 n1 (nI t5)) f_12 _ _ _ (by omega) (by show _ = pcl S t5 + S / 2 ^ t5 % 2; omega) (six_m hwy) (wh_p hwh (by omega)) (se_p hse) (by omega) (hmo) (hss_) (him_) (hkq_) (hsp_) (hwi_) (hwa_) (hva_) (hbo_) (hju_) (hdr_) (hdn_) (hsl_) (hax_) (hlf_) (hwh_) (hw6_) (hb6_) (fun j hj => ((o_12 j (by omega))).trans (o_2 j (by omega))) hP hS (lv_sub hl [3, 4, 5, 2, 1, 0] rfl)
        exact key2 (nt + 1) 0 0 1 wh f _ _ _ (by omega) (rfl) (by decide) (fun k hk => absurd hk (Nat.not_lt_zero _)) (fun z hz => absurd hz (Nat.not_lt_zero _)) (by omega) (hmo) (hss_) (him_) (hkq_) (hsp_) (hwi_) (hwa_) (hva_) (hbo_) (hju_) (hdr_) (hdn_) (hsl_) (hax_) (hlf_) (hwh_) (hw6_) (hb6_) (fun j _ => rfl) hP hS (lv_sub hl [3, 4, 5, 2, 1, 0] rfl)
      · refine lv_aload_n hx hb dX11_clash_34 rfl (lv_at hl 0 rfl) ?_
        refine lv_iconst (v := 4) hx hb dX11_clash_35 (by decide) ?_
        refine lv_iload_n hx hb dX11_clash_36 rfl (lv_at hl 2 rfl) ?_
        refine rd_calli (va_runV (As := [.int 4, .int a2]) (rest := []) ⟨hx, hb, hml, hown, hts⟩ (r_is l G g hg f ab2 be2 sn wn sa ly rdy (nI fd) ss 4 nt a2 hmo hss_ (by first | assumption | omega | decide) (hst.h4) (by first | assumption | omega | decide)) (my_cwV hts ok_X11_is w_186 rfl rfl ⟨Nat.le_of_ble_eq_true rfl, Nat.le_of_ble_eq_true rfl⟩) ⟨bP.blind, va_recv hG.1 hP (ci := 10) (q0 := 315) rfl (wl_at (by decide) hmo), fun U hU hW => ⟨rfl, by rw [hU]; exact hP, kG.warm hW hG⟩⟩ rfl rfl hl.1 rfl (lv_room (Nat.le_of_ble_eq_true rfl)) dX11_clash_37 ⟨Nat.le_of_ble_eq_true rfl, Nat.le_of_ble_eq_true rfl⟩) (fun r hr9 => ?_)
        subst hr9
        refine my_ifeq (tgt := 51) hx hb dX11_clash_40 (by decide) (fun c_40 => ?_) (fun c_40 => ?_)
        · refine lv_bipush (v := (-10)) hx hb dX11_clash_51 (by decide) ?_
          refine W_q9 hQ9 ?_
          exact W.iret (v := (-10)) hx hb hr (fun _ hT9 _ => ⟨⟨_, f, rfl, (⟨mJ_mk (ab2) (be2) (sn) (wn) (sa) (ly) (rdy) (fd) (np) (nf) (nr) (na) (nt) (sp) (wi) (wa) (va) (bo) (ju) (dr) (dn) (sl) (ax) (lf) (wh) (w6) (b6) (hmo) (hss_) (him_) (hkq_) (hsp_) (hwi_) (hwa_) (hva_) (hbo_) (hju_) (hdr_) (hdn_) (hsl_) (hax_) (hlf_) (hwh_) (hw6_) (hb6_) (hst) (by omega) (hdn) (hi0) (hi1) (hrd), fun j hj => rfl⟩), by rw [hT9]; exact hP⟩, hS.F hT9⟩) hS.2.2 dX11_clash_53
        · obtain ⟨wt, hwt, rfl⟩ := inN_nat (by omega) c_40
          refine lv_iload_n hx hb dX11_clash_43 rfl (lv_at hl 1 rfl) ?_
          refine lv_iload_n hx hb dX11_clash_44 rfl (lv_at hl 2 rfl) ?_
          refine lv_ishr hx hb dX11_clash_45 ?_
          refine my_bei (v := nI (S / 2 ^ wt)) (shr_t (by omega) (by omega)) ?_
          refine lv_iconst (v := 1) hx hb dX11_clash_46 (by decide) ?_
          refine lv_iand hx hb dX11_clash_47 ?_
          refine my_bei (v := nI (S / 2 ^ wt % 2)) (and_1 (Nat.lt_of_le_of_lt (Nat.div_le_self _ _) (by omega))) ?_
          refine lv_if_ne (tgt := 54) hx hb dX11_clash_48 (by decide) (fun c_48 => ?_) (fun c_48 => ?_)
          · have k_48 : ¬ S / 2 ^ wt % 2 = 0 := fun z9 => c_48 ((nI_eq (a := S / 2 ^ wt % 2) (b := 0) (by omega) (by omega)).mpr z9)
            refine lv_iconst (v := 0) hx hb dX11_clash_54 (by decide) ?_
            refine lv_istore_n (lv' := [(3, .int 0), (0, .ref (g 315)), (1, .int (nI S)), (2, .int (nI wt))]) hx hb dX11_clash_55 rfl hl (by decide) rfl (fun ls hl => ?_)
            refine lv_iconst (v := 1) hx hb dX11_clash_56 (by decide) ?_
            refine lv_istore (lv' := [(4, .int 1), (3, .int 0), (0, .ref (g 315)), (1, .int (nI S)), (2, .int (nI wt))]) hx hb dX11_clash_57 hl (by decide) rfl (fun ls hl => ?_)
            refine lv_iconst (v := 0) hx hb dX11_clash_59 (by decide) ?_
            refine lv_istore (lv' := [(5, .int 0), (4, .int 1), (3, .int 0), (0, .ref (g 315)), (1, .int (nI S)), (2, .int (nI wt))]) hx hb dX11_clash_60 hl (by decide) rfl (fun ls hl => ?_)
            have key9 : ∀ (n9_9 : Nat) (t5 : Nat) (n1 : Nat) (wy : Nat) (wh1 : Nat → Int32) (f_13 : Nat → va_E) (H : Heap) (locs : List Loc) (ls : Array Slot), (t5 ≤ nt) → (n1 = pcl S t5) → (wy ≤ 6 ^ n1) → (∀ k, k < n1 → ∃ z, z < 10 ∧ wh1 k = nI z) → (∀ z, z < t5 → S / 2 ^ z % 2 = 1 → ∃ k, k < n1 ∧ wh1 k = nI z) → nt - t5 < n9_9 → f_13 315 = eO 10 [.ref (g 316), .ref (g 317), .ref (g 318), .long ab2, .long be2, .int sn, .ref (g 319), .ref (g 320), .int wn, .ref (g 321), .ref (g 322), .int sa, .int ly, .int rdy, .int (nI fd), .ref (g 323), .ref (g 324), .ref (g 325), .ref (g 326), .ref (g 327), .ref (g 328), .ref (g 329), .ref (g 330), .ref (g 331), .ref (g 332)] → f_13 316 = eI G 2246 ss → f_13 317 = eI G 4492 im → f_13 318 = eZ G 2 kq → f_13 319 = eI G 70 sp → f_13 320 = eI G 70 wi → f_13 321 = eI G 70 wa → f_13 322 = eJ G 70 va → f_13 323 = eI G 11 bo → f_13 324 = eI G 11 ju → f_13 325 = eI G 264 dr → f_13 326 = eI G 11 dn → f_13 327 = eI G 330 sl → f_13 328 = eI G 44 ax → f_13 329 = eI G 30 lf → f_13 330 = eI G 6 wh1 → f_13 331 = eI G 6 w6 → f_13 332 = eI G 6 b6 → (∀ j, j ≠ 330 → f_13 j = f j) → va_P G.1 vwCl (wl g f_13) H → va_S (gA g) s.heap H locs → lv_has ls 10 [(0, .ref (g 315)), (1, .int (nI S)), (2, .int (nI wt)), (3, .int (nI n1)), (4, .int (nI wy)), (5, .int (nI t5))] → W p l e (headSpec (wsT yX11_clash cX11_clash 10 (some .int)) ({ frames := 3, cells := 0, slots := 0, locals := 73 })).room s m ([.ref (g 315), .int (nI S), .int (nI wt)] : List Value).toArray below meth c H locs 0 0 Q9 (F0 m 62 ls []) := by
              intro n9_9
              induction n9_9 with
              | zero => intro t5 n1 wy wh1 f_13 H locs ls ht5 hn1 hwy hwh hse hn9_9; exact absurd hn9_9 (Nat.not_lt_zero _)
              | succ n9_9 ih_9 =>
                intro t5 n1 wy wh1 f_13 H locs ls ht5 hn1 hwy hwh hse hn9_9 hmo hss_ him_ hkq_ hsp_ hwi_ hwa_ hva_ hbo_ hju_ hdr_ hdn_ hsl_ hax_ hlf_ hwh_ hw6_ hb6_ o_13 hP hS hl
                refine lv_iload hx hb dX11_clash_62 (lv_at hl 5 rfl) ?_
                refine lv_aload_n hx hb dX11_clash_64 rfl (lv_at hl 0 rfl) ?_
                refine va_get (D := G.1) (ci := 10) (v := .ref (g 316)) (C := RX11) (T := TX11) (N := 25) hx hb hts inlX11 hown hG.1 hP 315 (wl_at (by decide) hmo) rfl 0 (by decide) (hts (.fieldLink RX11 7 "SwornListsModel" "st" "[I") w_112) (fun _ h9 => h9) rfl dX11_clash_65 ?_
                refine lv_iconst (v := 4) hx hb dX11_clash_68 (by decide) ?_
                refine va_iald hx hb hG.1 hP 316 0 (wl_at (by decide) hss_) rfl (by unfold vp_in; decide) dX11_clash_69 ?_
                refine my_bei (v := ss 4) (rfl) ?_
                refine my_bei (v := nI nt) (hst.h4) ?_
                refine lv_icmp_ge (tgt := 107) hx hb dX11_clash_70 (by decide) (fun c_70 => ?_) (fun c_70 => ?_)
                · have k_70 : nt ≤ t5 := (nI_leI (a := nt) (b := t5) (by omega) (by omega)).mp c_70
                  have hm5 : pcl S t5 ≤ 6 := pcl_6 (by omega) hc9 (by omega)
                  have hwb := six_b hwy (by omega)
                  refine lv_iconst (v := (-1)) hx hb dX11_clash_107 (by decide) ?_
                  refine lv_istore (lv' := [(5, .int (-1)), (0, .ref (g 315)), (1, .int (nI S)), (2, .int (nI wt)), (3, .int (nI n1)), (4, .int (nI wy))]) hx hb dX11_clash_108 hl (by decide) rfl (fun ls hl => ?_)
                  refine lv_iconst (v := 0) hx hb dX11_clash_110 (by decide) ?_
                  refine lv_istore (lv' := [(6, .int 0), (5, .int (-1)), (0, .ref (g 315)), (1, .int (nI S)), (2, .int (nI wt)), (3, .int (nI n1)), (4, .int (nI wy))]) hx hb dX11_clash_111 hl (by decide) rfl (fun ls hl => ?_)
                  have key10 : ∀ (n9_10 : Nat) (cd : Nat) (w : Int32) (w61 : Nat → Int32) (b61 : Nat → Int32) (f_14 : Nat → va_E) (H : Heap) (locs : List Loc) (ls : Array Slot), (cd ≤ wy) → wy - cd < n9_10 → f_14 315 = eO 10 [.ref (g 316), .ref (g 317), .ref (g 318), .long ab2, .long be2, .int sn, .ref (g 319), .ref (g 320), .int wn, .ref (g 321), .ref (g 322), .int sa, .int ly, .int rdy, .int (nI fd), .ref (g 323), .ref (g 324), .ref (g 325), .ref (g 326), .ref (g 327), .ref (g 328), .ref (g 329), .ref (g 330), .ref (g 331), .ref (g 332)] → f_14 316 = eI G 2246 ss → f_14 317 = eI G 4492 im → f_14 318 = eZ G 2 kq → f_14 319 = eI G 70 sp → f_14 320 = eI G 70 wi → f_14 321 = eI G 70 wa → f_14 322 = eJ G 70 va → f_14 323 = eI G 11 bo → f_14 324 = eI G 11 ju → f_14 325 = eI G 264 dr → f_14 326 = eI G 11 dn → f_14 327 = eI G 330 sl → f_14 328 = eI G 44 ax → f_14 329 = eI G 30 lf → f_14 330 = eI G 6 wh1 → f_14 331 = eI G 6 w61 → f_14 332 = eI G 6 b61 → (∀ j, (j ≠ 331 ∧ j ≠ 332) → f_14 j = f_13 j) → va_P G.1 vwCl (wl g f_14) H → va_S (gA g) s.heap H locs → lv_has ls 10 [(0, .ref (g 315)), (1, .int (nI S)), (2, .int (nI wt)), (3, .int (nI n1)), (4, .int (nI wy)), (5, .int w), (6, .int (nI cd))] → W p l e (headSpec (wsT yX11_clash cX11_clash 10 (some .int)) ({ frames := 3, cells := 0, slots := 0, locals := 73 })).room s m ([.ref (g 315), .int (nI S), .int (nI wt)] : List Value).toArray below meth c H locs 0 0 Q9 (F0 m 113 ls []) := by
                    intro n9_10
                    induction n9_10 with
                    | zero => intro cd w w61 b61 f_14 H locs ls hcd hn9_10; exact absurd hn9_10 (Nat.not_lt_zero _)
                    | succ n9_10 ih_10 =>
                      intro cd w w61 b61 f_14 H locs ls hcd hn9_10 hmo hss_ him_ hkq_ hsp_ hwi_ hwa_ hva_ hbo_ hju_ hdr_ hdn_ hsl_ hax_ hlf_ hwh_ hw6_ hb6_ o_14 hP hS hl
                      refine lv_iload hx hb dX11_clash_113 (lv_at hl 6 rfl) ?_
                      refine lv_iload hx hb dX11_clash_115 (lv_at hl 4 rfl) ?_
                      refine lv_icmp_ge (tgt := 234) hx hb dX11_clash_117 (by decide) (fun c_117 => ?_) (fun c_117 => ?_)
                      · have k_117 : wy ≤ cd := (nI_leI (a := wy) (b := cd) (by omega) (by omega)).mp c_117
                        refine lv_iconst (v := 0) hx hb dX11_clash_234 (by decide) ?_
                        refine lv_istore (lv' := [(6, .int 0), (0, .ref (g 315)), (1, .int (nI S)), (2, .int (nI wt)), (3, .int (nI n1)), (4, .int (nI wy)), (5, .int w)]) hx hb dX11_clash_235 hl (by decide) rfl (fun ls hl => ?_)
                        obtain ⟨k0, hk0, ek0⟩ := hse wt (by omega) (by omega)
                        have key11 : ∀ (n9_11 : Nat) (k8 : Nat) (f_15 : Nat → va_E) (H : Heap) (locs : List Loc) (ls : Array Slot), (k8 ≤ k0) → k0 - k8 < n9_11 → f_15 315 = eO 10 [.ref (g 316), .ref (g 317), .ref (g 318), .long ab2, .long be2, .int sn, .ref (g 319), .ref (g 320), .int wn, .ref (g 321), .ref (g 322), .int sa, .int ly, .int rdy, .int (nI fd), .ref (g 323), .ref (g 324), .ref (g 325), .ref (g 326), .ref (g 327), .ref (g 328), .ref (g 329), .ref (g 330), .ref (g 331), .ref (g 332)] → f_15 316 = eI G 2246 ss → f_15 317 = eI G 4492 im → f_15 318 = eZ G 2 kq → f_15 319 = eI G 70 sp → f_15 320 = eI G 70 wi → f_15 321 = eI G 70 wa → f_15 322 = eJ G 70 va → f_15 323 = eI G 11 bo → f_15 324 = eI G 11 ju → f_15 325 = eI G 264 dr → f_15 326 = eI G 11 dn → f_15 327 = eI G 330 sl → f_15 328 = eI G 44 ax → f_15 329 = eI G 30 lf → f_15 330 = eI G 6 wh1 → f_15 331 = eI G 6 w61 → f_15 332 = eI G 6 b61 → (∀ j, (j < 333 ∨ 333 ≤ j) → f_15 j = f_14 j) → va_P G.1 vwCl (wl g f_15) H → va_S (gA g) s.heap H locs → lv_has ls 10 [(0, .ref (g 315)), (2, .int (nI wt)), (5, .int w), (6, .int (nI k8))] → W p l e (headSpec (wsT yX11_clash cX11_clash 10 (some .int)) ({ frames := 3, cells := 0, slots := 0, locals := 73 })).room s m ([.ref (g 315), .int (nI S), .int (nI wt)] : List Value).toArray below meth c H locs 0 0 Q9 (F0 m 237 ls []) := by
                          intro n9_11
                          induction n9_11 with
                          | zero => intro k8 f_15 H locs ls hk8 hn9_11; exact absurd hn9_11 (Nat.not_lt_zero _)
                          | succ n9_11 ih_11 =>
                            intro k8 f_15 H locs ls hk8 hn9_11 hmo hss_ him_ hkq_ hsp_ hwi_ hwa_ hva_ hbo_ hju_ hdr_ hdn_ hsl_ hax_ hlf_ hwh_ hw6_ hb6_ o_15 hP hS hl
                            refine lv_iload_n hx hb dX11_clash_237 rfl (lv_at hl 1 rfl) ?_
                            refine lv_iconst (v := (-1)) hx hb dX11_clash_238 (by decide) ?_
                            refine lv_icmp_eq (tgt := 259) hx hb dX11_clash_239 (by decide) (fun c_239 => absurd c_239 (nI_m1 (by omega))) (fun c_239 => ?_)
                            refine lv_aload_n hx hb dX11_clash_242 rfl (lv_at hl 0 rfl) ?_
                            refine va_get (D := G.1) (ci := 10) (v := .ref (g 330)) (C := RX11) (T := TX11) (N := 25) hx hb hts inlX11 hown hG.1 hP 315 (wl_at (by decide) hmo) rfl 22 (by decide) (hts (.fieldLink RX11 54 "SwornListsModel" "which" "[I") w_126) (fun _ h9 => h9) rfl dX11_clash_243 ?_
                            refine lv_iload hx hb dX11_clash_246 (lv_at hl 3 rfl) ?_
                            refine va_iald hx hb hG.1 hP 330 0 (wl_at (by decide) hwh_) rfl (vp_in_nI (by omega) (by decide)) dX11_clash_248 ?_
                            refine my_bei (v := wh1 k8) (congrArg wh1 (nI_clamp (n := k8) (by omega))) ?_
                            refine lv_iload_n hx hb dX11_clash_249 rfl (lv_at hl 1 rfl) ?_
                            refine lv_icmp_eq (tgt := 259) hx hb dX11_clash_250 (by decide) (fun c_250 => ?_) (fun c_250 => ?_)
                            · refine lv_iload hx hb dX11_clash_259 (lv_at hl 2 rfl) ?_
                              refine lv_iconst (v := (-1)) hx hb dX11_clash_261 (by decide) ?_
                              refine lv_icmp_ne (tgt := 270) hx hb dX11_clash_262 (by decide) (fun c_262 => ?_) (fun c_262 => ?_)
                              · refine lv_iload_n hx hb dX11_clash_270 rfl (lv_at hl 1 rfl) ?_
                                refine lv_iconst (v := (-1)) hx hb dX11_clash_271 (by decide) ?_
                                refine lv_icmp_ne (tgt := 280) hx hb dX11_clash_272 (by decide) (fun c_272 => ?_) (fun c_272 => absurd c_272 (nI_m1 (by omega)))
                                refine lv_aload_n hx hb dX11_clash_280 rfl (lv_at hl 0 rfl) ?_
                                refine va_get (D := G.1) (ci := 10) (v := .ref (g 332)) (C := RX11) (T := TX11) (N := 25) hx hb hts inlX11 hown hG.1 hP 315 (wl_at (by decide) hmo) rfl 24 (by decide) (hts (.fieldLink RX11 60 "SwornListsModel" "best" "[I") w_128) (fun _ h9 => h9) rfl dX11_clash_281 ?_
                                refine lv_iload hx hb dX11_clash_284 (lv_at hl 3 rfl) ?_
                                refine va_iald hx hb hG.1 hP 332 0 (wl_at (by decide) hb6_) rfl (vp_in_nI (by omega) (by decide)) dX11_clash_286 ?_
                                refine my_bei (v := b61 k8) (congrArg b61 (nI_clamp (n := k8) (by omega))) ?_
                                refine W_q9 hQ9 ?_
                                exact W.iret (v := b61 k8) hx hb hr (fun _ hT9 _ => ⟨⟨_, f_15, rfl, (⟨mJ_mk (ab2) (be2) (sn) (wn) (sa) (ly) (rdy) (fd) (np) (nf) (nr) (na) (nt) (sp) (wi) (wa) (va) (bo) (ju) (dr) (dn) (sl) (ax) (lf) (wh1) (w61) (b61) (hmo) (hss_) (him_) (hkq_) (hsp_) (hwi_) (hwa_) (hva_) (hbo_) (hju_) (hdr_) (hdn_) (hsl_) (hax_) (hlf_) (hwh_) (hw6_) (hb6_) (hst) (by omega) (hdn) (hi0) (hi1) (hrd), fun j hj => (((o_15 j (by omega))).trans (o_14 j (by omega))).trans (o_13 j (by omega))⟩), by rw [hT9]; exact hP⟩, hS.F hT9⟩) hS.2.2 dX11_clash_287
                              · refine lv_bipush (v := (-5)) hx hb dX11_clash_265 (by decide) ?_
                                refine lv_goto (tgt := 287) hx hb dX11_clash_267 (by decide) ?_
                                refine W_q9 hQ9 ?_
                                exact W.iret (v := (-5)) hx hb hr (fun _ hT9 _ => ⟨⟨_, f_15, rfl, (⟨mJ_mk (ab2) (be2) (sn) (wn) (sa) (ly) (rdy) (fd) (np) (nf) (nr) (na) (nt) (sp) (wi) (wa) (va) (bo) (ju) (dr) (dn) (sl) (ax) (lf) (wh1) (w61) (b61) (hmo) (hss_) (him_) (hkq_) (hsp_) (hwi_) (hwa_) (hva_) (hbo_) (hju_) (hdr_) (hdn_) (hsl_) (hax_) (hlf_) (hwh_) (hw6_) (hb6_) (hst) (by omega) (hdn) (hi0) (hi1) (hrd), fun j hj => (((o_15 j (by omega))).trans (o_14 j (by omega))).trans (o_13 j (by omega))⟩), by rw [hT9]; exact hP⟩, hS.F hT9⟩) hS.2.2 dX11_clash_287
                            · have h9 : k8 ≠ k0 := fun z => c_250 (by rw [z]; exact ek0)
                              refine lv_iinc (v := nI (k8 + 1)) (lv' := [(6, .int (nI (k8 + 1))), (0, .ref (g 315)), (2, .int (nI wt)), (5, .int w)]) hx hb dX11_clash_253 hl (k := 3) rfl (nI_add k8 1) (by decide) rfl (fun ls hl => ?_)
                              refine lv_goto (tgt := 237) hx hb dX11_clash_256 (by decide) ?_
                              exact ih_11 (k8 + 1) f_15 _ _ _ (by omega) (by omega) (hmo) (hss_) (him_) (hkq_) (hsp_) (hwi_) (hwa_) (hva_) (hbo_) (hju_) (hdr_) (hdn_) (hsl_) (hax_) (hlf_) (hwh_) (hw6_) (hb6_) (fun j hj => (o_15 j (by omega))) hP hS (lv_sub hl [1, 2, 3, 0] rfl)
                        exact key11 (k0 + 1) 0 f_14 _ _ _ (by omega) (by omega) (hmo) (hss_) (him_) (hkq_) (hsp_) (hwi_) (hwa_) (hva_) (hbo_) (hju_) (hdr_) (hdn_) (hsl_) (hax_) (hlf_) (hwh_) (hw6_) (hb6_) (fun j _ => rfl) hP hS (lv_sub hl [1, 3, 6, 0] rfl)
                      · have k_117 : ¬ wy ≤ cd := fun z9 => c_117 ((nI_leI (a := wy) (b := cd) (by omega) (by omega)).mpr z9)
                        refine lv_iload hx hb dX11_clash_120 (lv_at hl 6 rfl) ?_
                        refine lv_istore (lv' := [(7, .int (nI cd)), (0, .ref (g 315)), (1, .int (nI S)), (2, .int (nI wt)), (3, .int (nI n1)), (4, .int (nI wy)), (5, .int w), (6, .int (nI cd))]) hx hb dX11_clash_122 hl (by decide) rfl (fun ls hl => ?_)
                        refine lv_iconst (v := 0) hx hb dX11_clash_124 (by decide) ?_
                        refine lv_istore (lv' := [(8, .int 0), (7, .int (nI cd)), (0, .ref (g 315)), (1, .int (nI S)), (2, .int (nI wt)), (3, .int (nI n1)), (4, .int (nI wy)), (5, .int w), (6, .int (nI cd))]) hx hb dX11_clash_125 hl (by decide) rfl (fun ls hl => ?_)
                        refine lv_iload_n hx hb dX11_clash_127 rfl (lv_at hl 5 rfl) ?_
                        refine lv_iconst (v := 1) hx hb dX11_clash_128 (by decide) ?_
                        refine lv_isub hx hb dX11_clash_129 ?_
                        refine lv_istore (lv' := [(9, .int ((nI n1) - 1)), (8, .int 0), (7, .int (nI cd)), (0, .ref (g 315)), (1, .int (nI S)), (2, .int (nI wt)), (3, .int (nI n1)), (4, .int (nI wy)), (5, .int w), (6, .int (nI cd))]) hx hb dX11_clash_130 hl (by decide) rfl (fun ls hl => ?_)
                        have key12 : ∀ (n9_12 : Nat) (k1 : Nat) (u : Int32) (u2 : Int32) (w62 : Nat → Int32) (f_16 : Nat → va_E) (H : Heap) (locs : List Loc) (ls : Array Slot), (k1 ≤ n1) → k1 < n9_12 → f_16 315 = eO 10 [.ref (g 316), .ref (g 317), .ref (g 318), .long ab2, .long be2, .int sn, .ref (g 319), .ref (g 320), .int wn, .ref (g 321), .ref (g 322), .int sa, .int ly, .int rdy, .int (nI fd), .ref (g 323), .ref (g 324), .ref (g 325), .ref (g 326), .ref (g 327), .ref (g 328), .ref (g 329), .ref (g 330), .ref (g 331), .ref (g 332)] → f_16 316 = eI G 2246 ss → f_16 317 = eI G 4492 im → f_16 318 = eZ G 2 kq → f_16 319 = eI G 70 sp → f_16 320 = eI G 70 wi → f_16 321 = eI G 70 wa → f_16 322 = eJ G 70 va → f_16 323 = eI G 11 bo → f_16 324 = eI G 11 ju → f_16 325 = eI G 264 dr → f_16 326 = eI G 11 dn → f_16 327 = eI G 330 sl → f_16 328 = eI G 44 ax → f_16 329 = eI G 30 lf → f_16 330 = eI G 6 wh1 → f_16 331 = eI G 6 w62 → f_16 332 = eI G 6 b61 → (∀ j, j ≠ 331 → f_16 j = f_14 j) → va_P G.1 vwCl (wl g f_16) H → va_S (gA g) s.heap H locs → lv_has ls 10 [(0, .ref (g 315)), (1, .int (nI S)), (2, .int (nI wt)), (3, .int (nI n1)), (4, .int (nI wy)), (5, .int w), (6, .int (nI cd)), (7, .int u), (8, .int u2), (9, .int (nI k1 - 1))] → W p l e (headSpec (wsT yX11_clash cX11_clash 10 (some .int)) ({ frames := 3, cells := 0, slots := 0, locals := 73 })).room s m ([.ref (g 315), .int (nI S), .int (nI wt)] : List Value).toArray below meth c H locs 0 0 Q9 (F0 m 132 ls []) := by
                          intro n9_12
                          induction n9_12 with
                          | zero => intro k1 u u2 w62 f_16 H locs ls hk1 hn9_12; exact absurd hn9_12 (Nat.not_lt_zero _)
                          | succ n9_12 ih_12 =>
                            intro k1 u u2 w62 f_16 H locs ls hk1 hn9_12 hmo hss_ him_ hkq_ hsp_ hwi_ hwa_ hva_ hbo_ hju_ hdr_ hdn_ hsl_ hax_ hlf_ hwh_ hw6_ hb6_ o_16 hP hS hl
                            refine lv_iload hx hb dX11_clash_132 (lv_at hl 9 rfl) ?_
                            refine lv_if_lt (tgt := 174) hx hb dX11_clash_134 (by decide) (fun c_134 => ?_) (fun c_134 => ?_)
                            · refine lv_iload hx hb dX11_clash_174 (lv_at hl 5 rfl) ?_
                              refine lv_iconst (v := (-1)) hx hb dX11_clash_176 (by decide) ?_
                              refine lv_icmp_eq (tgt := 187) hx hb dX11_clash_177 (by decide) (fun c_177 => ?_) (fun c_177 => ?_)
                              · refine lv_aload_n hx hb dX11_clash_187 rfl (lv_at hl 0 rfl) ?_
                                refine lv_iload_n hx hb dX11_clash_188 rfl (lv_at hl 3 rfl) ?_
                                refine rd_calli (va_runV (As := [.int (nI n1)]) (rest := []) ⟨hx, hb, hml, hown, hts⟩ (r_areApart l G g hg f_16 ab2 be2 sn wn sa ly rdy (nI fd) ss wh1 w62 n1 hmo hss_ hwh_ hw6_ (by first | assumption | omega | decide) (by first | assumption | omega | decide)) (my_cwV hts ok_X11_areApart w_863 rfl rfl ⟨Nat.le_of_ble_eq_true rfl, Nat.le_of_ble_eq_true rfl⟩) ⟨bP.blind, va_recv hG.1 hP (ci := 10) (q0 := 315) rfl (wl_at (by decide) hmo), fun U hU hW => ⟨rfl, by rw [hU]; exact hP, kG.warm hW hG⟩⟩ rfl rfl hl.1 rfl (lv_room (Nat.le_of_ble_eq_true rfl)) dX11_clash_189 ⟨Nat.le_of_ble_eq_true rfl, Nat.le_of_ble_eq_true rfl⟩) (fun r hr9 => ?_)
                                obtain ⟨bz13, rfl⟩ := hr9
                                refine my_ifeq (tgt := 228) hx hb dX11_clash_192 (by decide) (fun c_192 => ?_) (fun c_192 => ?_)
                                · refine lv_iinc (v := nI (cd + 1)) (lv' := [(6, .int (nI (cd + 1))), (0, .ref (g 315)), (1, .int (nI S)), (2, .int (nI wt)), (3, .int (nI n1)), (4, .int (nI wy)), (5, .int w), (7, .int u), (8, .int u2), (9, .int (nI k1 - 1))]) hx hb dX11_clash_228 hl (k := 6) rfl (nI_add cd 1) (by decide) rfl (fun ls hl => ?_)
                                  refine lv_goto (tgt := 113) hx hb dX11_clash_231 (by decide) ?_
                                  exact ih_10 (cd + 1) w w62 b61 f_16 _ _ _ (by omega) (by omega) (hmo) (hss_) (him_) (hkq_) (hsp_) (hwi_) (hwa_) (hva_) (hbo_) (hju_) (hdr_) (hdn_) (hsl_) (hax_) (hlf_) (hwh_) (hw6_) (hb6_) (fun j hj => ((o_16 j (by omega))).trans (o_14 j (by omega))) hP hS (lv_sub hl [1, 2, 3, 4, 5, 6, 0] rfl)
                                · refine lv_iload hx hb dX11_clash_195 (lv_at hl 8 rfl) ?_
                                  refine lv_istore (lv' := [(5, .int u2), (0, .ref (g 315)), (1, .int (nI S)), (2, .int (nI wt)), (3, .int (nI n1)), (4, .int (nI wy)), (6, .int (nI cd)), (7, .int u), (8, .int u2), (9, .int (nI k1 - 1))]) hx hb dX11_clash_197 hl (by decide) rfl (fun ls hl => ?_)
                                  refine lv_iconst (v := 0) hx hb dX11_clash_199 (by decide) ?_
                                  refine lv_istore (lv' := [(9, .int 0), (5, .int u2), (0, .ref (g 315)), (1, .int (nI S)), (2, .int (nI wt)), (3, .int (nI n1)), (4, .int (nI wy)), (6, .int (nI cd)), (7, .int u), (8, .int u2)]) hx hb dX11_clash_200 hl (by decide) rfl (fun ls hl => ?_)
                                  have key14 : ∀ (n9_14 : Nat) (k6 : Nat) (b62 : Nat → Int32) (f_18 : Nat → va_E) (H : Heap) (locs : List Loc) (ls : Array Slot), (k6 ≤ n1) → n1 - k6 < n9_14 → f_18 315 = eO 10 [.ref (g 316), .ref (g 317), .ref (g 318), .long ab2, .long be2, .int sn, .ref (g 319), .ref (g 320), .int wn, .ref (g 321), .ref (g 322), .int sa, .int ly, .int rdy, .int (nI fd), .ref (g 323), .ref (g 324), .ref (g 325), .ref (g 326), .ref (g 327), .ref (g 328), .ref (g 329), .ref (g 330), .ref (g 331), .ref (g 332)] → f_18 316 = eI G 2246 ss → f_18 317 = eI G 4492 im → f_18 318 = eZ G 2 kq → f_18 319 = eI G 70 sp → f_18 320 = eI G 70 wi → f_18 321 = eI G 70 wa → f_18 322 = eJ G 70 va → f_18 323 = eI G 11 bo → f_18 324 = eI G 11 ju → f_18 325 = eI G 264 dr → f_18 326 = eI G 11 dn → f_18 327 = eI G 330 sl → f_18 328 = eI G 44 ax → f_18 329 = eI G 30 lf → f_18 330 = eI G 6 wh1 → f_18 331 = eI G 6 w62 → f_18 332 = eI G 6 b62 → (∀ j, j ≠ 332 → f_18 j = f_16 j) → va_P G.1 vwCl (wl g f_18) H → va_S (gA g) s.heap H locs → lv_has ls 10 [(0, .ref (g 315)), (1, .int (nI S)), (2, .int (nI wt)), (3, .int (nI n1)), (4, .int (nI wy)), (5, .int u2), (6, .int (nI cd)), (9, .int (nI k6))] → W p l e (headSpec (wsT yX11_clash cX11_clash 10 (some .int)) ({ frames := 3, cells := 0, slots := 0, locals := 73 })).room s m ([.ref (g 315), .int (nI S), .int (nI wt)] : List Value).toArray below meth c H locs 0 0 Q9 (F0 m 202 ls []) := by
                                    intro n9_14
                                    induction n9_14 with
                                    | zero => intro k6 b62 f_18 H locs ls hk6 hn9_14; exact absurd hn9_14 (Nat.not_lt_zero _)
                                    | succ n9_14 ih_14 =>
                                      intro k6 b62 f_18 H locs ls hk6 hn9_14 hmo hss_ him_ hkq_ hsp_ hwi_ hwa_ hva_ hbo_ hju_ hdr_ hdn_ hsl_ hax_ hlf_ hwh_ hw6_ hb6_ o_18 hP hS hl
                                      refine lv_iload hx hb dX11_clash_202 (lv_at hl 7 rfl) ?_
                                      refine lv_iload_n hx hb dX11_clash_204 rfl (lv_at hl 3 rfl) ?_
                                      refine lv_icmp_ge (tgt := 228) hx hb dX11_clash_205 (by decide) (fun c_205 => ?_) (fun c_205 => ?_)
                                      · have k_205 : n1 ≤ k6 := (nI_leI (a := n1) (b := k6) (by omega) (by omega)).mp c_205
                                        refine lv_iinc (v := nI (cd + 1)) (lv' := [(6, .int (nI (cd + 1))), (0, .ref (g 315)), (1, .int (nI S)), (2, .int (nI wt)), (3, .int (nI n1)), (4, .int (nI wy)), (5, .int u2), (9, .int (nI k6))]) hx hb dX11_clash_228 hl (k := 6) rfl (nI_add cd 1) (by decide) rfl (fun ls hl => ?_)
                                        refine lv_goto (tgt := 113) hx hb dX11_clash_231 (by decide) ?_
                                        exact ih_10 (cd + 1) u2 w62 b62 f_18 _ _ _ (by omega) (by omega) (hmo) (hss_) (him_) (hkq_) (hsp_) (hwi_) (hwa_) (hva_) (hbo_) (hju_) (hdr_) (hdn_) (hsl_) (hax_) (hlf_) (hwh_) (hw6_) (hb6_) (fun j hj => (((o_18 j (by omega))).trans (o_16 j (by omega))).trans (o_14 j (by omega))) hP hS (lv_sub hl [1, 2, 3, 4, 5, 6, 0] rfl)
                                      · have k_205 : ¬ n1 ≤ k6 := fun z9 => c_205 ((nI_leI (a := n1) (b := k6) (by omega) (by omega)).mpr z9)
                                        refine lv_aload_n hx hb dX11_clash_208 rfl (lv_at hl 0 rfl) ?_
                                        refine va_get (D := G.1) (ci := 10) (v := .ref (g 332)) (C := RX11) (T := TX11) (N := 25) hx hb hts inlX11 hown hG.1 hP 315 (wl_at (by decide) hmo) rfl 24 (by decide) (hts (.fieldLink RX11 60 "SwornListsModel" "best" "[I") w_128) (fun _ h9 => h9) rfl dX11_clash_209 ?_
                                        refine lv_iload hx hb dX11_clash_212 (lv_at hl 7 rfl) ?_
                                        refine lv_aload_n hx hb dX11_clash_214 rfl (lv_at hl 0 rfl) ?_
                                        refine va_get (D := G.1) (ci := 10) (v := .ref (g 331)) (C := RX11) (T := TX11) (N := 25) hx hb hts inlX11 hown hG.1 hP 315 (wl_at (by decide) hmo) rfl 23 (by decide) (hts (.fieldLink RX11 57 "SwornListsModel" "waits6" "[I") w_127) (fun _ h9 => h9) rfl dX11_clash_215 ?_
                                        refine lv_iload hx hb dX11_clash_218 (lv_at hl 7 rfl) ?_
                                        refine va_iald hx hb hG.1 hP 331 0 (wl_at (by decide) hw6_) rfl (vp_in_nI (by omega) (by decide)) dX11_clash_220 ?_
                                        refine my_bei (v := w62 k6) (congrArg w62 (nI_clamp (n := k6) (by omega))) ?_
                                        refine va_iast hx hb hG.1 hP (wl_D hg f_18) hS 332 0 (wl_at (by decide) hb6_) rfl (vp_in_nI (by omega) (by decide)) dX11_clash_221 (fun H locs hP _ hS => ?_)
                                        have hP := (congrArg (fun z9 => va_P G.1 vwCl ((wl g f_18).set 332 (g 332, eI G 6 ((upd b62 z9 (w62 k6))))) H) (show Int32.toNatClampNeg (nI k6) = k6 from nI_clamp (by omega))).mp hP
                                        obtain ⟨f_19, hP, e_19, o_19⟩ := b_put (by decide) hP
                                        have hb6_ : f_19 332 = eI G 6 (upd b62 k6 (w62 k6)) := e_19
                                        refine lv_iinc (v := nI (k6 + 1)) (lv' := [(9, .int (nI (k6 + 1))), (0, .ref (g 315)), (1, .int (nI S)), (2, .int (nI wt)), (3, .int (nI n1)), (4, .int (nI wy)), (5, .int u2), (6, .int (nI cd))]) hx hb dX11_clash_222 hl (k := 7) rfl (nI_add k6 1) (by decide) rfl (fun ls hl => ?_)
                                        refine lv_goto (tgt := 202) hx hb dX11_clash_225 (by decide) ?_
                                        replace hmo := ((o_19 315 (by decide))).trans hmo
                                        replace hss_ := ((o_19 316 (by decide))).trans hss_
                                        replace him_ := ((o_19 317 (by decide))).trans him_
                                        replace hkq_ := ((o_19 318 (by decide))).trans hkq_
                                        replace hsp_ := ((o_19 319 (by decide))).trans hsp_
                                        replace hwi_ := ((o_19 320 (by decide))).trans hwi_
                                        replace hwa_ := ((o_19 321 (by decide))).trans hwa_
                                        replace hva_ := ((o_19 322 (by decide))).trans hva_
                                        replace hbo_ := ((o_19 323 (by decide))).trans hbo_
                                        replace hju_ := ((o_19 324 (by decide))).trans hju_
                                        replace hdr_ := ((o_19 325 (by decide))).trans hdr_
                                        replace hdn_ := ((o_19 326 (by decide))).trans hdn_
                                        replace hsl_ := ((o_19 327 (by decide))).trans hsl_
                                        replace hax_ := ((o_19 328 (by decide))).trans hax_
                                        replace hlf_ := ((o_19 329 (by decide))).trans hlf_
                                        replace hwh_ := ((o_19 330 (by decide))).trans hwh_
                                        replace hw6_ := ((o_19 331 (by decide))).trans hw6_
                                        exact ih_14 (k6 + 1) (upd b62 k6 (w62 k6)) f_19 _ _ _ (by omega) (by omega) (hmo) (hss_) (him_) (hkq_) (hsp_) (hwi_) (hwa_) (hva_) (hbo_) (hju_) (hdr_) (hdn_) (hsl_) (hax_) (hlf_) (hwh_) (hw6_) (hb6_) (fun j hj => ((o_19 j (by omega))).trans (o_18 j (by omega))) hP hS (lv_sub hl [1, 2, 3, 4, 5, 6, 7, 0] rfl)
                                  exact key14 (n1 + 1) 0 b61 f_16 _ _ _ (by omega) (by omega) (hmo) (hss_) (him_) (hkq_) (hsp_) (hwi_) (hwa_) (hva_) (hbo_) (hju_) (hdr_) (hdn_) (hsl_) (hax_) (hlf_) (hwh_) (hw6_) (hb6_) (fun j _ => rfl) hP hS (lv_sub hl [2, 3, 4, 5, 6, 1, 7, 0] rfl)
                              · refine lv_iload hx hb dX11_clash_180 (lv_at hl 8 rfl) ?_
                                refine lv_iload hx hb dX11_clash_182 (lv_at hl 5 rfl) ?_
                                refine lv_icmp_ge (tgt := 228) hx hb dX11_clash_184 (by decide) (fun c_184 => ?_) (fun c_184 => ?_)
                                · refine lv_iinc (v := nI (cd + 1)) (lv' := [(6, .int (nI (cd + 1))), (0, .ref (g 315)), (1, .int (nI S)), (2, .int (nI wt)), (3, .int (nI n1)), (4, .int (nI wy)), (5, .int w), (7, .int u), (8, .int u2), (9, .int (nI k1 - 1))]) hx hb dX11_clash_228 hl (k := 6) rfl (nI_add cd 1) (by decide) rfl (fun ls hl => ?_)
                                  refine lv_goto (tgt := 113) hx hb dX11_clash_231 (by decide) ?_
                                  exact ih_10 (cd + 1) w w62 b61 f_16 _ _ _ (by omega) (by omega) (hmo) (hss_) (him_) (hkq_) (hsp_) (hwi_) (hwa_) (hva_) (hbo_) (hju_) (hdr_) (hdn_) (hsl_) (hax_) (hlf_) (hwh_) (hw6_) (hb6_) (fun j hj => ((o_16 j (by omega))).trans (o_14 j (by omega))) hP hS (lv_sub hl [1, 2, 3, 4, 5, 6, 0] rfl)
                                · refine lv_aload_n hx hb dX11_clash_187 rfl (lv_at hl 0 rfl) ?_
                                  refine lv_iload_n hx hb dX11_clash_188 rfl (lv_at hl 3 rfl) ?_
                                  refine rd_calli (va_runV (As := [.int (nI n1)]) (rest := []) ⟨hx, hb, hml, hown, hts⟩ (r_areApart l G g hg f_16 ab2 be2 sn wn sa ly rdy (nI fd) ss wh1 w62 n1 hmo hss_ hwh_ hw6_ (by first | assumption | omega | decide) (by first | assumption | omega | decide)) (my_cwV hts ok_X11_areApart w_863 rfl rfl ⟨Nat.le_of_ble_eq_true rfl, Nat.le_of_ble_eq_true rfl⟩) ⟨bP.blind, va_recv hG.1 hP (ci := 10) (q0 := 315) rfl (wl_at (by decide) hmo), fun U hU hW => ⟨rfl, by rw [hU]; exact hP, kG.warm hW hG⟩⟩ rfl rfl hl.1 rfl (lv_room (Nat.le_of_ble_eq_true rfl)) dX11_clash_189 ⟨Nat.le_of_ble_eq_true rfl, Nat.le_of_ble_eq_true rfl⟩) (fun r hr9 => ?_)
                                  obtain ⟨bz15, rfl⟩ := hr9
                                  refine my_ifeq (tgt := 228) hx hb dX11_clash_192 (by decide) (fun c_192 => ?_) (fun c_192 => ?_)
                                  · refine lv_iinc (v := nI (cd + 1)) (lv' := [(6, .int (nI (cd + 1))), (0, .ref (g 315)), (1, .int (nI S)), (2, .int (nI wt)), (3, .int (nI n1)), (4, .int (nI wy)), (5, .int w), (7, .int u), (8, .int u2), (9, .int (nI k1 - 1))]) hx hb dX11_clash_228 hl (k := 6) rfl (nI_add cd 1) (by decide) rfl (fun ls hl => ?_)
                                    refine lv_goto (tgt := 113) hx hb dX11_clash_231 (by decide) ?_
                                    exact ih_10 (cd + 1) w w62 b61 f_16 _ _ _ (by omega) (by omega) (hmo) (hss_) (him_) (hkq_) (hsp_) (hwi_) (hwa_) (hva_) (hbo_) (hju_) (hdr_) (hdn_) (hsl_) (hax_) (hlf_) (hwh_) (hw6_) (hb6_) (fun j hj => ((o_16 j (by omega))).trans (o_14 j (by omega))) hP hS (lv_sub hl [1, 2, 3, 4, 5, 6, 0] rfl)
                                  · refine lv_iload hx hb dX11_clash_195 (lv_at hl 8 rfl) ?_
                                    refine lv_istore (lv' := [(5, .int u2), (0, .ref (g 315)), (1, .int (nI S)), (2, .int (nI wt)), (3, .int (nI n1)), (4, .int (nI wy)), (6, .int (nI cd)), (7, .int u), (8, .int u2), (9, .int (nI k1 - 1))]) hx hb dX11_clash_197 hl (by decide) rfl (fun ls hl => ?_)
                                    refine lv_iconst (v := 0) hx hb dX11_clash_199 (by decide) ?_
                                    refine lv_istore (lv' := [(9, .int 0), (5, .int u2), (0, .ref (g 315)), (1, .int (nI S)), (2, .int (nI wt)), (3, .int (nI n1)), (4, .int (nI wy)), (6, .int (nI cd)), (7, .int u), (8, .int u2)]) hx hb dX11_clash_200 hl (by decide) rfl (fun ls hl => ?_)
                                    have key16 : ∀ (n9_16 : Nat) (k6 : Nat) (b62 : Nat → Int32) (f_21 : Nat → va_E) (H : Heap) (locs : List Loc) (ls : Array Slot), (k6 ≤ n1) → n1 - k6 < n9_16 → f_21 315 = eO 10 [.ref (g 316), .ref (g 317), .ref (g 318), .long ab2, .long be2, .int sn, .ref (g 319), .ref (g 320), .int wn, .ref (g 321), .ref (g 322), .int sa, .int ly, .int rdy, .int (nI fd), .ref (g 323), .ref (g 324), .ref (g 325), .ref (g 326), .ref (g 327), .ref (g 328), .ref (g 329), .ref (g 330), .ref (g 331), .ref (g 332)] → f_21 316 = eI G 2246 ss → f_21 317 = eI G 4492 im → f_21 318 = eZ G 2 kq → f_21 319 = eI G 70 sp → f_21 320 = eI G 70 wi → f_21 321 = eI G 70 wa → f_21 322 = eJ G 70 va → f_21 323 = eI G 11 bo → f_21 324 = eI G 11 ju → f_21 325 = eI G 264 dr → f_21 326 = eI G 11 dn → f_21 327 = eI G 330 sl → f_21 328 = eI G 44 ax → f_21 329 = eI G 30 lf → f_21 330 = eI G 6 wh1 → f_21 331 = eI G 6 w62 → f_21 332 = eI G 6 b62 → (∀ j, j ≠ 332 → f_21 j = f_16 j) → va_P G.1 vwCl (wl g f_21) H → va_S (gA g) s.heap H locs → lv_has ls 10 [(0, .ref (g 315)), (1, .int (nI S)), (2, .int (nI wt)), (3, .int (nI n1)), (4, .int (nI wy)), (5, .int u2), (6, .int (nI cd)), (9, .int (nI k6))] → W p l e (headSpec (wsT yX11_clash cX11_clash 10 (some .int)) ({ frames := 3, cells := 0, slots := 0, locals := 73 })).room s m ([.ref (g 315), .int (nI S), .int (nI wt)] : List Value).toArray below meth c H locs 0 0 Q9 (F0 m 202 ls []) := by
                                      intro n9_16
                                      induction n9_16 with
                                      | zero => intro k6 b62 f_21 H locs ls hk6 hn9_16; exact absurd hn9_16 (Nat.not_lt_zero _)
                                      | succ n9_16 ih_16 =>
                                        intro k6 b62 f_21 H locs ls hk6 hn9_16 hmo hss_ him_ hkq_ hsp_ hwi_ hwa_ hva_ hbo_ hju_ hdr_ hdn_ hsl_ hax_ hlf_ hwh_ hw6_ hb6_ o_21 hP hS hl
                                        refine lv_iload hx hb dX11_clash_202 (lv_at hl 7 rfl) ?_
                                        refine lv_iload_n hx hb dX11_clash_204 rfl (lv_at hl 3 rfl) ?_
                                        refine lv_icmp_ge (tgt := 228) hx hb dX11_clash_205 (by decide) (fun c_205 => ?_) (fun c_205 => ?_)
                                        · have k_205 : n1 ≤ k6 := (nI_leI (a := n1) (b := k6) (by omega) (by omega)).mp c_205
                                          refine lv_iinc (v := nI (cd + 1)) (lv' := [(6, .int (nI (cd + 1))), (0, .ref (g 315)), (1, .int (nI S)), (2, .int (nI wt)), (3, .int (nI n1)), (4, .int (nI wy)), (5, .int u2), (9, .int (nI k6))]) hx hb dX11_clash_228 hl (k := 6) rfl (nI_add cd 1) (by decide) rfl (fun ls hl => ?_)
                                          refine lv_goto (tgt := 113) hx hb dX11_clash_231 (by decide) ?_
                                          exact ih_10 (cd + 1) u2 w62 b62 f_21 _ _ _ (by omega) (by omega) (hmo) (hss_) (him_) (hkq_) (hsp_) (hwi_) (hwa_) (hva_) (hbo_) (hju_) (hdr_) (hdn_) (hsl_) (hax_) (hlf_) (hwh_) (hw6_) (hb6_) (fun j hj => (((o_21 j (by omega))).trans (o_16 j (by omega))).trans (o_14 j (by omega))) hP hS (lv_sub hl [1, 2, 3, 4, 5, 6, 0] rfl)
                                        · have k_205 : ¬ n1 ≤ k6 := fun z9 => c_205 ((nI_leI (a := n1) (b := k6) (by omega) (by omega)).mpr z9)
                                          refine lv_aload_n hx hb dX11_clash_208 rfl (lv_at hl 0 rfl) ?_
                                          refine va_get (D := G.1) (ci := 10) (v := .ref (g 332)) (C := RX11) (T := TX11) (N := 25) hx hb hts inlX11 hown hG.1 hP 315 (wl_at (by decide) hmo) rfl 24 (by decide) (hts (.fieldLink RX11 60 "SwornListsModel" "best" "[I") w_128) (fun _ h9 => h9) rfl dX11_clash_209 ?_
                                          refine lv_iload hx hb dX11_clash_212 (lv_at hl 7 rfl) ?_
                                          refine lv_aload_n hx hb dX11_clash_214 rfl (lv_at hl 0 rfl) ?_
                                          refine va_get (D := G.1) (ci := 10) (v := .ref (g 331)) (C := RX11) (T := TX11) (N := 25) hx hb hts inlX11 hown hG.1 hP 315 (wl_at (by decide) hmo) rfl 23 (by decide) (hts (.fieldLink RX11 57 "SwornListsModel" "waits6" "[I") w_127) (fun _ h9 => h9) rfl dX11_clash_215 ?_
                                          refine lv_iload hx hb dX11_clash_218 (lv_at hl 7 rfl) ?_
                                          refine va_iald hx hb hG.1 hP 331 0 (wl_at (by decide) hw6_) rfl (vp_in_nI (by omega) (by decide)) dX11_clash_220 ?_
                                          refine my_bei (v := w62 k6) (congrArg w62 (nI_clamp (n := k6) (by omega))) ?_
                                          refine va_iast hx hb hG.1 hP (wl_D hg f_21) hS 332 0 (wl_at (by decide) hb6_) rfl (vp_in_nI (by omega) (by decide)) dX11_clash_221 (fun H locs hP _ hS => ?_)
                                          have hP := (congrArg (fun z9 => va_P G.1 vwCl ((wl g f_21).set 332 (g 332, eI G 6 ((upd b62 z9 (w62 k6))))) H) (show Int32.toNatClampNeg (nI k6) = k6 from nI_clamp (by omega))).mp hP
                                          obtain ⟨f_22, hP, e_22, o_22⟩ := b_put (by decide) hP
                                          have hb6_ : f_22 332 = eI G 6 (upd b62 k6 (w62 k6)) := e_22
                                          refine lv_iinc (v := nI (k6 + 1)) (lv' := [(9, .int (nI (k6 + 1))), (0, .ref (g 315)), (1, .int (nI S)), (2, .int (nI wt)), (3, .int (nI n1)), (4, .int (nI wy)), (5, .int u2), (6, .int (nI cd))]) hx hb dX11_clash_222 hl (k := 7) rfl (nI_add k6 1) (by decide) rfl (fun ls hl => ?_)
                                          refine lv_goto (tgt := 202) hx hb dX11_clash_225 (by decide) ?_
                                          replace hmo := ((o_22 315 (by decide))).trans hmo
                                          replace hss_ := ((o_22 316 (by decide))).trans hss_
                                          replace him_ := ((o_22 317 (by decide))).trans him_
                                          replace hkq_ := ((o_22 318 (by decide))).trans hkq_
                                          replace hsp_ := ((o_22 319 (by decide))).trans hsp_
                                          replace hwi_ := ((o_22 320 (by decide))).trans hwi_
                                          replace hwa_ := ((o_22 321 (by decide))).trans hwa_
                                          replace hva_ := ((o_22 322 (by decide))).trans hva_
                                          replace hbo_ := ((o_22 323 (by decide))).trans hbo_
                                          replace hju_ := ((o_22 324 (by decide))).trans hju_
                                          replace hdr_ := ((o_22 325 (by decide))).trans hdr_
                                          replace hdn_ := ((o_22 326 (by decide))).trans hdn_
                                          replace hsl_ := ((o_22 327 (by decide))).trans hsl_
                                          replace hax_ := ((o_22 328 (by decide))).trans hax_
                                          replace hlf_ := ((o_22 329 (by decide))).trans hlf_
                                          replace hwh_ := ((o_22 330 (by decide))).trans hwh_
                                          replace hw6_ := ((o_22 331 (by decide))).trans hw6_
                                          exact ih_16 (k6 + 1) (upd b62 k6 (w62 k6)) f_22 _ _ _ (by omega) (by omega) (hmo) (hss_) (him_) (hkq_) (hsp_) (hwi_) (hwa_) (hva_) (hbo_) (hju_) (hdr_) (hdn_) (hsl_) (hax_) (hlf_) (hwh_) (hw6_) (hb6_) (fun j hj => ((o_22 j (by omega))).trans (o_21 j (by omega))) hP hS (lv_sub hl [1, 2, 3, 4, 5, 6, 7, 0] rfl)
                                    exact key16 (n1 + 1) 0 b61 f_16 _ _ _ (by omega) (by omega) (hmo) (hss_) (him_) (hkq_) (hsp_) (hwi_) (hwa_) (hva_) (hbo_) (hju_) (hdr_) (hdn_) (hsl_) (hax_) (hlf_) (hwh_) (hw6_) (hb6_) (fun j _ => rfl) hP hS (lv_sub hl [2, 3, 4, 5, 6, 1, 7, 0] rfl)
                            · have hk0 := m1_ge (by omega) c_134
                              obtain ⟨k2, rfl⟩ : ∃ z, k1 = z + 1 := ⟨k1 - 1, by omega⟩
                              rw [nI_pred] at hl
                              refine lv_aload_n hx hb dX11_clash_137 rfl (lv_at hl 0 rfl) ?_
                              refine va_get (D := G.1) (ci := 10) (v := .ref (g 331)) (C := RX11) (T := TX11) (N := 25) hx hb hts inlX11 hown hG.1 hP 315 (wl_at (by decide) hmo) rfl 23 (by decide) (hts (.fieldLink RX11 57 "SwornListsModel" "waits6" "[I") w_127) (fun _ h9 => h9) rfl dX11_clash_138 ?_
                              refine lv_iload hx hb dX11_clash_141 (lv_at hl 9 rfl) ?_
                              refine lv_iload hx hb dX11_clash_143 (lv_at hl 7 rfl) ?_
                              refine lv_bipush (v := 6) hx hb dX11_clash_145 (by decide) ?_
                              refine lv_irem hx hb dX11_clash_147 (by decide) ?_
                              refine va_iast hx hb hG.1 hP (wl_D hg f_16) hS 331 0 (wl_at (by decide) hw6_) rfl (vp_in_nI (by omega) (by decide)) dX11_clash_148 (fun H locs hP _ hS => ?_)
                              have hP := (congrArg (fun z9 => va_P G.1 vwCl ((wl g f_16).set 331 (g 331, eI G 6 ((upd w62 z9 (u - u / 6 * 6))))) H) (show Int32.toNatClampNeg (nI k2) = k2 from nI_clamp (by omega))).mp hP
                              obtain ⟨f_23, hP, e_23, o_23⟩ := b_put (by decide) hP
                              have hw6_ : f_23 331 = eI G 6 (upd w62 k2 (u - u / 6 * 6)) := e_23
                              refine lv_iload hx hb dX11_clash_149 (lv_at hl 7 rfl) ?_
                              refine lv_bipush (v := 6) hx hb dX11_clash_151 (by decide) ?_
                              refine lv_idiv hx hb dX11_clash_153 (by decide) ?_
                              refine lv_istore (lv' := [(7, .int (u / 6)), (0, .ref (g 315)), (1, .int (nI S)), (2, .int (nI wt)), (3, .int (nI n1)), (4, .int (nI wy)), (5, .int w), (6, .int (nI cd)), (8, .int u2), (9, .int (nI k2))]) hx hb dX11_clash_154 hl (by decide) rfl (fun ls hl => ?_)
                              refine lv_iload hx hb dX11_clash_156 (lv_at hl 8 rfl) ?_
                              refine lv_aload_n hx hb dX11_clash_158 rfl (lv_at hl 1 rfl) ?_
                              replace hmo := ((o_23 315 (by decide))).trans hmo
                              refine va_get (D := G.1) (ci := 10) (v := .ref (g 331)) (C := RX11) (T := TX11) (N := 25) hx hb hts inlX11 hown hG.1 hP 315 (wl_at (by decide) hmo) rfl 23 (by decide) (hts (.fieldLink RX11 57 "SwornListsModel" "waits6" "[I") w_127) (fun _ h9 => h9) rfl dX11_clash_159 ?_
                              refine lv_iload hx hb dX11_clash_162 (lv_at hl 9 rfl) ?_
                              refine va_iald hx hb hG.1 hP 331 0 (wl_at (by decide) hw6_) rfl (vp_in_nI (by omega) (by decide)) dX11_clash_164 ?_
                              refine my_bei (v := (upd w62 k2 (u - u / 6 * 6)) k2) (congrArg (upd w62 k2 (u - u / 6 * 6)) (nI_clamp (n := k2) (by omega))) ?_
                              refine my_bei (v := u - u / 6 * 6) (pk_us) ?_
                              refine lv_iadd hx hb dX11_clash_165 ?_
                              refine lv_istore (lv' := [(8, .int (u2 + (u - u / 6 * 6))), (7, .int (u / 6)), (0, .ref (g 315)), (1, .int (nI S)), (2, .int (nI wt)), (3, .int (nI n1)), (4, .int (nI wy)), (5, .int w), (6, .int (nI cd)), (9, .int (nI k2))]) hx hb dX11_clash_166 hl (by decide) rfl (fun ls hl => ?_)
                              refine lv_iinc (v := nI k2 - 1) (lv' := [(9, .int (nI k2 - 1)), (8, .int (u2 + (u - u / 6 * 6))), (7, .int (u / 6)), (0, .ref (g 315)), (1, .int (nI S)), (2, .int (nI wt)), (3, .int (nI n1)), (4, .int (nI wy)), (5, .int w), (6, .int (nI cd))]) hx hb dX11_clash_168 hl (k := 9) rfl (m1_sub _) (by decide) rfl (fun ls hl => ?_)
                              refine lv_goto (tgt := 132) hx hb dX11_clash_171 (by decide) ?_
                              replace hss_ := ((o_23 316 (by decide))).trans hss_
                              replace him_ := ((o_23 317 (by decide))).trans him_
                              replace hkq_ := ((o_23 318 (by decide))).trans hkq_
                              replace hsp_ := ((o_23 319 (by decide))).trans hsp_
                              replace hwi_ := ((o_23 320 (by decide))).trans hwi_
                              replace hwa_ := ((o_23 321 (by decide))).trans hwa_
                              replace hva_ := ((o_23 322 (by decide))).trans hva_
                              replace hbo_ := ((o_23 323 (by decide))).trans hbo_
                              replace hju_ := ((o_23 324 (by decide))).trans hju_
                              replace hdr_ := ((o_23 325 (by decide))).trans hdr_
                              replace hdn_ := ((o_23 326 (by decide))).trans hdn_
                              replace hsl_ := ((o_23 327 (by decide))).trans hsl_
                              replace hax_ := ((o_23 328 (by decide))).trans hax_
                              replace hlf_ := ((o_23 329 (by decide))).trans hlf_
                              replace hwh_ := ((o_23 330 (by decide))).trans hwh_
                              replace hb6_ := ((o_23 332 (by decide))).trans hb6_
                              exact ih_12 k2 (u / 6) (u2 + (u - u / 6 * 6)) (upd w62 k2 (u - u / 6 * 6)) f_23 _ _ _ (by omega) (by omega) (hmo) (hss_) (him_) (hkq_) (hsp_) (hwi_) (hwa_) (hva_) (hbo_) (hju_) (hdr_) (hdn_) (hsl_) (hax_) (hlf_) (hwh_) (hw6_) (hb6_) (fun j hj => ((o_23 j (by omega))).trans (o_16 j (by omega))) hP hS (lv_sub hl [3, 4, 5, 6, 7, 8, 9, 2, 1, 0] rfl)
                        exact key12 (n1 + 1) n1 (nI cd) 0 w61 f_14 _ _ _ (by omega) (by omega) (hmo) (hss_) (him_) (hkq_) (hsp_) (hwi_) (hwa_) (hva_) (hbo_) (hju_) (hdr_) (hdn_) (hsl_) (hax_) (hlf_) (hwh_) (hw6_) (hb6_) (fun j _ => rfl) hP hS (lv_sub hl [3, 4, 5, 6, 7, 8, 9, 2, 1, 0] rfl)
                  exact key10 (wy + 1) 0 (-1) w6 b6 f_13 _ _ _ (by omega) (by omega) (hmo) (hss_) (him_) (hkq_) (hsp_) (hwi_) (hwa_) (hva_) (hbo_) (hju_) (hdr_) (hdn_) (hsl_) (hax_) (hlf_) (hwh_) (hw6_) (hb6_) (fun j _ => rfl) hP hS (lv_sub hl [2, 3, 4, 5, 6, 1, 0] rfl)
                · have k_70 : ¬ nt ≤ t5 := fun z9 => c_70 ((nI_leI (a := nt) (b := t5) (by omega) (by omega)).mpr z9)
                  have hm5 : pcl S t5 ≤ 6 := pcl_6 (by omega) hc9 (by omega)
                  have hwb := six_b hwy (by omega)
                  refine lv_iload_n hx hb dX11_clash_73 rfl (lv_at hl 1 rfl) ?_
                  refine lv_iload hx hb dX11_clash_74 (lv_at hl 5 rfl) ?_
                  refine lv_ishr hx hb dX11_clash_76 ?_
                  refine my_bei (v := nI (S / 2 ^ t5)) (shr_t (by omega) (by omega)) ?_
                  refine lv_iconst (v := 1) hx hb dX11_clash_77 (by decide) ?_
                  refine lv_iand hx hb dX11_clash_78 ?_
                  refine my_bei (v := nI (S / 2 ^ t5 % 2)) (and_1 (Nat.lt_of_le_of_lt (Nat.div_le_self _ _) (by omega))) ?_
                  refine lv_iconst (v := 1) hx hb dX11_clash_79 (by decide) ?_
                  refine lv_icmp_ne (tgt := 101) hx hb dX11_clash_80 (by decide) (fun c_80 => ?_) (fun c_80 => ?_)
                  · have k_80 : ¬ S / 2 ^ t5 % 2 = 1 := fun z9 => c_80 ((nI_eq (a := S / 2 ^ t5 % 2) (b := 1) (by omega) (by omega)).mpr z9)
                    refine lv_iinc (v := nI (t5 + 1)) (lv' := [(5, .int (nI (t5 + 1))), (0, .ref (g 315)), (1, .int (nI S)), (2, .int (nI wt)), (3, .int (nI n1)), (4, .int (nI wy))]) hx hb dX11_clash_101 hl (k := 5) rfl (nI_add t5 1) (by decide) rfl (fun ls hl => ?_)
                    refine lv_goto (tgt := 62) hx hb dX11_clash_104 (by decide) ?_
                    exact ih_9 (t5 + 1) n1 wy wh1 f_13 _ _ _ (by omega) (by show _ = pcl S t5 + S / 2 ^ t5 % 2; omega) (hwy) (hwh) (se_n hse k_80) (by omega) (hmo) (hss_) (him_) (hkq_) (hsp_) (hwi_) (hwa_) (hva_) (hbo_) (hju_) (hdr_) (hdn_) (hsl_) (hax_) (hlf_) (hwh_) (hw6_) (hb6_) (fun j hj => (o_13 j (by omega))) hP hS (lv_sub hl [1, 2, 3, 4, 5, 0] rfl)
                  · have k_80 : S / 2 ^ t5 % 2 = 1 := (nI_eq (a := S / 2 ^ t5 % 2) (b := 1) (by omega) (by omega)).mp c_80
                    have hm6 : n1 < 6 := by
                      have h9 : pcl S (t5 + 1) ≤ 6 := pcl_6 (by omega) hc9 (by omega)
                      have h8 : pcl S (t5 + 1) = pcl S t5 + S / 2 ^ t5 % 2 := rfl
                      omega
                    refine lv_aload_n hx hb dX11_clash_83 rfl (lv_at hl 0 rfl) ?_
                    refine va_get (D := G.1) (ci := 10) (v := .ref (g 330)) (C := RX11) (T := TX11) (N := 25) hx hb hts inlX11 hown hG.1 hP 315 (wl_at (by decide) hmo) rfl 22 (by decide) (hts (.fieldLink RX11 54 "SwornListsModel" "which" "[I") w_126) (fun _ h9 => h9) rfl dX11_clash_84 ?_
                    refine lv_iload_n hx hb dX11_clash_87 rfl (lv_at hl 3 rfl) ?_
                    refine lv_iload hx hb dX11_clash_88 (lv_at hl 5 rfl) ?_
                    refine va_iast hx hb hG.1 hP (wl_D hg f_13) hS 330 0 (wl_at (by decide) hwh_) rfl (vp_in_nI (by omega) (by decide)) dX11_clash_90 (fun H locs hP _ hS => ?_)
                    have hP := (congrArg (fun z9 => va_P G.1 vwCl ((wl g f_13).set 330 (g 330, eI G 6 ((upd wh1 z9 (nI t5))))) H) (show Int32.toNatClampNeg (nI n1) = n1 from nI_clamp (by omega))).mp hP
                    obtain ⟨f_24, hP, e_24, o_24⟩ := b_put (by decide) hP
                    have hwh_ : f_24 330 = eI G 6 (upd wh1 n1 (nI t5)) := e_24
                    refine lv_iinc (v := nI (n1 + 1)) (lv' := [(3, .int (nI (n1 + 1))), (0, .ref (g 315)), (1, .int (nI S)), (2, .int (nI wt)), (4, .int (nI wy)), (5, .int (nI t5))]) hx hb dX11_clash_91 hl (k := 3) rfl (nI_add n1 1) (by decide) rfl (fun ls hl => ?_)
                    refine lv_iload hx hb dX11_clash_94 (lv_at hl 4 rfl) ?_
                    refine lv_bipush (v := 6) hx hb dX11_clash_96 (by decide) ?_
                    refine lv_imul hx hb dX11_clash_98 ?_
                    refine my_bei (v := nI (6 * wy)) ((pk_mul wy 6).trans (congrArg nI (show wy * 6 = 6 * wy by omega))) ?_
                    refine lv_istore (lv' := [(4, .int (nI (6 * wy))), (3, .int (nI (n1 + 1))), (0, .ref (g 315)), (1, .int (nI S)), (2, .int (nI wt)), (5, .int (nI t5))]) hx hb dX11_clash_99 hl (by decide) rfl (fun ls hl => ?_)
                    refine lv_iinc (v := nI (t5 + 1)) (lv' := [(5, .int (nI (t5 + 1))), (4, .int (nI (6 * wy))), (3, .int (nI (n1 + 1))), (0, .ref (g 315)), (1, .int (nI S)), (2, .int (nI wt))]) hx hb dX11_clash_101 hl (k := 5) rfl (nI_add t5 1) (by decide) rfl (fun ls hl => ?_)
                    refine lv_goto (tgt := 62) hx hb dX11_clash_104 (by decide) ?_
                    replace hmo := ((o_24 315 (by decide))).trans hmo
                    replace hss_ := ((o_24 316 (by decide))).trans hss_
                    replace him_ := ((o_24 317 (by decide))).trans him_
                    replace hkq_ := ((o_24 318 (by decide))).trans hkq_
                    replace hsp_ := ((o_24 319 (by decide))).trans hsp_
                    replace hwi_ := ((o_24 320 (by decide))).trans hwi_
                    replace hwa_ := ((o_24 321 (by decide))).trans hwa_
                    replace hva_ := ((o_24 322 (by decide))).trans hva_
                    replace hbo_ := ((o_24 323 (by decide))).trans hbo_
                    replace hju_ := ((o_24 324 (by decide))).trans hju_
                    replace hdr_ := ((o_24 325 (by decide))).trans hdr_
                    replace hdn_ := ((o_24 326 (by decide))).trans hdn_
                    replace hsl_ := ((o_24 327 (by decide))).trans hsl_
                    replace hax_ := ((o_24 328 (by decide))).trans hax_
                    replace hlf_ := ((o_24 329 (by decide))).trans hlf_
                    replace hw6_ := ((o_24 331 (by decide))).trans hw6_
                    replace hb6_ := ((o_24 332 (by decide))).trans hb6_
                    exact ih_9 (t5 + 1) (n1 + 1) (6 * wy) (upd wh1 n1 (nI t5)) f_24 _ _ _ (by omega) (by show _ = pcl S t5 + S / 2 ^ t5 % 2; omega) (six_m hwy) (wh_p hwh (by omega)) (se_p hse) (by omega) (hmo) (hss_) (him_) (hkq_) (hsp_) (hwi_) (hwa_) (hva_) (hbo_) (hju_) (hdr_) (hdn_) (hsl_) (hax_) (hlf_) (hwh_) (hw6_) (hb6_) (fun j hj => ((o_24 j (by omega))).trans (o_13 j (by omega))) hP hS (lv_sub hl [3, 4, 5, 2, 1, 0] rfl)
            exact key9 (nt + 1) 0 0 1 wh f _ _ _ (by omega) (rfl) (by decide) (fun k hk => absurd hk (Nat.not_lt_zero _)) (fun z hz => absurd hz (Nat.not_lt_zero _)) (by omega) (hmo) (hss_) (him_) (hkq_) (hsp_) (hwi_) (hwa_) (hva_) (hbo_) (hju_) (hdr_) (hdn_) (hsl_) (hax_) (hlf_) (hwh_) (hw6_) (hb6_) (fun j _ => rfl) hP hS (lv_sub hl [3, 4, 5, 2, 1, 0] rfl)
          · have k_48 : S / 2 ^ wt % 2 = 0 := (nI_eq (a := S / 2 ^ wt % 2) (b := 0) (by omega) (by omega)).mp c_48
            refine lv_bipush (v := (-10)) hx hb dX11_clash_51 (by decide) ?_
            refine W_q9 hQ9 ?_
            exact W.iret (v := (-10)) hx hb hr (fun _ hT9 _ => ⟨⟨_, f, rfl, (⟨mJ_mk (ab2) (be2) (sn) (wn) (sa) (ly) (rdy) (fd) (np) (nf) (nr) (na) (nt) (sp) (wi) (wa) (va) (bo) (ju) (dr) (dn) (sl) (ax) (lf) (wh) (w6) (b6) (hmo) (hss_) (him_) (hkq_) (hsp_) (hwi_) (hwa_) (hva_) (hbo_) (hju_) (hdr_) (hdn_) (hsl_) (hax_) (hlf_) (hwh_) (hw6_) (hb6_) (hst) (by omega) (hdn) (hi0) (hi1) (hrd), fun j hj => rfl⟩), by rw [hT9]; exact hP⟩, hS.F hT9⟩) hS.2.2 dX11_clash_53
theorem j2_clash (l : Launch) (G : gW) (g : Nat → Nat) (hg : gOK g) (f : Nat → va_E) (ss : Nat → Int32) (im : Nat → Int32) (kq : Nat → Int32) (a1 : Int32) (a2 : Int32) (hI : mJ G g f ss im kq) (htA : ∀ n : Nat, n ≤ 10 → ss 4 = nI n → trOK ss n) : Met l yX11_clash (wsT yX11_clash cX11_clash 10 (some .int)) ({ frames := 3, cells := 0, slots := 0, locals := 73 }) (bP G g f [.ref (g 315), .int a1, .int a2]) (bQi G g (fun (z9 : Int32) (f' : Nat → va_E) => (mJ G g f' ss im kq) ∧ ∀ j, j < 315 → f' j = f j)) 0 0 (gA g) := mJ_elim hI (fun ab2 be2 sn wn sa ly rdy fd np nf nr na nt sp wi wa va bo ju dr dn sl ax lf wh w6 b6 hmo hss_ him_ hkq_ hsp_ hwi_ hwa_ hva_ hbo_ hju_ hdr_ hdn_ hsl_ hax_ hlf_ hwh_ hw6_ hb6_ hst hfo hdn hi0 hi1 hrd => jn2_clash l G g hg f ab2 be2 sn wn sa ly rdy fd ss np nf nr na nt im kq sp wi wa va bo ju dr dn sl ax lf wh w6 b6 a1 a2 hmo hss_ him_ hkq_ hsp_ hwi_ hwa_ hva_ hbo_ hju_ hdr_ hdn_ hsl_ hax_ hlf_ hwh_ hw6_ hb6_ hst hfo hdn hi0 hi1 hrd htA)


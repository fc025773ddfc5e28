set_option maxHeartbeats 4000000 in
set_option maxRecDepth 100000 in
theorem r_tellsOfE (l : Launch) (G : gW) (g : Nat → Nat) (hg : gOK g) (f : Nat → va_E) (ab2 : Int64) (be2 : Int64) (sn : Nat) (wn : Int32) (sa : Int32) (ly : Int32) (rdy : Int32) (fd : Nat) (ss : Nat → Int32) (ju : Nat → Int32) (sp : Nat → Int32) (wi : Nat → Int32) (va : Nat → Int64) (pn : Nat) (zl : List (Int32 × Int32)) (q : Int32) (hmo : f 315 = eO 10 [.ref (g 316), .ref (g 317), .ref (g 318), .long ab2, .long be2, .int (nI sn), .ref (g 319), .ref (g 320), .int wn, .ref (g 321), .ref (g 322), .int sa, .int ly, .int rdy, .int (nI fd), .ref (g 323), .ref (g 324), .ref (g 325), .ref (g 326), .ref (g 327), .ref (g 328), .ref (g 329), .ref (g 330), .ref (g 331), .ref (g 332)]) (hss_ : f 316 = eI G 2246 ss) (hsp_ : f 319 = eI G 70 sp) (hwi_ : f 320 = eI G 70 wi) (hva_ : f 322 = eJ G 70 va) (hju_ : f 324 = eI G 11 ju) (hfo : fd ≤ 10) (hpn : pn < 30) (hsn : sn ≤ 70) (hls : stp sp wi sn = zl) (hlen : zl.length = sn) (hdl : dpl zl = some 1) (hol : okO zl) (hdy : ∀ o, o < fd → 0 ≤ (fun t c => ss (10 * t + c + 1546)) o 0) (hmo2 : ∀ o o', o ≤ o' → o' < fd → (fun t c => ss (10 * t + c + 1546)) o 0 ≤ (fun t c => ss (10 * t + c + 1546)) o' 0) : Met l yX11_tellsOf (wsT yX11_tellsOf cX11_tellsOf 6 (some .long)) ({ frames := 2, cells := 0, slots := 0, locals := 46 }) (bP G g f [.ref (g 315), .int (nI pn), .int q]) (bQl G g (fun (z9 : Int64) (f' : Nat → va_E) => ∃ sa9 : Int32, ∃ ly9 : Int32, ∃ va9 : Nat → Int64, z9 = (ev (ltk (fun i c => ss (4 * i + c + 10)) (satN (fun t c => ss (10 * t + c + 1546)) ju q pn fd) (sinV (fun t c => ss (10 * t + c + 1546)) ju q pn fd) pn q) zl).headD 0 ∧ f' 315 = eO 10 [.ref (g 316), .ref (g 317), .ref (g 318), .long ab2, .long be2, .int (nI sn), .ref (g 319), .ref (g 320), .int wn, .ref (g 321), .ref (g 322), .int sa9, .int ly9, .int rdy, .int (nI fd), .ref (g 323), .ref (g 324), .ref (g 325), .ref (g 326), .ref (g 327), .ref (g 328), .ref (g 329), .ref (g 330), .ref (g 331), .ref (g 332)] ∧ f' 322 = eJ G 70 va9 ∧ ∀ j, (j ≠ 315 ∧ j ≠ 322) → f' j = f j)) 0 0 (gA g) := by
  refine Met.ofW (cc := cX11_tellsOf) (maxL := 6) (ret := (some .long)) (by decide) rfl ?_
  intro p e s m args below meth c s₁ B hml hv
  obtain ⟨rfl, hP, hG⟩ := hv
  have hx := B.exec
  have hb := B.bytes
  have hr := B.returns
  have hts := my_hts (atoms_spec (ws := wsT yX11_tellsOf cX11_tellsOf 6 (some .long)) B.pre)
  have hown : s.vm.findClass RX11 = some m.cls := findClass_of_methodNamed B.named
  have hlocks := B.notSynchronized
  have hS : va_S (gA g) s.heap s.heap [] := va_S.rf
  have hl := lv_entry ([.ref (g 315), .int (nI pn), .int q]) (n := 6) (Nat.le_of_ble_eq_true rfl)
  rw [lg_entry_eq]
  generalize (lg_sl ([.ref (g 315), .int (nI pn), .int q]) ++ List.replicate (6 - (lg_sl ([.ref (g 315), .int (nI pn), .int q])).length) Slot.unset).toArray = ls at hl ⊢
  have hl : lv_has ls 6 [(0, .ref (g 315)), (1, .int (nI pn)), (2, .int q)] := hl
  refine W_q8 (fun Q9 hQ9 => ?_)
  refine lv_aload_n hx hb dX11_tellsOf_0 rfl (lv_at hl 0 rfl) ?_
  refine lv_iload_n hx hb dX11_tellsOf_1 rfl (lv_at hl 1 rfl) ?_
  refine lv_iload_n hx hb dX11_tellsOf_2 rfl (lv_at hl 2 rfl) ?_
  refine b_callv (va_runV (As := [.int (nI pn), .int q]) (rest := []) ⟨hx, hb, hml, hown, hts⟩ (r_findSatE l G g hg f ab2 be2 (nI sn) wn sa ly rdy fd ss ju pn q hmo hss_ hju_ (by first | assumption | omega | decide) (by first | assumption | omega | decide) (by first | assumption | omega | decide) (by first | assumption | omega | decide)) (my_cwV hts ok_X11_findSat w_548 rfl rfl ⟨Nat.le_of_ble_eq_true rfl, Nat.le_of_ble_eq_true rfl⟩) ⟨bP.blind, va_recv hG.1 hP (ci := 10) (q0 := 315) rfl (wl_at (by decide) hmo), fun U hU hW => ⟨rfl, by rw [hU]; exact hP, kG.warm hW hG⟩⟩ rfl rfl hl.1 rfl (lv_room (Nat.le_of_ble_eq_true rfl)) dX11_tellsOf_3 ⟨Nat.le_of_ble_eq_true rfl, Nat.le_of_ble_eq_true rfl⟩) hS (fun f_1 H locs hq9 hP hS => ?_)
  obtain ⟨sa91, ly92, hq_1_0, hx_1_0, hx_1_1, o_1⟩ := hq9
  have hmo : f_1 315 = eO 10 [.ref (g 316), .ref (g 317), .ref (g 318), .long ab2, .long be2, .int (nI sn), .ref (g 319), .ref (g 320), .int wn, .ref (g 321), .ref (g 322), .int (nI sa91), .int ly92, .int rdy, .int (nI fd), .ref (g 323), .ref (g 324), .ref (g 325), .ref (g 326), .ref (g 327), .ref (g 328), .ref (g 329), .ref (g 330), .ref (g 331), .ref (g 332)] := hq_1_0
  refine lv_iconst (v := 0) hx hb dX11_tellsOf_6 (by decide) ?_
  refine lv_istore_n (lv' := [(3, .int 0), (0, .ref (g 315)), (1, .int (nI pn)), (2, .int q)]) hx hb dX11_tellsOf_7 rfl hl (by decide) rfl (fun ls hl => ?_)
  refine lv_iconst (v := 0) hx hb dX11_tellsOf_8 (by decide) ?_
  refine lv_istore (lv' := [(4, .int 0), (3, .int 0), (0, .ref (g 315)), (1, .int (nI pn)), (2, .int q)]) hx hb dX11_tellsOf_9 hl (by decide) rfl (fun ls hl => ?_)
  replace hss_ := ((o_1 316 (by first | decide | omega))).trans hss_
  replace hsp_ := ((o_1 319 (by first | decide | omega))).trans hsp_
  replace hwi_ := ((o_1 320 (by first | decide | omega))).trans hwi_
  replace hva_ := ((o_1 322 (by first | decide | omega))).trans hva_
  have key3 : ∀ (n9_3 : Nat) (i : Nat) (d : Nat) (va1 : Nat → Int64) (f_2 : Nat → va_E) (H : Heap) (locs : List Loc) (ls : Array Slot), (i ≤ sn) → (stj va1 d = ev (ltk (fun i c => ss (4 * i + c + 10)) (satN (fun t c => ss (10 * t + c + 1546)) ju q pn fd) (sinV (fun t c => ss (10 * t + c + 1546)) ju q pn fd) pn q) (zl.drop (sn - i))) → sn - i < n9_3 → f_2 315 = eO 10 [.ref (g 316), .ref (g 317), .ref (g 318), .long ab2, .long be2, .int (nI sn), .ref (g 319), .ref (g 320), .int wn, .ref (g 321), .ref (g 322), .int (nI sa91), .int ly92, .int rdy, .int (nI fd), .ref (g 323), .ref (g 324), .ref (g 325), .ref (g 326), .ref (g 327), .ref (g 328), .ref (g 329), .ref (g 330), .ref (g 331), .ref (g 332)] → f_2 316 = eI G 2246 ss → f_2 319 = eI G 70 sp → f_2 320 = eI G 70 wi → f_2 322 = eJ G 70 va1 → (∀ j, j ≠ 322 → f_2 j = f_1 j) → va_P G.1 vwCl (wl g f_2) H → va_S (gA g) s.heap H locs → lv_has ls 6 [(0, .ref (g 315)), (1, .int (nI pn)), (2, .int q), (3, .int (nI d)), (4, .int (nI i))] → W p l e (headSpec (wsT yX11_tellsOf cX11_tellsOf 6 (some .long)) ({ frames := 2, cells := 0, slots := 0, locals := 46 })).room s m ([.ref (g 315), .int (nI pn), .int q] : List Value).toArray below meth c H locs 0 0 Q9 (F0 m 11 ls []) := by
    intro n9_3
    induction n9_3 with
    | zero => intro i d va1 f_2 H locs ls hi hst hn9_3; exact absurd hn9_3 (Nat.not_lt_zero _)
    | succ n9_3 ih_3 =>
      intro i d va1 f_2 H locs ls hi hst hn9_3 hmo hss_ hsp_ hwi_ hva_ o_2 hP hS hl
      refine lv_iload hx hb dX11_tellsOf_11 (lv_at hl 4 rfl) ?_
      refine lv_aload_n hx hb dX11_tellsOf_13 rfl (lv_at hl 0 rfl) ?_
      refine va_get (D := G.1) (ci := 10) (v := .int (nI sn)) (C := RX11) (T := TX11) (N := 25) hx hb hts inlX11 hown hG.1 hP 315 (wl_at (by decide) hmo) rfl 5 (by decide) (hts (.fieldLink RX11 106 "SwornListsModel" "steps" "I") w_349) (fun _ h9 => h9) rfl dX11_tellsOf_14 ?_
      refine lv_icmp_ge (tgt := 178) hx hb dX11_tellsOf_17 (by decide) (fun c_17 => ?_) (fun c_17 => ?_)
      · have k_17 : sn ≤ i := (nI_leI (a := sn) (b := i) (by omega) (by omega)).mp c_17
        refine lv_aload_n hx hb dX11_tellsOf_178 rfl (lv_at hl 0 rfl) ?_
        refine va_get (D := G.1) (ci := 10) (v := .ref (g 322)) (C := RX11) (T := TX11) (N := 25) hx hb hts inlX11 hown hG.1 hP 315 (wl_at (by decide) hmo) rfl 10 (by decide) (hts (.fieldLink RX11 29 "SwornListsModel" "value" "[J") w_118) (fun _ h9 => h9) rfl dX11_tellsOf_179 ?_
        refine lv_iconst (v := 0) hx hb dX11_tellsOf_182 (by decide) ?_
        refine va_lald hx hb hG.1 hP 322 1 (wl_at (by decide) hva_) rfl (by unfold vp_in; decide) dX11_tellsOf_183 ?_
        refine my_bel (v := va1 0) (rfl) ?_
        have hin : i = sn := by omega
        rw [hin, Nat.sub_self] at hst
        have hst : stj va1 d = ev (ltk (fun i c => ss (4 * i + c + 10)) (satN (fun t c => ss (10 * t + c + 1546)) ju q pn fd) (sinV (fun t c => ss (10 * t + c + 1546)) ju q pn fd) pn q) zl := hst
        have htp : d = 1 := by
            have h9 := congrArg List.length hst
            rw [stj_len, ev_len _ _ hdl] at h9
            exact h9
        refine W_q9 hQ9 ?_
        exact W.lret (v := va1 0) hx hb hr (fun _ hT9 _ => ⟨⟨_, f_2, rfl, (⟨(nI sa91), ly92, va1, by rw [← hst, htp]; rfl, hmo, hva_, fun j hj => ((o_2 j (by omega))).trans (o_1 j (by omega))⟩), by rw [hT9]; exact hP⟩, hS.F hT9⟩) hS.2.2 dX11_tellsOf_184
      · have k_17 : ¬ sn ≤ i := fun z9 => c_17 ((nI_leI (a := sn) (b := i) (by omega) (by omega)).mpr z9)
        have hi9 : i < sn := by omega
        obtain ⟨hdx, hm9⟩ := drp_next hls hi9
        obtain ⟨x9, hx9⟩ : ∃ x, x = (sp i, wi i) := ⟨_, rfl⟩
        obtain ⟨d1, hd1⟩ := dpl_suf _ (zl.drop (sn - i)) 1 (by rw [List.take_append_drop (sn - i) zl]; exact hdl)
        obtain ⟨d2, hd2⟩ := dpl_suf _ (zl.drop (sn - (i + 1))) 1 (by rw [List.take_append_drop (sn - (i + 1)) zl]; exact hdl)
        rw [hdx] at hd2
        have htd : d = d1 := by
          have h9 := congrArg List.length hst
          rw [stj_len, ev_len _ _ hd1] at h9
          exact h9
        have htl : d ≤ i := by
          have h9 := dpl_le _ _ hd1
          rw [List.length_drop, hlen] at h9
          omega
        rcases okX_split (hol _ hm9) with ⟨v9, hv9, ex9⟩ | ex9 | ex9 | ex9 | ex9 | ex9 | ex9 | ex9 | ex9 | ex9 | ex9 | ex9 | ex9 | ex9 | ex9 | ex9 | ex9 | ex9
        · have hs9 : sp i = 0 := congrArg Prod.fst ex9
          have hw9 : wi i = nI v9 := congrArg Prod.snd ex9
          refine lv_aload_n hx hb dX11_tellsOf_20 rfl (lv_at hl 0 rfl) ?_
          refine va_get (D := G.1) (ci := 10) (v := .ref (g 319)) (C := RX11) (T := TX11) (N := 25) hx hb hts inlX11 hown hG.1 hP 315 (wl_at (by decide) hmo) rfl 6 (by decide) (hts (.fieldLink RX11 20 "SwornListsModel" "step" "[I") w_115) (fun _ h9 => h9) rfl dX11_tellsOf_21 ?_
          refine lv_iload hx hb dX11_tellsOf_24 (lv_at hl 4 rfl) ?_
          refine va_iald hx hb hG.1 hP 319 0 (wl_at (by decide) hsp_) rfl (vp_in_nI (by omega) (by decide)) dX11_tellsOf_26 ?_
          refine my_bei (v := sp i) (congrArg sp (nI_clamp (n := i) (by omega))) ?_
          refine my_bei (v := 0) (hs9) ?_
          refine lv_istore (lv' := [(5, .int 0), (0, .ref (g 315)), (1, .int (nI pn)), (2, .int q), (3, .int (nI d)), (4, .int (nI i))]) hx hb dX11_tellsOf_27 hl (by decide) rfl (fun ls hl => ?_)
          refine lv_iload hx hb dX11_tellsOf_29 (lv_at hl 0 rfl) ?_
          refine lv_if_eq (tgt := 40) hx hb dX11_tellsOf_31 (by decide) (fun c_31 => ?_) (fun c_31 => absurd (by decide) c_31)
          refine lv_aload_n hx hb dX11_tellsOf_40 rfl (lv_at hl 1 rfl) ?_
          refine va_get (D := G.1) (ci := 10) (v := .ref (g 322)) (C := RX11) (T := TX11) (N := 25) hx hb hts inlX11 hown hG.1 hP 315 (wl_at (by decide) hmo) rfl 10 (by decide) (hts (.fieldLink RX11 29 "SwornListsModel" "value" "[J") w_118) (fun _ h9 => h9) rfl dX11_tellsOf_41 ?_
          refine lv_iload_n hx hb dX11_tellsOf_44 rfl (lv_at hl 4 rfl) ?_
          refine lv_iload hx hb dX11_tellsOf_45 (lv_at hl 0 rfl) ?_
          refine lv_if_ne (tgt := 61) hx hb dX11_tellsOf_47 (by decide) (fun c_47 => absurd (by decide) c_47) (fun c_47 => ?_)
          refine lv_aload_n hx hb dX11_tellsOf_50 rfl (lv_at hl 1 rfl) ?_
          refine va_get (D := G.1) (ci := 10) (v := .ref (g 320)) (C := RX11) (T := TX11) (N := 25) hx hb hts inlX11 hown hG.1 hP 315 (wl_at (by decide) hmo) rfl 7 (by decide) (hts (.fieldLink RX11 23 "SwornListsModel" "with" "[I") w_116) (fun _ h9 => h9) rfl dX11_tellsOf_51 ?_
          refine lv_iload hx hb dX11_tellsOf_54 (lv_at hl 5 rfl) ?_
          refine va_iald hx hb hG.1 hP 320 0 (wl_at (by decide) hwi_) rfl (vp_in_nI (by omega) (by decide)) dX11_tellsOf_56 ?_
          refine my_bei (v := wi i) (congrArg wi (nI_clamp (n := i) (by omega))) ?_
          refine my_bei (v := nI v9) (hw9) ?_
          refine lv_i2l hx hb dX11_tellsOf_57 rfl ?_
          refine lv_goto (tgt := 74) hx hb dX11_tellsOf_58 (by decide) ?_
          refine va_last hx hb hG.1 hP (wl_D hg f_2) hS 322 1 (wl_at (by decide) hva_) rfl (vp_in_nI (by omega) (by decide)) dX11_tellsOf_74 (fun H locs hP _ hS => ?_)
          have hP := (congrArg (fun z9 => va_P G.1 vwCl ((wl g f_2).set 322 (g 322, eJ G 70 ((vp_updL va1 z9 (Int32.toInt64 (nI v9)))))) H) (show Int32.toNatClampNeg (nI d) = d from nI_clamp (by omega))).mp hP
          obtain ⟨f_3, hP, e_3, o_3⟩ := b_put (by decide) hP
          have hva_ : f_3 322 = eJ G 70 (vp_updL va1 d (Int32.toInt64 (nI v9))) := e_3
          refine lv_iinc (v := nI (d + 1)) (lv' := [(3, .int (nI (d + 1))), (5, .int 0), (0, .ref (g 315)), (1, .int (nI pn)), (2, .int q), (4, .int (nI i))]) hx hb dX11_tellsOf_75 hl (k := 4) rfl (nI_add d 1) (by decide) rfl (fun ls hl => ?_)
          refine lv_goto (tgt := 172) hx hb dX11_tellsOf_78 (by decide) ?_
          refine lv_iinc (v := nI (i + 1)) (lv' := [(4, .int (nI (i + 1))), (3, .int (nI (d + 1))), (5, .int 0), (0, .ref (g 315)), (1, .int (nI pn)), (2, .int q)]) hx hb dX11_tellsOf_172 hl (k := 5) rfl (nI_add i 1) (by decide) rfl (fun ls hl => ?_)
          refine lv_goto (tgt := 11) hx hb dX11_tellsOf_175 (by decide) ?_
          replace hmo := ((o_3 315 (by decide))).trans hmo
          replace hss_ := ((o_3 316 (by decide))).trans hss_
          replace hsp_ := ((o_3 319 (by decide))).trans hsp_
          replace hwi_ := ((o_3 320 (by decide))).trans hwi_
          exact ih_3 (i + 1) (d + 1) (vp_updL va1 d (Int32.toInt64 (nI v9))) f_3 _ _ _ (by omega) (by rw [hdx]; show _ = stE (ltk (fun i c => ss (4 * i + c + 10)) (satN (fun t c => ss (10 * t + c + 1546)) ju q pn fd) (sinV (fun t c => ss (10 * t + c + 1546)) ju q pn fd) pn q) (sp i, wi i) (ev (ltk (fun i c => ss (4 * i + c + 10)) (satN (fun t c => ss (10 * t + c + 1546)) ju q pn fd) (sinV (fun t c => ss (10 * t + c + 1546)) ju q pn fd) pn q) (zl.drop (sn - i))); rw [← hst]; unfold stE; rw [ex9, if_pos rfl]; exact stj_p) (by omega) (hmo) (hss_) (hsp_) (hwi_) (hva_) (fun j hj => ((o_3 j (by omega))).trans (o_2 j (by omega))) hP hS (lv_sub hl [3, 4, 5, 1, 0] rfl)
        · have hs9 : sp i = 1 := congrArg Prod.fst ex9
          have hw9 : wi i = 0 := congrArg Prod.snd ex9
          refine lv_aload_n hx hb dX11_tellsOf_20 rfl (lv_at hl 0 rfl) ?_
          refine va_get (D := G.1) (ci := 10) (v := .ref (g 319)) (C := RX11) (T := TX11) (N := 25) hx hb hts inlX11 hown hG.1 hP 315 (wl_at (by decide) hmo) rfl 6 (by decide) (hts (.fieldLink RX11 20 "SwornListsModel" "step" "[I") w_115) (fun _ h9 => h9) rfl dX11_tellsOf_21 ?_
          refine lv_iload hx hb dX11_tellsOf_24 (lv_at hl 4 rfl) ?_
          refine va_iald hx hb hG.1 hP 319 0 (wl_at (by decide) hsp_) rfl (vp_in_nI (by omega) (by decide)) dX11_tellsOf_26 ?_
          refine my_bei (v := sp i) (congrArg sp (nI_clamp (n := i) (by omega))) ?_
          refine my_bei (v := 1) (hs9) ?_
          refine lv_istore (lv' := [(5, .int 1), (0, .ref (g 315)), (1, .int (nI pn)), (2, .int q), (3, .int (nI d)), (4, .int (nI i))]) hx hb dX11_tellsOf_27 hl (by decide) rfl (fun ls hl => ?_)
          refine lv_iload hx hb dX11_tellsOf_29 (lv_at hl 0 rfl) ?_
          refine lv_if_eq (tgt := 40) hx hb dX11_tellsOf_31 (by decide) (fun c_31 => absurd c_31 (by decide)) (fun c_31 => ?_)
          refine lv_iload hx hb dX11_tellsOf_34 (lv_at hl 0 rfl) ?_
          refine lv_iconst (v := 1) hx hb dX11_tellsOf_36 (by decide) ?_
          refine lv_icmp_ne (tgt := 81) hx hb dX11_tellsOf_37 (by decide) (fun c_37 => absurd (by decide) c_37) (fun c_37 => ?_)
          refine lv_aload_n hx hb dX11_tellsOf_40 rfl (lv_at hl 1 rfl) ?_
          refine va_get (D := G.1) (ci := 10) (v := .ref (g 322)) (C := RX11) (T := TX11) (N := 25) hx hb hts inlX11 hown hG.1 hP 315 (wl_at (by decide) hmo) rfl 10 (by decide) (hts (.fieldLink RX11 29 "SwornListsModel" "value" "[J") w_118) (fun _ h9 => h9) rfl dX11_tellsOf_41 ?_
          refine lv_iload_n hx hb dX11_tellsOf_44 rfl (lv_at hl 4 rfl) ?_
          refine lv_iload hx hb dX11_tellsOf_45 (lv_at hl 0 rfl) ?_
          refine lv_if_ne (tgt := 61) hx hb dX11_tellsOf_47 (by decide) (fun c_47 => ?_) (fun c_47 => absurd c_47 (by decide))
          refine lv_aload_n hx hb dX11_tellsOf_61 rfl (lv_at hl 1 rfl) ?_
          refine lv_iload_n hx hb dX11_tellsOf_62 rfl (lv_at hl 2 rfl) ?_
          refine lv_iload_n hx hb dX11_tellsOf_63 rfl (lv_at hl 3 rfl) ?_
          refine lv_aload_n hx hb dX11_tellsOf_64 rfl (lv_at hl 1 rfl) ?_
          refine va_get (D := G.1) (ci := 10) (v := .ref (g 320)) (C := RX11) (T := TX11) (N := 25) hx hb hts inlX11 hown hG.1 hP 315 (wl_at (by decide) hmo) rfl 7 (by decide) (hts (.fieldLink RX11 23 "SwornListsModel" "with" "[I") w_116) (fun _ h9 => h9) rfl dX11_tellsOf_65 ?_
          refine lv_iload hx hb dX11_tellsOf_68 (lv_at hl 5 rfl) ?_
          refine va_iald hx hb hG.1 hP 320 0 (wl_at (by decide) hwi_) rfl (vp_in_nI (by omega) (by decide)) dX11_tellsOf_70 ?_
          refine my_bei (v := wi i) (congrArg wi (nI_clamp (n := i) (by omega))) ?_
          refine my_bei (v := 0) (hw9) ?_
          refine rd_calll (va_runV (As := [.int (nI pn), .int q, .int 0]) (rest := [.int (nI d), .ref (g 322)]) ⟨hx, hb, hml, hown, hts⟩ (r_named0 l G g hg f_2 ab2 be2 (nI sn) wn sa91 ly92 rdy (nI fd) ss pn (sinV (fun t c => ss (10 * t + c + 1546)) ju q pn fd) q hmo hss_ (by first | assumption | omega | decide) (by have h9 := satN_le (T := (fun t c => ss (10 * t + c + 1546))) (J := ju) (day := q) (p := pn) fd; have h8 := hx_1_0; omega) (hx_1_1)) (my_cwV hts ok_X11_named w_554 rfl rfl ⟨Nat.le_of_ble_eq_true rfl, Nat.le_of_ble_eq_true rfl⟩) ⟨bP.blind, va_recv hG.1 hP (ci := 10) (q0 := 315) rfl (wl_at (by decide) hmo), fun U hU hW => ⟨rfl, by rw [hU]; exact hP, kG.warm hW hG⟩⟩ rfl rfl hl.1 rfl (lv_room (Nat.le_of_ble_eq_true rfl)) dX11_tellsOf_71 ⟨Nat.le_of_ble_eq_true rfl, Nat.le_of_ble_eq_true rfl⟩) (fun r hr9 => ?_)
          subst hr9
          refine my_bel (v := (ltk (fun i c => ss (4 * i + c + 10)) (satN (fun t c => ss (10 * t + c + 1546)) ju q pn fd) (sinV (fun t c => ss (10 * t + c + 1546)) ju q pn fd) pn q) 0) (by rw [hx_1_0]) ?_
          refine va_last hx hb hG.1 hP (wl_D hg f_2) hS 322 1 (wl_at (by decide) hva_) rfl (vp_in_nI (by omega) (by decide)) dX11_tellsOf_74 (fun H locs hP _ hS => ?_)
          have hP := (congrArg (fun z9 => va_P G.1 vwCl ((wl g f_2).set 322 (g 322, eJ G 70 ((vp_updL va1 z9 ((ltk (fun i c => ss (4 * i + c + 10)) (satN (fun t c => ss (10 * t + c + 1546)) ju q pn fd) (sinV (fun t c => ss (10 * t + c + 1546)) ju q pn fd) pn q) 0))))) H) (show Int32.toNatClampNeg (nI d) = d from nI_clamp (by omega))).mp hP
          obtain ⟨f_4, hP, e_4, o_4⟩ := b_put (by decide) hP
          have hva_ : f_4 322 = eJ G 70 (vp_updL va1 d ((ltk (fun i c => ss (4 * i + c + 10)) (satN (fun t c => ss (10 * t + c + 1546)) ju q pn fd) (sinV (fun t c => ss (10 * t + c + 1546)) ju q pn fd) pn q) 0)) := e_4
          refine lv_iinc (v := nI (d + 1)) (lv' := [(3, .int (nI (d + 1))), (5, .int 1), (0, .ref (g 315)), (1, .int (nI pn)), (2, .int q), (4, .int (nI i))]) hx hb dX11_tellsOf_75 hl (k := 4) rfl (nI_add d 1) (by decide) rfl (fun ls hl => ?_)
          refine lv_goto (tgt := 172) hx hb dX11_tellsOf_78 (by decide) ?_
          refine lv_iinc (v := nI (i + 1)) (lv' := [(4, .int (nI (i + 1))), (3, .int (nI (d + 1))), (5, .int 1), (0, .ref (g 315)), (1, .int (nI pn)), (2, .int q)]) hx hb dX11_tellsOf_172 hl (k := 5) rfl (nI_add i 1) (by decide) rfl (fun ls hl => ?_)
          refine lv_goto (tgt := 11) hx hb dX11_tellsOf_175 (by decide) ?_
          replace hmo := ((o_4 315 (by decide))).trans hmo
          replace hss_ := ((o_4 316 (by decide))).trans hss_
          replace hsp_ := ((o_4 319 (by decide))).trans hsp_
          replace hwi_ := ((o_4 320 (by decide))).trans hwi_
          exact ih_3 (i + 1) (d + 1) (vp_updL va1 d ((ltk (fun i c => ss (4 * i + c + 10)) (satN (fun t c => ss (10 * t + c + 1546)) ju q pn fd) (sinV (fun t c => ss (10 * t + c + 1546)) ju q pn fd) pn q) 0)) f_4 _ _ _ (by omega) (by rw [hdx]; show _ = stE (ltk (fun i c => ss (4 * i + c + 10)) (satN (fun t c => ss (10 * t + c + 1546)) ju q pn fd) (sinV (fun t c => ss (10 * t + c + 1546)) ju q pn fd) pn q) (sp i, wi i) (ev (ltk (fun i c => ss (4 * i + c + 10)) (satN (fun t c => ss (10 * t + c + 1546)) ju q pn fd) (sinV (fun t c => ss (10 * t + c + 1546)) ju q pn fd) pn q) (zl.drop (sn - i))); rw [← hst]; unfold stE; rw [ex9, if_neg (by decide), if_pos rfl]; exact stj_p) (by omega) (hmo) (hss_) (hsp_) (hwi_) (hva_) (fun j hj => ((o_4 j (by omega))).trans (o_2 j (by omega))) hP hS (lv_sub hl [3, 4, 5, 1, 0] rfl)
        · have hs9 : sp i = 1 := congrArg Prod.fst ex9
          have hw9 : wi i = 1 := congrArg Prod.snd ex9
          refine lv_aload_n hx hb dX11_tellsOf_20 rfl (lv_at hl 0 rfl) ?_
          refine va_get (D := G.1) (ci := 10) (v := .ref (g 319)) (C := RX11) (T := TX11) (N := 25) hx hb hts inlX11 hown hG.1 hP 315 (wl_at (by decide) hmo) rfl 6 (by decide) (hts (.fieldLink RX11 20 "SwornListsModel" "step" "[I") w_115) (fun _ h9 => h9) rfl dX11_tellsOf_21 ?_
          refine lv_iload hx hb dX11_tellsOf_24 (lv_at hl 4 rfl) ?_
          refine va_iald hx hb hG.1 hP 319 0 (wl_at (by decide) hsp_) rfl (vp_in_nI (by omega) (by decide)) dX11_tellsOf_26 ?_
          refine my_bei (v := sp i) (congrArg sp (nI_clamp (n := i) (by omega))) ?_
          refine my_bei (v := 1) (hs9) ?_
          refine lv_istore (lv' := [(5, .int 1), (0, .ref (g 315)), (1, .int (nI pn)), (2, .int q), (3, .int (nI d)), (4, .int (nI i))]) hx hb dX11_tellsOf_27 hl (by decide) rfl (fun ls hl => ?_)
          refine lv_iload hx hb dX11_tellsOf_29 (lv_at hl 0 rfl) ?_
          refine lv_if_eq (tgt := 40) hx hb dX11_tellsOf_31 (by decide) (fun c_31 => absurd c_31 (by decide)) (fun c_31 => ?_)
          refine lv_iload hx hb dX11_tellsOf_34 (lv_at hl 0 rfl) ?_
          refine lv_iconst (v := 1) hx hb dX11_tellsOf_36 (by decide) ?_
          refine lv_icmp_ne (tgt := 81) hx hb dX11_tellsOf_37 (by decide) (fun c_37 => absurd (by decide) c_37) (fun c_37 => ?_)
          refine lv_aload_n hx hb dX11_tellsOf_40 rfl (lv_at hl 1 rfl) ?_
          refine va_get (D := G.1) (ci := 10) (v := .ref (g 322)) (C := RX11) (T := TX11) (N := 25) hx hb hts inlX11 hown hG.1 hP 315 (wl_at (by decide) hmo) rfl 10 (by decide) (hts (.fieldLink RX11 29 "SwornListsModel" "value" "[J") w_118) (fun _ h9 => h9) rfl dX11_tellsOf_41 ?_
          refine lv_iload_n hx hb dX11_tellsOf_44 rfl (lv_at hl 4 rfl) ?_
          refine lv_iload hx hb dX11_tellsOf_45 (lv_at hl 0 rfl) ?_
          refine lv_if_ne (tgt := 61) hx hb dX11_tellsOf_47 (by decide) (fun c_47 => ?_) (fun c_47 => absurd c_47 (by decide))
          refine lv_aload_n hx hb dX11_tellsOf_61 rfl (lv_at hl 1 rfl) ?_
          refine lv_iload_n hx hb dX11_tellsOf_62 rfl (lv_at hl 2 rfl) ?_
          refine lv_iload_n hx hb dX11_tellsOf_63 rfl (lv_at hl 3 rfl) ?_
          refine lv_aload_n hx hb dX11_tellsOf_64 rfl (lv_at hl 1 rfl) ?_
          refine va_get (D := G.1) (ci := 10) (v := .ref (g 320)) (C := RX11) (T := TX11) (N := 25) hx hb hts inlX11 hown hG.1 hP 315 (wl_at (by decide) hmo) rfl 7 (by decide) (hts (.fieldLink RX11 23 "SwornListsModel" "with" "[I") w_116) (fun _ h9 => h9) rfl dX11_tellsOf_65 ?_
          refine lv_iload hx hb dX11_tellsOf_68 (lv_at hl 5 rfl) ?_
          refine va_iald hx hb hG.1 hP 320 0 (wl_at (by decide) hwi_) rfl (vp_in_nI (by omega) (by decide)) dX11_tellsOf_70 ?_
          refine my_bei (v := wi i) (congrArg wi (nI_clamp (n := i) (by omega))) ?_
          refine my_bei (v := 1) (hw9) ?_
          refine rd_calll (va_runV (As := [.int (nI pn), .int q, .int 1]) (rest := [.int (nI d), .ref (g 322)]) ⟨hx, hb, hml, hown, hts⟩ (r_named1 l G g hg f_2 ab2 be2 (nI sn) wn sa91 ly92 rdy (nI fd) ss pn (sinV (fun t c => ss (10 * t + c + 1546)) ju q pn fd) q hmo hss_ (by first | assumption | omega | decide) (by have h9 := satN_le (T := (fun t c => ss (10 * t + c + 1546))) (J := ju) (day := q) (p := pn) fd; have h8 := hx_1_0; omega) (hx_1_1)) (my_cwV hts ok_X11_named w_554 rfl rfl ⟨Nat.le_of_ble_eq_true rfl, Nat.le_of_ble_eq_true rfl⟩) ⟨bP.blind, va_recv hG.1 hP (ci := 10) (q0 := 315) rfl (wl_at (by decide) hmo), fun U hU hW => ⟨rfl, by rw [hU]; exact hP, kG.warm hW hG⟩⟩ rfl rfl hl.1 rfl (lv_room (Nat.le_of_ble_eq_true rfl)) dX11_tellsOf_71 ⟨Nat.le_of_ble_eq_true rfl, Nat.le_of_ble_eq_true rfl⟩) (fun r hr9 => ?_)
          subst hr9
          refine my_bel (v := (ltk (fun i c => ss (4 * i + c + 10)) (satN (fun t c => ss (10 * t + c + 1546)) ju q pn fd) (sinV (fun t c => ss (10 * t + c + 1546)) ju q pn fd) pn q) 1) (by rw [hx_1_0]) ?_
          refine va_last hx hb hG.1 hP (wl_D hg f_2) hS 322 1 (wl_at (by decide) hva_) rfl (vp_in_nI (by omega) (by decide)) dX11_tellsOf_74 (fun H locs hP _ hS => ?_)
          have hP := (congrArg (fun z9 => va_P G.1 vwCl ((wl g f_2).set 322 (g 322, eJ G 70 ((vp_updL va1 z9 ((ltk (fun i c => ss (4 * i + c + 10)) (satN (fun t c => ss (10 * t + c + 1546)) ju q pn fd) (sinV (fun t c => ss (10 * t + c + 1546)) ju q pn fd) pn q) 1))))) H) (show Int32.toNatClampNeg (nI d) = d from nI_clamp (by omega))).mp hP
          obtain ⟨f_5, hP, e_5, o_5⟩ := b_put (by decide) hP
          have hva_ : f_5 322 = eJ G 70 (vp_updL va1 d ((ltk (fun i c => ss (4 * i + c + 10)) (satN (fun t c => ss (10 * t + c + 1546)) ju q pn fd) (sinV (fun t c => ss (10 * t + c + 1546)) ju q pn fd) pn q) 1)) := e_5
          refine lv_iinc (v := nI (d + 1)) (lv' := [(3, .int (nI (d + 1))), (5, .int 1), (0, .ref (g 315)), (1, .int (nI pn)), (2, .int q), (4, .int (nI i))]) hx hb dX11_tellsOf_75 hl (k := 4) rfl (nI_add d 1) (by decide) rfl (fun ls hl => ?_)
          refine lv_goto (tgt := 172) hx hb dX11_tellsOf_78 (by decide) ?_
          refine lv_iinc (v := nI (i + 1)) (lv' := [(4, .int (nI (i + 1))), (3, .int (nI (d + 1))), (5, .int 1), (0, .ref (g 315)), (1, .int (nI pn)), (2, .int q)]) hx hb dX11_tellsOf_172 hl (k := 5) rfl (nI_add i 1) (by decide) rfl (fun ls hl => ?_)
          refine lv_goto (tgt := 11) hx hb dX11_tellsOf_175 (by decide) ?_
          replace hmo := ((o_5 315 (by decide))).trans hmo
          replace hss_ := ((o_5 316 (by decide))).trans hss_
          replace hsp_ := ((o_5 319 (by decide))).trans hsp_
          replace hwi_ := ((o_5 320 (by decide))).trans hwi_
          exact ih_3 (i + 1) (d + 1) (vp_updL va1 d ((ltk (fun i c => ss (4 * i + c + 10)) (satN (fun t c => ss (10 * t + c + 1546)) ju q pn fd) (sinV (fun t c => ss (10 * t + c + 1546)) ju q pn fd) pn q) 1)) f_5 _ _ _ (by omega) (by rw [hdx]; show _ = stE (ltk (fun i c => ss (4 * i + c + 10)) (satN (fun t c => ss (10 * t + c + 1546)) ju q pn fd) (sinV (fun t c => ss (10 * t + c + 1546)) ju q pn fd) pn q) (sp i, wi i) (ev (ltk (fun i c => ss (4 * i + c + 10)) (satN (fun t c => ss (10 * t + c + 1546)) ju q pn fd) (sinV (fun t c => ss (10 * t + c + 1546)) ju q pn fd) pn q) (zl.drop (sn - i))); rw [← hst]; unfold stE; rw [ex9, if_neg (by decide), if_pos rfl]; exact stj_p) (by omega) (hmo) (hss_) (hsp_) (hwi_) (hva_) (fun j hj => ((o_5 j (by omega))).trans (o_2 j (by omega))) hP hS (lv_sub hl [3, 4, 5, 1, 0] rfl)
        · have hs9 : sp i = 1 := congrArg Prod.fst ex9
          have hw9 : wi i = 2 := congrArg Prod.snd ex9
          refine lv_aload_n hx hb dX11_tellsOf_20 rfl (lv_at hl 0 rfl) ?_
          refine va_get (D := G.1) (ci := 10) (v := .ref (g 319)) (C := RX11) (T := TX11) (N := 25) hx hb hts inlX11 hown hG.1 hP 315 (wl_at (by decide) hmo) rfl 6 (by decide) (hts (.fieldLink RX11 20 "SwornListsModel" "step" "[I") w_115) (fun _ h9 => h9) rfl dX11_tellsOf_21 ?_
          refine lv_iload hx hb dX11_tellsOf_24 (lv_at hl 4 rfl) ?_
          refine va_iald hx hb hG.1 hP 319 0 (wl_at (by decide) hsp_) rfl (vp_in_nI (by omega) (by decide)) dX11_tellsOf_26 ?_
          refine my_bei (v := sp i) (congrArg sp (nI_clamp (n := i) (by omega))) ?_
          refine my_bei (v := 1) (hs9) ?_
          refine lv_istore (lv' := [(5, .int 1), (0, .ref (g 315)), (1, .int (nI pn)), (2, .int q), (3, .int (nI d)), (4, .int (nI i))]) hx hb dX11_tellsOf_27 hl (by decide) rfl (fun ls hl => ?_)
          refine lv_iload hx hb dX11_tellsOf_29 (lv_at hl 0 rfl) ?_
          refine lv_if_eq (tgt := 40) hx hb dX11_tellsOf_31 (by decide) (fun c_31 => absurd c_31 (by decide)) (fun c_31 => ?_)
          refine lv_iload hx hb dX11_tellsOf_34 (lv_at hl 0 rfl) ?_
          refine lv_iconst (v := 1) hx hb dX11_tellsOf_36 (by decide) ?_
          refine lv_icmp_ne (tgt := 81) hx hb dX11_tellsOf_37 (by decide) (fun c_37 => absurd (by decide) c_37) (fun c_37 => ?_)
          refine lv_aload_n hx hb dX11_tellsOf_40 rfl (lv_at hl 1 rfl) ?_
          refine va_get (D := G.1) (ci := 10) (v := .ref (g 322)) (C := RX11) (T := TX11) (N := 25) hx hb hts inlX11 hown hG.1 hP 315 (wl_at (by decide) hmo) rfl 10 (by decide) (hts (.fieldLink RX11 29 "SwornListsModel" "value" "[J") w_118) (fun _ h9 => h9) rfl dX11_tellsOf_41 ?_
          refine lv_iload_n hx hb dX11_tellsOf_44 rfl (lv_at hl 4 rfl) ?_
          refine lv_iload hx hb dX11_tellsOf_45 (lv_at hl 0 rfl) ?_
          refine lv_if_ne (tgt := 61) hx hb dX11_tellsOf_47 (by decide) (fun c_47 => ?_) (fun c_47 => absurd c_47 (by decide))
          refine lv_aload_n hx hb dX11_tellsOf_61 rfl (lv_at hl 1 rfl) ?_
          refine lv_iload_n hx hb dX11_tellsOf_62 rfl (lv_at hl 2 rfl) ?_
          refine lv_iload_n hx hb dX11_tellsOf_63 rfl (lv_at hl 3 rfl) ?_
          refine lv_aload_n hx hb dX11_tellsOf_64 rfl (lv_at hl 1 rfl) ?_
          refine va_get (D := G.1) (ci := 10) (v := .ref (g 320)) (C := RX11) (T := TX11) (N := 25) hx hb hts inlX11 hown hG.1 hP 315 (wl_at (by decide) hmo) rfl 7 (by decide) (hts (.fieldLink RX11 23 "SwornListsModel" "with" "[I") w_116) (fun _ h9 => h9) rfl dX11_tellsOf_65 ?_
          refine lv_iload hx hb dX11_tellsOf_68 (lv_at hl 5 rfl) ?_
          refine va_iald hx hb hG.1 hP 320 0 (wl_at (by decide) hwi_) rfl (vp_in_nI (by omega) (by decide)) dX11_tellsOf_70 ?_
          refine my_bei (v := wi i) (congrArg wi (nI_clamp (n := i) (by omega))) ?_
          refine my_bei (v := 2) (hw9) ?_
          refine rd_calll (va_runV (As := [.int (nI pn), .int q, .int 2]) (rest := [.int (nI d), .ref (g 322)]) ⟨hx, hb, hml, hown, hts⟩ (r_named2 l G g hg f_2 ab2 be2 (nI sn) wn sa91 ly92 rdy (nI fd) ss pn (sinV (fun t c => ss (10 * t + c + 1546)) ju q pn fd) q hmo hss_ (by first | assumption | omega | decide) (by have h9 := satN_le (T := (fun t c => ss (10 * t + c + 1546))) (J := ju) (day := q) (p := pn) fd; have h8 := hx_1_0; omega) (hx_1_1)) (my_cwV hts ok_X11_named w_554 rfl rfl ⟨Nat.le_of_ble_eq_true rfl, Nat.le_of_ble_eq_true rfl⟩) ⟨bP.blind, va_recv hG.1 hP (ci := 10) (q0 := 315) rfl (wl_at (by decide) hmo), fun U hU hW => ⟨rfl, by rw [hU]; exact hP, kG.warm hW hG⟩⟩ rfl rfl hl.1 rfl (lv_room (Nat.le_of_ble_eq_true rfl)) dX11_tellsOf_71 ⟨Nat.le_of_ble_eq_true rfl, Nat.le_of_ble_eq_true rfl⟩) (fun r hr9 => ?_)
          subst hr9
          refine my_bel (v := (ltk (fun i c => ss (4 * i + c + 10)) (satN (fun t c => ss (10 * t + c + 1546)) ju q pn fd) (sinV (fun t c => ss (10 * t + c + 1546)) ju q pn fd) pn q) 2) (by rw [hx_1_0]) ?_
          refine va_last hx hb hG.1 hP (wl_D hg f_2) hS 322 1 (wl_at (by decide) hva_) rfl (vp_in_nI (by omega) (by decide)) dX11_tellsOf_74 (fun H locs hP _ hS => ?_)
          have hP := (congrArg (fun z9 => va_P G.1 vwCl ((wl g f_2).set 322 (g 322, eJ G 70 ((vp_updL va1 z9 ((ltk (fun i c => ss (4 * i + c + 10)) (satN (fun t c => ss (10 * t + c + 1546)) ju q pn fd) (sinV (fun t c => ss (10 * t + c + 1546)) ju q pn fd) pn q) 2))))) H) (show Int32.toNatClampNeg (nI d) = d from nI_clamp (by omega))).mp hP
          obtain ⟨f_6, hP, e_6, o_6⟩ := b_put (by decide) hP
          have hva_ : f_6 322 = eJ G 70 (vp_updL va1 d ((ltk (fun i c => ss (4 * i + c + 10)) (satN (fun t c => ss (10 * t + c + 1546)) ju q pn fd) (sinV (fun t c => ss (10 * t + c + 1546)) ju q pn fd) pn q) 2)) := e_6
          refine lv_iinc (v := nI (d + 1)) (lv' := [(3, .int (nI (d + 1))), (5, .int 1), (0, .ref (g 315)), (1, .int (nI pn)), (2, .int q), (4, .int (nI i))]) hx hb dX11_tellsOf_75 hl (k := 4) rfl (nI_add d 1) (by decide) rfl (fun ls hl => ?_)
          refine lv_goto (tgt := 172) hx hb dX11_tellsOf_78 (by decide) ?_
          refine lv_iinc (v := nI (i + 1)) (lv' := [(4, .int (nI (i + 1))), (3, .int (nI (d + 1))), (5, .int 1), (0, .ref (g 315)), (1, .int (nI pn)), (2, .int q)]) hx hb dX11_tellsOf_172 hl (k := 5) rfl (nI_add i 1) (by decide) rfl (fun ls hl => ?_)
          refine lv_goto (tgt := 11) hx hb dX11_tellsOf_175 (by decide) ?_
          replace hmo := ((o_6 315 (by decide))).trans hmo
          replace hss_ := ((o_6 316 (by decide))).trans hss_
          replace hsp_ := ((o_6 319 (by decide))).trans hsp_
          replace hwi_ := ((o_6 320 (by decide))).trans hwi_
          exact ih_3 (i + 1) (d + 1) (vp_updL va1 d ((ltk (fun i c => ss (4 * i + c + 10)) (satN (fun t c => ss (10 * t + c + 1546)) ju q pn fd) (sinV (fun t c => ss (10 * t + c + 1546)) ju q pn fd) pn q) 2)) f_6 _ _ _ (by omega) (by rw [hdx]; show _ = stE (ltk (fun i c => ss (4 * i + c + 10)) (satN (fun t c => ss (10 * t + c + 1546)) ju q pn fd) (sinV (fun t c => ss (10 * t + c + 1546)) ju q pn fd) pn q) (sp i, wi i) (ev (ltk (fun i c => ss (4 * i + c + 10)) (satN (fun t c => ss (10 * t + c + 1546)) ju q pn fd) (sinV (fun t c => ss (10 * t + c + 1546)) ju q pn fd) pn q) (zl.drop (sn - i))); rw [← hst]; unfold stE; rw [ex9, if_neg (by decide), if_pos rfl]; exact stj_p) (by omega) (hmo) (hss_) (hsp_) (hwi_) (hva_) (fun j hj => ((o_6 j (by omega))).trans (o_2 j (by omega))) hP hS (lv_sub hl [3, 4, 5, 1, 0] rfl)
        · have hs9 : sp i = 1 := congrArg Prod.fst ex9
          have hw9 : wi i = 3 := congrArg Prod.snd ex9
          refine lv_aload_n hx hb dX11_tellsOf_20 rfl (lv_at hl 0 rfl) ?_
          refine va_get (D := G.1) (ci := 10) (v := .ref (g 319)) (C := RX11) (T := TX11) (N := 25) hx hb hts inlX11 hown hG.1 hP 315 (wl_at (by decide) hmo) rfl 6 (by decide) (hts (.fieldLink RX11 20 "SwornListsModel" "step" "[I") w_115) (fun _ h9 => h9) rfl dX11_tellsOf_21 ?_
          refine lv_iload hx hb dX11_tellsOf_24 (lv_at hl 4 rfl) ?_
          refine va_iald hx hb hG.1 hP 319 0 (wl_at (by decide) hsp_) rfl (vp_in_nI (by omega) (by decide)) dX11_tellsOf_26 ?_
          refine my_bei (v := sp i) (congrArg sp (nI_clamp (n := i) (by omega))) ?_
          refine my_bei (v := 1) (hs9) ?_
          refine lv_istore (lv' := [(5, .int 1), (0, .ref (g 315)), (1, .int (nI pn)), (2, .int q), (3, .int (nI d)), (4, .int (nI i))]) hx hb dX11_tellsOf_27 hl (by decide) rfl (fun ls hl => ?_)
          refine lv_iload hx hb dX11_tellsOf_29 (lv_at hl 0 rfl) ?_
          refine lv_if_eq (tgt := 40) hx hb dX11_tellsOf_31 (by decide) (fun c_31 => absurd c_31 (by decide)) (fun c_31 => ?_)
          refine lv_iload hx hb dX11_tellsOf_34 (lv_at hl 0 rfl) ?_
          refine lv_iconst (v := 1) hx hb dX11_tellsOf_36 (by decide) ?_
          refine lv_icmp_ne (tgt := 81) hx hb dX11_tellsOf_37 (by decide) (fun c_37 => absurd (by decide) c_37) (fun c_37 => ?_)
          refine lv_aload_n hx hb dX11_tellsOf_40 rfl (lv_at hl 1 rfl) ?_
          refine va_get (D := G.1) (ci := 10) (v := .ref (g 322)) (C := RX11) (T := TX11) (N := 25) hx hb hts inlX11 hown hG.1 hP 315 (wl_at (by decide) hmo) rfl 10 (by decide) (hts (.fieldLink RX11 29 "SwornListsModel" "value" "[J") w_118) (fun _ h9 => h9) rfl dX11_tellsOf_41 ?_
          refine lv_iload_n hx hb dX11_tellsOf_44 rfl (lv_at hl 4 rfl) ?_
          refine lv_iload hx hb dX11_tellsOf_45 (lv_at hl 0 rfl) ?_
          refine lv_if_ne (tgt := 61) hx hb dX11_tellsOf_47 (by decide) (fun c_47 => ?_) (fun c_47 => absurd c_47 (by decide))
          refine lv_aload_n hx hb dX11_tellsOf_61 rfl (lv_at hl 1 rfl) ?_
          refine lv_iload_n hx hb dX11_tellsOf_62 rfl (lv_at hl 2 rfl) ?_
          refine lv_iload_n hx hb dX11_tellsOf_63 rfl (lv_at hl 3 rfl) ?_
          refine lv_aload_n hx hb dX11_tellsOf_64 rfl (lv_at hl 1 rfl) ?_
          refine va_get (D := G.1) (ci := 10) (v := .ref (g 320)) (C := RX11) (T := TX11) (N := 25) hx hb hts inlX11 hown hG.1 hP 315 (wl_at (by decide) hmo) rfl 7 (by decide) (hts (.fieldLink RX11 23 "SwornListsModel" "with" "[I") w_116) (fun _ h9 => h9) rfl dX11_tellsOf_65 ?_
          refine lv_iload hx hb dX11_tellsOf_68 (lv_at hl 5 rfl) ?_
          refine va_iald hx hb hG.1 hP 320 0 (wl_at (by decide) hwi_) rfl (vp_in_nI (by omega) (by decide)) dX11_tellsOf_70 ?_
          refine my_bei (v := wi i) (congrArg wi (nI_clamp (n := i) (by omega))) ?_
          refine my_bei (v := 3) (hw9) ?_
          refine rd_calll (va_runV (As := [.int (nI pn), .int q, .int 3]) (rest := [.int (nI d), .ref (g 322)]) ⟨hx, hb, hml, hown, hts⟩ (r_named3 l G g hg f_2 ab2 be2 (nI sn) wn sa91 ly92 rdy (nI fd) ss pn (sinV (fun t c => ss (10 * t + c + 1546)) ju q pn fd) q hmo hss_ (by first | assumption | omega | decide) (by have h9 := satN_le (T := (fun t c => ss (10 * t + c + 1546))) (J := ju) (day := q) (p := pn) fd; have h8 := hx_1_0; omega) (hx_1_1)) (my_cwV hts ok_X11_named w_554 rfl rfl ⟨Nat.le_of_ble_eq_true rfl, Nat.le_of_ble_eq_true rfl⟩) ⟨bP.blind, va_recv hG.1 hP (ci := 10) (q0 := 315) rfl (wl_at (by decide) hmo), fun U hU hW => ⟨rfl, by rw [hU]; exact hP, kG.warm hW hG⟩⟩ rfl rfl hl.1 rfl (lv_room (Nat.le_of_ble_eq_true rfl)) dX11_tellsOf_71 ⟨Nat.le_of_ble_eq_true rfl, Nat.le_of_ble_eq_true rfl⟩) (fun r hr9 => ?_)
          subst hr9
          refine my_bel (v := (ltk (fun i c => ss (4 * i + c + 10)) (satN (fun t c => ss (10 * t + c + 1546)) ju q pn fd) (sinV (fun t c => ss (10 * t + c + 1546)) ju q pn fd) pn q) 3) (by rw [hx_1_0]) ?_
          refine va_last hx hb hG.1 hP (wl_D hg f_2) hS 322 1 (wl_at (by decide) hva_) rfl (vp_in_nI (by omega) (by decide)) dX11_tellsOf_74 (fun H locs hP _ hS => ?_)
          have hP := (congrArg (fun z9 => va_P G.1 vwCl ((wl g f_2).set 322 (g 322, eJ G 70 ((vp_updL va1 z9 ((ltk (fun i c => ss (4 * i + c + 10)) (satN (fun t c => ss (10 * t + c + 1546)) ju q pn fd) (sinV (fun t c => ss (10 * t + c + 1546)) ju q pn fd) pn q) 3))))) H) (show Int32.toNatClampNeg (nI d) = d from nI_clamp (by omega))).mp hP
          obtain ⟨f_7, hP, e_7, o_7⟩ := b_put (by decide) hP
          have hva_ : f_7 322 = eJ G 70 (vp_updL va1 d ((ltk (fun i c => ss (4 * i + c + 10)) (satN (fun t c => ss (10 * t + c + 1546)) ju q pn fd) (sinV (fun t c => ss (10 * t + c + 1546)) ju q pn fd) pn q) 3)) := e_7
          refine lv_iinc (v := nI (d + 1)) (lv' := [(3, .int (nI (d + 1))), (5, .int 1), (0, .ref (g 315)), (1, .int (nI pn)), (2, .int q), (4, .int (nI i))]) hx hb dX11_tellsOf_75 hl (k := 4) rfl (nI_add d 1) (by decide) rfl (fun ls hl => ?_)
          refine lv_goto (tgt := 172) hx hb dX11_tellsOf_78 (by decide) ?_
          refine lv_iinc (v := nI (i + 1)) (lv' := [(4, .int (nI (i + 1))), (3, .int (nI (d + 1))), (5, .int 1), (0, .ref (g 315)), (1, .int (nI pn)), (2, .int q)]) hx hb dX11_tellsOf_172 hl (k := 5) rfl (nI_add i 1) (by decide) rfl (fun ls hl => ?_)
          refine lv_goto (tgt := 11) hx hb dX11_tellsOf_175 (by decide) ?_
          replace hmo := ((o_7 315 (by decide))).trans hmo
          replace hss_ := ((o_7 316 (by decide))).trans hss_
          replace hsp_ := ((o_7 319 (by decide))).trans hsp_
          replace hwi_ := ((o_7 320 (by decide))).trans hwi_
          exact ih_3 (i + 1) (d + 1) (vp_updL va1 d ((ltk (fun i c => ss (4 * i + c + 10)) (satN (fun t c => ss (10 * t + c + 1546)) ju q pn fd) (sinV (fun t c => ss (10 * t + c + 1546)) ju q pn fd) pn q) 3)) f_7 _ _ _ (by omega) (by rw [hdx]; show _ = stE (ltk (fun i c => ss (4 * i + c + 10)) (satN (fun t c => ss (10 * t + c + 1546)) ju q pn fd) (sinV (fun t c => ss (10 * t + c + 1546)) ju q pn fd) pn q) (sp i, wi i) (ev (ltk (fun i c => ss (4 * i + c + 10)) (satN (fun t c => ss (10 * t + c + 1546)) ju q pn fd) (sinV (fun t c => ss (10 * t + c + 1546)) ju q pn fd) pn q) (zl.drop (sn - i))); rw [← hst]; unfold stE; rw [ex9, if_neg (by decide), if_pos rfl]; exact stj_p) (by omega) (hmo) (hss_) (hsp_) (hwi_) (hva_) (fun j hj => ((o_7 j (by omega))).trans (o_2 j (by omega))) hP hS (lv_sub hl [3, 4, 5, 1, 0] rfl)
        · have hs9 : sp i = 1 := congrArg Prod.fst ex9
          have hw9 : wi i = 4 := congrArg Prod.snd ex9
          refine lv_aload_n hx hb dX11_tellsOf_20 rfl (lv_at hl 0 rfl) ?_
          refine va_get (D := G.1) (ci := 10) (v := .ref (g 319)) (C := RX11) (T := TX11) (N := 25) hx hb hts inlX11 hown hG.1 hP 315 (wl_at (by decide) hmo) rfl 6 (by decide) (hts (.fieldLink RX11 20 "SwornListsModel" "step" "[I") w_115) (fun _ h9 => h9) rfl dX11_tellsOf_21 ?_
          refine lv_iload hx hb dX11_tellsOf_24 (lv_at hl 4 rfl) ?_
          refine va_iald hx hb hG.1 hP 319 0 (wl_at (by decide) hsp_) rfl (vp_in_nI (by omega) (by decide)) dX11_tellsOf_26 ?_
          refine my_bei (v := sp i) (congrArg sp (nI_clamp (n := i) (by omega))) ?_
          refine my_bei (v := 1) (hs9) ?_
          refine lv_istore (lv' := [(5, .int 1), (0, .ref (g 315)), (1, .int (nI pn)), (2, .int q), (3, .int (nI d)), (4, .int (nI i))]) hx hb dX11_tellsOf_27 hl (by decide) rfl (fun ls hl => ?_)
          refine lv_iload hx hb dX11_tellsOf_29 (lv_at hl 0 rfl) ?_
          refine lv_if_eq (tgt := 40) hx hb dX11_tellsOf_31 (by decide) (fun c_31 => absurd c_31 (by decide)) (fun c_31 => ?_)
          refine lv_iload hx hb dX11_tellsOf_34 (lv_at hl 0 rfl) ?_
          refine lv_iconst (v := 1) hx hb dX11_tellsOf_36 (by decide) ?_
          refine lv_icmp_ne (tgt := 81) hx hb dX11_tellsOf_37 (by decide) (fun c_37 => absurd (by decide) c_37) (fun c_37 => ?_)
          refine lv_aload_n hx hb dX11_tellsOf_40 rfl (lv_at hl 1 rfl) ?_
          refine va_get (D := G.1) (ci := 10) (v := .ref (g 322)) (C := RX11) (T := TX11) (N := 25) hx hb hts inlX11 hown hG.1 hP 315 (wl_at (by decide) hmo) rfl 10 (by decide) (hts (.fieldLink RX11 29 "SwornListsModel" "value" "[J") w_118) (fun _ h9 => h9) rfl dX11_tellsOf_41 ?_
          refine lv_iload_n hx hb dX11_tellsOf_44 rfl (lv_at hl 4 rfl) ?_
          refine lv_iload hx hb dX11_tellsOf_45 (lv_at hl 0 rfl) ?_
          refine lv_if_ne (tgt := 61) hx hb dX11_tellsOf_47 (by decide) (fun c_47 => ?_) (fun c_47 => absurd c_47 (by decide))
          refine lv_aload_n hx hb dX11_tellsOf_61 rfl (lv_at hl 1 rfl) ?_
          refine lv_iload_n hx hb dX11_tellsOf_62 rfl (lv_at hl 2 rfl) ?_
          refine lv_iload_n hx hb dX11_tellsOf_63 rfl (lv_at hl 3 rfl) ?_
          refine lv_aload_n hx hb dX11_tellsOf_64 rfl (lv_at hl 1 rfl) ?_
          refine va_get (D := G.1) (ci := 10) (v := .ref (g 320)) (C := RX11) (T := TX11) (N := 25) hx hb hts inlX11 hown hG.1 hP 315 (wl_at (by decide) hmo) rfl 7 (by decide) (hts (.fieldLink RX11 23 "SwornListsModel" "with" "[I") w_116) (fun _ h9 => h9) rfl dX11_tellsOf_65 ?_
          refine lv_iload hx hb dX11_tellsOf_68 (lv_at hl 5 rfl) ?_
          refine va_iald hx hb hG.1 hP 320 0 (wl_at (by decide) hwi_) rfl (vp_in_nI (by omega) (by decide)) dX11_tellsOf_70 ?_
          refine my_bei (v := wi i) (congrArg wi (nI_clamp (n := i) (by omega))) ?_
          refine my_bei (v := 4) (hw9) ?_
          refine rd_calll (va_runV (As := [.int (nI pn), .int q, .int 4]) (rest := [.int (nI d), .ref (g 322)]) ⟨hx, hb, hml, hown, hts⟩ (r_named4 l G g hg f_2 ab2 be2 (nI sn) wn sa91 ly92 rdy (nI fd) ss pn (sinV (fun t c => ss (10 * t + c + 1546)) ju q pn fd) q hmo hss_ (by first | assumption | omega | decide) (by have h9 := satN_le (T := (fun t c => ss (10 * t + c + 1546))) (J := ju) (day := q) (p := pn) fd; have h8 := hx_1_0; omega) (hx_1_1)) (my_cwV hts ok_X11_named w_554 rfl rfl ⟨Nat.le_of_ble_eq_true rfl, Nat.le_of_ble_eq_true rfl⟩) ⟨bP.blind, va_recv hG.1 hP (ci := 10) (q0 := 315) rfl (wl_at (by decide) hmo), fun U hU hW => ⟨rfl, by rw [hU]; exact hP, kG.warm hW hG⟩⟩ rfl rfl hl.1 rfl (lv_room (Nat.le_of_ble_eq_true rfl)) dX11_tellsOf_71 ⟨Nat.le_of_ble_eq_true rfl, Nat.le_of_ble_eq_true rfl⟩) (fun r hr9 => ?_)
          subst hr9
          refine my_bel (v := (ltk (fun i c => ss (4 * i + c + 10)) (satN (fun t c => ss (10 * t + c + 1546)) ju q pn fd) (sinV (fun t c => ss (10 * t + c + 1546)) ju q pn fd) pn q) 4) (by rw [hx_1_0]) ?_
          refine va_last hx hb hG.1 hP (wl_D hg f_2) hS 322 1 (wl_at (by decide) hva_) rfl (vp_in_nI (by omega) (by decide)) dX11_tellsOf_74 (fun H locs hP _ hS => ?_)
          have hP := (congrArg (fun z9 => va_P G.1 vwCl ((wl g f_2).set 322 (g 322, eJ G 70 ((vp_updL va1 z9 ((ltk (fun i c => ss (4 * i + c + 10)) (satN (fun t c => ss (10 * t + c + 1546)) ju q pn fd) (sinV (fun t c => ss (10 * t + c + 1546)) ju q pn fd) pn q) 4))))) H) (show Int32.toNatClampNeg (nI d) = d from nI_clamp (by omega))).mp hP
          obtain ⟨f_8, hP, e_8, o_8⟩ := b_put (by decide) hP
          have hva_ : f_8 322 = eJ G 70 (vp_updL va1 d ((ltk (fun i c => ss (4 * i + c + 10)) (satN (fun t c => ss (10 * t + c + 1546)) ju q pn fd) (sinV (fun t c => ss (10 * t + c + 1546)) ju q pn fd) pn q) 4)) := e_8
          refine lv_iinc (v := nI (d + 1)) (lv' := [(3, .int (nI (d + 1))), (5, .int 1), (0, .ref (g 315)), (1, .int (nI pn)), (2, .int q), (4, .int (nI i))]) hx hb dX11_tellsOf_75 hl (k := 4) rfl (nI_add d 1) (by decide) rfl (fun ls hl => ?_)
          refine lv_goto (tgt := 172) hx hb dX11_tellsOf_78 (by decide) ?_
          refine lv_iinc (v := nI (i + 1)) (lv' := [(4, .int (nI (i + 1))), (3, .int (nI (d + 1))), (5, .int 1), (0, .ref (g 315)), (1, .int (nI pn)), (2, .int q)]) hx hb dX11_tellsOf_172 hl (k := 5) rfl (nI_add i 1) (by decide) rfl (fun ls hl => ?_)
          refine lv_goto (tgt := 11) hx hb dX11_tellsOf_175 (by decide) ?_
          replace hmo := ((o_8 315 (by decide))).trans hmo
          replace hss_ := ((o_8 316 (by decide))).trans hss_
          replace hsp_ := ((o_8 319 (by decide))).trans hsp_
          replace hwi_ := ((o_8 320 (by decide))).trans hwi_
          exact ih_3 (i + 1) (d + 1) (vp_updL va1 d ((ltk (fun i c => ss (4 * i + c + 10)) (satN (fun t c => ss (10 * t + c + 1546)) ju q pn fd) (sinV (fun t c => ss (10 * t + c + 1546)) ju q pn fd) pn q) 4)) f_8 _ _ _ (by omega) (by rw [hdx]; show _ = stE (ltk (fun i c => ss (4 * i + c + 10)) (satN (fun t c => ss (10 * t + c + 1546)) ju q pn fd) (sinV (fun t c => ss (10 * t + c + 1546)) ju q pn fd) pn q) (sp i, wi i) (ev (ltk (fun i c => ss (4 * i + c + 10)) (satN (fun t c => ss (10 * t + c + 1546)) ju q pn fd) (sinV (fun t c => ss (10 * t + c + 1546)) ju q pn fd) pn q) (zl.drop (sn - i))); rw [← hst]; unfold stE; rw [ex9, if_neg (by decide), if_pos rfl]; exact stj_p) (by omega) (hmo) (hss_) (hsp_) (hwi_) (hva_) (fun j hj => ((o_8 j (by omega))).trans (o_2 j (by omega))) hP hS (lv_sub hl [3, 4, 5, 1, 0] rfl)
        · have hs9 : sp i = 1 := congrArg Prod.fst ex9
          have hw9 : wi i = 5 := congrArg Prod.snd ex9
          refine lv_aload_n hx hb dX11_tellsOf_20 rfl (lv_at hl 0 rfl) ?_
          refine va_get (D := G.1) (ci := 10) (v := .ref (g 319)) (C := RX11) (T := TX11) (N := 25) hx hb hts inlX11 hown hG.1 hP 315 (wl_at (by decide) hmo) rfl 6 (by decide) (hts (.fieldLink RX11 20 "SwornListsModel" "step" "[I") w_115) (fun _ h9 => h9) rfl dX11_tellsOf_21 ?_
          refine lv_iload hx hb dX11_tellsOf_24 (lv_at hl 4 rfl) ?_
          refine va_iald hx hb hG.1 hP 319 0 (wl_at (by decide) hsp_) rfl (vp_in_nI (by omega) (by decide)) dX11_tellsOf_26 ?_
          refine my_bei (v := sp i) (congrArg sp (nI_clamp (n := i) (by omega))) ?_
          refine my_bei (v := 1) (hs9) ?_
          refine lv_istore (lv' := [(5, .int 1), (0, .ref (g 315)), (1, .int (nI pn)), (2, .int q), (3, .int (nI d)), (4, .int (nI i))]) hx hb dX11_tellsOf_27 hl (by decide) rfl (fun ls hl => ?_)
          refine lv_iload hx hb dX11_tellsOf_29 (lv_at hl 0 rfl) ?_
          refine lv_if_eq (tgt := 40) hx hb dX11_tellsOf_31 (by decide) (fun c_31 => absurd c_31 (by decide)) (fun c_31 => ?_)
          refine lv_iload hx hb dX11_tellsOf_34 (lv_at hl 0 rfl) ?_
          refine lv_iconst (v := 1) hx hb dX11_tellsOf_36 (by decide) ?_
          refine lv_icmp_ne (tgt := 81) hx hb dX11_tellsOf_37 (by decide) (fun c_37 => absurd (by decide) c_37) (fun c_37 => ?_)
          refine lv_aload_n hx hb dX11_tellsOf_40 rfl (lv_at hl 1 rfl) ?_
          refine va_get (D := G.1) (ci := 10) (v := .ref (g 322)) (C := RX11) (T := TX11) (N := 25) hx hb hts inlX11 hown hG.1 hP 315 (wl_at (by decide) hmo) rfl 10 (by decide) (hts (.fieldLink RX11 29 "SwornListsModel" "value" "[J") w_118) (fun _ h9 => h9) rfl dX11_tellsOf_41 ?_
          refine lv_iload_n hx hb dX11_tellsOf_44 rfl (lv_at hl 4 rfl) ?_
          refine lv_iload hx hb dX11_tellsOf_45 (lv_at hl 0 rfl) ?_
          refine lv_if_ne (tgt := 61) hx hb dX11_tellsOf_47 (by decide) (fun c_47 => ?_) (fun c_47 => absurd c_47 (by decide))
          refine lv_aload_n hx hb dX11_tellsOf_61 rfl (lv_at hl 1 rfl) ?_
          refine lv_iload_n hx hb dX11_tellsOf_62 rfl (lv_at hl 2 rfl) ?_
          refine lv_iload_n hx hb dX11_tellsOf_63 rfl (lv_at hl 3 rfl) ?_
          refine lv_aload_n hx hb dX11_tellsOf_64 rfl (lv_at hl 1 rfl) ?_
          refine va_get (D := G.1) (ci := 10) (v := .ref (g 320)) (C := RX11) (T := TX11) (N := 25) hx hb hts inlX11 hown hG.1 hP 315 (wl_at (by decide) hmo) rfl 7 (by decide) (hts (.fieldLink RX11 23 "SwornListsModel" "with" "[I") w_116) (fun _ h9 => h9) rfl dX11_tellsOf_65 ?_
          refine lv_iload hx hb dX11_tellsOf_68 (lv_at hl 5 rfl) ?_
          refine va_iald hx hb hG.1 hP 320 0 (wl_at (by decide) hwi_) rfl (vp_in_nI (by omega) (by decide)) dX11_tellsOf_70 ?_
          refine my_bei (v := wi i) (congrArg wi (nI_clamp (n := i) (by omega))) ?_
          refine my_bei (v := 5) (hw9) ?_
          refine rd_calll (va_runV (As := [.int (nI pn), .int q, .int 5]) (rest := [.int (nI d), .ref (g 322)]) ⟨hx, hb, hml, hown, hts⟩ (r_named5 l G g hg f_2 ab2 be2 (nI sn) wn sa91 ly92 rdy (nI fd) ss pn (sinV (fun t c => ss (10 * t + c + 1546)) ju q pn fd) q hmo hss_ (by first | assumption | omega | decide) (by have h9 := satN_le (T := (fun t c => ss (10 * t + c + 1546))) (J := ju) (day := q) (p := pn) fd; have h8 := hx_1_0; omega) (hx_1_1)) (my_cwV hts ok_X11_named w_554 rfl rfl ⟨Nat.le_of_ble_eq_true rfl, Nat.le_of_ble_eq_true rfl⟩) ⟨bP.blind, va_recv hG.1 hP (ci := 10) (q0 := 315) rfl (wl_at (by decide) hmo), fun U hU hW => ⟨rfl, by rw [hU]; exact hP, kG.warm hW hG⟩⟩ rfl rfl hl.1 rfl (lv_room (Nat.le_of_ble_eq_true rfl)) dX11_tellsOf_71 ⟨Nat.le_of_ble_eq_true rfl, Nat.le_of_ble_eq_true rfl⟩) (fun r hr9 => ?_)
          subst hr9
          refine my_bel (v := (ltk (fun i c => ss (4 * i + c + 10)) (satN (fun t c => ss (10 * t + c + 1546)) ju q pn fd) (sinV (fun t c => ss (10 * t + c + 1546)) ju q pn fd) pn q) 5) (by rw [hx_1_0]) ?_
          refine va_last hx hb hG.1 hP (wl_D hg f_2) hS 322 1 (wl_at (by decide) hva_) rfl (vp_in_nI (by omega) (by decide)) dX11_tellsOf_74 (fun H locs hP _ hS => ?_)
          have hP := (congrArg (fun z9 => va_P G.1 vwCl ((wl g f_2).set 322 (g 322, eJ G 70 ((vp_updL va1 z9 ((ltk (fun i c => ss (4 * i + c + 10)) (satN (fun t c => ss (10 * t + c + 1546)) ju q pn fd) (sinV (fun t c => ss (10 * t + c + 1546)) ju q pn fd) pn q) 5))))) H) (show Int32.toNatClampNeg (nI d) = d from nI_clamp (by omega))).mp hP
          obtain ⟨f_9, hP, e_9, o_9⟩ := b_put (by decide) hP
          have hva_ : f_9 322 = eJ G 70 (vp_updL va1 d ((ltk (fun i c => ss (4 * i + c + 10)) (satN (fun t c => ss (10 * t + c + 1546)) ju q pn fd) (sinV (fun t c => ss (10 * t + c + 1546)) ju q pn fd) pn q) 5)) := e_9
          refine lv_iinc (v := nI (d + 1)) (lv' := [(3, .int (nI (d + 1))), (5, .int 1), (0, .ref (g 315)), (1, .int (nI pn)), (2, .int q), (4, .int (nI i))]) hx hb dX11_tellsOf_75 hl (k := 4) rfl (nI_add d 1) (by decide) rfl (fun ls hl => ?_)
          refine lv_goto (tgt := 172) hx hb dX11_tellsOf_78 (by decide) ?_
          refine lv_iinc (v := nI (i + 1)) (lv' := [(4, .int (nI (i + 1))), (3, .int (nI (d + 1))), (5, .int 1), (0, .ref (g 315)), (1, .int (nI pn)), (2, .int q)]) hx hb dX11_tellsOf_172 hl (k := 5) rfl (nI_add i 1) (by decide) rfl (fun ls hl => ?_)
          refine lv_goto (tgt := 11) hx hb dX11_tellsOf_175 (by decide) ?_
          replace hmo := ((o_9 315 (by decide))).trans hmo
          replace hss_ := ((o_9 316 (by decide))).trans hss_
          replace hsp_ := ((o_9 319 (by decide))).trans hsp_
          replace hwi_ := ((o_9 320 (by decide))).trans hwi_
          exact ih_3 (i + 1) (d + 1) (vp_updL va1 d ((ltk (fun i c => ss (4 * i + c + 10)) (satN (fun t c => ss (10 * t + c + 1546)) ju q pn fd) (sinV (fun t c => ss (10 * t + c + 1546)) ju q pn fd) pn q) 5)) f_9 _ _ _ (by omega) (by rw [hdx]; show _ = stE (ltk (fun i c => ss (4 * i + c + 10)) (satN (fun t c => ss (10 * t + c + 1546)) ju q pn fd) (sinV (fun t c => ss (10 * t + c + 1546)) ju q pn fd) pn q) (sp i, wi i) (ev (ltk (fun i c => ss (4 * i + c + 10)) (satN (fun t c => ss (10 * t + c + 1546)) ju q pn fd) (sinV (fun t c => ss (10 * t + c + 1546)) ju q pn fd) pn q) (zl.drop (sn - i))); rw [← hst]; unfold stE; rw [ex9, if_neg (by decide), if_pos rfl]; exact stj_p) (by omega) (hmo) (hss_) (hsp_) (hwi_) (hva_) (fun j hj => ((o_9 j (by omega))).trans (o_2 j (by omega))) hP hS (lv_sub hl [3, 4, 5, 1, 0] rfl)
        · have hs9 : sp i = 2 := ex9
          have hd9 := dpl_u hd1 hd2 (Or.inl ex9)
          have hd8 := hd9.1
          refine lv_aload_n hx hb dX11_tellsOf_20 rfl (lv_at hl 0 rfl) ?_
          refine va_get (D := G.1) (ci := 10) (v := .ref (g 319)) (C := RX11) (T := TX11) (N := 25) hx hb hts inlX11 hown hG.1 hP 315 (wl_at (by decide) hmo) rfl 6 (by decide) (hts (.fieldLink RX11 20 "SwornListsModel" "step" "[I") w_115) (fun _ h9 => h9) rfl dX11_tellsOf_21 ?_
          refine lv_iload hx hb dX11_tellsOf_24 (lv_at hl 4 rfl) ?_
          refine va_iald hx hb hG.1 hP 319 0 (wl_at (by decide) hsp_) rfl (vp_in_nI (by omega) (by decide)) dX11_tellsOf_26 ?_
          refine my_bei (v := sp i) (congrArg sp (nI_clamp (n := i) (by omega))) ?_
          refine my_bei (v := 2) (hs9) ?_
          refine lv_istore (lv' := [(5, .int 2), (0, .ref (g 315)), (1, .int (nI pn)), (2, .int q), (3, .int (nI d)), (4, .int (nI i))]) hx hb dX11_tellsOf_27 hl (by decide) rfl (fun ls hl => ?_)
          refine lv_iload hx hb dX11_tellsOf_29 (lv_at hl 0 rfl) ?_
          refine lv_if_eq (tgt := 40) hx hb dX11_tellsOf_31 (by decide) (fun c_31 => absurd c_31 (by decide)) (fun c_31 => ?_)
          refine lv_iload hx hb dX11_tellsOf_34 (lv_at hl 0 rfl) ?_
          refine lv_iconst (v := 1) hx hb dX11_tellsOf_36 (by decide) ?_
          refine lv_icmp_ne (tgt := 81) hx hb dX11_tellsOf_37 (by decide) (fun c_37 => ?_) (fun c_37 => absurd c_37 (by decide))
          refine lv_iload hx hb dX11_tellsOf_81 (lv_at hl 0 rfl) ?_
          refine lv_iconst (v := 3) hx hb dX11_tellsOf_83 (by decide) ?_
          refine lv_icmp_ne (tgt := 107) hx hb dX11_tellsOf_84 (by decide) (fun c_84 => ?_) (fun c_84 => absurd c_84 (by decide))
          refine lv_iload hx hb dX11_tellsOf_107 (lv_at hl 0 rfl) ?_
          refine lv_iconst (v := 2) hx hb dX11_tellsOf_109 (by decide) ?_
          refine lv_icmp_ne (tgt := 142) hx hb dX11_tellsOf_110 (by decide) (fun c_110 => absurd (by decide) c_110) (fun c_110 => ?_)
          refine lv_aload_n hx hb dX11_tellsOf_113 rfl (lv_at hl 1 rfl) ?_
          refine va_get (D := G.1) (ci := 10) (v := .ref (g 322)) (C := RX11) (T := TX11) (N := 25) hx hb hts inlX11 hown hG.1 hP 315 (wl_at (by decide) hmo) rfl 10 (by decide) (hts (.fieldLink RX11 29 "SwornListsModel" "value" "[J") w_118) (fun _ h9 => h9) rfl dX11_tellsOf_114 ?_
          refine lv_iload_n hx hb dX11_tellsOf_117 rfl (lv_at hl 4 rfl) ?_
          refine lv_iconst (v := 1) hx hb dX11_tellsOf_118 (by decide) ?_
          refine lv_isub hx hb dX11_tellsOf_119 ?_
          refine my_bei (v := nI (d - 1)) (pk_sub (a := d) (b := 1) (by omega)) ?_
          refine lv_aload_n hx hb dX11_tellsOf_120 rfl (lv_at hl 1 rfl) ?_
          refine va_get (D := G.1) (ci := 10) (v := .ref (g 322)) (C := RX11) (T := TX11) (N := 25) hx hb hts inlX11 hown hG.1 hP 315 (wl_at (by decide) hmo) rfl 10 (by decide) (hts (.fieldLink RX11 29 "SwornListsModel" "value" "[J") w_118) (fun _ h9 => h9) rfl dX11_tellsOf_121 ?_
          refine lv_iload_n hx hb dX11_tellsOf_124 rfl (lv_at hl 4 rfl) ?_
          refine lv_iconst (v := 1) hx hb dX11_tellsOf_125 (by decide) ?_
          refine lv_isub hx hb dX11_tellsOf_126 ?_
          refine my_bei (v := nI (d - 1)) (pk_sub (a := d) (b := 1) (by omega)) ?_
          refine va_lald hx hb hG.1 hP 322 1 (wl_at (by decide) hva_) rfl (vp_in_nI (by omega) (by decide)) dX11_tellsOf_127 ?_
          refine my_bel (v := va1 (d - 1)) (congrArg va1 (nI_clamp (n := d - 1) (by omega))) ?_
          refine lv_lconst (v := 0) hx hb dX11_tellsOf_128 (by decide) ?_
          refine W.lcmp hx hb dX11_tellsOf_129 ?_
          refine lv_if_ne (tgt := 137) hx hb dX11_tellsOf_130 (by decide) (fun c_130 => ?_) (fun c_130 => ?_)
          · refine lv_lconst (v := 0) hx hb dX11_tellsOf_137 (by decide) ?_
            refine my_bel (v := (fun a => if a = 0 then 1 else 0) (va1 (d - 1))) ((if_neg (fun z => c_130 ((lg_cmp_eq _ _).mpr z))).symm) ?_
            refine va_last hx hb hG.1 hP (wl_D hg f_2) hS 322 1 (wl_at (by decide) hva_) rfl (vp_in_nI (by omega) (by decide)) dX11_tellsOf_138 (fun H locs hP _ hS => ?_)
            have hP := (congrArg (fun z9 => va_P G.1 vwCl ((wl g f_2).set 322 (g 322, eJ G 70 ((vp_updL va1 z9 ((fun a => if a = 0 then 1 else 0) (va1 (d - 1))))))) H) (show Int32.toNatClampNeg (nI (d - 1)) = d - 1 from nI_clamp (by omega))).mp hP
            obtain ⟨f_10, hP, e_10, o_10⟩ := b_put (by decide) hP
            have hva_ : f_10 322 = eJ G 70 (vp_updL va1 (d - 1) ((fun a => if a = 0 then 1 else 0) (va1 (d - 1)))) := e_10
            refine lv_goto (tgt := 172) hx hb dX11_tellsOf_139 (by decide) ?_
            refine lv_iinc (v := nI (i + 1)) (lv' := [(4, .int (nI (i + 1))), (5, .int 2), (0, .ref (g 315)), (1, .int (nI pn)), (2, .int q), (3, .int (nI d))]) hx hb dX11_tellsOf_172 hl (k := 5) rfl (nI_add i 1) (by decide) rfl (fun ls hl => ?_)
            refine lv_goto (tgt := 11) hx hb dX11_tellsOf_175 (by decide) ?_
            replace hmo := ((o_10 315 (by decide))).trans hmo
            replace hss_ := ((o_10 316 (by decide))).trans hss_
            replace hsp_ := ((o_10 319 (by decide))).trans hsp_
            replace hwi_ := ((o_10 320 (by decide))).trans hwi_
            exact ih_3 (i + 1) d (vp_updL va1 (d - 1) ((fun a => if a = 0 then 1 else 0) (va1 (d - 1)))) f_10 _ _ _ (by omega) (by rw [hdx]; show _ = stE (ltk (fun i c => ss (4 * i + c + 10)) (satN (fun t c => ss (10 * t + c + 1546)) ju q pn fd) (sinV (fun t c => ss (10 * t + c + 1546)) ju q pn fd) pn q) (sp i, wi i) (ev (ltk (fun i c => ss (4 * i + c + 10)) (satN (fun t c => ss (10 * t + c + 1546)) ju q pn fd) (sinV (fun t c => ss (10 * t + c + 1546)) ju q pn fd) pn q) (zl.drop (sn - i))); rw [← hst]; unfold stE; rw [ex9, if_neg (by decide), if_neg (by decide), if_neg (by decide), if_pos rfl]; exact stj_u (h := fun a => if a = 0 then 1 else 0) (by omega)) (by omega) (hmo) (hss_) (hsp_) (hwi_) (hva_) (fun j hj => ((o_10 j (by omega))).trans (o_2 j (by omega))) hP hS (lv_sub hl [2, 3, 4, 5, 0] rfl)
          · refine lv_lconst (v := 1) hx hb dX11_tellsOf_133 (by decide) ?_
            refine my_bel (v := (fun a => if a = 0 then 1 else 0) (va1 (d - 1))) ((if_pos ((lg_cmp_eq _ _).mp c_130)).symm) ?_
            refine lv_goto (tgt := 138) hx hb dX11_tellsOf_134 (by decide) ?_
            refine va_last hx hb hG.1 hP (wl_D hg f_2) hS 322 1 (wl_at (by decide) hva_) rfl (vp_in_nI (by omega) (by decide)) dX11_tellsOf_138 (fun H locs hP _ hS => ?_)
            have hP := (congrArg (fun z9 => va_P G.1 vwCl ((wl g f_2).set 322 (g 322, eJ G 70 ((vp_updL va1 z9 ((fun a => if a = 0 then 1 else 0) (va1 (d - 1))))))) H) (show Int32.toNatClampNeg (nI (d - 1)) = d - 1 from nI_clamp (by omega))).mp hP
            obtain ⟨f_11, hP, e_11, o_11⟩ := b_put (by decide) hP
            have hva_ : f_11 322 = eJ G 70 (vp_updL va1 (d - 1) ((fun a => if a = 0 then 1 else 0) (va1 (d - 1)))) := e_11
            refine lv_goto (tgt := 172) hx hb dX11_tellsOf_139 (by decide) ?_
            refine lv_iinc (v := nI (i + 1)) (lv' := [(4, .int (nI (i + 1))), (5, .int 2), (0, .ref (g 315)), (1, .int (nI pn)), (2, .int q), (3, .int (nI d))]) hx hb dX11_tellsOf_172 hl (k := 5) rfl (nI_add i 1) (by decide) rfl (fun ls hl => ?_)
            refine lv_goto (tgt := 11) hx hb dX11_tellsOf_175 (by decide) ?_
            replace hmo := ((o_11 315 (by decide))).trans hmo
            replace hss_ := ((o_11 316 (by decide))).trans hss_
            replace hsp_ := ((o_11 319 (by decide))).trans hsp_
            replace hwi_ := ((o_11 320 (by decide))).trans hwi_
            exact ih_3 (i + 1) d (vp_updL va1 (d - 1) ((fun a => if a = 0 then 1 else 0) (va1 (d - 1)))) f_11 _ _ _ (by omega) (by rw [hdx]; show _ = stE (ltk (fun i c => ss (4 * i + c + 10)) (satN (fun t c => ss (10 * t + c + 1546)) ju q pn fd) (sinV (fun t c => ss (10 * t + c + 1546)) ju q pn fd) pn q) (sp i, wi i) (ev (ltk (fun i c => ss (4 * i + c + 10)) (satN (fun t c => ss (10 * t + c + 1546)) ju q pn fd) (sinV (fun t c => ss (10 * t + c + 1546)) ju q pn fd) pn q) (zl.drop (sn - i))); rw [← hst]; unfold stE; rw [ex9, if_neg (by decide), if_neg (by decide), if_neg (by decide), if_pos rfl]; exact stj_u (h := fun a => if a = 0 then 1 else 0) (by omega)) (by omega) (hmo) (hss_) (hsp_) (hwi_) (hva_) (fun j hj => ((o_11 j (by omega))).trans (o_2 j (by omega))) hP hS (lv_sub hl [2, 3, 4, 5, 0] rfl)
        · have hs9 : sp i = 3 := ex9
          have hd9 := dpl_u hd1 hd2 (Or.inr ex9)
          have hd8 := hd9.1
          refine lv_aload_n hx hb dX11_tellsOf_20 rfl (lv_at hl 0 rfl) ?_
          refine va_get (D := G.1) (ci := 10) (v := .ref (g 319)) (C := RX11) (T := TX11) (N := 25) hx hb hts inlX11 hown hG.1 hP 315 (wl_at (by decide) hmo) rfl 6 (by decide) (hts (.fieldLink RX11 20 "SwornListsModel" "step" "[I") w_115) (fun _ h9 => h9) rfl dX11_tellsOf_21 ?_
          refine lv_iload hx hb dX11_tellsOf_24 (lv_at hl 4 rfl) ?_
          refine va_iald hx hb hG.1 hP 319 0 (wl_at (by decide) hsp_) rfl (vp_in_nI (by omega) (by decide)) dX11_tellsOf_26 ?_
          refine my_bei (v := sp i) (congrArg sp (nI_clamp (n := i) (by omega))) ?_
          refine my_bei (v := 3) (hs9) ?_
          refine lv_istore (lv' := [(5, .int 3), (0, .ref (g 315)), (1, .int (nI pn)), (2, .int q), (3, .int (nI d)), (4, .int (nI i))]) hx hb dX11_tellsOf_27 hl (by decide) rfl (fun ls hl => ?_)
          refine lv_iload hx hb dX11_tellsOf_29 (lv_at hl 0 rfl) ?_
          refine lv_if_eq (tgt := 40) hx hb dX11_tellsOf_31 (by decide) (fun c_31 => absurd c_31 (by decide)) (fun c_31 => ?_)
          refine lv_iload hx hb dX11_tellsOf_34 (lv_at hl 0 rfl) ?_
          refine lv_iconst (v := 1) hx hb dX11_tellsOf_36 (by decide) ?_
          refine lv_icmp_ne (tgt := 81) hx hb dX11_tellsOf_37 (by decide) (fun c_37 => ?_) (fun c_37 => absurd c_37 (by decide))
          refine lv_iload hx hb dX11_tellsOf_81 (lv_at hl 0 rfl) ?_
          refine lv_iconst (v := 3) hx hb dX11_tellsOf_83 (by decide) ?_
          refine lv_icmp_ne (tgt := 107) hx hb dX11_tellsOf_84 (by decide) (fun c_84 => absurd (by decide) c_84) (fun c_84 => ?_)
          refine lv_aload_n hx hb dX11_tellsOf_87 rfl (lv_at hl 1 rfl) ?_
          refine va_get (D := G.1) (ci := 10) (v := .ref (g 322)) (C := RX11) (T := TX11) (N := 25) hx hb hts inlX11 hown hG.1 hP 315 (wl_at (by decide) hmo) rfl 10 (by decide) (hts (.fieldLink RX11 29 "SwornListsModel" "value" "[J") w_118) (fun _ h9 => h9) rfl dX11_tellsOf_88 ?_
          refine lv_iload_n hx hb dX11_tellsOf_91 rfl (lv_at hl 4 rfl) ?_
          refine lv_iconst (v := 1) hx hb dX11_tellsOf_92 (by decide) ?_
          refine lv_isub hx hb dX11_tellsOf_93 ?_
          refine my_bei (v := nI (d - 1)) (pk_sub (a := d) (b := 1) (by omega)) ?_
          refine lv_aload_n hx hb dX11_tellsOf_94 rfl (lv_at hl 1 rfl) ?_
          refine va_get (D := G.1) (ci := 10) (v := .ref (g 322)) (C := RX11) (T := TX11) (N := 25) hx hb hts inlX11 hown hG.1 hP 315 (wl_at (by decide) hmo) rfl 10 (by decide) (hts (.fieldLink RX11 29 "SwornListsModel" "value" "[J") w_118) (fun _ h9 => h9) rfl dX11_tellsOf_95 ?_
          refine lv_iload_n hx hb dX11_tellsOf_98 rfl (lv_at hl 4 rfl) ?_
          refine lv_iconst (v := 1) hx hb dX11_tellsOf_99 (by decide) ?_
          refine lv_isub hx hb dX11_tellsOf_100 ?_
          refine my_bei (v := nI (d - 1)) (pk_sub (a := d) (b := 1) (by omega)) ?_
          refine va_lald hx hb hG.1 hP 322 1 (wl_at (by decide) hva_) rfl (vp_in_nI (by omega) (by decide)) dX11_tellsOf_101 ?_
          refine my_bel (v := va1 (d - 1)) (congrArg va1 (nI_clamp (n := d - 1) (by omega))) ?_
          refine lv_lneg hx hb dX11_tellsOf_102 ?_
          refine my_bel (v := (fun a => -a) (va1 (d - 1))) (rfl) ?_
          refine va_last hx hb hG.1 hP (wl_D hg f_2) hS 322 1 (wl_at (by decide) hva_) rfl (vp_in_nI (by omega) (by decide)) dX11_tellsOf_103 (fun H locs hP _ hS => ?_)
          have hP := (congrArg (fun z9 => va_P G.1 vwCl ((wl g f_2).set 322 (g 322, eJ G 70 ((vp_updL va1 z9 ((fun a => -a) (va1 (d - 1))))))) H) (show Int32.toNatClampNeg (nI (d - 1)) = d - 1 from nI_clamp (by omega))).mp hP
          obtain ⟨f_12, hP, e_12, o_12⟩ := b_put (by decide) hP
          have hva_ : f_12 322 = eJ G 70 (vp_updL va1 (d - 1) ((fun a => -a) (va1 (d - 1)))) := e_12
          refine lv_goto (tgt := 172) hx hb dX11_tellsOf_104 (by decide) ?_
          refine lv_iinc (v := nI (i + 1)) (lv' := [(4, .int (nI (i + 1))), (5, .int 3), (0, .ref (g 315)), (1, .int (nI pn)), (2, .int q), (3, .int (nI d))]) hx hb dX11_tellsOf_172 hl (k := 5) rfl (nI_add i 1) (by decide) rfl (fun ls hl => ?_)
          refine lv_goto (tgt := 11) hx hb dX11_tellsOf_175 (by decide) ?_
          replace hmo := ((o_12 315 (by decide))).trans hmo
          replace hss_ := ((o_12 316 (by decide))).trans hss_
          replace hsp_ := ((o_12 319 (by decide))).trans hsp_
          replace hwi_ := ((o_12 320 (by decide))).trans hwi_
          exact ih_3 (i + 1) d (vp_updL va1 (d - 1) ((fun a => -a) (va1 (d - 1)))) f_12 _ _ _ (by omega) (by rw [hdx]; show _ = stE (ltk (fun i c => ss (4 * i + c + 10)) (satN (fun t c => ss (10 * t + c + 1546)) ju q pn fd) (sinV (fun t c => ss (10 * t + c + 1546)) ju q pn fd) pn q) (sp i, wi i) (ev (ltk (fun i c => ss (4 * i + c + 10)) (satN (fun t c => ss (10 * t + c + 1546)) ju q pn fd) (sinV (fun t c => ss (10 * t + c + 1546)) ju q pn fd) pn q) (zl.drop (sn - i))); rw [← hst]; unfold stE; rw [ex9, if_neg (by decide), if_neg (by decide), if_pos rfl]; exact stj_u (h := fun a => -a) (by omega)) (by omega) (hmo) (hss_) (hsp_) (hwi_) (hva_) (fun j hj => ((o_12 j (by omega))).trans (o_2 j (by omega))) hP hS (lv_sub hl [2, 3, 4, 5, 0] rfl)
        · have hs9 : sp i = 4 := ex9
          have hd9 := dpl_b hd1 hd2 (by rw [ex9]; decide) (by rw [ex9]; decide) (by rw [ex9]; decide) (by rw [ex9]; decide)
          have hd8 := hd9.1
          refine lv_aload_n hx hb dX11_tellsOf_20 rfl (lv_at hl 0 rfl) ?_
          refine va_get (D := G.1) (ci := 10) (v := .ref (g 319)) (C := RX11) (T := TX11) (N := 25) hx hb hts inlX11 hown hG.1 hP 315 (wl_at (by decide) hmo) rfl 6 (by decide) (hts (.fieldLink RX11 20 "SwornListsModel" "step" "[I") w_115) (fun _ h9 => h9) rfl dX11_tellsOf_21 ?_
          refine lv_iload hx hb dX11_tellsOf_24 (lv_at hl 4 rfl) ?_
          refine va_iald hx hb hG.1 hP 319 0 (wl_at (by decide) hsp_) rfl (vp_in_nI (by omega) (by decide)) dX11_tellsOf_26 ?_
          refine my_bei (v := sp i) (congrArg sp (nI_clamp (n := i) (by omega))) ?_
          refine my_bei (v := 4) (hs9) ?_
          refine lv_istore (lv' := [(5, .int 4), (0, .ref (g 315)), (1, .int (nI pn)), (2, .int q), (3, .int (nI d)), (4, .int (nI i))]) hx hb dX11_tellsOf_27 hl (by decide) rfl (fun ls hl => ?_)
          refine lv_iload hx hb dX11_tellsOf_29 (lv_at hl 0 rfl) ?_
          refine lv_if_eq (tgt := 40) hx hb dX11_tellsOf_31 (by decide) (fun c_31 => absurd c_31 (by decide)) (fun c_31 => ?_)
          refine lv_iload hx hb dX11_tellsOf_34 (lv_at hl 0 rfl) ?_
          refine lv_iconst (v := 1) hx hb dX11_tellsOf_36 (by decide) ?_
          refine lv_icmp_ne (tgt := 81) hx hb dX11_tellsOf_37 (by decide) (fun c_37 => ?_) (fun c_37 => absurd c_37 (by decide))
          refine lv_iload hx hb dX11_tellsOf_81 (lv_at hl 0 rfl) ?_
          refine lv_iconst (v := 3) hx hb dX11_tellsOf_83 (by decide) ?_
          refine lv_icmp_ne (tgt := 107) hx hb dX11_tellsOf_84 (by decide) (fun c_84 => ?_) (fun c_84 => absurd c_84 (by decide))
          refine lv_iload hx hb dX11_tellsOf_107 (lv_at hl 0 rfl) ?_
          refine lv_iconst (v := 2) hx hb dX11_tellsOf_109 (by decide) ?_
          refine lv_icmp_ne (tgt := 142) hx hb dX11_tellsOf_110 (by decide) (fun c_110 => ?_) (fun c_110 => absurd c_110 (by decide))
          refine lv_iinc (v := nI (d - 1)) (lv' := [(3, .int (nI (d - 1))), (5, .int 4), (0, .ref (g 315)), (1, .int (nI pn)), (2, .int q), (4, .int (nI i))]) hx hb dX11_tellsOf_142 hl (k := 4) rfl (sb_m1 (by omega)) (by decide) rfl (fun ls hl => ?_)
          refine lv_aload_n hx hb dX11_tellsOf_145 rfl (lv_at hl 2 rfl) ?_
          refine va_get (D := G.1) (ci := 10) (v := .ref (g 322)) (C := RX11) (T := TX11) (N := 25) hx hb hts inlX11 hown hG.1 hP 315 (wl_at (by decide) hmo) rfl 10 (by decide) (hts (.fieldLink RX11 29 "SwornListsModel" "value" "[J") w_118) (fun _ h9 => h9) rfl dX11_tellsOf_146 ?_
          refine lv_iload_n hx hb dX11_tellsOf_149 rfl (lv_at hl 0 rfl) ?_
          refine lv_iconst (v := 1) hx hb dX11_tellsOf_150 (by decide) ?_
          refine lv_isub hx hb dX11_tellsOf_151 ?_
          refine my_bei (v := nI ((d - 1) - 1)) (pk_sub (a := d - 1) (b := 1) (by omega)) ?_
          refine lv_iload hx hb dX11_tellsOf_152 (lv_at hl 1 rfl) ?_
          refine lv_aload_n hx hb dX11_tellsOf_154 rfl (lv_at hl 2 rfl) ?_
          refine va_get (D := G.1) (ci := 10) (v := .ref (g 322)) (C := RX11) (T := TX11) (N := 25) hx hb hts inlX11 hown hG.1 hP 315 (wl_at (by decide) hmo) rfl 10 (by decide) (hts (.fieldLink RX11 29 "SwornListsModel" "value" "[J") w_118) (fun _ h9 => h9) rfl dX11_tellsOf_155 ?_
          refine lv_iload_n hx hb dX11_tellsOf_158 rfl (lv_at hl 0 rfl) ?_
          refine lv_iconst (v := 1) hx hb dX11_tellsOf_159 (by decide) ?_
          refine lv_isub hx hb dX11_tellsOf_160 ?_
          refine my_bei (v := nI ((d - 1) - 1)) (pk_sub (a := d - 1) (b := 1) (by omega)) ?_
          refine va_lald hx hb hG.1 hP 322 1 (wl_at (by decide) hva_) rfl (vp_in_nI (by omega) (by decide)) dX11_tellsOf_161 ?_
          refine my_bel (v := va1 ((d - 1) - 1)) (congrArg va1 (nI_clamp (n := (d - 1) - 1) (by omega))) ?_
          refine lv_aload_n hx hb dX11_tellsOf_162 rfl (lv_at hl 2 rfl) ?_
          refine va_get (D := G.1) (ci := 10) (v := .ref (g 322)) (C := RX11) (T := TX11) (N := 25) hx hb hts inlX11 hown hG.1 hP 315 (wl_at (by decide) hmo) rfl 10 (by decide) (hts (.fieldLink RX11 29 "SwornListsModel" "value" "[J") w_118) (fun _ h9 => h9) rfl dX11_tellsOf_163 ?_
          refine lv_iload_n hx hb dX11_tellsOf_166 rfl (lv_at hl 0 rfl) ?_
          refine va_lald hx hb hG.1 hP 322 1 (wl_at (by decide) hva_) rfl (vp_in_nI (by omega) (by decide)) dX11_tellsOf_167 ?_
          refine my_bel (v := va1 (d - 1)) (congrArg va1 (nI_clamp (n := d - 1) (by omega))) ?_
          refine rd_calll (va_runS (As := [.int 4, .long (va1 ((d - 1) - 1)), .long (va1 (d - 1))]) (rest := [.int (nI ((d - 1) - 1)), .ref (g 322)]) ⟨hx, hb, hml, hown, hts⟩ (r_twoOfE l G g hg f_2 4 (va1 ((d - 1) - 1)) (va1 (d - 1))  ) (my_cwS hts ok_X11_twoOf w_559 rfl rfl ⟨Nat.le_of_ble_eq_true rfl, Nat.le_of_ble_eq_true rfl⟩) ⟨bP.blind, fun U hU hW => ⟨rfl, by rw [hU]; exact hP, kG.warm hW hG⟩⟩ rfl rfl hl.1 rfl (lv_room (Nat.le_of_ble_eq_true rfl)) dX11_tellsOf_168 ⟨Nat.le_of_ble_eq_true rfl, Nat.le_of_ble_eq_true rfl⟩) (fun r hr9 => ?_)
          subst hr9
          refine va_last hx hb hG.1 hP (wl_D hg f_2) hS 322 1 (wl_at (by decide) hva_) rfl (vp_in_nI (by omega) (by decide)) dX11_tellsOf_171 (fun H locs hP _ hS => ?_)
          have hP := (congrArg (fun z9 => va_P G.1 vwCl ((wl g f_2).set 322 (g 322, eJ G 70 ((vp_updL va1 z9 (two 4 (va1 ((d - 1) - 1)) (va1 (d - 1))))))) H) (show Int32.toNatClampNeg (nI ((d - 1) - 1)) = (d - 1) - 1 from nI_clamp (by omega))).mp hP
          obtain ⟨f_13, hP, e_13, o_13⟩ := b_put (by decide) hP
          have hva_ : f_13 322 = eJ G 70 (vp_updL va1 ((d - 1) - 1) (two 4 (va1 ((d - 1) - 1)) (va1 (d - 1)))) := e_13
          refine lv_iinc (v := nI (i + 1)) (lv' := [(4, .int (nI (i + 1))), (3, .int (nI (d - 1))), (5, .int 4), (0, .ref (g 315)), (1, .int (nI pn)), (2, .int q)]) hx hb dX11_tellsOf_172 hl (k := 5) rfl (nI_add i 1) (by decide) rfl (fun ls hl => ?_)
          refine lv_goto (tgt := 11) hx hb dX11_tellsOf_175 (by decide) ?_
          replace hmo := ((o_13 315 (by decide))).trans hmo
          replace hss_ := ((o_13 316 (by decide))).trans hss_
          replace hsp_ := ((o_13 319 (by decide))).trans hsp_
          replace hwi_ := ((o_13 320 (by decide))).trans hwi_
          exact ih_3 (i + 1) (d - 1) (vp_updL va1 ((d - 1) - 1) (two 4 (va1 ((d - 1) - 1)) (va1 (d - 1)))) f_13 _ _ _ (by omega) (by rw [hdx]; show _ = stE (ltk (fun i c => ss (4 * i + c + 10)) (satN (fun t c => ss (10 * t + c + 1546)) ju q pn fd) (sinV (fun t c => ss (10 * t + c + 1546)) ju q pn fd) pn q) (sp i, wi i) (ev (ltk (fun i c => ss (4 * i + c + 10)) (satN (fun t c => ss (10 * t + c + 1546)) ju q pn fd) (sinV (fun t c => ss (10 * t + c + 1546)) ju q pn fd) pn q) (zl.drop (sn - i))); rw [← hst]; unfold stE; rw [ex9, if_neg (by decide), if_neg (by decide), if_neg (by decide), if_neg (by decide)]; exact stj_b (h := two 4) (by omega)) (by omega) (hmo) (hss_) (hsp_) (hwi_) (hva_) (fun j hj => ((o_13 j (by omega))).trans (o_2 j (by omega))) hP hS (lv_sub hl [3, 4, 5, 1, 0] rfl)
        · have hs9 : sp i = 5 := ex9
          have hd9 := dpl_b hd1 hd2 (by rw [ex9]; decide) (by rw [ex9]; decide) (by rw [ex9]; decide) (by rw [ex9]; decide)
          have hd8 := hd9.1
          refine lv_aload_n hx hb dX11_tellsOf_20 rfl (lv_at hl 0 rfl) ?_
          refine va_get (D := G.1) (ci := 10) (v := .ref (g 319)) (C := RX11) (T := TX11) (N := 25) hx hb hts inlX11 hown hG.1 hP 315 (wl_at (by decide) hmo) rfl 6 (by decide) (hts (.fieldLink RX11 20 "SwornListsModel" "step" "[I") w_115) (fun _ h9 => h9) rfl dX11_tellsOf_21 ?_
          refine lv_iload hx hb dX11_tellsOf_24 (lv_at hl 4 rfl) ?_
          refine va_iald hx hb hG.1 hP 319 0 (wl_at (by decide) hsp_) rfl (vp_in_nI (by omega) (by decide)) dX11_tellsOf_26 ?_
          refine my_bei (v := sp i) (congrArg sp (nI_clamp (n := i) (by omega))) ?_
          refine my_bei (v := 5) (hs9) ?_
          refine lv_istore (lv' := [(5, .int 5), (0, .ref (g 315)), (1, .int (nI pn)), (2, .int q), (3, .int (nI d)), (4, .int (nI i))]) hx hb dX11_tellsOf_27 hl (by decide) rfl (fun ls hl => ?_)
          refine lv_iload hx hb dX11_tellsOf_29 (lv_at hl 0 rfl) ?_
          refine lv_if_eq (tgt := 40) hx hb dX11_tellsOf_31 (by decide) (fun c_31 => absurd c_31 (by decide)) (fun c_31 => ?_)
          refine lv_iload hx hb dX11_tellsOf_34 (lv_at hl 0 rfl) ?_
          refine lv_iconst (v := 1) hx hb dX11_tellsOf_36 (by decide) ?_
          refine lv_icmp_ne (tgt := 81) hx hb dX11_tellsOf_37 (by decide) (fun c_37 => ?_) (fun c_37 => absurd c_37 (by decide))
          refine lv_iload hx hb dX11_tellsOf_81 (lv_at hl 0 rfl) ?_
          refine lv_iconst (v := 3) hx hb dX11_tellsOf_83 (by decide) ?_
          refine lv_icmp_ne (tgt := 107) hx hb dX11_tellsOf_84 (by decide) (fun c_84 => ?_) (fun c_84 => absurd c_84 (by decide))
          refine lv_iload hx hb dX11_tellsOf_107 (lv_at hl 0 rfl) ?_
          refine lv_iconst (v := 2) hx hb dX11_tellsOf_109 (by decide) ?_
          refine lv_icmp_ne (tgt := 142) hx hb dX11_tellsOf_110 (by decide) (fun c_110 => ?_) (fun c_110 => absurd c_110 (by decide))
          refine lv_iinc (v := nI (d - 1)) (lv' := [(3, .int (nI (d - 1))), (5, .int 5), (0, .ref (g 315)), (1, .int (nI pn)), (2, .int q), (4, .int (nI i))]) hx hb dX11_tellsOf_142 hl (k := 4) rfl (sb_m1 (by omega)) (by decide) rfl (fun ls hl => ?_)
          refine lv_aload_n hx hb dX11_tellsOf_145 rfl (lv_at hl 2 rfl) ?_
          refine va_get (D := G.1) (ci := 10) (v := .ref (g 322)) (C := RX11) (T := TX11) (N := 25) hx hb hts inlX11 hown hG.1 hP 315 (wl_at (by decide) hmo) rfl 10 (by decide) (hts (.fieldLink RX11 29 "SwornListsModel" "value" "[J") w_118) (fun _ h9 => h9) rfl dX11_tellsOf_146 ?_
          refine lv_iload_n hx hb dX11_tellsOf_149 rfl (lv_at hl 0 rfl) ?_
          refine lv_iconst (v := 1) hx hb dX11_tellsOf_150 (by decide) ?_
          refine lv_isub hx hb dX11_tellsOf_151 ?_
          refine my_bei (v := nI ((d - 1) - 1)) (pk_sub (a := d - 1) (b := 1) (by omega)) ?_
          refine lv_iload hx hb dX11_tellsOf_152 (lv_at hl 1 rfl) ?_
          refine lv_aload_n hx hb dX11_tellsOf_154 rfl (lv_at hl 2 rfl) ?_
          refine va_get (D := G.1) (ci := 10) (v := .ref (g 322)) (C := RX11) (T := TX11) (N := 25) hx hb hts inlX11 hown hG.1 hP 315 (wl_at (by decide) hmo) rfl 10 (by decide) (hts (.fieldLink RX11 29 "SwornListsModel" "value" "[J") w_118) (fun _ h9 => h9) rfl dX11_tellsOf_155 ?_
          refine lv_iload_n hx hb dX11_tellsOf_158 rfl (lv_at hl 0 rfl) ?_
          refine lv_iconst (v := 1) hx hb dX11_tellsOf_159 (by decide) ?_
          refine lv_isub hx hb dX11_tellsOf_160 ?_
          refine my_bei (v := nI ((d - 1) - 1)) (pk_sub (a := d - 1) (b := 1) (by omega)) ?_
          refine va_lald hx hb hG.1 hP 322 1 (wl_at (by decide) hva_) rfl (vp_in_nI (by omega) (by decide)) dX11_tellsOf_161 ?_
          refine my_bel (v := va1 ((d - 1) - 1)) (congrArg va1 (nI_clamp (n := (d - 1) - 1) (by omega))) ?_
          refine lv_aload_n hx hb dX11_tellsOf_162 rfl (lv_at hl 2 rfl) ?_
          refine va_get (D := G.1) (ci := 10) (v := .ref (g 322)) (C := RX11) (T := TX11) (N := 25) hx hb hts inlX11 hown hG.1 hP 315 (wl_at (by decide) hmo) rfl 10 (by decide) (hts (.fieldLink RX11 29 "SwornListsModel" "value" "[J") w_118) (fun _ h9 => h9) rfl dX11_tellsOf_163 ?_
          refine lv_iload_n hx hb dX11_tellsOf_166 rfl (lv_at hl 0 rfl) ?_
          refine va_lald hx hb hG.1 hP 322 1 (wl_at (by decide) hva_) rfl (vp_in_nI (by omega) (by decide)) dX11_tellsOf_167 ?_
          refine my_bel (v := va1 (d - 1)) (congrArg va1 (nI_clamp (n := d - 1) (by omega))) ?_
          refine rd_calll (va_runS (As := [.int 5, .long (va1 ((d - 1) - 1)), .long (va1 (d - 1))]) (rest := [.int (nI ((d - 1) - 1)), .ref (g 322)]) ⟨hx, hb, hml, hown, hts⟩ (r_twoOfE l G g hg f_2 5 (va1 ((d - 1) - 1)) (va1 (d - 1))  ) (my_cwS hts ok_X11_twoOf w_559 rfl rfl ⟨Nat.le_of_ble_eq_true rfl, Nat.le_of_ble_eq_true rfl⟩) ⟨bP.blind, fun U hU hW => ⟨rfl, by rw [hU]; exact hP, kG.warm hW hG⟩⟩ rfl rfl hl.1 rfl (lv_room (Nat.le_of_ble_eq_true rfl)) dX11_tellsOf_168 ⟨Nat.le_of_ble_eq_true rfl, Nat.le_of_ble_eq_true rfl⟩) (fun r hr9 => ?_)
          subst hr9
          refine va_last hx hb hG.1 hP (wl_D hg f_2) hS 322 1 (wl_at (by decide) hva_) rfl (vp_in_nI (by omega) (by decide)) dX11_tellsOf_171 (fun H locs hP _ hS => ?_)
          have hP := (congrArg (fun z9 => va_P G.1 vwCl ((wl g f_2).set 322 (g 322, eJ G 70 ((vp_updL va1 z9 (two 5 (va1 ((d - 1) - 1)) (va1 (d - 1))))))) H) (show Int32.toNatClampNeg (nI ((d - 1) - 1)) = (d - 1) - 1 from nI_clamp (by omega))).mp hP
          obtain ⟨f_14, hP, e_14, o_14⟩ := b_put (by decide) hP
          have hva_ : f_14 322 = eJ G 70 (vp_updL va1 ((d - 1) - 1) (two 5 (va1 ((d - 1) - 1)) (va1 (d - 1)))) := e_14
          refine lv_iinc (v := nI (i + 1)) (lv' := [(4, .int (nI (i + 1))), (3, .int (nI (d - 1))), (5, .int 5), (0, .ref (g 315)), (1, .int (nI pn)), (2, .int q)]) hx hb dX11_tellsOf_172 hl (k := 5) rfl (nI_add i 1) (by decide) rfl (fun ls hl => ?_)
          refine lv_goto (tgt := 11) hx hb dX11_tellsOf_175 (by decide) ?_
          replace hmo := ((o_14 315 (by decide))).trans hmo
          replace hss_ := ((o_14 316 (by decide))).trans hss_
          replace hsp_ := ((o_14 319 (by decide))).trans hsp_
          replace hwi_ := ((o_14 320 (by decide))).trans hwi_
          exact ih_3 (i + 1) (d - 1) (vp_updL va1 ((d - 1) - 1) (two 5 (va1 ((d - 1) - 1)) (va1 (d - 1)))) f_14 _ _ _ (by omega) (by rw [hdx]; show _ = stE (ltk (fun i c => ss (4 * i + c + 10)) (satN (fun t c => ss (10 * t + c + 1546)) ju q pn fd) (sinV (fun t c => ss (10 * t + c + 1546)) ju q pn fd) pn q) (sp i, wi i) (ev (ltk (fun i c => ss (4 * i + c + 10)) (satN (fun t c => ss (10 * t + c + 1546)) ju q pn fd) (sinV (fun t c => ss (10 * t + c + 1546)) ju q pn fd) pn q) (zl.drop (sn - i))); rw [← hst]; unfold stE; rw [ex9, if_neg (by decide), if_neg (by decide), if_neg (by decide), if_neg (by decide)]; exact stj_b (h := two 5) (by omega)) (by omega) (hmo) (hss_) (hsp_) (hwi_) (hva_) (fun j hj => ((o_14 j (by omega))).trans (o_2 j (by omega))) hP hS (lv_sub hl [3, 4, 5, 1, 0] rfl)
        · have hs9 : sp i = 6 := ex9
          have hd9 := dpl_b hd1 hd2 (by rw [ex9]; decide) (by rw [ex9]; decide) (by rw [ex9]; decide) (by rw [ex9]; decide)
          have hd8 := hd9.1
          refine lv_aload_n hx hb dX11_tellsOf_20 rfl (lv_at hl 0 rfl) ?_
          refine va_get (D := G.1) (ci := 10) (v := .ref (g 319)) (C := RX11) (T := TX11) (N := 25) hx hb hts inlX11 hown hG.1 hP 315 (wl_at (by decide) hmo) rfl 6 (by decide) (hts (.fieldLink RX11 20 "SwornListsModel" "step" "[I") w_115) (fun _ h9 => h9) rfl dX11_tellsOf_21 ?_
          refine lv_iload hx hb dX11_tellsOf_24 (lv_at hl 4 rfl) ?_
          refine va_iald hx hb hG.1 hP 319 0 (wl_at (by decide) hsp_) rfl (vp_in_nI (by omega) (by decide)) dX11_tellsOf_26 ?_
          refine my_bei (v := sp i) (congrArg sp (nI_clamp (n := i) (by omega))) ?_
          refine my_bei (v := 6) (hs9) ?_
          refine lv_istore (lv' := [(5, .int 6), (0, .ref (g 315)), (1, .int (nI pn)), (2, .int q), (3, .int (nI d)), (4, .int (nI i))]) hx hb dX11_tellsOf_27 hl (by decide) rfl (fun ls hl => ?_)
          refine lv_iload hx hb dX11_tellsOf_29 (lv_at hl 0 rfl) ?_
          refine lv_if_eq (tgt := 40) hx hb dX11_tellsOf_31 (by decide) (fun c_31 => absurd c_31 (by decide)) (fun c_31 => ?_)
          refine lv_iload hx hb dX11_tellsOf_34 (lv_at hl 0 rfl) ?_
          refine lv_iconst (v := 1) hx hb dX11_tellsOf_36 (by decide) ?_
          refine lv_icmp_ne (tgt := 81) hx hb dX11_tellsOf_37 (by decide) (fun c_37 => ?_) (fun c_37 => absurd c_37 (by decide))
          refine lv_iload hx hb dX11_tellsOf_81 (lv_at hl 0 rfl) ?_
          refine lv_iconst (v := 3) hx hb dX11_tellsOf_83 (by decide) ?_
          refine lv_icmp_ne (tgt := 107) hx hb dX11_tellsOf_84 (by decide) (fun c_84 => ?_) (fun c_84 => absurd c_84 (by decide))
          refine lv_iload hx hb dX11_tellsOf_107 (lv_at hl 0 rfl) ?_
          refine lv_iconst (v := 2) hx hb dX11_tellsOf_109 (by decide) ?_
          refine lv_icmp_ne (tgt := 142) hx hb dX11_tellsOf_110 (by decide) (fun c_110 => ?_) (fun c_110 => absurd c_110 (by decide))
          refine lv_iinc (v := nI (d - 1)) (lv' := [(3, .int (nI (d - 1))), (5, .int 6), (0, .ref (g 315)), (1, .int (nI pn)), (2, .int q), (4, .int (nI i))]) hx hb dX11_tellsOf_142 hl (k := 4) rfl (sb_m1 (by omega)) (by decide) rfl (fun ls hl => ?_)
          refine lv_aload_n hx hb dX11_tellsOf_145 rfl (lv_at hl 2 rfl) ?_
          refine va_get (D := G.1) (ci := 10) (v := .ref (g 322)) (C := RX11) (T := TX11) (N := 25) hx hb hts inlX11 hown hG.1 hP 315 (wl_at (by decide) hmo) rfl 10 (by decide) (hts (.fieldLink RX11 29 "SwornListsModel" "value" "[J") w_118) (fun _ h9 => h9) rfl dX11_tellsOf_146 ?_
          refine lv_iload_n hx hb dX11_tellsOf_149 rfl (lv_at hl 0 rfl) ?_
          refine lv_iconst (v := 1) hx hb dX11_tellsOf_150 (by decide) ?_
          refine lv_isub hx hb dX11_tellsOf_151 ?_
          refine my_bei (v := nI ((d - 1) - 1)) (pk_sub (a := d - 1) (b := 1) (by omega)) ?_
          refine lv_iload hx hb dX11_tellsOf_152 (lv_at hl 1 rfl) ?_
          refine lv_aload_n hx hb dX11_tellsOf_154 rfl (lv_at hl 2 rfl) ?_
          refine va_get (D := G.1) (ci := 10) (v := .ref (g 322)) (C := RX11) (T := TX11) (N := 25) hx hb hts inlX11 hown hG.1 hP 315 (wl_at (by decide) hmo) rfl 10 (by decide) (hts (.fieldLink RX11 29 "SwornListsModel" "value" "[J") w_118) (fun _ h9 => h9) rfl dX11_tellsOf_155 ?_
          refine lv_iload_n hx hb dX11_tellsOf_158 rfl (lv_at hl 0 rfl) ?_
          refine lv_iconst (v := 1) hx hb dX11_tellsOf_159 (by decide) ?_
          refine lv_isub hx hb dX11_tellsOf_160 ?_
          refine my_bei (v := nI ((d - 1) - 1)) (pk_sub (a := d - 1) (b := 1) (by omega)) ?_
          refine va_lald hx hb hG.1 hP 322 1 (wl_at (by decide) hva_) rfl (vp_in_nI (by omega) (by decide)) dX11_tellsOf_161 ?_
          refine my_bel (v := va1 ((d - 1) - 1)) (congrArg va1 (nI_clamp (n := (d - 1) - 1) (by omega))) ?_
          refine lv_aload_n hx hb dX11_tellsOf_162 rfl (lv_at hl 2 rfl) ?_
          refine va_get (D := G.1) (ci := 10) (v := .ref (g 322)) (C := RX11) (T := TX11) (N := 25) hx hb hts inlX11 hown hG.1 hP 315 (wl_at (by decide) hmo) rfl 10 (by decide) (hts (.fieldLink RX11 29 "SwornListsModel" "value" "[J") w_118) (fun _ h9 => h9) rfl dX11_tellsOf_163 ?_
          refine lv_iload_n hx hb dX11_tellsOf_166 rfl (lv_at hl 0 rfl) ?_
          refine va_lald hx hb hG.1 hP 322 1 (wl_at (by decide) hva_) rfl (vp_in_nI (by omega) (by decide)) dX11_tellsOf_167 ?_
          refine my_bel (v := va1 (d - 1)) (congrArg va1 (nI_clamp (n := d - 1) (by omega))) ?_
          refine rd_calll (va_runS (As := [.int 6, .long (va1 ((d - 1) - 1)), .long (va1 (d - 1))]) (rest := [.int (nI ((d - 1) - 1)), .ref (g 322)]) ⟨hx, hb, hml, hown, hts⟩ (r_twoOfE l G g hg f_2 6 (va1 ((d - 1) - 1)) (va1 (d - 1))  ) (my_cwS hts ok_X11_twoOf w_559 rfl rfl ⟨Nat.le_of_ble_eq_true rfl, Nat.le_of_ble_eq_true rfl⟩) ⟨bP.blind, fun U hU hW => ⟨rfl, by rw [hU]; exact hP, kG.warm hW hG⟩⟩ rfl rfl hl.1 rfl (lv_room (Nat.le_of_ble_eq_true rfl)) dX11_tellsOf_168 ⟨Nat.le_of_ble_eq_true rfl, Nat.le_of_ble_eq_true rfl⟩) (fun r hr9 => ?_)
          subst hr9
          refine va_last hx hb hG.1 hP (wl_D hg f_2) hS 322 1 (wl_at (by decide) hva_) rfl (vp_in_nI (by omega) (by decide)) dX11_tellsOf_171 (fun H locs hP _ hS => ?_)
          have hP := (congrArg (fun z9 => va_P G.1 vwCl ((wl g f_2).set 322 (g 322, eJ G 70 ((vp_updL va1 z9 (two 6 (va1 ((d - 1) - 1)) (va1 (d - 1))))))) H) (show Int32.toNatClampNeg (nI ((d - 1) - 1)) = (d - 1) - 1 from nI_clamp (by omega))).mp hP
          obtain ⟨f_15, hP, e_15, o_15⟩ := b_put (by decide) hP
          have hva_ : f_15 322 = eJ G 70 (vp_updL va1 ((d - 1) - 1) (two 6 (va1 ((d - 1) - 1)) (va1 (d - 1)))) := e_15
          refine lv_iinc (v := nI (i + 1)) (lv' := [(4, .int (nI (i + 1))), (3, .int (nI (d - 1))), (5, .int 6), (0, .ref (g 315)), (1, .int (nI pn)), (2, .int q)]) hx hb dX11_tellsOf_172 hl (k := 5) rfl (nI_add i 1) (by decide) rfl (fun ls hl => ?_)
          refine lv_goto (tgt := 11) hx hb dX11_tellsOf_175 (by decide) ?_
          replace hmo := ((o_15 315 (by decide))).trans hmo
          replace hss_ := ((o_15 316 (by decide))).trans hss_
          replace hsp_ := ((o_15 319 (by decide))).trans hsp_
          replace hwi_ := ((o_15 320 (by decide))).trans hwi_
          exact ih_3 (i + 1) (d - 1) (vp_updL va1 ((d - 1) - 1) (two 6 (va1 ((d - 1) - 1)) (va1 (d - 1)))) f_15 _ _ _ (by omega) (by rw [hdx]; show _ = stE (ltk (fun i c => ss (4 * i + c + 10)) (satN (fun t c => ss (10 * t + c + 1546)) ju q pn fd) (sinV (fun t c => ss (10 * t + c + 1546)) ju q pn fd) pn q) (sp i, wi i) (ev (ltk (fun i c => ss (4 * i + c + 10)) (satN (fun t c => ss (10 * t + c + 1546)) ju q pn fd) (sinV (fun t c => ss (10 * t + c + 1546)) ju q pn fd) pn q) (zl.drop (sn - i))); rw [← hst]; unfold stE; rw [ex9, if_neg (by decide), if_neg (by decide), if_neg (by decide), if_neg (by decide)]; exact stj_b (h := two 6) (by omega)) (by omega) (hmo) (hss_) (hsp_) (hwi_) (hva_) (fun j hj => ((o_15 j (by omega))).trans (o_2 j (by omega))) hP hS (lv_sub hl [3, 4, 5, 1, 0] rfl)
        · have hs9 : sp i = 7 := ex9
          have hd9 := dpl_b hd1 hd2 (by rw [ex9]; decide) (by rw [ex9]; decide) (by rw [ex9]; decide) (by rw [ex9]; decide)
          have hd8 := hd9.1
          refine lv_aload_n hx hb dX11_tellsOf_20 rfl (lv_at hl 0 rfl) ?_
          refine va_get (D := G.1) (ci := 10) (v := .ref (g 319)) (C := RX11) (T := TX11) (N := 25) hx hb hts inlX11 hown hG.1 hP 315 (wl_at (by decide) hmo) rfl 6 (by decide) (hts (.fieldLink RX11 20 "SwornListsModel" "step" "[I") w_115) (fun _ h9 => h9) rfl dX11_tellsOf_21 ?_
          refine lv_iload hx hb dX11_tellsOf_24 (lv_at hl 4 rfl) ?_
          refine va_iald hx hb hG.1 hP 319 0 (wl_at (by decide) hsp_) rfl (vp_in_nI (by omega) (by decide)) dX11_tellsOf_26 ?_
          refine my_bei (v := sp i) (congrArg sp (nI_clamp (n := i) (by omega))) ?_
          refine my_bei (v := 7) (hs9) ?_
          refine lv_istore (lv' := [(5, .int 7), (0, .ref (g 315)), (1, .int (nI pn)), (2, .int q), (3, .int (nI d)), (4, .int (nI i))]) hx hb dX11_tellsOf_27 hl (by decide) rfl (fun ls hl => ?_)
          refine lv_iload hx hb dX11_tellsOf_29 (lv_at hl 0 rfl) ?_
          refine lv_if_eq (tgt := 40) hx hb dX11_tellsOf_31 (by decide) (fun c_31 => absurd c_31 (by decide)) (fun c_31 => ?_)
          refine lv_iload hx hb dX11_tellsOf_34 (lv_at hl 0 rfl) ?_
          refine lv_iconst (v := 1) hx hb dX11_tellsOf_36 (by decide) ?_
          refine lv_icmp_ne (tgt := 81) hx hb dX11_tellsOf_37 (by decide) (fun c_37 => ?_) (fun c_37 => absurd c_37 (by decide))
          refine lv_iload hx hb dX11_tellsOf_81 (lv_at hl 0 rfl) ?_
          refine lv_iconst (v := 3) hx hb dX11_tellsOf_83 (by decide) ?_
          refine lv_icmp_ne (tgt := 107) hx hb dX11_tellsOf_84 (by decide) (fun c_84 => ?_) (fun c_84 => absurd c_84 (by decide))
          refine lv_iload hx hb dX11_tellsOf_107 (lv_at hl 0 rfl) ?_
          refine lv_iconst (v := 2) hx hb dX11_tellsOf_109 (by decide) ?_
          refine lv_icmp_ne (tgt := 142) hx hb dX11_tellsOf_110 (by decide) (fun c_110 => ?_) (fun c_110 => absurd c_110 (by decide))
          refine lv_iinc (v := nI (d - 1)) (lv' := [(3, .int (nI (d - 1))), (5, .int 7), (0, .ref (g 315)), (1, .int (nI pn)), (2, .int q), (4, .int (nI i))]) hx hb dX11_tellsOf_142 hl (k := 4) rfl (sb_m1 (by omega)) (by decide) rfl (fun ls hl => ?_)
          refine lv_aload_n hx hb dX11_tellsOf_145 rfl (lv_at hl 2 rfl) ?_
          refine va_get (D := G.1) (ci := 10) (v := .ref (g 322)) (C := RX11) (T := TX11) (N := 25) hx hb hts inlX11 hown hG.1 hP 315 (wl_at (by decide) hmo) rfl 10 (by decide) (hts (.fieldLink RX11 29 "SwornListsModel" "value" "[J") w_118) (fun _ h9 => h9) rfl dX11_tellsOf_146 ?_
          refine lv_iload_n hx hb dX11_tellsOf_149 rfl (lv_at hl 0 rfl) ?_
          refine lv_iconst (v := 1) hx hb dX11_tellsOf_150 (by decide) ?_
          refine lv_isub hx hb dX11_tellsOf_151 ?_
          refine my_bei (v := nI ((d - 1) - 1)) (pk_sub (a := d - 1) (b := 1) (by omega)) ?_
          refine lv_iload hx hb dX11_tellsOf_152 (lv_at hl 1 rfl) ?_
          refine lv_aload_n hx hb dX11_tellsOf_154 rfl (lv_at hl 2 rfl) ?_
          refine va_get (D := G.1) (ci := 10) (v := .ref (g 322)) (C := RX11) (T := TX11) (N := 25) hx hb hts inlX11 hown hG.1 hP 315 (wl_at (by decide) hmo) rfl 10 (by decide) (hts (.fieldLink RX11 29 "SwornListsModel" "value" "[J") w_118) (fun _ h9 => h9) rfl dX11_tellsOf_155 ?_
          refine lv_iload_n hx hb dX11_tellsOf_158 rfl (lv_at hl 0 rfl) ?_
          refine lv_iconst (v := 1) hx hb dX11_tellsOf_159 (by decide) ?_
          refine lv_isub hx hb dX11_tellsOf_160 ?_
          refine my_bei (v := nI ((d - 1) - 1)) (pk_sub (a := d - 1) (b := 1) (by omega)) ?_
          refine va_lald hx hb hG.1 hP 322 1 (wl_at (by decide) hva_) rfl (vp_in_nI (by omega) (by decide)) dX11_tellsOf_161 ?_
          refine my_bel (v := va1 ((d - 1) - 1)) (congrArg va1 (nI_clamp (n := (d - 1) - 1) (by omega))) ?_
          refine lv_aload_n hx hb dX11_tellsOf_162 rfl (lv_at hl 2 rfl) ?_
          refine va_get (D := G.1) (ci := 10) (v := .ref (g 322)) (C := RX11) (T := TX11) (N := 25) hx hb hts inlX11 hown hG.1 hP 315 (wl_at (by decide) hmo) rfl 10 (by decide) (hts (.fieldLink RX11 29 "SwornListsModel" "value" "[J") w_118) (fun _ h9 => h9) rfl dX11_tellsOf_163 ?_
          refine lv_iload_n hx hb dX11_tellsOf_166 rfl (lv_at hl 0 rfl) ?_
          refine va_lald hx hb hG.1 hP 322 1 (wl_at (by decide) hva_) rfl (vp_in_nI (by omega) (by decide)) dX11_tellsOf_167 ?_
          refine my_bel (v := va1 (d - 1)) (congrArg va1 (nI_clamp (n := d - 1) (by omega))) ?_
          refine rd_calll (va_runS (As := [.int 7, .long (va1 ((d - 1) - 1)), .long (va1 (d - 1))]) (rest := [.int (nI ((d - 1) - 1)), .ref (g 322)]) ⟨hx, hb, hml, hown, hts⟩ (r_twoOfE l G g hg f_2 7 (va1 ((d - 1) - 1)) (va1 (d - 1))  ) (my_cwS hts ok_X11_twoOf w_559 rfl rfl ⟨Nat.le_of_ble_eq_true rfl, Nat.le_of_ble_eq_true rfl⟩) ⟨bP.blind, fun U hU hW => ⟨rfl, by rw [hU]; exact hP, kG.warm hW hG⟩⟩ rfl rfl hl.1 rfl (lv_room (Nat.le_of_ble_eq_true rfl)) dX11_tellsOf_168 ⟨Nat.le_of_ble_eq_true rfl, Nat.le_of_ble_eq_true rfl⟩) (fun r hr9 => ?_)
          subst hr9
          refine va_last hx hb hG.1 hP (wl_D hg f_2) hS 322 1 (wl_at (by decide) hva_) rfl (vp_in_nI (by omega) (by decide)) dX11_tellsOf_171 (fun H locs hP _ hS => ?_)
          have hP := (congrArg (fun z9 => va_P G.1 vwCl ((wl g f_2).set 322 (g 322, eJ G 70 ((vp_updL va1 z9 (two 7 (va1 ((d - 1) - 1)) (va1 (d - 1))))))) H) (show Int32.toNatClampNeg (nI ((d - 1) - 1)) = (d - 1) - 1 from nI_clamp (by omega))).mp hP
          obtain ⟨f_16, hP, e_16, o_16⟩ := b_put (by decide) hP
          have hva_ : f_16 322 = eJ G 70 (vp_updL va1 ((d - 1) - 1) (two 7 (va1 ((d - 1) - 1)) (va1 (d - 1)))) := e_16
          refine lv_iinc (v := nI (i + 1)) (lv' := [(4, .int (nI (i + 1))), (3, .int (nI (d - 1))), (5, .int 7), (0, .ref (g 315)), (1, .int (nI pn)), (2, .int q)]) hx hb dX11_tellsOf_172 hl (k := 5) rfl (nI_add i 1) (by decide) rfl (fun ls hl => ?_)
          refine lv_goto (tgt := 11) hx hb dX11_tellsOf_175 (by decide) ?_
          replace hmo := ((o_16 315 (by decide))).trans hmo
          replace hss_ := ((o_16 316 (by decide))).trans hss_
          replace hsp_ := ((o_16 319 (by decide))).trans hsp_
          replace hwi_ := ((o_16 320 (by decide))).trans hwi_
          exact ih_3 (i + 1) (d - 1) (vp_updL va1 ((d - 1) - 1) (two 7 (va1 ((d - 1) - 1)) (va1 (d - 1)))) f_16 _ _ _ (by omega) (by rw [hdx]; show _ = stE (ltk (fun i c => ss (4 * i + c + 10)) (satN (fun t c => ss (10 * t + c + 1546)) ju q pn fd) (sinV (fun t c => ss (10 * t + c + 1546)) ju q pn fd) pn q) (sp i, wi i) (ev (ltk (fun i c => ss (4 * i + c + 10)) (satN (fun t c => ss (10 * t + c + 1546)) ju q pn fd) (sinV (fun t c => ss (10 * t + c + 1546)) ju q pn fd) pn q) (zl.drop (sn - i))); rw [← hst]; unfold stE; rw [ex9, if_neg (by decide), if_neg (by decide), if_neg (by decide), if_neg (by decide)]; exact stj_b (h := two 7) (by omega)) (by omega) (hmo) (hss_) (hsp_) (hwi_) (hva_) (fun j hj => ((o_16 j (by omega))).trans (o_2 j (by omega))) hP hS (lv_sub hl [3, 4, 5, 1, 0] rfl)
        · have hs9 : sp i = 8 := ex9
          have hd9 := dpl_b hd1 hd2 (by rw [ex9]; decide) (by rw [ex9]; decide) (by rw [ex9]; decide) (by rw [ex9]; decide)
          have hd8 := hd9.1
          refine lv_aload_n hx hb dX11_tellsOf_20 rfl (lv_at hl 0 rfl) ?_
          refine va_get (D := G.1) (ci := 10) (v := .ref (g 319)) (C := RX11) (T := TX11) (N := 25) hx hb hts inlX11 hown hG.1 hP 315 (wl_at (by decide) hmo) rfl 6 (by decide) (hts (.fieldLink RX11 20 "SwornListsModel" "step" "[I") w_115) (fun _ h9 => h9) rfl dX11_tellsOf_21 ?_
          refine lv_iload hx hb dX11_tellsOf_24 (lv_at hl 4 rfl) ?_
          refine va_iald hx hb hG.1 hP 319 0 (wl_at (by decide) hsp_) rfl (vp_in_nI (by omega) (by decide)) dX11_tellsOf_26 ?_
          refine my_bei (v := sp i) (congrArg sp (nI_clamp (n := i) (by omega))) ?_
          refine my_bei (v := 8) (hs9) ?_
          refine lv_istore (lv' := [(5, .int 8), (0, .ref (g 315)), (1, .int (nI pn)), (2, .int q), (3, .int (nI d)), (4, .int (nI i))]) hx hb dX11_tellsOf_27 hl (by decide) rfl (fun ls hl => ?_)
          refine lv_iload hx hb dX11_tellsOf_29 (lv_at hl 0 rfl) ?_
          refine lv_if_eq (tgt := 40) hx hb dX11_tellsOf_31 (by decide) (fun c_31 => absurd c_31 (by decide)) (fun c_31 => ?_)
          refine lv_iload hx hb dX11_tellsOf_34 (lv_at hl 0 rfl) ?_
          refine lv_iconst (v := 1) hx hb dX11_tellsOf_36 (by decide) ?_
          refine lv_icmp_ne (tgt := 81) hx hb dX11_tellsOf_37 (by decide) (fun c_37 => ?_) (fun c_37 => absurd c_37 (by decide))
          refine lv_iload hx hb dX11_tellsOf_81 (lv_at hl 0 rfl) ?_
          refine lv_iconst (v := 3) hx hb dX11_tellsOf_83 (by decide) ?_
          refine lv_icmp_ne (tgt := 107) hx hb dX11_tellsOf_84 (by decide) (fun c_84 => ?_) (fun c_84 => absurd c_84 (by decide))
          refine lv_iload hx hb dX11_tellsOf_107 (lv_at hl 0 rfl) ?_
          refine lv_iconst (v := 2) hx hb dX11_tellsOf_109 (by decide) ?_
          refine lv_icmp_ne (tgt := 142) hx hb dX11_tellsOf_110 (by decide) (fun c_110 => ?_) (fun c_110 => absurd c_110 (by decide))
          refine lv_iinc (v := nI (d - 1)) (lv' := [(3, .int (nI (d - 1))), (5, .int 8), (0, .ref (g 315)), (1, .int (nI pn)), (2, .int q), (4, .int (nI i))]) hx hb dX11_tellsOf_142 hl (k := 4) rfl (sb_m1 (by omega)) (by decide) rfl (fun ls hl => ?_)
          refine lv_aload_n hx hb dX11_tellsOf_145 rfl (lv_at hl 2 rfl) ?_
          refine va_get (D := G.1) (ci := 10) (v := .ref (g 322)) (C := RX11) (T := TX11) (N := 25) hx hb hts inlX11 hown hG.1 hP 315 (wl_at (by decide) hmo) rfl 10 (by decide) (hts (.fieldLink RX11 29 "SwornListsModel" "value" "[J") w_118) (fun _ h9 => h9) rfl dX11_tellsOf_146 ?_
          refine lv_iload_n hx hb dX11_tellsOf_149 rfl (lv_at hl 0 rfl) ?_
          refine lv_iconst (v := 1) hx hb dX11_tellsOf_150 (by decide) ?_
          refine lv_isub hx hb dX11_tellsOf_151 ?_
          refine my_bei (v := nI ((d - 1) - 1)) (pk_sub (a := d - 1) (b := 1) (by omega)) ?_
          refine lv_iload hx hb dX11_tellsOf_152 (lv_at hl 1 rfl) ?_
          refine lv_aload_n hx hb dX11_tellsOf_154 rfl (lv_at hl 2 rfl) ?_
          refine va_get (D := G.1) (ci := 10) (v := .ref (g 322)) (C := RX11) (T := TX11) (N := 25) hx hb hts inlX11 hown hG.1 hP 315 (wl_at (by decide) hmo) rfl 10 (by decide) (hts (.fieldLink RX11 29 "SwornListsModel" "value" "[J") w_118) (fun _ h9 => h9) rfl dX11_tellsOf_155 ?_
          refine lv_iload_n hx hb dX11_tellsOf_158 rfl (lv_at hl 0 rfl) ?_
          refine lv_iconst (v := 1) hx hb dX11_tellsOf_159 (by decide) ?_
          refine lv_isub hx hb dX11_tellsOf_160 ?_
          refine my_bei (v := nI ((d - 1) - 1)) (pk_sub (a := d - 1) (b := 1) (by omega)) ?_
          refine va_lald hx hb hG.1 hP 322 1 (wl_at (by decide) hva_) rfl (vp_in_nI (by omega) (by decide)) dX11_tellsOf_161 ?_
          refine my_bel (v := va1 ((d - 1) - 1)) (congrArg va1 (nI_clamp (n := (d - 1) - 1) (by omega))) ?_
          refine lv_aload_n hx hb dX11_tellsOf_162 rfl (lv_at hl 2 rfl) ?_
          refine va_get (D := G.1) (ci := 10) (v := .ref (g 322)) (C := RX11) (T := TX11) (N := 25) hx hb hts inlX11 hown hG.1 hP 315 (wl_at (by decide) hmo) rfl 10 (by decide) (hts (.fieldLink RX11 29 "SwornListsModel" "value" "[J") w_118) (fun _ h9 => h9) rfl dX11_tellsOf_163 ?_
          refine lv_iload_n hx hb dX11_tellsOf_166 rfl (lv_at hl 0 rfl) ?_
          refine va_lald hx hb hG.1 hP 322 1 (wl_at (by decide) hva_) rfl (vp_in_nI (by omega) (by decide)) dX11_tellsOf_167 ?_
          refine my_bel (v := va1 (d - 1)) (congrArg va1 (nI_clamp (n := d - 1) (by omega))) ?_
          refine rd_calll (va_runS (As := [.int 8, .long (va1 ((d - 1) - 1)), .long (va1 (d - 1))]) (rest := [.int (nI ((d - 1) - 1)), .ref (g 322)]) ⟨hx, hb, hml, hown, hts⟩ (r_twoOfE l G g hg f_2 8 (va1 ((d - 1) - 1)) (va1 (d - 1))  ) (my_cwS hts ok_X11_twoOf w_559 rfl rfl ⟨Nat.le_of_ble_eq_true rfl, Nat.le_of_ble_eq_true rfl⟩) ⟨bP.blind, fun U hU hW => ⟨rfl, by rw [hU]; exact hP, kG.warm hW hG⟩⟩ rfl rfl hl.1 rfl (lv_room (Nat.le_of_ble_eq_true rfl)) dX11_tellsOf_168 ⟨Nat.le_of_ble_eq_true rfl, Nat.le_of_ble_eq_true rfl⟩) (fun r hr9 => ?_)
          subst hr9
          refine va_last hx hb hG.1 hP (wl_D hg f_2) hS 322 1 (wl_at (by decide) hva_) rfl (vp_in_nI (by omega) (by decide)) dX11_tellsOf_171 (fun H locs hP _ hS => ?_)
          have hP := (congrArg (fun z9 => va_P G.1 vwCl ((wl g f_2).set 322 (g 322, eJ G 70 ((vp_updL va1 z9 (two 8 (va1 ((d - 1) - 1)) (va1 (d - 1))))))) H) (show Int32.toNatClampNeg (nI ((d - 1) - 1)) = (d - 1) - 1 from nI_clamp (by omega))).mp hP
          obtain ⟨f_17, hP, e_17, o_17⟩ := b_put (by decide) hP
          have hva_ : f_17 322 = eJ G 70 (vp_updL va1 ((d - 1) - 1) (two 8 (va1 ((d - 1) - 1)) (va1 (d - 1)))) := e_17
          refine lv_iinc (v := nI (i + 1)) (lv' := [(4, .int (nI (i + 1))), (3, .int (nI (d - 1))), (5, .int 8), (0, .ref (g 315)), (1, .int (nI pn)), (2, .int q)]) hx hb dX11_tellsOf_172 hl (k := 5) rfl (nI_add i 1) (by decide) rfl (fun ls hl => ?_)
          refine lv_goto (tgt := 11) hx hb dX11_tellsOf_175 (by decide) ?_
          replace hmo := ((o_17 315 (by decide))).trans hmo
          replace hss_ := ((o_17 316 (by decide))).trans hss_
          replace hsp_ := ((o_17 319 (by decide))).trans hsp_
          replace hwi_ := ((o_17 320 (by decide))).trans hwi_
          exact ih_3 (i + 1) (d - 1) (vp_updL va1 ((d - 1) - 1) (two 8 (va1 ((d - 1) - 1)) (va1 (d - 1)))) f_17 _ _ _ (by omega) (by rw [hdx]; show _ = stE (ltk (fun i c => ss (4 * i + c + 10)) (satN (fun t c => ss (10 * t + c + 1546)) ju q pn fd) (sinV (fun t c => ss (10 * t + c + 1546)) ju q pn fd) pn q) (sp i, wi i) (ev (ltk (fun i c => ss (4 * i + c + 10)) (satN (fun t c => ss (10 * t + c + 1546)) ju q pn fd) (sinV (fun t c => ss (10 * t + c + 1546)) ju q pn fd) pn q) (zl.drop (sn - i))); rw [← hst]; unfold stE; rw [ex9, if_neg (by decide), if_neg (by decide), if_neg (by decide), if_neg (by decide)]; exact stj_b (h := two 8) (by omega)) (by omega) (hmo) (hss_) (hsp_) (hwi_) (hva_) (fun j hj => ((o_17 j (by omega))).trans (o_2 j (by omega))) hP hS (lv_sub hl [3, 4, 5, 1, 0] rfl)
        · have hs9 : sp i = 9 := ex9
          have hd9 := dpl_b hd1 hd2 (by rw [ex9]; decide) (by rw [ex9]; decide) (by rw [ex9]; decide) (by rw [ex9]; decide)
          have hd8 := hd9.1
          refine lv_aload_n hx hb dX11_tellsOf_20 rfl (lv_at hl 0 rfl) ?_
          refine va_get (D := G.1) (ci := 10) (v := .ref (g 319)) (C := RX11) (T := TX11) (N := 25) hx hb hts inlX11 hown hG.1 hP 315 (wl_at (by decide) hmo) rfl 6 (by decide) (hts (.fieldLink RX11 20 "SwornListsModel" "step" "[I") w_115) (fun _ h9 => h9) rfl dX11_tellsOf_21 ?_
          refine lv_iload hx hb dX11_tellsOf_24 (lv_at hl 4 rfl) ?_
          refine va_iald hx hb hG.1 hP 319 0 (wl_at (by decide) hsp_) rfl (vp_in_nI (by omega) (by decide)) dX11_tellsOf_26 ?_
          refine my_bei (v := sp i) (congrArg sp (nI_clamp (n := i) (by omega))) ?_
          refine my_bei (v := 9) (hs9) ?_
          refine lv_istore (lv' := [(5, .int 9), (0, .ref (g 315)), (1, .int (nI pn)), (2, .int q), (3, .int (nI d)), (4, .int (nI i))]) hx hb dX11_tellsOf_27 hl (by decide) rfl (fun ls hl => ?_)
          refine lv_iload hx hb dX11_tellsOf_29 (lv_at hl 0 rfl) ?_
          refine lv_if_eq (tgt := 40) hx hb dX11_tellsOf_31 (by decide) (fun c_31 => absurd c_31 (by decide)) (fun c_31 => ?_)
          refine lv_iload hx hb dX11_tellsOf_34 (lv_at hl 0 rfl) ?_
          refine lv_iconst (v := 1) hx hb dX11_tellsOf_36 (by decide) ?_
          refine lv_icmp_ne (tgt := 81) hx hb dX11_tellsOf_37 (by decide) (fun c_37 => ?_) (fun c_37 => absurd c_37 (by decide))
          refine lv_iload hx hb dX11_tellsOf_81 (lv_at hl 0 rfl) ?_
          refine lv_iconst (v := 3) hx hb dX11_tellsOf_83 (by decide) ?_
          refine lv_icmp_ne (tgt := 107) hx hb dX11_tellsOf_84 (by decide) (fun c_84 => ?_) (fun c_84 => absurd c_84 (by decide))
          refine lv_iload hx hb dX11_tellsOf_107 (lv_at hl 0 rfl) ?_
          refine lv_iconst (v := 2) hx hb dX11_tellsOf_109 (by decide) ?_
          refine lv_icmp_ne (tgt := 142) hx hb dX11_tellsOf_110 (by decide) (fun c_110 => ?_) (fun c_110 => absurd c_110 (by decide))
          refine lv_iinc (v := nI (d - 1)) (lv' := [(3, .int (nI (d - 1))), (5, .int 9), (0, .ref (g 315)), (1, .int (nI pn)), (2, .int q), (4, .int (nI i))]) hx hb dX11_tellsOf_142 hl (k := 4) rfl (sb_m1 (by omega)) (by decide) rfl (fun ls hl => ?_)
          refine lv_aload_n hx hb dX11_tellsOf_145 rfl (lv_at hl 2 rfl) ?_
          refine va_get (D := G.1) (ci := 10) (v := .ref (g 322)) (C := RX11) (T := TX11) (N := 25) hx hb hts inlX11 hown hG.1 hP 315 (wl_at (by decide) hmo) rfl 10 (by decide) (hts (.fieldLink RX11 29 "SwornListsModel" "value" "[J") w_118) (fun _ h9 => h9) rfl dX11_tellsOf_146 ?_
          refine lv_iload_n hx hb dX11_tellsOf_149 rfl (lv_at hl 0 rfl) ?_
          refine lv_iconst (v := 1) hx hb dX11_tellsOf_150 (by decide) ?_
          refine lv_isub hx hb dX11_tellsOf_151 ?_
          refine my_bei (v := nI ((d - 1) - 1)) (pk_sub (a := d - 1) (b := 1) (by omega)) ?_
          refine lv_iload hx hb dX11_tellsOf_152 (lv_at hl 1 rfl) ?_
          refine lv_aload_n hx hb dX11_tellsOf_154 rfl (lv_at hl 2 rfl) ?_
          refine va_get (D := G.1) (ci := 10) (v := .ref (g 322)) (C := RX11) (T := TX11) (N := 25) hx hb hts inlX11 hown hG.1 hP 315 (wl_at (by decide) hmo) rfl 10 (by decide) (hts (.fieldLink RX11 29 "SwornListsModel" "value" "[J") w_118) (fun _ h9 => h9) rfl dX11_tellsOf_155 ?_
          refine lv_iload_n hx hb dX11_tellsOf_158 rfl (lv_at hl 0 rfl) ?_
          refine lv_iconst (v := 1) hx hb dX11_tellsOf_159 (by decide) ?_
          refine lv_isub hx hb dX11_tellsOf_160 ?_
          refine my_bei (v := nI ((d - 1) - 1)) (pk_sub (a := d - 1) (b := 1) (by omega)) ?_
          refine va_lald hx hb hG.1 hP 322 1 (wl_at (by decide) hva_) rfl (vp_in_nI (by omega) (by decide)) dX11_tellsOf_161 ?_
          refine my_bel (v := va1 ((d - 1) - 1)) (congrArg va1 (nI_clamp (n := (d - 1) - 1) (by omega))) ?_
          refine lv_aload_n hx hb dX11_tellsOf_162 rfl (lv_at hl 2 rfl) ?_
          refine va_get (D := G.1) (ci := 10) (v := .ref (g 322)) (C := RX11) (T := TX11) (N := 25) hx hb hts inlX11 hown hG.1 hP 315 (wl_at (by decide) hmo) rfl 10 (by decide) (hts (.fieldLink RX11 29 "SwornListsModel" "value" "[J") w_118) (fun _ h9 => h9) rfl dX11_tellsOf_163 ?_
          refine lv_iload_n hx hb dX11_tellsOf_166 rfl (lv_at hl 0 rfl) ?_
          refine va_lald hx hb hG.1 hP 322 1 (wl_at (by decide) hva_) rfl (vp_in_nI (by omega) (by decide)) dX11_tellsOf_167 ?_
          refine my_bel (v := va1 (d - 1)) (congrArg va1 (nI_clamp (n := d - 1) (by omega))) ?_
          refine rd_calll (va_runS (As := [.int 9, .long (va1 ((d - 1) - 1)), .long (va1 (d - 1))]) (rest := [.int (nI ((d - 1) - 1)), .ref (g 322)]) ⟨hx, hb, hml, hown, hts⟩ (r_twoOfE l G g hg f_2 9 (va1 ((d - 1) - 1)) (va1 (d - 1))  ) (my_cwS hts ok_X11_twoOf w_559 rfl rfl ⟨Nat.le_of_ble_eq_true rfl, Nat.le_of_ble_eq_true rfl⟩) ⟨bP.blind, fun U hU hW => ⟨rfl, by rw [hU]; exact hP, kG.warm hW hG⟩⟩ rfl rfl hl.1 rfl (lv_room (Nat.le_of_ble_eq_true rfl)) dX11_tellsOf_168 ⟨Nat.le_of_ble_eq_true rfl, Nat.le_of_ble_eq_true rfl⟩) (fun r hr9 => ?_)
          subst hr9
          refine va_last hx hb hG.1 hP (wl_D hg f_2) hS 322 1 (wl_at (by decide) hva_) rfl (vp_in_nI (by omega) (by decide)) dX11_tellsOf_171 (fun H locs hP _ hS => ?_)
          have hP := (congrArg (fun z9 => va_P G.1 vwCl ((wl g f_2).set 322 (g 322, eJ G 70 ((vp_updL va1 z9 (two 9 (va1 ((d - 1) - 1)) (va1 (d - 1))))))) H) (show Int32.toNatClampNeg (nI ((d - 1) - 1)) = (d - 1) - 1 from nI_clamp (by omega))).mp hP
          obtain ⟨f_18, hP, e_18, o_18⟩ := b_put (by decide) hP
          have hva_ : f_18 322 = eJ G 70 (vp_updL va1 ((d - 1) - 1) (two 9 (va1 ((d - 1) - 1)) (va1 (d - 1)))) := e_18
          refine lv_iinc (v := nI (i + 1)) (lv' := [(4, .int (nI (i + 1))), (3, .int (nI (d - 1))), (5, .int 9), (0, .ref (g 315)), (1, .int (nI pn)), (2, .int q)]) hx hb dX11_tellsOf_172 hl (k := 5) rfl (nI_add i 1) (by decide) rfl (fun ls hl => ?_)
          refine lv_goto (tgt := 11) hx hb dX11_tellsOf_175 (by decide) ?_
          replace hmo := ((o_18 315 (by decide))).trans hmo
          replace hss_ := ((o_18 316 (by decide))).trans hss_
          replace hsp_ := ((o_18 319 (by decide))).trans hsp_
          replace hwi_ := ((o_18 320 (by decide))).trans hwi_
          exact ih_3 (i + 1) (d - 1) (vp_updL va1 ((d - 1) - 1) (two 9 (va1 ((d - 1) - 1)) (va1 (d - 1)))) f_18 _ _ _ (by omega) (by rw [hdx]; show _ = stE (ltk (fun i c => ss (4 * i + c + 10)) (satN (fun t c => ss (10 * t + c + 1546)) ju q pn fd) (sinV (fun t c => ss (10 * t + c + 1546)) ju q pn fd) pn q) (sp i, wi i) (ev (ltk (fun i c => ss (4 * i + c + 10)) (satN (fun t c => ss (10 * t + c + 1546)) ju q pn fd) (sinV (fun t c => ss (10 * t + c + 1546)) ju q pn fd) pn q) (zl.drop (sn - i))); rw [← hst]; unfold stE; rw [ex9, if_neg (by decide), if_neg (by decide), if_neg (by decide), if_neg (by decide)]; exact stj_b (h := two 9) (by omega)) (by omega) (hmo) (hss_) (hsp_) (hwi_) (hva_) (fun j hj => ((o_18 j (by omega))).trans (o_2 j (by omega))) hP hS (lv_sub hl [3, 4, 5, 1, 0] rfl)
        · have hs9 : sp i = 10 := ex9
          have hd9 := dpl_b hd1 hd2 (by rw [ex9]; decide) (by rw [ex9]; decide) (by rw [ex9]; decide) (by rw [ex9]; decide)
          have hd8 := hd9.1
          refine lv_aload_n hx hb dX11_tellsOf_20 rfl (lv_at hl 0 rfl) ?_
          refine va_get (D := G.1) (ci := 10) (v := .ref (g 319)) (C := RX11) (T := TX11) (N := 25) hx hb hts inlX11 hown hG.1 hP 315 (wl_at (by decide) hmo) rfl 6 (by decide) (hts (.fieldLink RX11 20 "SwornListsModel" "step" "[I") w_115) (fun _ h9 => h9) rfl dX11_tellsOf_21 ?_
          refine lv_iload hx hb dX11_tellsOf_24 (lv_at hl 4 rfl) ?_
          refine va_iald hx hb hG.1 hP 319 0 (wl_at (by decide) hsp_) rfl (vp_in_nI (by omega) (by decide)) dX11_tellsOf_26 ?_
          refine my_bei (v := sp i) (congrArg sp (nI_clamp (n := i) (by omega))) ?_
          refine my_bei (v := 10) (hs9) ?_
          refine lv_istore (lv' := [(5, .int 10), (0, .ref (g 315)), (1, .int (nI pn)), (2, .int q), (3, .int (nI d)), (4, .int (nI i))]) hx hb dX11_tellsOf_27 hl (by decide) rfl (fun ls hl => ?_)
          refine lv_iload hx hb dX11_tellsOf_29 (lv_at hl 0 rfl) ?_
          refine lv_if_eq (tgt := 40) hx hb dX11_tellsOf_31 (by decide) (fun c_31 => absurd c_31 (by decide)) (fun c_31 => ?_)
          refine lv_iload hx hb dX11_tellsOf_34 (lv_at hl 0 rfl) ?_
          refine lv_iconst (v := 1) hx hb dX11_tellsOf_36 (by decide) ?_
          refine lv_icmp_ne (tgt := 81) hx hb dX11_tellsOf_37 (by decide) (fun c_37 => ?_) (fun c_37 => absurd c_37 (by decide))
          refine lv_iload hx hb dX11_tellsOf_81 (lv_at hl 0 rfl) ?_
          refine lv_iconst (v := 3) hx hb dX11_tellsOf_83 (by decide) ?_
          refine lv_icmp_ne (tgt := 107) hx hb dX11_tellsOf_84 (by decide) (fun c_84 => ?_) (fun c_84 => absurd c_84 (by decide))
          refine lv_iload hx hb dX11_tellsOf_107 (lv_at hl 0 rfl) ?_
          refine lv_iconst (v := 2) hx hb dX11_tellsOf_109 (by decide) ?_
          refine lv_icmp_ne (tgt := 142) hx hb dX11_tellsOf_110 (by decide) (fun c_110 => ?_) (fun c_110 => absurd c_110 (by decide))
          refine lv_iinc (v := nI (d - 1)) (lv' := [(3, .int (nI (d - 1))), (5, .int 10), (0, .ref (g 315)), (1, .int (nI pn)), (2, .int q), (4, .int (nI i))]) hx hb dX11_tellsOf_142 hl (k := 4) rfl (sb_m1 (by omega)) (by decide) rfl (fun ls hl => ?_)
          refine lv_aload_n hx hb dX11_tellsOf_145 rfl (lv_at hl 2 rfl) ?_
          refine va_get (D := G.1) (ci := 10) (v := .ref (g 322)) (C := RX11) (T := TX11) (N := 25) hx hb hts inlX11 hown hG.1 hP 315 (wl_at (by decide) hmo) rfl 10 (by decide) (hts (.fieldLink RX11 29 "SwornListsModel" "value" "[J") w_118) (fun _ h9 => h9) rfl dX11_tellsOf_146 ?_
          refine lv_iload_n hx hb dX11_tellsOf_149 rfl (lv_at hl 0 rfl) ?_
          refine lv_iconst (v := 1) hx hb dX11_tellsOf_150 (by decide) ?_
          refine lv_isub hx hb dX11_tellsOf_151 ?_
          refine my_bei (v := nI ((d - 1) - 1)) (pk_sub (a := d - 1) (b := 1) (by omega)) ?_
          refine lv_iload hx hb dX11_tellsOf_152 (lv_at hl 1 rfl) ?_
          refine lv_aload_n hx hb dX11_tellsOf_154 rfl (lv_at hl 2 rfl) ?_
          refine va_get (D := G.1) (ci := 10) (v := .ref (g 322)) (C := RX11) (T := TX11) (N := 25) hx hb hts inlX11 hown hG.1 hP 315 (wl_at (by decide) hmo) rfl 10 (by decide) (hts (.fieldLink RX11 29 "SwornListsModel" "value" "[J") w_118) (fun _ h9 => h9) rfl dX11_tellsOf_155 ?_
          refine lv_iload_n hx hb dX11_tellsOf_158 rfl (lv_at hl 0 rfl) ?_
          refine lv_iconst (v := 1) hx hb dX11_tellsOf_159 (by decide) ?_
          refine lv_isub hx hb dX11_tellsOf_160 ?_
          refine my_bei (v := nI ((d - 1) - 1)) (pk_sub (a := d - 1) (b := 1) (by omega)) ?_
          refine va_lald hx hb hG.1 hP 322 1 (wl_at (by decide) hva_) rfl (vp_in_nI (by omega) (by decide)) dX11_tellsOf_161 ?_
          refine my_bel (v := va1 ((d - 1) - 1)) (congrArg va1 (nI_clamp (n := (d - 1) - 1) (by omega))) ?_
          refine lv_aload_n hx hb dX11_tellsOf_162 rfl (lv_at hl 2 rfl) ?_
          refine va_get (D := G.1) (ci := 10) (v := .ref (g 322)) (C := RX11) (T := TX11) (N := 25) hx hb hts inlX11 hown hG.1 hP 315 (wl_at (by decide) hmo) rfl 10 (by decide) (hts (.fieldLink RX11 29 "SwornListsModel" "value" "[J") w_118) (fun _ h9 => h9) rfl dX11_tellsOf_163 ?_
          refine lv_iload_n hx hb dX11_tellsOf_166 rfl (lv_at hl 0 rfl) ?_
          refine va_lald hx hb hG.1 hP 322 1 (wl_at (by decide) hva_) rfl (vp_in_nI (by omega) (by decide)) dX11_tellsOf_167 ?_
          refine my_bel (v := va1 (d - 1)) (congrArg va1 (nI_clamp (n := d - 1) (by omega))) ?_
          refine rd_calll (va_runS (As := [.int 10, .long (va1 ((d - 1) - 1)), .long (va1 (d - 1))]) (rest := [.int (nI ((d - 1) - 1)), .ref (g 322)]) ⟨hx, hb, hml, hown, hts⟩ (r_twoOfE l G g hg f_2 10 (va1 ((d - 1) - 1)) (va1 (d - 1))  ) (my_cwS hts ok_X11_twoOf w_559 rfl rfl ⟨Nat.le_of_ble_eq_true rfl, Nat.le_of_ble_eq_true rfl⟩) ⟨bP.blind, fun U hU hW => ⟨rfl, by rw [hU]; exact hP, kG.warm hW hG⟩⟩ rfl rfl hl.1 rfl (lv_room (Nat.le_of_ble_eq_true rfl)) dX11_tellsOf_168 ⟨Nat.le_of_ble_eq_true rfl, Nat.le_of_ble_eq_true rfl⟩) (fun r hr9 => ?_)
          subst hr9
          refine va_last hx hb hG.1 hP (wl_D hg f_2) hS 322 1 (wl_at (by decide) hva_) rfl (vp_in_nI (by omega) (by decide)) dX11_tellsOf_171 (fun H locs hP _ hS => ?_)
          have hP := (congrArg (fun z9 => va_P G.1 vwCl ((wl g f_2).set 322 (g 322, eJ G 70 ((vp_updL va1 z9 (two 10 (va1 ((d - 1) - 1)) (va1 (d - 1))))))) H) (show Int32.toNatClampNeg (nI ((d - 1) - 1)) = (d - 1) - 1 from nI_clamp (by omega))).mp hP
          obtain ⟨f_19, hP, e_19, o_19⟩ := b_put (by decide) hP
          have hva_ : f_19 322 = eJ G 70 (vp_updL va1 ((d - 1) - 1) (two 10 (va1 ((d - 1) - 1)) (va1 (d - 1)))) := e_19
          refine lv_iinc (v := nI (i + 1)) (lv' := [(4, .int (nI (i + 1))), (3, .int (nI (d - 1))), (5, .int 10), (0, .ref (g 315)), (1, .int (nI pn)), (2, .int q)]) hx hb dX11_tellsOf_172 hl (k := 5) rfl (nI_add i 1) (by decide) rfl (fun ls hl => ?_)
          refine lv_goto (tgt := 11) hx hb dX11_tellsOf_175 (by decide) ?_
          replace hmo := ((o_19 315 (by decide))).trans hmo
          replace hss_ := ((o_19 316 (by decide))).trans hss_
          replace hsp_ := ((o_19 319 (by decide))).trans hsp_
          replace hwi_ := ((o_19 320 (by decide))).trans hwi_
          exact ih_3 (i + 1) (d - 1) (vp_updL va1 ((d - 1) - 1) (two 10 (va1 ((d - 1) - 1)) (va1 (d - 1)))) f_19 _ _ _ (by omega) (by rw [hdx]; show _ = stE (ltk (fun i c => ss (4 * i + c + 10)) (satN (fun t c => ss (10 * t + c + 1546)) ju q pn fd) (sinV (fun t c => ss (10 * t + c + 1546)) ju q pn fd) pn q) (sp i, wi i) (ev (ltk (fun i c => ss (4 * i + c + 10)) (satN (fun t c => ss (10 * t + c + 1546)) ju q pn fd) (sinV (fun t c => ss (10 * t + c + 1546)) ju q pn fd) pn q) (zl.drop (sn - i))); rw [← hst]; unfold stE; rw [ex9, if_neg (by decide), if_neg (by decide), if_neg (by decide), if_neg (by decide)]; exact stj_b (h := two 10) (by omega)) (by omega) (hmo) (hss_) (hsp_) (hwi_) (hva_) (fun j hj => ((o_19 j (by omega))).trans (o_2 j (by omega))) hP hS (lv_sub hl [3, 4, 5, 1, 0] rfl)
        · have hs9 : sp i = 11 := ex9
          have hd9 := dpl_b hd1 hd2 (by rw [ex9]; decide) (by rw [ex9]; decide) (by rw [ex9]; decide) (by rw [ex9]; decide)
          have hd8 := hd9.1
          refine lv_aload_n hx hb dX11_tellsOf_20 rfl (lv_at hl 0 rfl) ?_
          refine va_get (D := G.1) (ci := 10) (v := .ref (g 319)) (C := RX11) (T := TX11) (N := 25) hx hb hts inlX11 hown hG.1 hP 315 (wl_at (by decide) hmo) rfl 6 (by decide) (hts (.fieldLink RX11 20 "SwornListsModel" "step" "[I") w_115) (fun _ h9 => h9) rfl dX11_tellsOf_21 ?_
          refine lv_iload hx hb dX11_tellsOf_24 (lv_at hl 4 rfl) ?_
          refine va_iald hx hb hG.1 hP 319 0 (wl_at (by decide) hsp_) rfl (vp_in_nI (by omega) (by decide)) dX11_tellsOf_26 ?_
          refine my_bei (v := sp i) (congrArg sp (nI_clamp (n := i) (by omega))) ?_
          refine my_bei (v := 11) (hs9) ?_
          refine lv_istore (lv' := [(5, .int 11), (0, .ref (g 315)), (1, .int (nI pn)), (2, .int q), (3, .int (nI d)), (4, .int (nI i))]) hx hb dX11_tellsOf_27 hl (by decide) rfl (fun ls hl => ?_)
          refine lv_iload hx hb dX11_tellsOf_29 (lv_at hl 0 rfl) ?_
          refine lv_if_eq (tgt := 40) hx hb dX11_tellsOf_31 (by decide) (fun c_31 => absurd c_31 (by decide)) (fun c_31 => ?_)
          refine lv_iload hx hb dX11_tellsOf_34 (lv_at hl 0 rfl) ?_
          refine lv_iconst (v := 1) hx hb dX11_tellsOf_36 (by decide) ?_
          refine lv_icmp_ne (tgt := 81) hx hb dX11_tellsOf_37 (by decide) (fun c_37 => ?_) (fun c_37 => absurd c_37 (by decide))
          refine lv_iload hx hb dX11_tellsOf_81 (lv_at hl 0 rfl) ?_
          refine lv_iconst (v := 3) hx hb dX11_tellsOf_83 (by decide) ?_
          refine lv_icmp_ne (tgt := 107) hx hb dX11_tellsOf_84 (by decide) (fun c_84 => ?_) (fun c_84 => absurd c_84 (by decide))
          refine lv_iload hx hb dX11_tellsOf_107 (lv_at hl 0 rfl) ?_
          refine lv_iconst (v := 2) hx hb dX11_tellsOf_109 (by decide) ?_
          refine lv_icmp_ne (tgt := 142) hx hb dX11_tellsOf_110 (by decide) (fun c_110 => ?_) (fun c_110 => absurd c_110 (by decide))
          refine lv_iinc (v := nI (d - 1)) (lv' := [(3, .int (nI (d - 1))), (5, .int 11), (0, .ref (g 315)), (1, .int (nI pn)), (2, .int q), (4, .int (nI i))]) hx hb dX11_tellsOf_142 hl (k := 4) rfl (sb_m1 (by omega)) (by decide) rfl (fun ls hl => ?_)
          refine lv_aload_n hx hb dX11_tellsOf_145 rfl (lv_at hl 2 rfl) ?_
          refine va_get (D := G.1) (ci := 10) (v := .ref (g 322)) (C := RX11) (T := TX11) (N := 25) hx hb hts inlX11 hown hG.1 hP 315 (wl_at (by decide) hmo) rfl 10 (by decide) (hts (.fieldLink RX11 29 "SwornListsModel" "value" "[J") w_118) (fun _ h9 => h9) rfl dX11_tellsOf_146 ?_
          refine lv_iload_n hx hb dX11_tellsOf_149 rfl (lv_at hl 0 rfl) ?_
          refine lv_iconst (v := 1) hx hb dX11_tellsOf_150 (by decide) ?_
          refine lv_isub hx hb dX11_tellsOf_151 ?_
          refine my_bei (v := nI ((d - 1) - 1)) (pk_sub (a := d - 1) (b := 1) (by omega)) ?_
          refine lv_iload hx hb dX11_tellsOf_152 (lv_at hl 1 rfl) ?_
          refine lv_aload_n hx hb dX11_tellsOf_154 rfl (lv_at hl 2 rfl) ?_
          refine va_get (D := G.1) (ci := 10) (v := .ref (g 322)) (C := RX11) (T := TX11) (N := 25) hx hb hts inlX11 hown hG.1 hP 315 (wl_at (by decide) hmo) rfl 10 (by decide) (hts (.fieldLink RX11 29 "SwornListsModel" "value" "[J") w_118) (fun _ h9 => h9) rfl dX11_tellsOf_155 ?_
          refine lv_iload_n hx hb dX11_tellsOf_158 rfl (lv_at hl 0 rfl) ?_
          refine lv_iconst (v := 1) hx hb dX11_tellsOf_159 (by decide) ?_
          refine lv_isub hx hb dX11_tellsOf_160 ?_
          refine my_bei (v := nI ((d - 1) - 1)) (pk_sub (a := d - 1) (b := 1) (by omega)) ?_
          refine va_lald hx hb hG.1 hP 322 1 (wl_at (by decide) hva_) rfl (vp_in_nI (by omega) (by decide)) dX11_tellsOf_161 ?_
          refine my_bel (v := va1 ((d - 1) - 1)) (congrArg va1 (nI_clamp (n := (d - 1) - 1) (by omega))) ?_
          refine lv_aload_n hx hb dX11_tellsOf_162 rfl (lv_at hl 2 rfl) ?_
          refine va_get (D := G.1) (ci := 10) (v := .ref (g 322)) (C := RX11) (T := TX11) (N := 25) hx hb hts inlX11 hown hG.1 hP 315 (wl_at (by decide) hmo) rfl 10 (by decide) (hts (.fieldLink RX11 29 "SwornListsModel" "value" "[J") w_118) (fun _ h9 => h9) rfl dX11_tellsOf_163 ?_
          refine lv_iload_n hx hb dX11_tellsOf_166 rfl (lv_at hl 0 rfl) ?_
          refine va_lald hx hb hG.1 hP 322 1 (wl_at (by decide) hva_) rfl (vp_in_nI (by omega) (by decide)) dX11_tellsOf_167 ?_
          refine my_bel (v := va1 (d - 1)) (congrArg va1 (nI_clamp (n := d - 1) (by omega))) ?_
          refine rd_calll (va_runS (As := [.int 11, .long (va1 ((d - 1) - 1)), .long (va1 (d - 1))]) (rest := [.int (nI ((d - 1) - 1)), .ref (g 322)]) ⟨hx, hb, hml, hown, hts⟩ (r_twoOfE l G g hg f_2 11 (va1 ((d - 1) - 1)) (va1 (d - 1))  ) (my_cwS hts ok_X11_twoOf w_559 rfl rfl ⟨Nat.le_of_ble_eq_true rfl, Nat.le_of_ble_eq_true rfl⟩) ⟨bP.blind, fun U hU hW => ⟨rfl, by rw [hU]; exact hP, kG.warm hW hG⟩⟩ rfl rfl hl.1 rfl (lv_room (Nat.le_of_ble_eq_true rfl)) dX11_tellsOf_168 ⟨Nat.le_of_ble_eq_true rfl, Nat.le_of_ble_eq_true rfl⟩) (fun r hr9 => ?_)
          subst hr9
          refine va_last hx hb hG.1 hP (wl_D hg f_2) hS 322 1 (wl_at (by decide) hva_) rfl (vp_in_nI (by omega) (by decide)) dX11_tellsOf_171 (fun H locs hP _ hS => ?_)
          have hP := (congrArg (fun z9 => va_P G.1 vwCl ((wl g f_2).set 322 (g 322, eJ G 70 ((vp_updL va1 z9 (two 11 (va1 ((d - 1) - 1)) (va1 (d - 1))))))) H) (show Int32.toNatClampNeg (nI ((d - 1) - 1)) = (d - 1) - 1 from nI_clamp (by omega))).mp hP
          obtain ⟨f_20, hP, e_20, o_20⟩ := b_put (by decide) hP
          have hva_ : f_20 322 = eJ G 70 (vp_updL va1 ((d - 1) - 1) (two 11 (va1 ((d - 1) - 1)) (va1 (d - 1)))) := e_20
          refine lv_iinc (v := nI (i + 1)) (lv' := [(4, .int (nI (i + 1))), (3, .int (nI (d - 1))), (5, .int 11), (0, .ref (g 315)), (1, .int (nI pn)), (2, .int q)]) hx hb dX11_tellsOf_172 hl (k := 5) rfl (nI_add i 1) (by decide) rfl (fun ls hl => ?_)
          refine lv_goto (tgt := 11) hx hb dX11_tellsOf_175 (by decide) ?_
          replace hmo := ((o_20 315 (by decide))).trans hmo
          replace hss_ := ((o_20 316 (by decide))).trans hss_
          replace hsp_ := ((o_20 319 (by decide))).trans hsp_
          replace hwi_ := ((o_20 320 (by decide))).trans hwi_
          exact ih_3 (i + 1) (d - 1) (vp_updL va1 ((d - 1) - 1) (two 11 (va1 ((d - 1) - 1)) (va1 (d - 1)))) f_20 _ _ _ (by omega) (by rw [hdx]; show _ = stE (ltk (fun i c => ss (4 * i + c + 10)) (satN (fun t c => ss (10 * t + c + 1546)) ju q pn fd) (sinV (fun t c => ss (10 * t + c + 1546)) ju q pn fd) pn q) (sp i, wi i) (ev (ltk (fun i c => ss (4 * i + c + 10)) (satN (fun t c => ss (10 * t + c + 1546)) ju q pn fd) (sinV (fun t c => ss (10 * t + c + 1546)) ju q pn fd) pn q) (zl.drop (sn - i))); rw [← hst]; unfold stE; rw [ex9, if_neg (by decide), if_neg (by decide), if_neg (by decide), if_neg (by decide)]; exact stj_b (h := two 11) (by omega)) (by omega) (hmo) (hss_) (hsp_) (hwi_) (hva_) (fun j hj => ((o_20 j (by omega))).trans (o_2 j (by omega))) hP hS (lv_sub hl [3, 4, 5, 1, 0] rfl)
        · have hs9 : sp i = 12 := ex9
          have hd9 := dpl_b hd1 hd2 (by rw [ex9]; decide) (by rw [ex9]; decide) (by rw [ex9]; decide) (by rw [ex9]; decide)
          have hd8 := hd9.1
          refine lv_aload_n hx hb dX11_tellsOf_20 rfl (lv_at hl 0 rfl) ?_
          refine va_get (D := G.1) (ci := 10) (v := .ref (g 319)) (C := RX11) (T := TX11) (N := 25) hx hb hts inlX11 hown hG.1 hP 315 (wl_at (by decide) hmo) rfl 6 (by decide) (hts (.fieldLink RX11 20 "SwornListsModel" "step" "[I") w_115) (fun _ h9 => h9) rfl dX11_tellsOf_21 ?_
          refine lv_iload hx hb dX11_tellsOf_24 (lv_at hl 4 rfl) ?_
          refine va_iald hx hb hG.1 hP 319 0 (wl_at (by decide) hsp_) rfl (vp_in_nI (by omega) (by decide)) dX11_tellsOf_26 ?_
          refine my_bei (v := sp i) (congrArg sp (nI_clamp (n := i) (by omega))) ?_
          refine my_bei (v := 12) (hs9) ?_
          refine lv_istore (lv' := [(5, .int 12), (0, .ref (g 315)), (1, .int (nI pn)), (2, .int q), (3, .int (nI d)), (4, .int (nI i))]) hx hb dX11_tellsOf_27 hl (by decide) rfl (fun ls hl => ?_)
          refine lv_iload hx hb dX11_tellsOf_29 (lv_at hl 0 rfl) ?_
          refine lv_if_eq (tgt := 40) hx hb dX11_tellsOf_31 (by decide) (fun c_31 => absurd c_31 (by decide)) (fun c_31 => ?_)
          refine lv_iload hx hb dX11_tellsOf_34 (lv_at hl 0 rfl) ?_
          refine lv_iconst (v := 1) hx hb dX11_tellsOf_36 (by decide) ?_
          refine lv_icmp_ne (tgt := 81) hx hb dX11_tellsOf_37 (by decide) (fun c_37 => ?_) (fun c_37 => absurd c_37 (by decide))
          refine lv_iload hx hb dX11_tellsOf_81 (lv_at hl 0 rfl) ?_
          refine lv_iconst (v := 3) hx hb dX11_tellsOf_83 (by decide) ?_
          refine lv_icmp_ne (tgt := 107) hx hb dX11_tellsOf_84 (by decide) (fun c_84 => ?_) (fun c_84 => absurd c_84 (by decide))
          refine lv_iload hx hb dX11_tellsOf_107 (lv_at hl 0 rfl) ?_
          refine lv_iconst (v := 2) hx hb dX11_tellsOf_109 (by decide) ?_
          refine lv_icmp_ne (tgt := 142) hx hb dX11_tellsOf_110 (by decide) (fun c_110 => ?_) (fun c_110 => absurd c_110 (by decide))
          refine lv_iinc (v := nI (d - 1)) (lv' := [(3, .int (nI (d - 1))), (5, .int 12), (0, .ref (g 315)), (1, .int (nI pn)), (2, .int q), (4, .int (nI i))]) hx hb dX11_tellsOf_142 hl (k := 4) rfl (sb_m1 (by omega)) (by decide) rfl (fun ls hl => ?_)
          refine lv_aload_n hx hb dX11_tellsOf_145 rfl (lv_at hl 2 rfl) ?_
          refine va_get (D := G.1) (ci := 10) (v := .ref (g 322)) (C := RX11) (T := TX11) (N := 25) hx hb hts inlX11 hown hG.1 hP 315 (wl_at (by decide) hmo) rfl 10 (by decide) (hts (.fieldLink RX11 29 "SwornListsModel" "value" "[J") w_118) (fun _ h9 => h9) rfl dX11_tellsOf_146 ?_
          refine lv_iload_n hx hb dX11_tellsOf_149 rfl (lv_at hl 0 rfl) ?_
          refine lv_iconst (v := 1) hx hb dX11_tellsOf_150 (by decide) ?_
          refine lv_isub hx hb dX11_tellsOf_151 ?_
          refine my_bei (v := nI ((d - 1) - 1)) (pk_sub (a := d - 1) (b := 1) (by omega)) ?_
          refine lv_iload hx hb dX11_tellsOf_152 (lv_at hl 1 rfl) ?_
          refine lv_aload_n hx hb dX11_tellsOf_154 rfl (lv_at hl 2 rfl) ?_
          refine va_get (D := G.1) (ci := 10) (v := .ref (g 322)) (C := RX11) (T := TX11) (N := 25) hx hb hts inlX11 hown hG.1 hP 315 (wl_at (by decide) hmo) rfl 10 (by decide) (hts (.fieldLink RX11 29 "SwornListsModel" "value" "[J") w_118) (fun _ h9 => h9) rfl dX11_tellsOf_155 ?_
          refine lv_iload_n hx hb dX11_tellsOf_158 rfl (lv_at hl 0 rfl) ?_
          refine lv_iconst (v := 1) hx hb dX11_tellsOf_159 (by decide) ?_
          refine lv_isub hx hb dX11_tellsOf_160 ?_
          refine my_bei (v := nI ((d - 1) - 1)) (pk_sub (a := d - 1) (b := 1) (by omega)) ?_
          refine va_lald hx hb hG.1 hP 322 1 (wl_at (by decide) hva_) rfl (vp_in_nI (by omega) (by decide)) dX11_tellsOf_161 ?_
          refine my_bel (v := va1 ((d - 1) - 1)) (congrArg va1 (nI_clamp (n := (d - 1) - 1) (by omega))) ?_
          refine lv_aload_n hx hb dX11_tellsOf_162 rfl (lv_at hl 2 rfl) ?_
          refine va_get (D := G.1) (ci := 10) (v := .ref (g 322)) (C := RX11) (T := TX11) (N := 25) hx hb hts inlX11 hown hG.1 hP 315 (wl_at (by decide) hmo) rfl 10 (by decide) (hts (.fieldLink RX11 29 "SwornListsModel" "value" "[J") w_118) (fun _ h9 => h9) rfl dX11_tellsOf_163 ?_
          refine lv_iload_n hx hb dX11_tellsOf_166 rfl (lv_at hl 0 rfl) ?_
          refine va_lald hx hb hG.1 hP 322 1 (wl_at (by decide) hva_) rfl (vp_in_nI (by omega) (by decide)) dX11_tellsOf_167 ?_
          refine my_bel (v := va1 (d - 1)) (congrArg va1 (nI_clamp (n := d - 1) (by omega))) ?_
          refine rd_calll (va_runS (As := [.int 12, .long (va1 ((d - 1) - 1)), .long (va1 (d - 1))]) (rest := [.int (nI ((d - 1) - 1)), .ref (g 322)]) ⟨hx, hb, hml, hown, hts⟩ (r_twoOfE l G g hg f_2 12 (va1 ((d - 1) - 1)) (va1 (d - 1))  ) (my_cwS hts ok_X11_twoOf w_559 rfl rfl ⟨Nat.le_of_ble_eq_true rfl, Nat.le_of_ble_eq_true rfl⟩) ⟨bP.blind, fun U hU hW => ⟨rfl, by rw [hU]; exact hP, kG.warm hW hG⟩⟩ rfl rfl hl.1 rfl (lv_room (Nat.le_of_ble_eq_true rfl)) dX11_tellsOf_168 ⟨Nat.le_of_ble_eq_true rfl, Nat.le_of_ble_eq_true rfl⟩) (fun r hr9 => ?_)
          subst hr9
          refine va_last hx hb hG.1 hP (wl_D hg f_2) hS 322 1 (wl_at (by decide) hva_) rfl (vp_in_nI (by omega) (by decide)) dX11_tellsOf_171 (fun H locs hP _ hS => ?_)
          have hP := (congrArg (fun z9 => va_P G.1 vwCl ((wl g f_2).set 322 (g 322, eJ G 70 ((vp_updL va1 z9 (two 12 (va1 ((d - 1) - 1)) (va1 (d - 1))))))) H) (show Int32.toNatClampNeg (nI ((d - 1) - 1)) = (d - 1) - 1 from nI_clamp (by omega))).mp hP
          obtain ⟨f_21, hP, e_21, o_21⟩ := b_put (by decide) hP
          have hva_ : f_21 322 = eJ G 70 (vp_updL va1 ((d - 1) - 1) (two 12 (va1 ((d - 1) - 1)) (va1 (d - 1)))) := e_21
          refine lv_iinc (v := nI (i + 1)) (lv' := [(4, .int (nI (i + 1))), (3, .int (nI (d - 1))), (5, .int 12), (0, .ref (g 315)), (1, .int (nI pn)), (2, .int q)]) hx hb dX11_tellsOf_172 hl (k := 5) rfl (nI_add i 1) (by decide) rfl (fun ls hl => ?_)
          refine lv_goto (tgt := 11) hx hb dX11_tellsOf_175 (by decide) ?_
          replace hmo := ((o_21 315 (by decide))).trans hmo
          replace hss_ := ((o_21 316 (by decide))).trans hss_
          replace hsp_ := ((o_21 319 (by decide))).trans hsp_
          replace hwi_ := ((o_21 320 (by decide))).trans hwi_
          exact ih_3 (i + 1) (d - 1) (vp_updL va1 ((d - 1) - 1) (two 12 (va1 ((d - 1) - 1)) (va1 (d - 1)))) f_21 _ _ _ (by omega) (by rw [hdx]; show _ = stE (ltk (fun i c => ss (4 * i + c + 10)) (satN (fun t c => ss (10 * t + c + 1546)) ju q pn fd) (sinV (fun t c => ss (10 * t + c + 1546)) ju q pn fd) pn q) (sp i, wi i) (ev (ltk (fun i c => ss (4 * i + c + 10)) (satN (fun t c => ss (10 * t + c + 1546)) ju q pn fd) (sinV (fun t c => ss (10 * t + c + 1546)) ju q pn fd) pn q) (zl.drop (sn - i))); rw [← hst]; unfold stE; rw [ex9, if_neg (by decide), if_neg (by decide), if_neg (by decide), if_neg (by decide)]; exact stj_b (h := two 12) (by omega)) (by omega) (hmo) (hss_) (hsp_) (hwi_) (hva_) (fun j hj => ((o_21 j (by omega))).trans (o_2 j (by omega))) hP hS (lv_sub hl [3, 4, 5, 1, 0] rfl)
  exact key3 (sn + 1) 0 0 va f_1 _ _ _ (Nat.zero_le _) (by rw [Nat.sub_zero, ← hlen, List.drop_length]; rfl) (by omega) (hmo) (hss_) (hsp_) (hwi_) (hva_) (fun j _ => rfl) hP hS (lv_sub hl [2, 3, 4, 1, 0] rfl)


set_option maxHeartbeats 4000000 in
set_option maxRecDepth 100000 in
theorem r_countOfF (l : Launch) (G : gW) (g : Nat → Nat) (hg : gOK g) (f : Nat → va_E) (ab2 : Int64) (be2 : Int64) (sn : Int32) (wn : Int32) (sa : Int32) (ly : Int32) (rdy : Int32) (fd : Nat) (ss : Nat → Int32) (np : Nat) (nf : Nat) (nr : Nat) (na : Nat) (nt : Nat) (sp : Nat → Int32) (wi : Nat → Int32) (wa : Nat → Int32) (va : Nat → Int64) (bo : Nat → Int32) (ju : Nat → Int32) (dr : Nat → Int32) (dn : Nat → Int32) (sl : Nat → Int32) (ax : Nat → Int32) (lf : Nat → Int32) (wq : Nat) (hmo : f 315 = eO 10 [.ref (g 316), .ref (g 317), .ref (g 318), .long ab2, .long be2, .int sn, .ref (g 319), .ref (g 320), .int wn, .ref (g 321), .ref (g 322), .int sa, .int ly, .int rdy, .int (nI fd), .ref (g 323), .ref (g 324), .ref (g 325), .ref (g 326), .ref (g 327), .ref (g 328), .ref (g 329), .ref (g 330), .ref (g 331), .ref (g 332)]) (hss_ : f 316 = eI G 2246 ss) (hsp_ : f 319 = eI G 70 sp) (hwi_ : f 320 = eI G 70 wi) (hwa_ : f 321 = eI G 70 wa) (hva_ : f 322 = eJ G 70 va) (hbo_ : f 323 = eI G 11 bo) (hju_ : f 324 = eI G 11 ju) (hdr_ : f 325 = eI G 264 dr) (hdn_ : f 326 = eI G 11 dn) (hsl_ : f 327 = eI G 330 sl) (hax_ : f 328 = eI G 44 ax) (hlf_ : f 329 = eI G 30 lf) (hst : stOK ss np nf nr na nt) (hfo : fd ≤ 10) (hdn : ∀ k, k < 11 → ∃ d, d ≤ 24 ∧ dn k = nI d) (hwq : wq ≤ 5) (htr : trOK ss nt) (hrd : ¬ rdy = 0 → fd = nt ∧ ∀ z, z < nt → rHz np nf nr na ss bo ju dr dn sl ax z) : Met l yX11_countOf (wsT yX11_countOf cX11_countOf 4 (some .int)) ({ frames := 7, cells := 0, slots := 0, locals := 173 }) (bP G g f [.ref (g 315), .int (nI wq)]) (bQi G g (fun (z9 : Int32) (f' : Nat → va_E) => ∃ sn9 : Int32, ∃ wn9 : Int32, ∃ sa9 : Int32, ∃ ly9 : Int32, ∃ sp9 : Nat → Int32, ∃ wi9 : Nat → Int32, ∃ wa9 : Nat → Int32, ∃ va9 : Nat → Int64, ∃ bo9 : Nat → Int32, ∃ ju9 : Nat → Int32, ∃ dr9 : Nat → Int32, ∃ dn9 : Nat → Int32, ∃ sl9 : Nat → Int32, ∃ ax9 : Nat → Int32, ∃ lf9 : Nat → Int32, ∃ rdy9 : Int32, ∃ fd9 : Nat, f' 315 = eO 10 [.ref (g 316), .ref (g 317), .ref (g 318), .long ab2, .long be2, .int sn9, .ref (g 319), .ref (g 320), .int wn9, .ref (g 321), .ref (g 322), .int sa9, .int ly9, .int rdy9, .int (nI fd9), .ref (g 323), .ref (g 324), .ref (g 325), .ref (g 326), .ref (g 327), .ref (g 328), .ref (g 329), .ref (g 330), .ref (g 331), .ref (g 332)] ∧ f' 319 = eI G 70 sp9 ∧ f' 320 = eI G 70 wi9 ∧ f' 321 = eI G 70 wa9 ∧ f' 322 = eJ G 70 va9 ∧ f' 323 = eI G 11 bo9 ∧ f' 324 = eI G 11 ju9 ∧ f' 325 = eI G 264 dr9 ∧ f' 326 = eI G 11 dn9 ∧ f' 327 = eI G 330 sl9 ∧ f' 328 = eI G 44 ax9 ∧ f' 329 = eI G 30 lf9 ∧ (∀ k, k < 11 → ∃ d, d ≤ 24 ∧ dn9 k = nI d) ∧ (fd9 ≤ 10) ∧ (¬ rdy9 = 0) ∧ (fd9 = nt) ∧ (∀ z, z < nt → rHz np nf nr na ss bo9 ju9 dr9 dn9 sl9 ax9 z) ∧ (z9 = cnV np nf nr na nt (jcn (rJr np nf nr na ss) nt) (nI wq)) ∧ ∀ j, (j < 315 ∨ (316 ≤ j ∧ j ≤ 318) ∨ 330 ≤ j) → f' j = f j)) 0 0 (gA g) := by
  refine Met.ofW (cc := cX11_countOf) (maxL := 4) (ret := (some .int)) (by decide) rfl ?_
  intro p e s m args below meth c s₁ B hml hv
  obtain ⟨rfl, hP, hG⟩ := hv
  have hx := B.exec
  have hb := B.bytes
  have hr := B.returns
  have hts := my_hts (atoms_spec (ws := wsT yX11_countOf cX11_countOf 4 (some .int)) B.pre)
  have hown : s.vm.findClass RX11 = some m.cls := findClass_of_methodNamed B.named
  have hlocks := B.notSynchronized
  have hS : va_S (gA g) s.heap s.heap [] := va_S.rf
  have hl := lv_entry ([.ref (g 315), .int (nI wq)]) (n := 4) (Nat.le_of_ble_eq_true rfl)
  rw [lg_entry_eq]
  generalize (lg_sl ([.ref (g 315), .int (nI wq)]) ++ List.replicate (4 - (lg_sl ([.ref (g 315), .int (nI wq)])).length) Slot.unset).toArray = ls at hl ⊢
  have hl : lv_has ls 4 [(0, .ref (g 315)), (1, .int (nI wq))] := hl
  refine W_q8 (fun Q9 hQ9 => ?_)
  have hc0 := hst.c0
  have hc1 := hst.c1
  have hc2 := hst.c2
  have hc3 := hst.c3
  have hc4 := hst.c4
  refine lv_aload_n hx hb dX11_countOf_0 rfl (lv_at hl 0 rfl) ?_
  refine b_callv (va_runV (As := []) (rest := []) ⟨hx, hb, hml, hown, hts⟩ (r_findsE l G g hg f ab2 be2 sn wn sa ly rdy fd ss np nf nr na nt sp wi wa va bo ju dr dn sl ax lf hmo hss_ hsp_ hwi_ hwa_ hva_ hbo_ hju_ hdr_ hdn_ hsl_ hax_ hlf_ (by first | assumption | omega | decide) (by first | assumption | omega | decide) (by first | assumption | omega | decide) (by first | assumption | omega | decide) (by first | assumption | omega | decide)) (my_cwV hts ok_X11_finds w_523 rfl rfl ⟨Nat.le_of_ble_eq_true rfl, Nat.le_of_ble_eq_true rfl⟩) ⟨bP.blind, va_recv hG.1 hP (ci := 10) (q0 := 315) rfl (wl_at (by decide) hmo), fun U hU hW => ⟨rfl, by rw [hU]; exact hP, kG.warm hW hG⟩⟩ rfl rfl hl.1 rfl (lv_room (Nat.le_of_ble_eq_true rfl)) dX11_countOf_1 ⟨Nat.le_of_ble_eq_true rfl, Nat.le_of_ble_eq_true rfl⟩) hS (fun f_1 H locs hq9 hP hS => ?_)
  obtain ⟨sn91, wn92, sa93, ly94, sp95, wi96, wa97, va98, bo99, ju910, dr911, dn912, sl913, ax914, lf915, rdy916, fd917, hq_1_0, hq_1_1, hq_1_2, hq_1_3, hq_1_4, hq_1_5, hq_1_6, hq_1_7, hq_1_8, hq_1_9, hq_1_10, hq_1_11, hx_1_0, hx_1_1, hx_1_2, hx_1_3, hx_1_4, o_1⟩ := hq9
  have hmo : f_1 315 = eO 10 [.ref (g 316), .ref (g 317), .ref (g 318), .long ab2, .long be2, .int sn91, .ref (g 319), .ref (g 320), .int wn92, .ref (g 321), .ref (g 322), .int sa93, .int ly94, .int rdy916, .int (nI fd917), .ref (g 323), .ref (g 324), .ref (g 325), .ref (g 326), .ref (g 327), .ref (g 328), .ref (g 329), .ref (g 330), .ref (g 331), .ref (g 332)] := hq_1_0
  have hsp_ : f_1 319 = eI G 70 sp95 := hq_1_1
  have hwi_ : f_1 320 = eI G 70 wi96 := hq_1_2
  have hwa_ : f_1 321 = eI G 70 wa97 := hq_1_3
  have hva_ : f_1 322 = eJ G 70 va98 := hq_1_4
  have hbo_ : f_1 323 = eI G 11 bo99 := hq_1_5
  have hju_ : f_1 324 = eI G 11 ju910 := hq_1_6
  have hdr_ : f_1 325 = eI G 264 dr911 := hq_1_7
  have hdn_ : f_1 326 = eI G 11 dn912 := hq_1_8
  have hsl_ : f_1 327 = eI G 330 sl913 := hq_1_9
  have hax_ : f_1 328 = eI G 44 ax914 := hq_1_10
  have hlf_ : f_1 329 = eI G 30 lf915 := hq_1_11
  refine lv_iconst (v := 0) hx hb dX11_countOf_4 (by decide) ?_
  refine lv_istore_n (lv' := [(2, .int 0), (0, .ref (g 315)), (1, .int (nI wq))]) hx hb dX11_countOf_5 rfl hl (by decide) rfl (fun ls hl => ?_)
  refine lv_iconst (v := 0) hx hb dX11_countOf_6 (by decide) ?_
  refine lv_istore_n (lv' := [(3, .int 0), (2, .int 0), (0, .ref (g 315)), (1, .int (nI wq))]) hx hb dX11_countOf_7 rfl hl (by decide) rfl (fun ls hl => ?_)
  replace hss_ := ((o_1 316 (by first | decide | omega))).trans hss_
  have key18 : ∀ (n9_18 : Nat) (i : Nat) (u : Nat) (f_2 : Nat → va_E) (H : Heap) (locs : List Loc) (ls : Array Slot), (i ≤ nt) → (u = jcn (rJr np nf nr na ss) i) → nt - i < n9_18 → f_2 315 = eO 10 [.ref (g 316), .ref (g 317), .ref (g 318), .long ab2, .long be2, .int sn91, .ref (g 319), .ref (g 320), .int wn92, .ref (g 321), .ref (g 322), .int sa93, .int ly94, .int rdy916, .int (nI fd917), .ref (g 323), .ref (g 324), .ref (g 325), .ref (g 326), .ref (g 327), .ref (g 328), .ref (g 329), .ref (g 330), .ref (g 331), .ref (g 332)] → f_2 316 = eI G 2246 ss → f_2 319 = eI G 70 sp95 → f_2 320 = eI G 70 wi96 → f_2 321 = eI G 70 wa97 → f_2 322 = eJ G 70 va98 → f_2 323 = eI G 11 bo99 → f_2 324 = eI G 11 ju910 → f_2 325 = eI G 264 dr911 → f_2 326 = eI G 11 dn912 → f_2 327 = eI G 330 sl913 → f_2 328 = eI G 44 ax914 → f_2 329 = eI G 30 lf915 → (∀ j, (j < 333 ∨ 333 ≤ j) → f_2 j = f_1 j) → va_P G.1 vwCl (wl g f_2) H → va_S (gA g) s.heap H locs → lv_has ls 4 [(0, .ref (g 315)), (1, .int (nI wq)), (2, .int (nI u)), (3, .int (nI i))] → W p l e (headSpec (wsT yX11_countOf cX11_countOf 4 (some .int)) ({ frames := 7, cells := 0, slots := 0, locals := 173 })).room s m ([.ref (g 315), .int (nI wq)] : List Value).toArray below meth c H locs 0 0 Q9 (F0 m 8 ls []) := by
    intro n9_18
    induction n9_18 with
    | zero => intro i u f_2 H locs ls hi hu hn9_18; exact absurd hn9_18 (Nat.not_lt_zero _)
    | succ n9_18 ih_18 =>
      intro i u f_2 H locs ls hi hu hn9_18 hmo hss_ hsp_ hwi_ hwa_ hva_ hbo_ hju_ hdr_ hdn_ hsl_ hax_ hlf_ o_2 hP hS hl
      refine lv_iload_n hx hb dX11_countOf_8 rfl (lv_at hl 3 rfl) ?_
      refine lv_aload_n hx hb dX11_countOf_9 rfl (lv_at hl 0 rfl) ?_
      refine va_get (D := G.1) (ci := 10) (v := .ref (g 316)) (C := RX11) (T := TX11) (N := 25) hx hb hts inlX11 hown hG.1 hP 315 (wl_at (by decide) hmo) rfl 0 (by decide) (hts (.fieldLink RX11 7 "SwornListsModel" "st" "[I") w_112) (fun _ h9 => h9) rfl dX11_countOf_10 ?_
      refine lv_iconst (v := 4) hx hb dX11_countOf_13 (by decide) ?_
      refine va_iald hx hb hG.1 hP 316 0 (wl_at (by decide) hss_) rfl (by unfold vp_in; decide) dX11_countOf_14 ?_
      refine my_bei (v := ss 4) (rfl) ?_
      refine my_bei (v := nI nt) (hst.h4) ?_
      refine lv_icmp_ge (tgt := 41) hx hb dX11_countOf_15 (by decide) (fun c_15 => ?_) (fun c_15 => ?_)
      · have k_15 : nt ≤ i := (nI_leI (a := nt) (b := i) (by omega) (by omega)).mp c_15
        refine lv_iload_n hx hb dX11_countOf_41 rfl (lv_at hl 1 rfl) ?_
        refine lv_iconst (v := 5) hx hb dX11_countOf_42 (by decide) ?_
        refine lv_icmp_ne (tgt := 50) hx hb dX11_countOf_43 (by decide) (fun c_43 => ?_) (fun c_43 => ?_)
        · have k_43 : ¬ wq = 5 := fun z9 => c_43 ((nI_eq (a := wq) (b := 5) (by omega) (by omega)).mpr z9)
          refine lv_aload_n hx hb dX11_countOf_50 rfl (lv_at hl 0 rfl) ?_
          refine va_get (D := G.1) (ci := 10) (v := .ref (g 316)) (C := RX11) (T := TX11) (N := 25) hx hb hts inlX11 hown hG.1 hP 315 (wl_at (by decide) hmo) rfl 0 (by decide) (hts (.fieldLink RX11 7 "SwornListsModel" "st" "[I") w_112) (fun _ h9 => h9) rfl dX11_countOf_51 ?_
          refine lv_iload_n hx hb dX11_countOf_54 rfl (lv_at hl 1 rfl) ?_
          refine va_iald hx hb hG.1 hP 316 0 (wl_at (by decide) hss_) rfl (vp_in_nI (by omega) (by decide)) dX11_countOf_55 ?_
          refine my_bei (v := ss wq) (congrArg ss (nI_clamp (n := wq) (by omega))) ?_
          refine W_q9 hQ9 ?_
          exact W.iret (v := ss wq) hx hb hr (fun _ hT9 _ => ⟨⟨_, f_2, rfl, (⟨sn91, wn92, sa93, ly94, sp95, wi96, wa97, va98, bo99, ju910, dr911, dn912, sl913, ax914, lf915, rdy916, fd917, hmo, hsp_, hwi_, hwa_, hva_, hbo_, hju_, hdr_, hdn_, hsl_, hax_, hlf_, hx_1_0, hx_1_1, hx_1_2, hx_1_3, hx_1_4, by rw [cnV_ss (j := jcn (rJr np nf nr na ss) nt) hst hwq k_43], fun j hj => ((o_2 j (by omega))).trans (o_1 j (by omega))⟩), by rw [hT9]; exact hP⟩, hS.F hT9⟩) hS.2.2 dX11_countOf_56
        · have k_43 : wq = 5 := (nI_eq (a := wq) (b := 5) (by omega) (by omega)).mp c_43
          refine lv_iload_n hx hb dX11_countOf_46 rfl (lv_at hl 2 rfl) ?_
          refine lv_goto (tgt := 56) hx hb dX11_countOf_47 (by decide) ?_
          refine W_q9 hQ9 ?_
          exact W.iret (v := nI u) hx hb hr (fun _ hT9 _ => ⟨⟨_, f_2, rfl, (⟨sn91, wn92, sa93, ly94, sp95, wi96, wa97, va98, bo99, ju910, dr911, dn912, sl913, ax914, lf915, rdy916, fd917, hmo, hsp_, hwi_, hwa_, hva_, hbo_, hju_, hdr_, hdn_, hsl_, hax_, hlf_, hx_1_0, hx_1_1, hx_1_2, hx_1_3, hx_1_4, by rw [k_43, cnV_5, hu, show i = nt by omega], fun j hj => ((o_2 j (by omega))).trans (o_1 j (by omega))⟩), by rw [hT9]; exact hP⟩, hS.F hT9⟩) hS.2.2 dX11_countOf_56
      · have k_15 : ¬ nt ≤ i := fun z9 => c_15 ((nI_leI (a := nt) (b := i) (by omega) (by omega)).mpr z9)
        have hjl := jcn_le (J := (rJr np nf nr na ss)) i
        refine lv_iload_n hx hb dX11_countOf_18 rfl (lv_at hl 2 rfl) ?_
        refine lv_aload_n hx hb dX11_countOf_19 rfl (lv_at hl 0 rfl) ?_
        refine va_get (D := G.1) (ci := 10) (v := .ref (g 324)) (C := RX11) (T := TX11) (N := 25) hx hb hts inlX11 hown hG.1 hP 315 (wl_at (by decide) hmo) rfl 16 (by decide) (hts (.fieldLink RX11 36 "SwornListsModel" "juries" "[I") w_120) (fun _ h9 => h9) rfl dX11_countOf_20 ?_
        refine lv_iload_n hx hb dX11_countOf_23 rfl (lv_at hl 3 rfl) ?_
        refine va_iald hx hb hG.1 hP 324 0 (wl_at (by decide) hju_) rfl (vp_in_nI (by omega) (by decide)) dX11_countOf_24 ?_
        refine my_bei (v := ju910 i) (congrArg ju910 (nI_clamp (n := i) (by omega))) ?_
        refine lv_if_eq (tgt := 32) hx hb dX11_countOf_25 (by decide) (fun c_25 => ?_) (fun c_25 => ?_)
        · refine lv_iconst (v := 0) hx hb dX11_countOf_32 (by decide) ?_
          refine lv_iadd hx hb dX11_countOf_33 ?_
          refine my_bei (v := nI u) ((nI_add u 0).trans (congrArg nI (show u + 0 = u by omega))) ?_
          refine lv_istore_n (lv' := [(2, .int (nI u)), (0, .ref (g 315)), (1, .int (nI wq)), (3, .int (nI i))]) hx hb dX11_countOf_34 rfl hl (by decide) rfl (fun ls hl => ?_)
          refine lv_iinc (v := nI (i + 1)) (lv' := [(3, .int (nI (i + 1))), (2, .int (nI u)), (0, .ref (g 315)), (1, .int (nI wq))]) hx hb dX11_countOf_35 hl (k := 3) rfl (nI_add i 1) (by decide) rfl (fun ls hl => ?_)
          refine lv_goto (tgt := 8) hx hb dX11_countOf_38 (by decide) ?_
          exact ih_18 (i + 1) u f_2 _ _ _ (by omega) (by rw [hu, jcn_n (by rw [← rHz_ju (hx_1_4 i (by omega))]; exact c_25)]) (by omega) (hmo) (hss_) (hsp_) (hwi_) (hwa_) (hva_) (hbo_) (hju_) (hdr_) (hdn_) (hsl_) (hax_) (hlf_) (fun j hj => (o_2 j (by omega))) hP hS (lv_sub hl [2, 3, 1, 0] rfl)
        · refine lv_iconst (v := 1) hx hb dX11_countOf_28 (by decide) ?_
          refine lv_goto (tgt := 33) hx hb dX11_countOf_29 (by decide) ?_
          refine lv_iadd hx hb dX11_countOf_33 ?_
          refine my_bei (v := nI (u + 1)) (nI_add u 1) ?_
          refine lv_istore_n (lv' := [(2, .int (nI (u + 1))), (0, .ref (g 315)), (1, .int (nI wq)), (3, .int (nI i))]) hx hb dX11_countOf_34 rfl hl (by decide) rfl (fun ls hl => ?_)
          refine lv_iinc (v := nI (i + 1)) (lv' := [(3, .int (nI (i + 1))), (2, .int (nI (u + 1))), (0, .ref (g 315)), (1, .int (nI wq))]) hx hb dX11_countOf_35 hl (k := 3) rfl (nI_add i 1) (by decide) rfl (fun ls hl => ?_)
          refine lv_goto (tgt := 8) hx hb dX11_countOf_38 (by decide) ?_
          exact ih_18 (i + 1) (u + 1) f_2 _ _ _ (by omega) (by rw [hu, jcn_y (by rw [← rHz_ju (hx_1_4 i (by omega))]; exact c_25)]) (by omega) (hmo) (hss_) (hsp_) (hwi_) (hwa_) (hva_) (hbo_) (hju_) (hdr_) (hdn_) (hsl_) (hax_) (hlf_) (fun j hj => (o_2 j (by omega))) hP hS (lv_sub hl [2, 3, 1, 0] rfl)
  exact key18 (nt + 1) 0 0 f_1 _ _ _ (Nat.zero_le _) (rfl) (by omega) (hmo) (hss_) (hsp_) (hwi_) (hwa_) (hva_) (hbo_) (hju_) (hdr_) (hdn_) (hsl_) (hax_) (hlf_) (fun j _ => rfl) hP hS (lv_sub hl [2, 3, 1, 0] rfl)


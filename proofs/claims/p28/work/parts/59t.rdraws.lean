theorem dw_p {dr : Nat → Int32} {P : Nat → Nat} {d to : Nat} (h : ∀ k, k < d → dr (k + 24 * to) = nI (P k)) : ∀ k, k < d + 1 → upd dr (d + 24 * to) (nI (P d)) (k + 24 * to) = nI (P k) := by
  intro k hk
  by_cases e : k = d
  · rw [e, pk_us]
  · rw [pk_un (by omega)]; exact h k (by omega)
set_option maxHeartbeats 4000000 in
set_option maxRecDepth 100000 in
theorem r_drawsE (l : Launch) (G : gW) (g : Nat → Nat) (hg : gOK g) (f : Nat → va_E) (ab2 : Int64) (be2 : Int64) (sn : Int32) (wn : Int32) (sa : Int32) (ly : Int32) (rdy : Int32) (fd : Int32) (ss : Nat → Int32) (np : Nat) (nf : Nat) (nr : Nat) (na : Nat) (nt : Nat) (bo : Nat → Int32) (dr : Nat → Int32) (dn : Nat → Int32) (ax : Nat → Int32) (lf : Nat → Int32) (t : Nat) (to : Nat) (sq : Nat) (box : Int32) (hmo : f 315 = eO 10 [.ref (g 316), .ref (g 317), .ref (g 318), .long ab2, .long be2, .int sn, .ref (g 319), .ref (g 320), .int wn, .ref (g 321), .ref (g 322), .int sa, .int ly, .int rdy, .int fd, .ref (g 323), .ref (g 324), .ref (g 325), .ref (g 326), .ref (g 327), .ref (g 328), .ref (g 329), .ref (g 330), .ref (g 331), .ref (g 332)]) (hss_ : f 316 = eI G 2246 ss) (hbo_ : f 323 = eI G 11 bo) (hdr_ : f 325 = eI G 264 dr) (hdn_ : f 326 = eI G 11 dn) (hax_ : f 328 = eI G 44 ax) (hlf_ : f 329 = eI G 30 lf) (hst : stOK ss np nf nr na nt) (ht0 : t < nt) (hto : to < 11) (hbx : bo to = box) (hsq : sq ≤ 24) (hss : ss (10 * t + 1554) = nI sq) : Met l yX11_draws (wsT yX11_draws cX11_draws 7 none) ({ frames := 1, cells := 0, slots := 0, locals := 22 }) (bP G g f [.ref (g 315), .int (nI t), .int (nI to)]) (bQv G g (fun (f' : Nat → va_E) => ∃ dr9 : Nat → Int32, ∃ dn9 : Nat → Int32, ∃ ax9 : Nat → Int32, ∃ lf9 : Nat → Int32, f' 325 = eI G 264 dr9 ∧ f' 326 = eI G 11 dn9 ∧ f' 328 = eI G 44 ax9 ∧ f' 329 = eI G 30 lf9 ∧ (dn9 to = nI (min sq (cnt box 30))) ∧ (∀ k, k ≠ to → dn9 k = dn k) ∧ (∀ k, k < (min sq (cnt box 30)) → dr9 (k + 24 * to) = nI (drP box (ss (10 * t + 1553)) k)) ∧ (∀ k, (k < 24 * to ∨ 24 * to + 24 ≤ k) → dr9 k = dr k) ∧ (ax9 (4 * to + 3) = lotF (ss (10 * t + 1553)) (min sq (cnt box 30))) ∧ (∀ k, k ≠ 4 * to + 3 → ax9 k = ax k) ∧ ∀ j, (j ≠ 325 ∧ j ≠ 326 ∧ j ≠ 328 ∧ j ≠ 329) → f' j = f j)) 0 0 (gA g) := by
  refine Met.ofW (cc := cX11_draws) (maxL := 7) (ret := none) (by decide) rfl ?_
  intro p e s m args below meth c s₁ B hml hv
  obtain ⟨rfl, hP, hG⟩ := hv
  have hx := B.exec
  have hb := B.bytes
  have hr := B.returns
  have hts := my_hts (atoms_spec (ws := wsT yX11_draws cX11_draws 7 none) B.pre)
  have hown : s.vm.findClass RX11 = some m.cls := findClass_of_methodNamed B.named
  have hlocks := B.notSynchronized
  have hS : va_S (gA g) s.heap s.heap [] := va_S.rf
  have hl := lv_entry ([.ref (g 315), .int (nI t), .int (nI to)]) (n := 7) (Nat.le_of_ble_eq_true rfl)
  rw [lg_entry_eq]
  generalize (lg_sl ([.ref (g 315), .int (nI t), .int (nI to)]) ++ List.replicate (7 - (lg_sl ([.ref (g 315), .int (nI t), .int (nI to)])).length) Slot.unset).toArray = ls at hl ⊢
  have hl : lv_has ls 7 [(0, .ref (g 315)), (1, .int (nI t)), (2, .int (nI to))] := hl
  refine W_q8 (fun Q9 hQ9 => ?_)
  have hc0 := hst.c0
  have hc1 := hst.c1
  have hc2 := hst.c2
  have hc3 := hst.c3
  have hc4 := hst.c4
  refine lv_iconst (v := 0) hx hb dX11_draws_0 (by decide) ?_
  refine lv_istore_n (lv' := [(3, .int 0), (0, .ref (g 315)), (1, .int (nI t)), (2, .int (nI to))]) hx hb dX11_draws_1 rfl hl (by decide) rfl (fun ls hl => ?_)
  refine lv_iconst (v := 0) hx hb dX11_draws_2 (by decide) ?_
  refine lv_istore (lv' := [(4, .int 0), (3, .int 0), (0, .ref (g 315)), (1, .int (nI t)), (2, .int (nI to))]) hx hb dX11_draws_3 hl (by decide) rfl (fun ls hl => ?_)
  have key1 : ∀ (n9_1 : Nat) (i : Nat) (n1 : Nat) (lf1 : Nat → Int32) (f_1 : Nat → va_E) (H : Heap) (locs : List Loc) (ls : Array Slot), (i ≤ 30) → (n1 = cnt box i) → (isL lf1 (lsB box i)) → (n1 ≤ i) → 30 - i < n9_1 → f_1 315 = eO 10 [.ref (g 316), .ref (g 317), .ref (g 318), .long ab2, .long be2, .int sn, .ref (g 319), .ref (g 320), .int wn, .ref (g 321), .ref (g 322), .int sa, .int ly, .int rdy, .int fd, .ref (g 323), .ref (g 324), .ref (g 325), .ref (g 326), .ref (g 327), .ref (g 328), .ref (g 329), .ref (g 330), .ref (g 331), .ref (g 332)] → f_1 316 = eI G 2246 ss → f_1 323 = eI G 11 bo → f_1 325 = eI G 264 dr → f_1 326 = eI G 11 dn → f_1 328 = eI G 44 ax → f_1 329 = eI G 30 lf1 → (∀ j, j ≠ 329 → f_1 j = f j) → va_P G.1 vwCl (wl g f_1) H → va_S (gA g) s.heap H locs → lv_has ls 7 [(0, .ref (g 315)), (1, .int (nI t)), (2, .int (nI to)), (3, .int (nI n1)), (4, .int (nI i))] → W p l e (headSpec (wsT yX11_draws cX11_draws 7 none) ({ frames := 1, cells := 0, slots := 0, locals := 22 })).room s m ([.ref (g 315), .int (nI t), .int (nI to)] : List Value).toArray below meth c H locs 0 0 Q9 (F0 m 5 ls []) := by
    intro n9_1
    induction n9_1 with
    | zero => intro i n1 lf1 f_1 H locs ls hi hn1 hp1 hni hn9_1; exact absurd hn9_1 (Nat.not_lt_zero _)
    | succ n9_1 ih_1 =>
      intro i n1 lf1 f_1 H locs ls hi hn1 hp1 hni hn9_1 hmo hss_ hbo_ hdr_ hdn_ hax_ hlf_ o_1 hP hS hl
      refine lv_iload hx hb dX11_draws_5 (lv_at hl 4 rfl) ?_
      refine lv_bipush (v := 30) hx hb dX11_draws_7 (by decide) ?_
      refine lv_icmp_ge (tgt := 44) hx hb dX11_draws_9 (by decide) (fun c_9 => ?_) (fun c_9 => ?_)
      · have k_9 : 30 ≤ i := (nI_leI (a := 30) (b := i) (by omega) (by omega)).mp c_9
        refine lv_aload_n hx hb dX11_draws_44 rfl (lv_at hl 0 rfl) ?_
        refine lv_iload_n hx hb dX11_draws_45 rfl (lv_at hl 1 rfl) ?_
        refine lv_bipush (v := 7) hx hb dX11_draws_46 (by decide) ?_
        refine rd_calli (va_runV (As := [.int (nI t), .int 7]) (rest := []) ⟨hx, hb, hml, hown, hts⟩ (r_ofTrial l G g hg f_1 ab2 be2 sn wn sa ly rdy fd ss t 7 hmo hss_ (by first | assumption | omega | decide)) (my_cwV hts ok_X11_ofTrial w_532 rfl rfl ⟨Nat.le_of_ble_eq_true rfl, Nat.le_of_ble_eq_true rfl⟩) ⟨bP.blind, va_recv hG.1 hP (ci := 10) (q0 := 315) rfl (wl_at (by decide) hmo), fun U hU hW => ⟨rfl, by rw [hU]; exact hP, kG.warm hW hG⟩⟩ rfl rfl hl.1 rfl (lv_room (Nat.le_of_ble_eq_true rfl)) dX11_draws_48 ⟨Nat.le_of_ble_eq_true rfl, Nat.le_of_ble_eq_true rfl⟩) (fun r hr9 => ?_)
        subst hr9
        refine my_bei (v := ss (10 * t + 1553)) (congrArg ss (show 10 * t + 7 + 1546 = 10 * t + 1553 by omega)) ?_
        refine lv_istore (lv' := [(4, .int (ss (10 * t + 1553))), (0, .ref (g 315)), (1, .int (nI t)), (2, .int (nI to)), (3, .int (nI n1))]) hx hb dX11_draws_51 hl (by decide) rfl (fun ls hl => ?_)
        refine lv_aload_n hx hb dX11_draws_53 rfl (lv_at hl 1 rfl) ?_
        refine va_get (D := G.1) (ci := 10) (v := .ref (g 326)) (C := RX11) (T := TX11) (N := 25) hx hb hts inlX11 hown hG.1 hP 315 (wl_at (by decide) hmo) rfl 18 (by decide) (hts (.fieldLink RX11 42 "SwornListsModel" "drews" "[I") w_122) (fun _ h9 => h9) rfl dX11_draws_54 ?_
        refine lv_iload_n hx hb dX11_draws_57 rfl (lv_at hl 3 rfl) ?_
        refine lv_iconst (v := 0) hx hb dX11_draws_58 (by decide) ?_
        refine va_iast hx hb hG.1 hP (wl_D hg f_1) hS 326 0 (wl_at (by decide) hdn_) rfl (vp_in_nI (by omega) (by decide)) dX11_draws_59 (fun H locs hP _ hS => ?_)
        have hP := (congrArg (fun z9 => va_P G.1 vwCl ((wl g f_1).set 326 (g 326, eI G 11 ((upd dn z9 0)))) H) (show Int32.toNatClampNeg (nI to) = to from nI_clamp (by omega))).mp hP
        obtain ⟨f_2, hP, e_2, o_2⟩ := b_put (by decide) hP
        have hdn_ : f_2 326 = eI G 11 (upd dn to 0) := e_2
        replace hmo := ((o_2 315 (by decide))).trans hmo
        replace hss_ := ((o_2 316 (by decide))).trans hss_
        replace hbo_ := ((o_2 323 (by decide))).trans hbo_
        replace hdr_ := ((o_2 325 (by decide))).trans hdr_
        replace hax_ := ((o_2 328 (by decide))).trans hax_
        replace hlf_ := ((o_2 329 (by decide))).trans hlf_
        have key2 : ∀ (n9_2 : Nat) (n2 : Nat) (d2 : Nat) (lf2 : Nat → Int32) (dr2 : Nat → Int32) (dn2 : Nat → Int32) (f_3 : Nat → va_E) (H : Heap) (locs : List Loc) (ls : Array Slot), (n2 = (cnt (drB box (ss (10 * t + 1553)) d2) 30)) → (n2 ≤ 30) → (d2 ≤ sq) → (d2 ≤ cnt box 30) → (isL lf2 (lsB (drB box (ss (10 * t + 1553)) d2) 30)) → (∀ k, k < d2 → dr2 (k + 24 * to) = nI (drP box (ss (10 * t + 1553)) k)) → (dn2 to = nI d2) → (∀ k, k ≠ to → dn2 k = dn k) → (∀ k, (k < 24 * to ∨ 24 * to + 24 ≤ k) → dr2 k = dr k) → 30 - d2 < n9_2 → f_3 315 = eO 10 [.ref (g 316), .ref (g 317), .ref (g 318), .long ab2, .long be2, .int sn, .ref (g 319), .ref (g 320), .int wn, .ref (g 321), .ref (g 322), .int sa, .int ly, .int rdy, .int fd, .ref (g 323), .ref (g 324), .ref (g 325), .ref (g 326), .ref (g 327), .ref (g 328), .ref (g 329), .ref (g 330), .ref (g 331), .ref (g 332)] → f_3 316 = eI G 2246 ss → f_3 323 = eI G 11 bo → f_3 325 = eI G 264 dr2 → f_3 326 = eI G 11 dn2 → f_3 328 = eI G 44 ax → f_3 329 = eI G 30 lf2 → (∀ j, (j ≠ 325 ∧ j ≠ 326 ∧ j ≠ 329) → f_3 j = f_2 j) → va_P G.1 vwCl (wl g f_3) H → va_S (gA g) s.heap H locs → lv_has ls 7 [(0, .ref (g 315)), (1, .int (nI t)), (2, .int (nI to)), (3, .int (nI n2)), (4, .int (lotF (ss (10 * t + 1553)) d2))] → W p l e (headSpec (wsT yX11_draws cX11_draws 7 none) ({ frames := 1, cells := 0, slots := 0, locals := 22 })).room s m ([.ref (g 315), .int (nI t), .int (nI to)] : List Value).toArray below meth c H locs 0 0 Q9 (F0 m 60 ls []) := by
          intro n9_2
          induction n9_2 with
          | zero => intro n2 d2 lf2 dr2 dn2 f_3 H locs ls hn2 hn3 hd2 hd3 hp2 hw2 he2 ho2 ho3 hn9_2; exact absurd hn9_2 (Nat.not_lt_zero _)
          | succ n9_2 ih_2 =>
            intro n2 d2 lf2 dr2 dn2 f_3 H locs ls hn2 hn3 hd2 hd3 hp2 hw2 he2 ho2 ho3 hn9_2 hmo hss_ hbo_ hdr_ hdn_ hax_ hlf_ o_3 hP hS hl
            refine lv_iload_n hx hb dX11_draws_60 rfl (lv_at hl 3 rfl) ?_
            refine lv_if_le (tgt := 174) hx hb dX11_draws_61 (by decide) (fun c_61 => ?_) (fun c_61 => ?_)
            · have k_61 : n2 ≤ 0 := (nI_leI (a := n2) (b := 0) (by omega) (by omega)).mp c_61
              have hdm : d2 = (min sq (cnt box 30)) := by
                have hc9 := dr_cnt (box := box) (o0 := (ss (10 * t + 1553))) d2 hd3
                omega
              refine lv_aload_n hx hb dX11_draws_174 rfl (lv_at hl 0 rfl) ?_
              refine va_get (D := G.1) (ci := 10) (v := .ref (g 328)) (C := RX11) (T := TX11) (N := 25) hx hb hts inlX11 hown hG.1 hP 315 (wl_at (by decide) hmo) rfl 20 (by decide) (hts (.fieldLink RX11 48 "SwornListsModel" "abouts" "[I") w_124) (fun _ h9 => h9) rfl dX11_draws_175 ?_
              refine lv_iconst (v := 4) hx hb dX11_draws_178 (by decide) ?_
              refine lv_iload_n hx hb dX11_draws_179 rfl (lv_at hl 2 rfl) ?_
              refine lv_imul hx hb dX11_draws_180 ?_
              refine my_bei (v := nI (4 * to)) (pk_mul 4 to) ?_
              refine lv_iconst (v := 3) hx hb dX11_draws_181 (by decide) ?_
              refine lv_iadd hx hb dX11_draws_182 ?_
              refine my_bei (v := nI (4 * to + 3)) ((nI_add (4 * to) 3).trans (congrArg nI (show (4 * to) + 3 = 4 * to + 3 by omega))) ?_
              refine lv_iload hx hb dX11_draws_183 (lv_at hl 4 rfl) ?_
              refine va_iast hx hb hG.1 hP (wl_D hg f_3) hS 328 0 (wl_at (by decide) hax_) rfl (vp_in_nI (by omega) (by decide)) dX11_draws_185 (fun H locs hP _ hS => ?_)
              have hP := (congrArg (fun z9 => va_P G.1 vwCl ((wl g f_3).set 328 (g 328, eI G 44 ((upd ax z9 (lotF (ss (10 * t + 1553)) d2))))) H) (show Int32.toNatClampNeg (nI (4 * to + 3)) = 4 * to + 3 from nI_clamp (by omega))).mp hP
              obtain ⟨f_4, hP, e_4, o_4⟩ := b_put (by decide) hP
              have hax_ : f_4 328 = eI G 44 (upd ax (4 * to + 3) (lotF (ss (10 * t + 1553)) d2)) := e_4
              replace hdr_ := ((o_4 325 (by decide))).trans hdr_
              replace hdn_ := ((o_4 326 (by decide))).trans hdn_
              replace hlf_ := ((o_4 329 (by decide))).trans hlf_
              refine W_q9 hQ9 ?_
              exact W.vret hx hb hr (fun _ hT9 _ => ⟨⟨f_4, rfl, (⟨dr2, dn2, (upd ax (4 * to + 3) (lotF (ss (10 * t + 1553)) d2)), lf2, hdr_, hdn_, hax_, hlf_, by rw [← hdm]; exact he2, ho2, by rw [← hdm]; exact hw2, ho3, by rw [← hdm]; exact pk_us, fun k hk => pk_un (by omega), fun j hj => ((((o_4 j (by omega))).trans (o_3 j (by omega))).trans (o_2 j (by omega))).trans (o_1 j (by omega))⟩), by rw [hT9]; exact hP⟩, hS.F hT9⟩) hS.2.2 dX11_draws_186
            · have k_61 : ¬ n2 ≤ 0 := fun z9 => c_61 ((nI_leI (a := n2) (b := 0) (by omega) (by omega)).mpr z9)
              have hc9 := dr_cnt (box := box) (o0 := (ss (10 * t + 1553))) d2 hd3
              have hd9 : d2 < cnt box 30 := by omega
              refine lv_aload_n hx hb dX11_draws_64 rfl (lv_at hl 0 rfl) ?_
              refine va_get (D := G.1) (ci := 10) (v := .ref (g 326)) (C := RX11) (T := TX11) (N := 25) hx hb hts inlX11 hown hG.1 hP 315 (wl_at (by decide) hmo) rfl 18 (by decide) (hts (.fieldLink RX11 42 "SwornListsModel" "drews" "[I") w_122) (fun _ h9 => h9) rfl dX11_draws_65 ?_
              refine lv_iload_n hx hb dX11_draws_68 rfl (lv_at hl 2 rfl) ?_
              refine va_iald hx hb hG.1 hP 326 0 (wl_at (by decide) hdn_) rfl (vp_in_nI (by omega) (by decide)) dX11_draws_69 ?_
              refine my_bei (v := dn2 to) (congrArg dn2 (nI_clamp (n := to) (by omega))) ?_
              refine my_bei (v := nI d2) (he2) ?_
              refine lv_aload_n hx hb dX11_draws_70 rfl (lv_at hl 0 rfl) ?_
              refine lv_iload_n hx hb dX11_draws_71 rfl (lv_at hl 1 rfl) ?_
              refine lv_bipush (v := 8) hx hb dX11_draws_72 (by decide) ?_
              refine rd_calli (va_runV (As := [.int (nI t), .int 8]) (rest := [.int (nI d2)]) ⟨hx, hb, hml, hown, hts⟩ (r_ofTrial l G g hg f_3 ab2 be2 sn wn sa ly rdy fd ss t 8 hmo hss_ (by first | assumption | omega | decide)) (my_cwV hts ok_X11_ofTrial w_532 rfl rfl ⟨Nat.le_of_ble_eq_true rfl, Nat.le_of_ble_eq_true rfl⟩) ⟨bP.blind, va_recv hG.1 hP (ci := 10) (q0 := 315) rfl (wl_at (by decide) hmo), fun U hU hW => ⟨rfl, by rw [hU]; exact hP, kG.warm hW hG⟩⟩ rfl rfl hl.1 rfl (lv_room (Nat.le_of_ble_eq_true rfl)) dX11_draws_74 ⟨Nat.le_of_ble_eq_true rfl, Nat.le_of_ble_eq_true rfl⟩) (fun r hr9 => ?_)
              subst hr9
              refine my_bei (v := ss (10 * t + 1554)) (congrArg ss (show 10 * t + 8 + 1546 = 10 * t + 1554 by omega)) ?_
              refine my_bei (v := nI sq) (hss) ?_
              refine lv_icmp_ge (tgt := 174) hx hb dX11_draws_77 (by decide) (fun c_77 => ?_) (fun c_77 => ?_)
              · have k_77 : sq ≤ d2 := (nI_leI (a := sq) (b := d2) (by omega) (by omega)).mp c_77
                have hdm : d2 = (min sq (cnt box 30)) := by
                  have hc9 := dr_cnt (box := box) (o0 := (ss (10 * t + 1553))) d2 hd3
                  omega
                refine lv_aload_n hx hb dX11_draws_174 rfl (lv_at hl 0 rfl) ?_
                refine va_get (D := G.1) (ci := 10) (v := .ref (g 328)) (C := RX11) (T := TX11) (N := 25) hx hb hts inlX11 hown hG.1 hP 315 (wl_at (by decide) hmo) rfl 20 (by decide) (hts (.fieldLink RX11 48 "SwornListsModel" "abouts" "[I") w_124) (fun _ h9 => h9) rfl dX11_draws_175 ?_
                refine lv_iconst (v := 4) hx hb dX11_draws_178 (by decide) ?_
                refine lv_iload_n hx hb dX11_draws_179 rfl (lv_at hl 2 rfl) ?_
                refine lv_imul hx hb dX11_draws_180 ?_
                refine my_bei (v := nI (4 * to)) (pk_mul 4 to) ?_
                refine lv_iconst (v := 3) hx hb dX11_draws_181 (by decide) ?_
                refine lv_iadd hx hb dX11_draws_182 ?_
                refine my_bei (v := nI (4 * to + 3)) ((nI_add (4 * to) 3).trans (congrArg nI (show (4 * to) + 3 = 4 * to + 3 by omega))) ?_
                refine lv_iload hx hb dX11_draws_183 (lv_at hl 4 rfl) ?_
                refine va_iast hx hb hG.1 hP (wl_D hg f_3) hS 328 0 (wl_at (by decide) hax_) rfl (vp_in_nI (by omega) (by decide)) dX11_draws_185 (fun H locs hP _ hS => ?_)
                have hP := (congrArg (fun z9 => va_P G.1 vwCl ((wl g f_3).set 328 (g 328, eI G 44 ((upd ax z9 (lotF (ss (10 * t + 1553)) d2))))) H) (show Int32.toNatClampNeg (nI (4 * to + 3)) = 4 * to + 3 from nI_clamp (by omega))).mp hP
                obtain ⟨f_5, hP, e_5, o_5⟩ := b_put (by decide) hP
                have hax_ : f_5 328 = eI G 44 (upd ax (4 * to + 3) (lotF (ss (10 * t + 1553)) d2)) := e_5
                replace hdr_ := ((o_5 325 (by decide))).trans hdr_
                replace hdn_ := ((o_5 326 (by decide))).trans hdn_
                replace hlf_ := ((o_5 329 (by decide))).trans hlf_
                refine W_q9 hQ9 ?_
                exact W.vret hx hb hr (fun _ hT9 _ => ⟨⟨f_5, rfl, (⟨dr2, dn2, (upd ax (4 * to + 3) (lotF (ss (10 * t + 1553)) d2)), lf2, hdr_, hdn_, hax_, hlf_, by rw [← hdm]; exact he2, ho2, by rw [← hdm]; exact hw2, ho3, by rw [← hdm]; exact pk_us, fun k hk => pk_un (by omega), fun j hj => ((((o_5 j (by omega))).trans (o_3 j (by omega))).trans (o_2 j (by omega))).trans (o_1 j (by omega))⟩), by rw [hT9]; exact hP⟩, hS.F hT9⟩) hS.2.2 dX11_draws_186
              · have k_77 : ¬ sq ≤ d2 := fun z9 => c_77 ((nI_leI (a := sq) (b := d2) (by omega) (by omega)).mpr z9)
                refine lv_iload hx hb dX11_draws_80 (lv_at hl 4 rfl) ?_
                refine lv_ldc (v := 1103515245) hx hb hown (hts (.constant RX11 204 (1103515245)) w_574) dX11_draws_82 ?_
                refine lv_imul hx hb dX11_draws_84 ?_
                refine lv_sipush (v := 12345) hx hb dX11_draws_85 (by decide) ?_
                refine lv_iadd hx hb dX11_draws_88 ?_
                refine my_bei (v := lotF (ss (10 * t + 1553)) (d2 + 1)) (rfl) ?_
                refine lv_istore (lv' := [(4, .int (lotF (ss (10 * t + 1553)) (d2 + 1))), (0, .ref (g 315)), (1, .int (nI t)), (2, .int (nI to)), (3, .int (nI n2))]) hx hb dX11_draws_89 hl (by decide) rfl (fun ls hl => ?_)
                refine lv_iload hx hb dX11_draws_91 (lv_at hl 0 rfl) ?_
                refine lv_bipush (v := 16) hx hb dX11_draws_93 (by decide) ?_
                refine lv_ishr hx hb dX11_draws_95 ?_
                refine lv_ldc (v := 65535) hx hb hown (hts (.constant RX11 205 (65535)) w_575) dX11_draws_96 ?_
                refine lv_iand hx hb dX11_draws_98 ?_
                refine my_bei (v := nI ((lotF (ss (10 * t + 1553)) (d2 + 1)).toBitVec.toNat / 65536)) (sar16) ?_
                refine lv_iload_n hx hb dX11_draws_99 rfl (lv_at hl 4 rfl) ?_
                obtain ⟨a, hea⟩ : ∃ a, (lix (lotF (ss (10 * t + 1553)) (d2 + 1)) (cnt (drB box (ss (10 * t + 1553)) d2) 30)) = a := ⟨_, rfl⟩
                have ha : a < n2 := by rw [← hea, hn2]; exact Nat.mod_lt _ (by omega)
                refine lv_irem hx hb dX11_draws_100 (nI_ne0 (by omega) (by omega)) ?_
                refine my_bei (v := nI a) (by rw [← hea, ← hn2]; exact pk_rem (by have := (lotF (ss (10 * t + 1553)) (d2 + 1)).toBitVec.isLt; omega) (by omega) (by omega)) ?_
                refine lv_istore (lv' := [(5, .int (nI a)), (4, .int (lotF (ss (10 * t + 1553)) (d2 + 1))), (0, .ref (g 315)), (1, .int (nI t)), (2, .int (nI to)), (3, .int (nI n2))]) hx hb dX11_draws_101 hl (by decide) rfl (fun ls hl => ?_)
                refine lv_aload_n hx hb dX11_draws_103 rfl (lv_at hl 2 rfl) ?_
                refine va_get (D := G.1) (ci := 10) (v := .ref (g 325)) (C := RX11) (T := TX11) (N := 25) hx hb hts inlX11 hown hG.1 hP 315 (wl_at (by decide) hmo) rfl 17 (by decide) (hts (.fieldLink RX11 39 "SwornListsModel" "drew" "[I") w_121) (fun _ h9 => h9) rfl dX11_draws_104 ?_
                refine lv_bipush (v := 24) hx hb dX11_draws_107 (by decide) ?_
                refine lv_iload_n hx hb dX11_draws_109 rfl (lv_at hl 4 rfl) ?_
                refine lv_imul hx hb dX11_draws_110 ?_
                refine my_bei (v := nI (24 * to)) (pk_mul 24 to) ?_
                refine lv_aload_n hx hb dX11_draws_111 rfl (lv_at hl 2 rfl) ?_
                refine va_get (D := G.1) (ci := 10) (v := .ref (g 326)) (C := RX11) (T := TX11) (N := 25) hx hb hts inlX11 hown hG.1 hP 315 (wl_at (by decide) hmo) rfl 18 (by decide) (hts (.fieldLink RX11 42 "SwornListsModel" "drews" "[I") w_122) (fun _ h9 => h9) rfl dX11_draws_112 ?_
                refine lv_iload_n hx hb dX11_draws_115 rfl (lv_at hl 4 rfl) ?_
                refine va_iald hx hb hG.1 hP 326 0 (wl_at (by decide) hdn_) rfl (vp_in_nI (by omega) (by decide)) dX11_draws_116 ?_
                refine my_bei (v := dn2 to) (congrArg dn2 (nI_clamp (n := to) (by omega))) ?_
                refine my_bei (v := nI d2) (he2) ?_
                refine lv_iadd hx hb dX11_draws_117 ?_
                refine my_bei (v := nI (d2 + 24 * to)) ((nI_add (24 * to) d2).trans (congrArg nI (show (24 * to) + d2 = d2 + 24 * to by omega))) ?_
                refine lv_aload_n hx hb dX11_draws_118 rfl (lv_at hl 2 rfl) ?_
                refine va_get (D := G.1) (ci := 10) (v := .ref (g 329)) (C := RX11) (T := TX11) (N := 25) hx hb hts inlX11 hown hG.1 hP 315 (wl_at (by decide) hmo) rfl 21 (by decide) (hts (.fieldLink RX11 51 "SwornListsModel" "left" "[I") w_125) (fun _ h9 => h9) rfl dX11_draws_119 ?_
                refine lv_iload hx hb dX11_draws_122 (lv_at hl 0 rfl) ?_
                refine va_iald hx hb hG.1 hP 329 0 (wl_at (by decide) hlf_) rfl (vp_in_nI (by omega) (by decide)) dX11_draws_124 ?_
                refine my_bei (v := lf2 a) (congrArg lf2 (nI_clamp (n := a) (by omega))) ?_
                refine my_bei (v := nI (drP box (ss (10 * t + 1553)) d2)) (by rw [← hea]; exact ls_at hd9 hp2) ?_
                refine va_iast hx hb hG.1 hP (wl_D hg f_3) hS 325 0 (wl_at (by decide) hdr_) rfl (vp_in_nI (by omega) (by decide)) dX11_draws_125 (fun H locs hP _ hS => ?_)
                have hP := (congrArg (fun z9 => va_P G.1 vwCl ((wl g f_3).set 325 (g 325, eI G 264 ((upd dr2 z9 (nI (drP box (ss (10 * t + 1553)) d2)))))) H) (show Int32.toNatClampNeg (nI (d2 + 24 * to)) = d2 + 24 * to from nI_clamp (by omega))).mp hP
                obtain ⟨f_6, hP, e_6, o_6⟩ := b_put (by decide) hP
                have hdr_ : f_6 325 = eI G 264 (upd dr2 (d2 + 24 * to) (nI (drP box (ss (10 * t + 1553)) d2))) := e_6
                refine lv_aload_n hx hb dX11_draws_126 rfl (lv_at hl 2 rfl) ?_
                replace hmo := ((o_6 315 (by decide))).trans hmo
                refine va_get (D := G.1) (ci := 10) (v := .ref (g 326)) (C := RX11) (T := TX11) (N := 25) hx hb hts inlX11 hown hG.1 hP 315 (wl_at (by decide) hmo) rfl 18 (by decide) (hts (.fieldLink RX11 42 "SwornListsModel" "drews" "[I") w_122) (fun _ h9 => h9) rfl dX11_draws_127 ?_
                refine lv_iload_n hx hb dX11_draws_130 rfl (lv_at hl 4 rfl) ?_
                refine lv_dup2_11 hx hb dX11_draws_131 rfl rfl ?_
                replace hdn_ := ((o_6 326 (by decide))).trans hdn_
                refine va_iald hx hb hG.1 hP 326 0 (wl_at (by decide) hdn_) rfl (vp_in_nI (by omega) (by decide)) dX11_draws_132 ?_
                refine my_bei (v := dn2 to) (congrArg dn2 (nI_clamp (n := to) (by omega))) ?_
                refine my_bei (v := nI d2) (he2) ?_
                refine lv_iconst (v := 1) hx hb dX11_draws_133 (by decide) ?_
                refine lv_iadd hx hb dX11_draws_134 ?_
                refine my_bei (v := nI (d2 + 1)) (nI_add d2 1) ?_
                refine va_iast hx hb hG.1 hP (wl_D hg f_6) hS 326 0 (wl_at (by decide) hdn_) rfl (vp_in_nI (by omega) (by decide)) dX11_draws_135 (fun H locs hP _ hS => ?_)
                have hP := (congrArg (fun z9 => va_P G.1 vwCl ((wl g f_6).set 326 (g 326, eI G 11 ((upd dn2 z9 (nI (d2 + 1)))))) H) (show Int32.toNatClampNeg (nI to) = to from nI_clamp (by omega))).mp hP
                obtain ⟨f_7, hP, e_7, o_7⟩ := b_put (by decide) hP
                have hdn_ : f_7 326 = eI G 11 (upd dn2 to (nI (d2 + 1))) := e_7
                refine lv_iinc (v := nI (n2 - 1)) (lv' := [(3, .int (nI (n2 - 1))), (5, .int (nI a)), (4, .int (lotF (ss (10 * t + 1553)) (d2 + 1))), (0, .ref (g 315)), (1, .int (nI t)), (2, .int (nI to))]) hx hb dX11_draws_136 hl (k := 5) rfl (sb_m1 (by omega)) (by decide) rfl (fun ls hl => ?_)
                refine lv_iload hx hb dX11_draws_139 (lv_at hl 1 rfl) ?_
                refine lv_istore (lv' := [(6, .int (nI a)), (3, .int (nI (n2 - 1))), (5, .int (nI a)), (4, .int (lotF (ss (10 * t + 1553)) (d2 + 1))), (0, .ref (g 315)), (1, .int (nI t)), (2, .int (nI to))]) hx hb dX11_draws_141 hl (by decide) rfl (fun ls hl => ?_)
                replace hmo := ((o_7 315 (by decide))).trans hmo
                replace hss_ := ((o_7 316 (by decide)).trans ((o_6 316 (by decide)))).trans hss_
                replace hbo_ := ((o_7 323 (by decide)).trans ((o_6 323 (by decide)))).trans hbo_
                replace hdr_ := ((o_7 325 (by decide))).trans hdr_
                replace hax_ := ((o_7 328 (by decide)).trans ((o_6 328 (by decide)))).trans hax_
                replace hlf_ := ((o_7 329 (by decide)).trans ((o_6 329 (by decide)))).trans hlf_
                have key3 : ∀ (n9_3 : Nat) (k3 : Nat) (lf3 : Nat → Int32) (f_8 : Nat → va_E) (H : Heap) (locs : List Loc) (ls : Array Slot), (a ≤ k3) → (k3 ≤ n2 - 1) → (∀ k, k < a → lf3 k = lf2 k) → (∀ k, a ≤ k → k < k3 → lf3 k = lf2 (k + 1)) → (∀ k, k3 ≤ k → lf3 k = lf2 k) → n2 - k3 < n9_3 → f_8 315 = eO 10 [.ref (g 316), .ref (g 317), .ref (g 318), .long ab2, .long be2, .int sn, .ref (g 319), .ref (g 320), .int wn, .ref (g 321), .ref (g 322), .int sa, .int ly, .int rdy, .int fd, .ref (g 323), .ref (g 324), .ref (g 325), .ref (g 326), .ref (g 327), .ref (g 328), .ref (g 329), .ref (g 330), .ref (g 331), .ref (g 332)] → f_8 316 = eI G 2246 ss → f_8 323 = eI G 11 bo → f_8 325 = eI G 264 (upd dr2 (d2 + 24 * to) (nI (drP box (ss (10 * t + 1553)) d2))) → f_8 326 = eI G 11 (upd dn2 to (nI (d2 + 1))) → f_8 328 = eI G 44 ax → f_8 329 = eI G 30 lf3 → (∀ j, j ≠ 329 → f_8 j = f_7 j) → va_P G.1 vwCl (wl g f_8) H → va_S (gA g) s.heap H locs → lv_has ls 7 [(0, .ref (g 315)), (1, .int (nI t)), (2, .int (nI to)), (3, .int (nI (n2 - 1))), (4, .int (lotF (ss (10 * t + 1553)) (d2 + 1))), (6, .int (nI k3))] → W p l e (headSpec (wsT yX11_draws cX11_draws 7 none) ({ frames := 1, cells := 0, slots := 0, locals := 22 })).room s m ([.ref (g 315), .int (nI t), .int (nI to)] : List Value).toArray below meth c H locs 0 0 Q9 (F0 m 143 ls []) := by
                  intro n9_3
                  induction n9_3 with
                  | zero => intro k3 lf3 f_8 H locs ls hk3 hk4 h31 h32 h33 hn9_3; exact absurd hn9_3 (Nat.not_lt_zero _)
                  | succ n9_3 ih_3 =>
                    intro k3 lf3 f_8 H locs ls hk3 hk4 h31 h32 h33 hn9_3 hmo hss_ hbo_ hdr_ hdn_ hax_ hlf_ o_8 hP hS hl
                    refine lv_iload hx hb dX11_draws_143 (lv_at hl 5 rfl) ?_
                    refine lv_iload_n hx hb dX11_draws_145 rfl (lv_at hl 3 rfl) ?_
                    refine lv_icmp_ge (tgt := 171) hx hb dX11_draws_146 (by decide) (fun c_146 => ?_) (fun c_146 => ?_)
                    · have k_146 : n2 - 1 ≤ k3 := (nI_leI (a := n2 - 1) (b := k3) (by omega) (by omega)).mp c_146
                      refine lv_goto (tgt := 60) hx hb dX11_draws_171 (by decide) ?_
                      exact ih_2 (n2 - 1) (d2 + 1) lf3 (upd dr2 (d2 + 24 * to) (nI (drP box (ss (10 * t + 1553)) d2))) (upd dn2 to (nI (d2 + 1))) f_8 _ _ _ (by have h8 := dr_cnt (box := box) (o0 := (ss (10 * t + 1553))) (d2 + 1) (by omega); omega) (by omega) (by omega) (by omega) (ls_draw hd9 hp2 (fun k hk => h31 k (by omega)) (fun k h1 h2 => h32 k (by omega) (by omega))) (dw_p hw2) (pk_us) (fun k hk => (pk_un hk).trans (ho2 k hk)) (fun k hk => (pk_un (by omega)).trans (ho3 k hk)) (by omega) (hmo) (hss_) (hbo_) (hdr_) (hdn_) (hax_) (hlf_) (fun j hj => ((((o_8 j (by omega))).trans (o_7 j (by omega))).trans (o_6 j (by omega))).trans (o_3 j (by omega))) hP hS (lv_sub hl [0, 1, 2, 3, 4] rfl)
                    · have k_146 : ¬ n2 - 1 ≤ k3 := fun z9 => c_146 ((nI_leI (a := n2 - 1) (b := k3) (by omega) (by omega)).mpr z9)
                      refine lv_aload_n hx hb dX11_draws_149 rfl (lv_at hl 0 rfl) ?_
                      refine va_get (D := G.1) (ci := 10) (v := .ref (g 329)) (C := RX11) (T := TX11) (N := 25) hx hb hts inlX11 hown hG.1 hP 315 (wl_at (by decide) hmo) rfl 21 (by decide) (hts (.fieldLink RX11 51 "SwornListsModel" "left" "[I") w_125) (fun _ h9 => h9) rfl dX11_draws_150 ?_
                      refine lv_iload hx hb dX11_draws_153 (lv_at hl 5 rfl) ?_
                      refine lv_aload_n hx hb dX11_draws_155 rfl (lv_at hl 0 rfl) ?_
                      refine va_get (D := G.1) (ci := 10) (v := .ref (g 329)) (C := RX11) (T := TX11) (N := 25) hx hb hts inlX11 hown hG.1 hP 315 (wl_at (by decide) hmo) rfl 21 (by decide) (hts (.fieldLink RX11 51 "SwornListsModel" "left" "[I") w_125) (fun _ h9 => h9) rfl dX11_draws_156 ?_
                      refine lv_iload hx hb dX11_draws_159 (lv_at hl 5 rfl) ?_
                      refine lv_iconst (v := 1) hx hb dX11_draws_161 (by decide) ?_
                      refine lv_iadd hx hb dX11_draws_162 ?_
                      refine my_bei (v := nI (k3 + 1)) (nI_add k3 1) ?_
                      refine va_iald hx hb hG.1 hP 329 0 (wl_at (by decide) hlf_) rfl (vp_in_nI (by omega) (by decide)) dX11_draws_163 ?_
                      refine my_bei (v := lf3 (k3 + 1)) (congrArg lf3 (nI_clamp (n := k3 + 1) (by omega))) ?_
                      refine va_iast hx hb hG.1 hP (wl_D hg f_8) hS 329 0 (wl_at (by decide) hlf_) rfl (vp_in_nI (by omega) (by decide)) dX11_draws_164 (fun H locs hP _ hS => ?_)
                      have hP := (congrArg (fun z9 => va_P G.1 vwCl ((wl g f_8).set 329 (g 329, eI G 30 ((upd lf3 z9 (lf3 (k3 + 1)))))) H) (show Int32.toNatClampNeg (nI k3) = k3 from nI_clamp (by omega))).mp hP
                      obtain ⟨f_9, hP, e_9, o_9⟩ := b_put (by decide) hP
                      have hlf_ : f_9 329 = eI G 30 (upd lf3 k3 (lf3 (k3 + 1))) := e_9
                      refine lv_iinc (v := nI (k3 + 1)) (lv' := [(6, .int (nI (k3 + 1))), (0, .ref (g 315)), (1, .int (nI t)), (2, .int (nI to)), (3, .int (nI (n2 - 1))), (4, .int (lotF (ss (10 * t + 1553)) (d2 + 1)))]) hx hb dX11_draws_165 hl (k := 5) rfl (nI_add k3 1) (by decide) rfl (fun ls hl => ?_)
                      refine lv_goto (tgt := 143) hx hb dX11_draws_168 (by decide) ?_
                      replace hmo := ((o_9 315 (by decide))).trans hmo
                      replace hss_ := ((o_9 316 (by decide))).trans hss_
                      replace hbo_ := ((o_9 323 (by decide))).trans hbo_
                      replace hdr_ := ((o_9 325 (by decide))).trans hdr_
                      replace hdn_ := ((o_9 326 (by decide))).trans hdn_
                      replace hax_ := ((o_9 328 (by decide))).trans hax_
                      exact ih_3 (k3 + 1) (upd lf3 k3 (lf3 (k3 + 1))) f_9 _ _ _ (by omega) (by omega) (fun k hk => (pk_un (by omega)).trans (h31 k hk)) (fun k h1 h2 => if e9 : k = k3 then (by rw [e9, pk_us]; exact h33 (k3 + 1) (by omega)) else (pk_un e9).trans (h32 k h1 (by omega))) (fun k hk => (pk_un (by omega)).trans (h33 k (by omega))) (by omega) (hmo) (hss_) (hbo_) (hdr_) (hdn_) (hax_) (hlf_) (fun j hj => ((o_9 j (by omega))).trans (o_8 j (by omega))) hP hS (lv_sub hl [1, 2, 3, 4, 5, 0] rfl)
                exact key3 (n2 + 1) a lf2 f_7 _ _ _ (Nat.le_refl _) (by omega) (fun k hk => rfl) (fun k h1 h2 => absurd h2 (by omega)) (fun k hk => rfl) (by omega) (hmo) (hss_) (hbo_) (hdr_) (hdn_) (hax_) (hlf_) (fun j _ => rfl) hP hS (lv_sub hl [4, 5, 6, 1, 3, 0] rfl)
        exact key2 (30 + 1) n1 0 lf1 dr (upd dn to 0) f_2 _ _ _ (by rw [drB_0, hn1, show (30 : Nat) = i by omega]) (by omega) (Nat.zero_le _) (Nat.zero_le _) (by rw [drB_0, show (30 : Nat) = i by omega]; exact hp1) (fun k hk => absurd hk (Nat.not_lt_zero _)) (pk_us) (fun k hk => pk_un hk) (fun k hk => rfl) (by omega) (hmo) (hss_) (hbo_) (hdr_) (hdn_) (hax_) (hlf_) (fun j _ => rfl) hP hS (lv_sub hl [1, 2, 3, 4, 0] rfl)
      · have k_9 : ¬ 30 ≤ i := fun z9 => c_9 ((nI_leI (a := 30) (b := i) (by omega) (by omega)).mpr z9)
        refine lv_aload_n hx hb dX11_draws_12 rfl (lv_at hl 0 rfl) ?_
        refine va_get (D := G.1) (ci := 10) (v := .ref (g 323)) (C := RX11) (T := TX11) (N := 25) hx hb hts inlX11 hown hG.1 hP 315 (wl_at (by decide) hmo) rfl 15 (by decide) (hts (.fieldLink RX11 33 "SwornListsModel" "boxes" "[I") w_119) (fun _ h9 => h9) rfl dX11_draws_13 ?_
        refine lv_iload_n hx hb dX11_draws_16 rfl (lv_at hl 2 rfl) ?_
        refine va_iald hx hb hG.1 hP 323 0 (wl_at (by decide) hbo_) rfl (vp_in_nI (by omega) (by decide)) dX11_draws_17 ?_
        refine my_bei (v := bo to) (congrArg bo (nI_clamp (n := to) (by omega))) ?_
        refine my_bei (v := box) (hbx) ?_
        refine lv_iload hx hb dX11_draws_18 (lv_at hl 4 rfl) ?_
        refine lv_ishr hx hb dX11_draws_20 ?_
        refine lv_iconst (v := 1) hx hb dX11_draws_21 (by decide) ?_
        refine lv_iand hx hb dX11_draws_22 ?_
        refine lv_iconst (v := 1) hx hb dX11_draws_23 (by decide) ?_
        refine lv_icmp_ne (tgt := 38) hx hb dX11_draws_24 (by decide) (fun c_24 => ?_) (fun c_24 => ?_)
        · refine lv_iinc (v := nI (i + 1)) (lv' := [(4, .int (nI (i + 1))), (0, .ref (g 315)), (1, .int (nI t)), (2, .int (nI to)), (3, .int (nI n1))]) hx hb dX11_draws_38 hl (k := 4) rfl (nI_add i 1) (by decide) rfl (fun ls hl => ?_)
          refine lv_goto (tgt := 5) hx hb dX11_draws_41 (by decide) ?_
          exact ih_1 (i + 1) n1 lf1 f_1 _ _ _ (by omega) (by rw [hn1, cnt_n (fun z => c_24 ((sr_iff (by omega)).mpr z))]) (ls_keep hp1 (fun z => c_24 ((sr_iff (by omega)).mpr z))) (by omega) (by omega) (hmo) (hss_) (hbo_) (hdr_) (hdn_) (hax_) (hlf_) (fun j hj => (o_1 j (by omega))) hP hS (lv_sub hl [1, 2, 3, 4, 0] rfl)
        · refine lv_aload_n hx hb dX11_draws_27 rfl (lv_at hl 0 rfl) ?_
          refine va_get (D := G.1) (ci := 10) (v := .ref (g 329)) (C := RX11) (T := TX11) (N := 25) hx hb hts inlX11 hown hG.1 hP 315 (wl_at (by decide) hmo) rfl 21 (by decide) (hts (.fieldLink RX11 51 "SwornListsModel" "left" "[I") w_125) (fun _ h9 => h9) rfl dX11_draws_28 ?_
          refine lv_iload_n hx hb dX11_draws_31 rfl (lv_at hl 3 rfl) ?_
          refine lv_iload hx hb dX11_draws_32 (lv_at hl 4 rfl) ?_
          refine va_iast hx hb hG.1 hP (wl_D hg f_1) hS 329 0 (wl_at (by decide) hlf_) rfl (vp_in_nI (by omega) (by decide)) dX11_draws_34 (fun H locs hP _ hS => ?_)
          have hP := (congrArg (fun z9 => va_P G.1 vwCl ((wl g f_1).set 329 (g 329, eI G 30 ((upd lf1 z9 (nI i))))) H) (show Int32.toNatClampNeg (nI n1) = n1 from nI_clamp (by omega))).mp hP
          obtain ⟨f_10, hP, e_10, o_10⟩ := b_put (by decide) hP
          have hlf_ : f_10 329 = eI G 30 (upd lf1 n1 (nI i)) := e_10
          refine lv_iinc (v := nI (n1 + 1)) (lv' := [(3, .int (nI (n1 + 1))), (0, .ref (g 315)), (1, .int (nI t)), (2, .int (nI to)), (4, .int (nI i))]) hx hb dX11_draws_35 hl (k := 3) rfl (nI_add n1 1) (by decide) rfl (fun ls hl => ?_)
          refine lv_iinc (v := nI (i + 1)) (lv' := [(4, .int (nI (i + 1))), (3, .int (nI (n1 + 1))), (0, .ref (g 315)), (1, .int (nI t)), (2, .int (nI to))]) hx hb dX11_draws_38 hl (k := 4) rfl (nI_add i 1) (by decide) rfl (fun ls hl => ?_)
          refine lv_goto (tgt := 5) hx hb dX11_draws_41 (by decide) ?_
          replace hmo := ((o_10 315 (by decide))).trans hmo
          replace hss_ := ((o_10 316 (by decide))).trans hss_
          replace hbo_ := ((o_10 323 (by decide))).trans hbo_
          replace hdr_ := ((o_10 325 (by decide))).trans hdr_
          replace hdn_ := ((o_10 326 (by decide))).trans hdn_
          replace hax_ := ((o_10 328 (by decide))).trans hax_
          exact ih_1 (i + 1) (n1 + 1) (upd lf1 n1 (nI i)) f_10 _ _ _ (by omega) (by rw [hn1, cnt_y ((sr_iff (by omega)).mp c_24)]) (by rw [hn1]; exact ls_push hp1 ((sr_iff (by omega)).mp c_24)) (by omega) (by omega) (hmo) (hss_) (hbo_) (hdr_) (hdn_) (hax_) (hlf_) (fun j hj => ((o_10 j (by omega))).trans (o_1 j (by omega))) hP hS (lv_sub hl [2, 3, 4, 1, 0] rfl)
  exact key1 (30 + 1) 0 0 lf f _ _ _ (Nat.zero_le _) (rfl) (fun k hk => absurd hk (Nat.not_lt_zero _)) (Nat.le_refl _) (by omega) (hmo) (hss_) (hbo_) (hdr_) (hdn_) (hax_) (hlf_) (fun j _ => rfl) hP hS (lv_sub hl [2, 3, 4, 1, 0] rfl)


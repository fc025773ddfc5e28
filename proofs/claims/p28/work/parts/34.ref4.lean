def stOK (s : Nat → Int32) (np nf nr na nt : Nat) : Prop := (s 0 = nI np) ∧ (s 1 = nI nf) ∧ (s 2 = nI nr) ∧ (s 3 = nI na) ∧ (s 4 = nI nt) ∧ (np ≤ 30) ∧ (nf ≤ 40) ∧ (nr ≤ 4) ∧ (na ≤ 20) ∧ (nt ≤ 10) ∧ (∀ t, t < 4 → ∃ l, l ≤ 50 ∧ s (51 * t + 262) = nI l) ∧ (∀ a, a < na → ∃ l, l ≤ 50 ∧ s (54 * a + 469) = nI l ∧ rdA l (fun k => s (54 * a + 469 + k + 1)) = -1) ∧ (∀ t, t < nt → (∃ q, q ≤ 4 ∧ s (10 * t + 1552) = nI q) ∧ (∃ q, q ≤ 24 ∧ s (10 * t + 1554) = nI q))
theorem stOK.h0 {s : Nat → Int32} {np nf nr na nt : Nat} (h : stOK s np nf nr na nt) : s 0 = nI np := h.1
theorem stOK.h1 {s : Nat → Int32} {np nf nr na nt : Nat} (h : stOK s np nf nr na nt) : s 1 = nI nf := h.2.1
theorem stOK.h2 {s : Nat → Int32} {np nf nr na nt : Nat} (h : stOK s np nf nr na nt) : s 2 = nI nr := h.2.2.1
theorem stOK.h3 {s : Nat → Int32} {np nf nr na nt : Nat} (h : stOK s np nf nr na nt) : s 3 = nI na := h.2.2.2.1
theorem stOK.h4 {s : Nat → Int32} {np nf nr na nt : Nat} (h : stOK s np nf nr na nt) : s 4 = nI nt := h.2.2.2.2.1
theorem stOK.c0 {s : Nat → Int32} {np nf nr na nt : Nat} (h : stOK s np nf nr na nt) : np ≤ 30 := h.2.2.2.2.2.1
theorem stOK.c1 {s : Nat → Int32} {np nf nr na nt : Nat} (h : stOK s np nf nr na nt) : nf ≤ 40 := h.2.2.2.2.2.2.1
theorem stOK.c2 {s : Nat → Int32} {np nf nr na nt : Nat} (h : stOK s np nf nr na nt) : nr ≤ 4 := h.2.2.2.2.2.2.2.1
theorem stOK.c3 {s : Nat → Int32} {np nf nr na nt : Nat} (h : stOK s np nf nr na nt) : na ≤ 20 := h.2.2.2.2.2.2.2.2.1
theorem stOK.c4 {s : Nat → Int32} {np nf nr na nt : Nat} (h : stOK s np nf nr na nt) : nt ≤ 10 := h.2.2.2.2.2.2.2.2.2.1
theorem stOK.tx {s : Nat → Int32} {np nf nr na nt : Nat} (h : stOK s np nf nr na nt) : ∀ t, t < 4 → ∃ l, l ≤ 50 ∧ s (51 * t + 262) = nI l := h.2.2.2.2.2.2.2.2.2.2.1
theorem stOK.ac {s : Nat → Int32} {np nf nr na nt : Nat} (h : stOK s np nf nr na nt) : ∀ a, a < na → ∃ l, l ≤ 50 ∧ s (54 * a + 469) = nI l ∧ rdA l (fun k => s (54 * a + 469 + k + 1)) = -1 := h.2.2.2.2.2.2.2.2.2.2.2.1
theorem stOK.tr {s : Nat → Int32} {np nf nr na nt : Nat} (h : stOK s np nf nr na nt) : ∀ t, t < nt → (∃ q, q ≤ 4 ∧ s (10 * t + 1552) = nI q) ∧ (∃ q, q ≤ 24 ∧ s (10 * t + 1554) = nI q) := h.2.2.2.2.2.2.2.2.2.2.2.2
theorem stOK.of {s : Nat → Int32} {np nf nr na nt : Nat} (h0 : s 0 = nI np) (h1 : s 1 = nI nf) (h2 : s 2 = nI nr) (h3 : s 3 = nI na) (h4 : s 4 = nI nt) (c0 : np ≤ 30) (c1 : nf ≤ 40) (c2 : nr ≤ 4) (c3 : na ≤ 20) (c4 : nt ≤ 10) (tx : ∀ t, t < 4 → ∃ l, l ≤ 50 ∧ s (51 * t + 262) = nI l) (ac : ∀ a, a < na → ∃ l, l ≤ 50 ∧ s (54 * a + 469) = nI l ∧ rdA l (fun k => s (54 * a + 469 + k + 1)) = -1) (tr : ∀ t, t < nt → (∃ q, q ≤ 4 ∧ s (10 * t + 1552) = nI q) ∧ (∃ q, q ≤ 24 ∧ s (10 * t + 1554) = nI q)) : stOK s np nf nr na nt := ⟨h0, h1, h2, h3, h4, c0, c1, c2, c3, c4, tx, ac, tr⟩
theorem ok_X11_ofTrial : okV yX11_ofTrial cX11_ofTrial 3 (some .int) 2 := ⟨⟨w_535, w_5, ⟨by decide +kernel, by decide +kernel, by decide +kernel⟩⟩, trivial, w_533, w_534⟩
theorem ok_X11_findSat : okV yX11_findSat cX11_findSat 5 none 2 := ⟨⟨w_551, w_5, ⟨by decide +kernel, by decide +kernel, by decide +kernel⟩⟩, trivial, w_549, w_550⟩
theorem ok_X11_named : okV yX11_named cX11_named 5 (some .long) 3 := ⟨⟨w_557, w_5, ⟨by decide +kernel, by decide +kernel, by decide +kernel⟩⟩, trivial, w_555, w_556⟩
theorem ok_X11_twoOf : okS yX11_twoOf cX11_twoOf 5 (some .long) 3 := ⟨⟨w_561, w_5, ⟨by decide +kernel, by decide +kernel, by decide +kernel⟩⟩, trivial, w_560, trivial⟩
theorem ok_X11_tellsOf : okV yX11_tellsOf cX11_tellsOf 6 (some .long) 2 := ⟨⟨w_547, w_5, ⟨by decide +kernel, by decide +kernel, by decide +kernel⟩⟩, trivial, w_545, w_546⟩
theorem ok_X11_inForce : okV yX11_inForce cX11_inForce 7 (some .int) 2 := ⟨⟨w_543, w_5, ⟨by decide +kernel, by decide +kernel, by decide +kernel⟩⟩, trivial, w_541, w_542⟩
theorem ok_X11_theRoll : okV yX11_theRoll cX11_theRoll 5 (some .int) 1 := ⟨⟨w_237, w_5, ⟨by decide +kernel, by decide +kernel, by decide +kernel⟩⟩, trivial, w_235, w_236⟩
theorem ok_X11_kinOf : okV yX11_kinOf cX11_kinOf 7 (some .int) 2 := ⟨⟨w_565, w_5, ⟨by decide +kernel, by decide +kernel, by decide +kernel⟩⟩, trivial, w_563, w_564⟩
theorem ok_X11_sitting : okV yX11_sitting cX11_sitting 5 (some .int) 1 := ⟨⟨w_569, w_5, ⟨by decide +kernel, by decide +kernel, by decide +kernel⟩⟩, trivial, w_567, w_568⟩
theorem ok_X11_whom : okV yX11_whom cX11_whom 8 (some .int) 3 := ⟨⟨w_539, w_5, ⟨by decide +kernel, by decide +kernel, by decide +kernel⟩⟩, trivial, w_537, w_538⟩
set_option maxHeartbeats 4000000 in
set_option maxRecDepth 100000 in
theorem r_ofTrial (l : Launch) (G : gW) (g : Nat → Nat) (hg : gOK g) (f : Nat → va_E) (ab2 : Int64) (be2 : Int64) (sn : Int32) (wn : Int32) (sa : Int32) (ly : Int32) (rdy : Int32) (fd : Int32) (ss : Nat → Int32) (t : Nat) (w : Nat) (hmo : f 315 = eO 10 [.ref (g 316), .ref (g 317), .ref (g 318), .long ab2, .long be2, .int sn, .ref (g 319), .ref (g 320), .int wn, .ref (g 321), .ref (g 322), .int sa, .int ly, .int rdy, .int fd, .ref (g 323), .ref (g 324), .ref (g 325), .ref (g 326), .ref (g 327), .ref (g 328), .ref (g 329), .ref (g 330), .ref (g 331), .ref (g 332)]) (hss_ : f 316 = eI G 2246 ss) (ht9 : 10 * t + w < 700) : Met l yX11_ofTrial (wsT yX11_ofTrial cX11_ofTrial 3 (some .int)) ({ frames := 0, cells := 0, slots := 0, locals := 0 }) (bP G g f [.ref (g 315), .int (nI t), .int (nI w)]) (rQi (fun z9 => z9 = ss (10 * t + w + 1546))) 0 0 fr0 := by
  refine Met.ofW (cc := cX11_ofTrial) (maxL := 3) (ret := (some .int)) (by decide) rfl ?_
  intro p e s m args below meth c s₁ B hml hv
  obtain ⟨rfl, hP, hG⟩ := hv
  have hx := B.exec
  have hb := B.bytes
  have hr := B.returns
  have hts := my_hts (atoms_spec (ws := wsT yX11_ofTrial cX11_ofTrial 3 (some .int)) B.pre)
  have hown : s.vm.findClass RX11 = some m.cls := findClass_of_methodNamed B.named
  have hlocks := B.notSynchronized
  have hl := lv_entry ([.ref (g 315), .int (nI t), .int (nI w)]) (n := 3) (Nat.le_of_ble_eq_true rfl)
  rw [lg_entry_eq]
  generalize (lg_sl ([.ref (g 315), .int (nI t), .int (nI w)]) ++ List.replicate (3 - (lg_sl ([.ref (g 315), .int (nI t), .int (nI w)])).length) Slot.unset).toArray = ls at hl ⊢
  have hl : lv_has ls 3 [(0, .ref (g 315)), (1, .int (nI t)), (2, .int (nI w))] := hl
  refine lv_aload_n hx hb dX11_ofTrial_0 rfl (lv_at hl 0 rfl) ?_
  refine va_get (D := G.1) (ci := 10) (v := .ref (g 316)) (C := RX11) (T := TX11) (N := 25) hx hb hts inlX11 hown hG.1 hP 315 (wl_at (by decide) hmo) rfl 0 (by decide) (hts (.fieldLink RX11 7 "SwornListsModel" "st" "[I") w_112) (fun _ h9 => h9) rfl dX11_ofTrial_1 ?_
  refine lv_sipush (v := 1546) hx hb dX11_ofTrial_4 (by decide) ?_
  refine lv_bipush (v := 10) hx hb dX11_ofTrial_7 (by decide) ?_
  refine lv_iload_n hx hb dX11_ofTrial_9 rfl (lv_at hl 1 rfl) ?_
  refine lv_imul hx hb dX11_ofTrial_10 ?_
  refine my_bei (v := nI (10 * t)) (pk_mul 10 t) ?_
  refine lv_iadd hx hb dX11_ofTrial_11 ?_
  refine my_bei (v := nI (10 * t + 1546)) ((nI_add 1546 (10 * t)).trans (congrArg nI (show 1546 + (10 * t) = 10 * t + 1546 by omega))) ?_
  refine lv_iload_n hx hb dX11_ofTrial_12 rfl (lv_at hl 2 rfl) ?_
  refine lv_iadd hx hb dX11_ofTrial_13 ?_
  refine my_bei (v := nI (10 * t + w + 1546)) ((nI_add (10 * t + 1546) w).trans (congrArg nI (show (10 * t + 1546) + w = 10 * t + w + 1546 by omega))) ?_
  refine va_iald hx hb hG.1 hP 316 0 (wl_at (by decide) hss_) rfl (vp_in_nI (by omega) (by decide)) dX11_ofTrial_14 ?_
  refine my_bei (v := ss (10 * t + w + 1546)) (congrArg ss (nI_clamp (n := 10 * t + w + 1546) (by omega))) ?_
  exact W.iret (v := ss (10 * t + w + 1546)) hx hb hr (fun t ht hW => ⟨_, rfl, (rfl), ht⟩) (fun _ h => absurd h List.not_mem_nil) dX11_ofTrial_15

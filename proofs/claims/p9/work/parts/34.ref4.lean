def stOK (s : Nat → Int32) (np nf nr na nt : Nat) : Prop := (s 0 = nI np) ∧ (s 1 = nI nf) ∧ (s 2 = nI nr) ∧ (s 3 = nI na) ∧ (s 4 = nI nt) ∧ (np ≤ 30) ∧ (nf ≤ 40) ∧ (nr ≤ 4) ∧ (na ≤ 20) ∧ (nt ≤ 10) ∧ (∀ t, t < 4 → ∃ l, l ≤ 50 ∧ s (51 * t + 262) = nI l) ∧ (∀ a, a < na → ∃ l, l ≤ 50 ∧ s (54 * a + 469) = nI l ∧ rdA l (fun k => s (54 * a + 469 + k + 1)) = -1) ∧ (∀ t, t < nt → (∃ q, q ≤ 4 ∧ s (10 * t + 1552) = nI q) ∧ (∃ q, q ≤ 24 ∧ s (10 * t + 1554) = nI q))
theorem stOK.h0 {s : Nat → Int32} {np nf nr na nt : Nat} (h : stOK s np nf nr na nt) : s 0 = nI np := h.1
theorem stOK.h1 {s : Nat → Int32} {np nf nr na nt : Nat} (h : stOK s np nf nr na nt) : s 1 = nI nf := h.2.1
theorem stOK.h2 {s : Nat → Int32} {np nf nr na nt : Nat} (h : stOK s np nf nr na nt) : s 2 = nI nr := h.2.2.1
theorem stOK.h3 {s : Nat → Int32} {np nf nr na nt : Nat} (h : stOK s np nf nr na nt) : s 3 = nI na := h.2.2.2.1
theorem stOK.h4 {s : Nat → Int32} {np nf nr na nt : Nat} (h : stOK s np nf nr na nt) : s 4 = nI nt := h.2.2.2.2.1
theorem stOK.c0 {s : Nat → Int32} {np nf nr na nt : Nat} (h : stOK s np nf nr na nt) : np ≤ 30 := h.2.2.2.2.2.1
theorem stOK.c1 {s : Nat → Int32} {np nf nr na nt : Nat} (h : stOK s np nf nr na nt) : nf ≤ 40 := h.2.2.2.2.2.2.1
theorem stOK.c2 {s : Nat → Int32} {np nf nr na nt : Nat} (h : stOK s np nf nr na nt) : nr ≤ 4 := h.2.2.2.2.2.2.2.1
theorem stOK.c3 {s : Nat → Int32} {np nf nr na nt : Nat} (h : stOK s np nf nr na nt) : na ≤ 20 := h.2.2.2.2.2.2.2.2.1
theorem stOK.c4 {s : Nat → Int32} {np nf nr na nt : Nat} (h : stOK s np nf nr na nt) : nt ≤ 10 := h.2.2.2.2.2.2.2.2.2.1
theorem stOK.tx {s : Nat → Int32} {np nf nr na nt : Nat} (h : stOK s np nf nr na nt) : ∀ t, t < 4 → ∃ l, l ≤ 50 ∧ s (51 * t + 262) = nI l := h.2.2.2.2.2.2.2.2.2.2.1
theorem stOK.ac {s : Nat → Int32} {np nf nr na nt : Nat} (h : stOK s np nf nr na nt) : ∀ a, a < na → ∃ l, l ≤ 50 ∧ s (54 * a + 469) = nI l ∧ rdA l (fun k => s (54 * a + 469 + k + 1)) = -1 := h.2.2.2.2.2.2.2.2.2.2.2.1
theorem stOK.tr {s : Nat → Int32} {np nf nr na nt : Nat} (h : stOK s np nf nr na nt) : ∀ t, t < nt → (∃ q, q ≤ 4 ∧ s (10 * t + 1552) = nI q) ∧ (∃ q, q ≤ 24 ∧ s (10 * t + 1554) = nI q) := h.2.2.2.2.2.2.2.2.2.2.2.2
theorem stOK.of {s : Nat → Int32} {np nf nr na nt : Nat} (h0 : s 0 = nI np) (h1 : s 1 = nI nf) (h2 : s 2 = nI nr) (h3 : s 3 = nI na) (h4 : s 4 = nI nt) (c0 : np ≤ 30) (c1 : nf ≤ 40) (c2 : nr ≤ 4) (c3 : na ≤ 20) (c4 : nt ≤ 10) (tx : ∀ t, t < 4 → ∃ l, l ≤ 50 ∧ s (51 * t + 262) = nI l) (ac : ∀ a, a < na → ∃ l, l ≤ 50 ∧ s (54 * a + 469) = nI l ∧ rdA l (fun k => s (54 * a + 469 + k + 1)) = -1) (tr : ∀ t, t < nt → (∃ q, q ≤ 4 ∧ s (10 * t + 1552) = nI q) ∧ (∃ q, q ≤ 24 ∧ s (10 * t + 1554) = nI q)) : stOK s np nf nr na nt := ⟨h0, h1, h2, h3, h4, c0, c1, c2, c3, c4, tx, ac, tr⟩
theorem dep_0 {sp : Nat → Int32} {k d : Nat} (h : dep sp k = some d) (hx : sp k = 0 ∨ sp k = 1) : dep sp (k + 1) = some (d + 1) := by
  rw [dep_s h, if_pos hx]
theorem dep_1 {sp : Nat → Int32} {k d e : Nat} (h : dep sp k = some d) (he : dep sp (k + 1) = some e) (hx : sp k = 2 ∨ sp k = 3) : 1 ≤ d ∧ dep sp (k + 1) = some d := by
  have h0 : ¬ (sp k = 0 ∨ sp k = 1) := by
    rcases hx with z | z
    · rw [z]; decide
    · rw [z]; decide
  rw [dep_s h, if_neg h0, if_pos hx] at he ⊢
  by_cases hd : d = 0
  · rw [if_pos hd] at he; cases he
  · rw [if_neg hd]; exact ⟨by omega, rfl⟩
theorem dep_2 {sp : Nat → Int32} {k d e : Nat} (h : dep sp k = some d) (he : dep sp (k + 1) = some e) (h0 : ¬ sp k = 0) (h1 : ¬ sp k = 1) (h2 : ¬ sp k = 2) (h3 : ¬ sp k = 3) : 2 ≤ d ∧ dep sp (k + 1) = some (d - 1) := by
  rw [dep_s h, if_neg (fun z => z.elim h0 h1), if_neg (fun z => z.elim h2 h3)] at he ⊢
  by_cases hd : d < 2
  · rw [if_pos hd] at he; cases he
  · rw [if_neg hd]; exact ⟨by omega, rfl⟩
theorem ok_X11_ofTrial : okV yX11_ofTrial cX11_ofTrial 3 (some .int) 2 := ⟨⟨w_535, w_5, ⟨by decide +kernel, by decide +kernel, by decide +kernel⟩⟩, trivial, w_533, w_534⟩
theorem ok_X11_findSat : okV yX11_findSat cX11_findSat 5 none 2 := ⟨⟨w_551, w_5, ⟨by decide +kernel, by decide +kernel, by decide +kernel⟩⟩, trivial, w_549, w_550⟩
theorem ok_X11_named : okV yX11_named cX11_named 5 (some .long) 3 := ⟨⟨w_557, w_5, ⟨by decide +kernel, by decide +kernel, by decide +kernel⟩⟩, trivial, w_555, w_556⟩
theorem ok_X11_twoOf : okS yX11_twoOf cX11_twoOf 5 (some .long) 3 := ⟨⟨w_561, w_5, ⟨by decide +kernel, by decide +kernel, by decide +kernel⟩⟩, trivial, w_560, trivial⟩
theorem ok_X11_tellsOf : okV yX11_tellsOf cX11_tellsOf 6 (some .long) 2 := ⟨⟨w_547, w_5, ⟨by decide +kernel, by decide +kernel, by decide +kernel⟩⟩, trivial, w_545, w_546⟩
theorem ok_X11_inForce : okV yX11_inForce cX11_inForce 7 (some .int) 2 := ⟨⟨w_543, w_5, ⟨by decide +kernel, by decide +kernel, by decide +kernel⟩⟩, trivial, w_541, w_542⟩
theorem ok_X11_theRoll : okV yX11_theRoll cX11_theRoll 5 (some .int) 1 := ⟨⟨w_237, w_5, ⟨by decide +kernel, by decide +kernel, by decide +kernel⟩⟩, trivial, w_235, w_236⟩
theorem ok_X11_kinOf : okV yX11_kinOf cX11_kinOf 7 (some .int) 2 := ⟨⟨w_565, w_5, ⟨by decide +kernel, by decide +kernel, by decide +kernel⟩⟩, trivial, w_563, w_564⟩
theorem ok_X11_sitting : okV yX11_sitting cX11_sitting 5 (some .int) 1 := ⟨⟨w_569, w_5, ⟨by decide +kernel, by decide +kernel, by decide +kernel⟩⟩, trivial, w_567, w_568⟩
theorem ok_X11_whom : okV yX11_whom cX11_whom 8 (some .int) 3 := ⟨⟨w_539, w_5, ⟨by decide +kernel, by decide +kernel, by decide +kernel⟩⟩, trivial, w_537, w_538⟩
set_option maxHeartbeats 4000000 in
set_option maxRecDepth 100000 in
theorem r_ofTrial (l : Launch) (G : gW) (g : Nat → Nat) (hg : gOK g) (f : Nat → va_E) (ab2 : Int64) (be2 : Int64) (sn : Int32) (wn : Int32) (sa : Int32) (ly : Int32) (rdy : Int32) (fd : Int32) (ss : Nat → Int32) (t : Nat) (w : Nat) (hmo : f 315 = eO 10 [.ref (g 316), .ref (g 317), .ref (g 318), .long ab2, .long be2, .int sn, .ref (g 319), .ref (g 320), .int wn, .ref (g 321), .ref (g 322), .int sa, .int ly, .int rdy, .int fd, .ref (g 323), .ref (g 324), .ref (g 325), .ref (g 326), .ref (g 327), .ref (g 328), .ref (g 329), .ref (g 330), .ref (g 331), .ref (g 332)]) (hss_ : f 316 = eI G 2246 ss) (ht9 : 10 * t + w < 700) : Met l yX11_ofTrial (wsT yX11_ofTrial cX11_ofTrial 3 (some .int)) ({ frames := 0, cells := 0, slots := 0, locals := 0 }) (bP G g f [.ref (g 315), .int (nI t), .int (nI w)]) (rQi (fun z9 => z9 = ss (10 * t + w + 1546))) 0 0 fr0 := by
  refine Met.ofW (cc := cX11_ofTrial) (maxL := 3) (ret := (some .int)) (by decide) rfl ?_
  intro p e s m args below meth c s₁ B hml hv
  obtain ⟨rfl, hP, hG⟩ := hv
  have hx := B.exec
  have hb := B.bytes
  have hr := B.returns
  have hts := my_hts (atoms_spec (ws := wsT yX11_ofTrial cX11_ofTrial 3 (some .int)) B.pre)
  have hown : s.vm.findClass RX11 = some m.cls := findClass_of_methodNamed B.named
  have hlocks := B.notSynchronized
  have hl := lv_entry ([.ref (g 315), .int (nI t), .int (nI w)]) (n := 3) (Nat.le_of_ble_eq_true rfl)
  rw [lg_entry_eq]
  generalize (lg_sl ([.ref (g 315), .int (nI t), .int (nI w)]) ++ List.replicate (3 - (lg_sl ([.ref (g 315), .int (nI t), .int (nI w)])).length) Slot.unset).toArray = ls at hl ⊢
  have hl : lv_has ls 3 [(0, .ref (g 315)), (1, .int (nI t)), (2, .int (nI w))] := hl
  refine lv_aload_n hx hb dX11_ofTrial_0 rfl (lv_at hl 0 rfl) ?_
  refine va_get (D := G.1) (ci := 10) (v := .ref (g 316)) (C := RX11) (T := TX11) (N := 25) hx hb hts inlX11 hown hG.1 hP 315 (wl_at (by decide) hmo) rfl 0 (by decide) (hts (.fieldLink RX11 7 "SwornListsModel" "st" "[I") w_112) (fun _ h9 => h9) rfl dX11_ofTrial_1 ?_
  refine lv_sipush (v := 1546) hx hb dX11_ofTrial_4 (by decide) ?_
  refine lv_bipush (v := 10) hx hb dX11_ofTrial_7 (by decide) ?_
  refine lv_iload_n hx hb dX11_ofTrial_9 rfl (lv_at hl 1 rfl) ?_
  refine lv_imul hx hb dX11_ofTrial_10 ?_
  refine my_bei (v := nI (10 * t)) (pk_mul 10 t) ?_
  refine lv_iadd hx hb dX11_ofTrial_11 ?_
  refine my_bei (v := nI (10 * t + 1546)) ((nI_add 1546 (10 * t)).trans (congrArg nI (show 1546 + (10 * t) = 10 * t + 1546 by omega))) ?_
  refine lv_iload_n hx hb dX11_ofTrial_12 rfl (lv_at hl 2 rfl) ?_
  refine lv_iadd hx hb dX11_ofTrial_13 ?_
  refine my_bei (v := nI (10 * t + w + 1546)) ((nI_add (10 * t + 1546) w).trans (congrArg nI (show (10 * t + 1546) + w = 10 * t + w + 1546 by omega))) ?_
  refine va_iald hx hb hG.1 hP 316 0 (wl_at (by decide) hss_) rfl (vp_in_nI (by omega) (by decide)) dX11_ofTrial_14 ?_
  refine my_bei (v := ss (10 * t + w + 1546)) (congrArg ss (nI_clamp (n := 10 * t + w + 1546) (by omega))) ?_
  exact W.iret (v := ss (10 * t + w + 1546)) hx hb hr (fun t ht hW => ⟨_, rfl, (rfl), ht⟩) (fun _ h => absurd h List.not_mem_nil) dX11_ofTrial_15
set_option maxHeartbeats 4000000 in
set_option maxRecDepth 100000 in
theorem r_findSat (l : Launch) (G : gW) (g : Nat → Nat) (hg : gOK g) (f : Nat → va_E) (ab2 : Int64) (be2 : Int64) (sn : Int32) (wn : Int32) (sa : Int32) (ly : Int32) (rdy : Int32) (fd : Nat) (ss : Nat → Int32) (ju : Nat → Int32) (n : Int32) (q : Int32) (hmo : f 315 = eO 10 [.ref (g 316), .ref (g 317), .ref (g 318), .long ab2, .long be2, .int sn, .ref (g 319), .ref (g 320), .int wn, .ref (g 321), .ref (g 322), .int sa, .int ly, .int rdy, .int (nI fd), .ref (g 323), .ref (g 324), .ref (g 325), .ref (g 326), .ref (g 327), .ref (g 328), .ref (g 329), .ref (g 330), .ref (g 331), .ref (g 332)]) (hss_ : f 316 = eI G 2246 ss) (hju_ : f 324 = eI G 11 ju) (hfo : fd ≤ 10) : Met l yX11_findSat (wsT yX11_findSat cX11_findSat 5 none) ({ frames := 1, cells := 0, slots := 0, locals := 22 }) (bP G g f [.ref (g 315), .int n, .int q]) (bQv G g (fun (f' : Nat → va_E) => ∃ sa9 : Int32, ∃ ly9 : Int32, f' 315 = eO 10 [.ref (g 316), .ref (g 317), .ref (g 318), .long ab2, .long be2, .int sn, .ref (g 319), .ref (g 320), .int wn, .ref (g 321), .ref (g 322), .int sa9, .int ly9, .int rdy, .int (nI fd), .ref (g 323), .ref (g 324), .ref (g 325), .ref (g 326), .ref (g 327), .ref (g 328), .ref (g 329), .ref (g 330), .ref (g 331), .ref (g 332)] ∧ ∀ j, j ≠ 315 → f' j = f j)) 0 0 (gA g) := by
  refine Met.ofW (cc := cX11_findSat) (maxL := 5) (ret := none) (by decide) rfl ?_
  intro p e s m args below meth c s₁ B hml hv
  obtain ⟨rfl, hP, hG⟩ := hv
  have hx := B.exec
  have hb := B.bytes
  have hr := B.returns
  have hts := my_hts (atoms_spec (ws := wsT yX11_findSat cX11_findSat 5 none) B.pre)
  have hown : s.vm.findClass RX11 = some m.cls := findClass_of_methodNamed B.named
  have hlocks := B.notSynchronized
  have hS : va_S (gA g) s.heap s.heap [] := va_S.rf
  have hl := lv_entry ([.ref (g 315), .int n, .int q]) (n := 5) (Nat.le_of_ble_eq_true rfl)
  rw [lg_entry_eq]
  generalize (lg_sl ([.ref (g 315), .int n, .int q]) ++ List.replicate (5 - (lg_sl ([.ref (g 315), .int n, .int q])).length) Slot.unset).toArray = ls at hl ⊢
  have hl : lv_has ls 5 [(0, .ref (g 315)), (1, .int n), (2, .int q)] := hl
  refine lv_aload_n hx hb dX11_findSat_0 rfl (lv_at hl 0 rfl) ?_
  refine lv_iconst (v := 0) hx hb dX11_findSat_1 (by decide) ?_
  refine va_put (D := G.1) (ci := 10) (v := .int 0) (ty := .int) (C := RX11) (T := TX11) (N := 25) hx hb hts inlX11 tyX11 tyX11_ok nmX11 hown hG.1 hP (wl_D hg f) hS 315 (wl_at (by decide) hmo) rfl 11 (by decide) (hts (.fieldLink RX11 140 "SwornListsModel" "sat" "I") w_552) (fun _ h9 => h9) rfl (by decide +kernel) rfl rfl (Nat.le_of_ble_eq_true rfl) dX11_findSat_2 (fun H locs hP _ hS => ?_)
  obtain ⟨f_1, hP, e_1, o_1⟩ := b_put (by decide) hP
  have hmo : f_1 315 = eO 10 [.ref (g 316), .ref (g 317), .ref (g 318), .long ab2, .long be2, .int sn, .ref (g 319), .ref (g 320), .int wn, .ref (g 321), .ref (g 322), .int 0, .int ly, .int rdy, .int (nI fd), .ref (g 323), .ref (g 324), .ref (g 325), .ref (g 326), .ref (g 327), .ref (g 328), .ref (g 329), .ref (g 330), .ref (g 331), .ref (g 332)] := e_1
  refine lv_aload_n hx hb dX11_findSat_5 rfl (lv_at hl 0 rfl) ?_
  refine lv_iconst (v := (-1)) hx hb dX11_findSat_6 (by decide) ?_
  refine va_put (D := G.1) (ci := 10) (v := .int (-1)) (ty := .int) (C := RX11) (T := TX11) (N := 25) hx hb hts inlX11 tyX11 tyX11_ok nmX11 hown hG.1 hP (wl_D hg f_1) hS 315 (wl_at (by decide) hmo) rfl 12 (by decide) (hts (.fieldLink RX11 143 "SwornListsModel" "lastYear" "I") w_553) (fun _ h9 => h9) rfl (by decide +kernel) rfl rfl (Nat.le_of_ble_eq_true rfl) dX11_findSat_7 (fun H locs hP _ hS => ?_)
  obtain ⟨f_2, hP, e_2, o_2⟩ := b_put (by decide) hP
  have hmo : f_2 315 = eO 10 [.ref (g 316), .ref (g 317), .ref (g 318), .long ab2, .long be2, .int sn, .ref (g 319), .ref (g 320), .int wn, .ref (g 321), .ref (g 322), .int 0, .int (-1), .int rdy, .int (nI fd), .ref (g 323), .ref (g 324), .ref (g 325), .ref (g 326), .ref (g 327), .ref (g 328), .ref (g 329), .ref (g 330), .ref (g 331), .ref (g 332)] := e_2
  refine lv_iconst (v := 0) hx hb dX11_findSat_10 (by decide) ?_
  refine lv_istore_n (lv' := [(3, .int 0), (0, .ref (g 315)), (1, .int n), (2, .int q)]) hx hb dX11_findSat_11 rfl hl (by decide) rfl (fun ls hl => ?_)
  replace hss_ := ((o_2 316 (by decide)).trans ((o_1 316 (by decide)))).trans hss_
  replace hju_ := ((o_2 324 (by decide)).trans ((o_1 324 (by decide)))).trans hju_
  have key1 : ∀ (n9_1 : Nat) (t : Nat) (sa1 : Int32) (ly1 : Int32) (f_3 : Nat → va_E) (H : Heap) (locs : List Loc) (ls : Array Slot), (t ≤ fd) → fd - t < n9_1 → f_3 315 = eO 10 [.ref (g 316), .ref (g 317), .ref (g 318), .long ab2, .long be2, .int sn, .ref (g 319), .ref (g 320), .int wn, .ref (g 321), .ref (g 322), .int sa1, .int ly1, .int rdy, .int (nI fd), .ref (g 323), .ref (g 324), .ref (g 325), .ref (g 326), .ref (g 327), .ref (g 328), .ref (g 329), .ref (g 330), .ref (g 331), .ref (g 332)] → f_3 316 = eI G 2246 ss → f_3 324 = eI G 11 ju → (∀ j, j ≠ 315 → f_3 j = f_2 j) → va_P G.1 vwCl (wl g f_3) H → va_S (gA g) s.heap H locs → lv_has ls 5 [(0, .ref (g 315)), (1, .int n), (2, .int q), (3, .int (nI t))] → W p l e (headSpec (wsT yX11_findSat cX11_findSat 5 none) ({ frames := 1, cells := 0, slots := 0, locals := 22 })).room s m ([.ref (g 315), .int n, .int q] : List Value).toArray below meth c H locs 0 0 (MQ below (bQv G g (fun (f' : Nat → va_E) => ∃ sa9 : Int32, ∃ ly9 : Int32, f' 315 = eO 10 [.ref (g 316), .ref (g 317), .ref (g 318), .long ab2, .long be2, .int sn, .ref (g 319), .ref (g 320), .int wn, .ref (g 321), .ref (g 322), .int sa9, .int ly9, .int rdy, .int (nI fd), .ref (g 323), .ref (g 324), .ref (g 325), .ref (g 326), .ref (g 327), .ref (g 328), .ref (g 329), .ref (g 330), .ref (g 331), .ref (g 332)] ∧ ∀ j, j ≠ 315 → f' j = f j)) ([.ref (g 315), .int n, .int q] : List Value).toArray s 0 0 (gA g)) (F0 m 12 ls []) := by
    intro n9_1
    induction n9_1 with
    | zero => intro t sa1 ly1 f_3 H locs ls hi hn9_1; exact absurd hn9_1 (Nat.not_lt_zero _)
    | succ n9_1 ih_1 =>
      intro t sa1 ly1 f_3 H locs ls hi hn9_1 hmo hss_ hju_ o_3 hP hS hl
      refine lv_iload_n hx hb dX11_findSat_12 rfl (lv_at hl 3 rfl) ?_
      refine lv_aload_n hx hb dX11_findSat_13 rfl (lv_at hl 0 rfl) ?_
      refine va_get (D := G.1) (ci := 10) (v := .int (nI fd)) (C := RX11) (T := TX11) (N := 25) hx hb hts inlX11 hown hG.1 hP 315 (wl_at (by decide) hmo) rfl 14 (by decide) (hts (.fieldLink RX11 146 "SwornListsModel" "found" "I") w_527) (fun _ h9 => h9) rfl dX11_findSat_14 ?_
      refine lv_icmp_ge (tgt := 92) hx hb dX11_findSat_17 (by decide) (fun c_17 => ?_) (fun c_17 => ?_)
      · have k_17 : fd ≤ t := (nI_leI (a := fd) (b := t) (by omega) (by omega)).mp c_17
        exact W.vret hx hb hr (fun t ht hW => ⟨⟨f_3, rfl, (⟨sa1, ly1, hmo, fun j hj => (((o_3 j (by omega))).trans (o_2 j (by omega))).trans (o_1 j (by omega))⟩), by rw [ht]; exact hP⟩, hS.F ht⟩) hS.2.2 dX11_findSat_92
      · have k_17 : ¬ fd ≤ t := fun z9 => c_17 ((nI_leI (a := fd) (b := t) (by omega) (by omega)).mpr z9)
        refine lv_aload_n hx hb dX11_findSat_20 rfl (lv_at hl 0 rfl) ?_
        refine lv_iload_n hx hb dX11_findSat_21 rfl (lv_at hl 3 rfl) ?_
        refine lv_iconst (v := 0) hx hb dX11_findSat_22 (by decide) ?_
        refine rd_calli (va_runV (As := [.int (nI t), .int 0]) (rest := []) ⟨hx, hb, hml, hown, hts⟩ (r_ofTrial l G g hg f_3 ab2 be2 sn wn sa1 ly1 rdy (nI fd) ss t 0 hmo hss_ (by first | assumption | omega | decide)) (my_cwV hts ok_X11_ofTrial w_532 rfl rfl ⟨Nat.le_of_ble_eq_true rfl, Nat.le_of_ble_eq_true rfl⟩) ⟨bP.blind, va_recv hG.1 hP (ci := 10) (q0 := 315) rfl (wl_at (by decide) hmo), fun U hU hW => ⟨rfl, by rw [hU]; exact hP, kG.warm hW hG⟩⟩ rfl rfl hl.1 rfl (lv_room (Nat.le_of_ble_eq_true rfl)) dX11_findSat_23 ⟨Nat.le_of_ble_eq_true rfl, Nat.le_of_ble_eq_true rfl⟩) (fun r hr9 => ?_)
        subst hr9
        refine my_bei (v := ss (10 * t + 1546)) (congrArg ss (show 10 * t + 0 + 1546 = 10 * t + 1546 by omega)) ?_
        refine lv_istore (lv' := [(4, .int (ss (10 * t + 1546))), (0, .ref (g 315)), (1, .int n), (2, .int q), (3, .int (nI t))]) hx hb dX11_findSat_26 hl (by decide) rfl (fun ls hl => ?_)
        refine lv_iload hx hb dX11_findSat_28 (lv_at hl 0 rfl) ?_
        refine lv_iload_n hx hb dX11_findSat_30 rfl (lv_at hl 3 rfl) ?_
        refine lv_icmp_ge (tgt := 86) hx hb dX11_findSat_31 (by decide) (fun c_31 => ?_) (fun c_31 => ?_)
        · refine lv_iinc (v := nI (t + 1)) (lv' := [(3, .int (nI (t + 1))), (4, .int (ss (10 * t + 1546))), (0, .ref (g 315)), (1, .int n), (2, .int q)]) hx hb dX11_findSat_86 hl (k := 4) rfl (nI_add t 1) (by decide) rfl (fun ls hl => ?_)
          refine lv_goto (tgt := 12) hx hb dX11_findSat_89 (by decide) ?_
          exact ih_1 (t + 1) sa1 ly1 f_3 _ _ _ (by omega) (by omega) (hmo) (hss_) (hju_) (fun j hj => (o_3 j (by omega))) hP hS (lv_sub hl [2, 3, 4, 0] rfl)
        · refine lv_aload_n hx hb dX11_findSat_34 rfl (lv_at hl 1 rfl) ?_
          refine va_get (D := G.1) (ci := 10) (v := .ref (g 324)) (C := RX11) (T := TX11) (N := 25) hx hb hts inlX11 hown hG.1 hP 315 (wl_at (by decide) hmo) rfl 16 (by decide) (hts (.fieldLink RX11 36 "SwornListsModel" "juries" "[I") w_120) (fun _ h9 => h9) rfl dX11_findSat_35 ?_
          refine lv_iload_n hx hb dX11_findSat_38 rfl (lv_at hl 4 rfl) ?_
          refine va_iald hx hb hG.1 hP 324 0 (wl_at (by decide) hju_) rfl (vp_in_nI (by omega) (by decide)) dX11_findSat_39 ?_
          refine my_bei (v := ju t) (congrArg ju (nI_clamp (n := t) (by omega))) ?_
          refine lv_iload_n hx hb dX11_findSat_40 rfl (lv_at hl 2 rfl) ?_
          refine lv_ishr hx hb dX11_findSat_41 ?_
          refine lv_iconst (v := 1) hx hb dX11_findSat_42 (by decide) ?_
          refine lv_iand hx hb dX11_findSat_43 ?_
          refine lv_iconst (v := 1) hx hb dX11_findSat_44 (by decide) ?_
          refine lv_icmp_ne (tgt := 86) hx hb dX11_findSat_45 (by decide) (fun c_45 => ?_) (fun c_45 => ?_)
          · refine lv_iinc (v := nI (t + 1)) (lv' := [(3, .int (nI (t + 1))), (4, .int (ss (10 * t + 1546))), (0, .ref (g 315)), (1, .int n), (2, .int q)]) hx hb dX11_findSat_86 hl (k := 4) rfl (nI_add t 1) (by decide) rfl (fun ls hl => ?_)
            refine lv_goto (tgt := 12) hx hb dX11_findSat_89 (by decide) ?_
            exact ih_1 (t + 1) sa1 ly1 f_3 _ _ _ (by omega) (by omega) (hmo) (hss_) (hju_) (fun j hj => (o_3 j (by omega))) hP hS (lv_sub hl [2, 3, 4, 0] rfl)
          · refine lv_aload_n hx hb dX11_findSat_48 rfl (lv_at hl 1 rfl) ?_
            refine lv_dup hx hb dX11_findSat_49 rfl ?_
            refine va_get (D := G.1) (ci := 10) (v := .int sa1) (C := RX11) (T := TX11) (N := 25) hx hb hts inlX11 hown hG.1 hP 315 (wl_at (by decide) hmo) rfl 11 (by decide) (hts (.fieldLink RX11 140 "SwornListsModel" "sat" "I") w_552) (fun _ h9 => h9) rfl dX11_findSat_50 ?_
            refine lv_iconst (v := 1) hx hb dX11_findSat_53 (by decide) ?_
            refine lv_iadd hx hb dX11_findSat_54 ?_
            refine va_put (D := G.1) (ci := 10) (v := .int (sa1 + 1)) (ty := .int) (C := RX11) (T := TX11) (N := 25) hx hb hts inlX11 tyX11 tyX11_ok nmX11 hown hG.1 hP (wl_D hg f_3) hS 315 (wl_at (by decide) hmo) rfl 11 (by decide) (hts (.fieldLink RX11 140 "SwornListsModel" "sat" "I") w_552) (fun _ h9 => h9) rfl (by decide +kernel) rfl rfl (Nat.le_of_ble_eq_true rfl) dX11_findSat_55 (fun H locs hP _ hS => ?_)
            obtain ⟨f_4, hP, e_4, o_4⟩ := b_put (by decide) hP
            have hmo : f_4 315 = eO 10 [.ref (g 316), .ref (g 317), .ref (g 318), .long ab2, .long be2, .int sn, .ref (g 319), .ref (g 320), .int wn, .ref (g 321), .ref (g 322), .int (sa1 + 1), .int ly1, .int rdy, .int (nI fd), .ref (g 323), .ref (g 324), .ref (g 325), .ref (g 326), .ref (g 327), .ref (g 328), .ref (g 329), .ref (g 330), .ref (g 331), .ref (g 332)] := e_4
            refine lv_aload_n hx hb dX11_findSat_58 rfl (lv_at hl 1 rfl) ?_
            refine lv_iload hx hb dX11_findSat_59 (lv_at hl 0 rfl) ?_
            refine lv_bipush (v := 100) hx hb dX11_findSat_61 (by decide) ?_
            refine lv_idiv hx hb dX11_findSat_63 (by decide) ?_
            refine lv_aload_n hx hb dX11_findSat_64 rfl (lv_at hl 1 rfl) ?_
            refine va_get (D := G.1) (ci := 10) (v := .int ly1) (C := RX11) (T := TX11) (N := 25) hx hb hts inlX11 hown hG.1 hP 315 (wl_at (by decide) hmo) rfl 12 (by decide) (hts (.fieldLink RX11 143 "SwornListsModel" "lastYear" "I") w_553) (fun _ h9 => h9) rfl dX11_findSat_65 ?_
            refine lv_icmp_le (tgt := 79) hx hb dX11_findSat_68 (by decide) (fun c_68 => ?_) (fun c_68 => ?_)
            · refine lv_aload_n hx hb dX11_findSat_79 rfl (lv_at hl 1 rfl) ?_
              refine va_get (D := G.1) (ci := 10) (v := .int ly1) (C := RX11) (T := TX11) (N := 25) hx hb hts inlX11 hown hG.1 hP 315 (wl_at (by decide) hmo) rfl 12 (by decide) (hts (.fieldLink RX11 143 "SwornListsModel" "lastYear" "I") w_553) (fun _ h9 => h9) rfl dX11_findSat_80 ?_
              refine va_put (D := G.1) (ci := 10) (v := .int ly1) (ty := .int) (C := RX11) (T := TX11) (N := 25) hx hb hts inlX11 tyX11 tyX11_ok nmX11 hown hG.1 hP (wl_D hg f_4) hS 315 (wl_at (by decide) hmo) rfl 12 (by decide) (hts (.fieldLink RX11 143 "SwornListsModel" "lastYear" "I") w_553) (fun _ h9 => h9) rfl (by decide +kernel) rfl rfl (Nat.le_of_ble_eq_true rfl) dX11_findSat_83 (fun H locs hP _ hS => ?_)
              obtain ⟨f_5, hP, e_5, o_5⟩ := b_put (by decide) hP
              have hmo : f_5 315 = eO 10 [.ref (g 316), .ref (g 317), .ref (g 318), .long ab2, .long be2, .int sn, .ref (g 319), .ref (g 320), .int wn, .ref (g 321), .ref (g 322), .int (sa1 + 1), .int ly1, .int rdy, .int (nI fd), .ref (g 323), .ref (g 324), .ref (g 325), .ref (g 326), .ref (g 327), .ref (g 328), .ref (g 329), .ref (g 330), .ref (g 331), .ref (g 332)] := e_5
              refine lv_iinc (v := nI (t + 1)) (lv' := [(3, .int (nI (t + 1))), (4, .int (ss (10 * t + 1546))), (0, .ref (g 315)), (1, .int n), (2, .int q)]) hx hb dX11_findSat_86 hl (k := 4) rfl (nI_add t 1) (by decide) rfl (fun ls hl => ?_)
              refine lv_goto (tgt := 12) hx hb dX11_findSat_89 (by decide) ?_
              replace hss_ := ((o_5 316 (by decide)).trans ((o_4 316 (by decide)))).trans hss_
              replace hju_ := ((o_5 324 (by decide)).trans ((o_4 324 (by decide)))).trans hju_
              exact ih_1 (t + 1) (sa1 + 1) ly1 f_5 _ _ _ (by omega) (by omega) (hmo) (hss_) (hju_) (fun j hj => (((o_5 j (by omega))).trans (o_4 j (by omega))).trans (o_3 j (by omega))) hP hS (lv_sub hl [2, 3, 4, 0] rfl)
            · refine lv_iload hx hb dX11_findSat_71 (lv_at hl 0 rfl) ?_
              refine lv_bipush (v := 100) hx hb dX11_findSat_73 (by decide) ?_
              refine lv_idiv hx hb dX11_findSat_75 (by decide) ?_
              refine lv_goto (tgt := 83) hx hb dX11_findSat_76 (by decide) ?_
              refine va_put (D := G.1) (ci := 10) (v := .int ((ss (10 * t + 1546)) / 100)) (ty := .int) (C := RX11) (T := TX11) (N := 25) hx hb hts inlX11 tyX11 tyX11_ok nmX11 hown hG.1 hP (wl_D hg f_4) hS 315 (wl_at (by decide) hmo) rfl 12 (by decide) (hts (.fieldLink RX11 143 "SwornListsModel" "lastYear" "I") w_553) (fun _ h9 => h9) rfl (by decide +kernel) rfl rfl (Nat.le_of_ble_eq_true rfl) dX11_findSat_83 (fun H locs hP _ hS => ?_)
              obtain ⟨f_6, hP, e_6, o_6⟩ := b_put (by decide) hP
              have hmo : f_6 315 = eO 10 [.ref (g 316), .ref (g 317), .ref (g 318), .long ab2, .long be2, .int sn, .ref (g 319), .ref (g 320), .int wn, .ref (g 321), .ref (g 322), .int (sa1 + 1), .int ((ss (10 * t + 1546)) / 100), .int rdy, .int (nI fd), .ref (g 323), .ref (g 324), .ref (g 325), .ref (g 326), .ref (g 327), .ref (g 328), .ref (g 329), .ref (g 330), .ref (g 331), .ref (g 332)] := e_6
              refine lv_iinc (v := nI (t + 1)) (lv' := [(3, .int (nI (t + 1))), (4, .int (ss (10 * t + 1546))), (0, .ref (g 315)), (1, .int n), (2, .int q)]) hx hb dX11_findSat_86 hl (k := 4) rfl (nI_add t 1) (by decide) rfl (fun ls hl => ?_)
              refine lv_goto (tgt := 12) hx hb dX11_findSat_89 (by decide) ?_
              replace hss_ := ((o_6 316 (by decide)).trans ((o_4 316 (by decide)))).trans hss_
              replace hju_ := ((o_6 324 (by decide)).trans ((o_4 324 (by decide)))).trans hju_
              exact ih_1 (t + 1) (sa1 + 1) ((ss (10 * t + 1546)) / 100) f_6 _ _ _ (by omega) (by omega) (hmo) (hss_) (hju_) (fun j hj => (((o_6 j (by omega))).trans (o_4 j (by omega))).trans (o_3 j (by omega))) hP hS (lv_sub hl [2, 3, 4, 0] rfl)
  exact key1 (fd + 1) 0 0 (-1) f_2 _ _ _ (Nat.zero_le _) (by omega) (hmo) (hss_) (hju_) (fun j _ => rfl) hP hS (lv_sub hl [1, 2, 3, 0] rfl)
set_option maxHeartbeats 4000000 in
set_option maxRecDepth 100000 in
theorem r_named (l : Launch) (G : gW) (g : Nat → Nat) (hg : gOK g) (f : Nat → va_E) (ab2 : Int64) (be2 : Int64) (sn : Int32) (wn : Int32) (sa : Int32) (ly : Int32) (rdy : Int32) (fd : Int32) (ss : Nat → Int32) (pn : Nat) (q : Int32) (w : Int32) (hmo : f 315 = eO 10 [.ref (g 316), .ref (g 317), .ref (g 318), .long ab2, .long be2, .int sn, .ref (g 319), .ref (g 320), .int wn, .ref (g 321), .ref (g 322), .int sa, .int ly, .int rdy, .int fd, .ref (g 323), .ref (g 324), .ref (g 325), .ref (g 326), .ref (g 327), .ref (g 328), .ref (g 329), .ref (g 330), .ref (g 331), .ref (g 332)]) (hss_ : f 316 = eI G 2246 ss) (hpn : pn < 30) : Met l yX11_named (wsT yX11_named cX11_named 5 (some .long)) ({ frames := 0, cells := 0, slots := 0, locals := 0 }) (bP G g f [.ref (g 315), .int (nI pn), .int q, .int w]) (rQl (fun z9 => True)) 0 0 fr0 := by
  refine Met.ofW (cc := cX11_named) (maxL := 5) (ret := (some .long)) (by decide) rfl ?_
  intro p e s m args below meth c s₁ B hml hv
  obtain ⟨rfl, hP, hG⟩ := hv
  have hx := B.exec
  have hb := B.bytes
  have hr := B.returns
  have hts := my_hts (atoms_spec (ws := wsT yX11_named cX11_named 5 (some .long)) B.pre)
  have hown : s.vm.findClass RX11 = some m.cls := findClass_of_methodNamed B.named
  have hlocks := B.notSynchronized
  have hl := lv_entry ([.ref (g 315), .int (nI pn), .int q, .int w]) (n := 5) (Nat.le_of_ble_eq_true rfl)
  rw [lg_entry_eq]
  generalize (lg_sl ([.ref (g 315), .int (nI pn), .int q, .int w]) ++ List.replicate (5 - (lg_sl ([.ref (g 315), .int (nI pn), .int q, .int w])).length) Slot.unset).toArray = ls at hl ⊢
  have hl : lv_has ls 5 [(0, .ref (g 315)), (1, .int (nI pn)), (2, .int q), (3, .int w)] := hl
  refine lv_bipush (v := 10) hx hb dX11_named_0 (by decide) ?_
  refine lv_iconst (v := 4) hx hb dX11_named_2 (by decide) ?_
  refine lv_iload_n hx hb dX11_named_3 rfl (lv_at hl 1 rfl) ?_
  refine lv_imul hx hb dX11_named_4 ?_
  refine my_bei (v := nI (4 * pn)) (pk_mul 4 pn) ?_
  refine lv_iadd hx hb dX11_named_5 ?_
  refine my_bei (v := nI (4 * pn + 10)) ((nI_add 10 (4 * pn)).trans (congrArg nI (show 10 + (4 * pn) = 4 * pn + 10 by omega))) ?_
  refine lv_istore (lv' := [(4, .int (nI (4 * pn + 10))), (0, .ref (g 315)), (1, .int (nI pn)), (2, .int q), (3, .int w)]) hx hb dX11_named_6 hl (by decide) rfl (fun ls hl => ?_)
  refine lv_iload_n hx hb dX11_named_8 rfl (lv_at hl 4 rfl) ?_
  by_cases e_0 : w = 0
  · refine my_bei e_0 ?_
    refine lv_tableIn (off := 35) (tgt := 44) hx hb dX11_named_9 (by decide) (by decide) (by decide) (by decide) ?_
    refine lv_bipush (v := 100) hx hb dX11_named_44 (by decide) ?_
    refine lv_iload_n hx hb dX11_named_46 rfl (lv_at hl 3 rfl) ?_
    refine lv_bipush (v := 100) hx hb dX11_named_47 (by decide) ?_
    refine lv_idiv hx hb dX11_named_49 (by decide) ?_
    refine lv_iadd hx hb dX11_named_50 ?_
    refine lv_aload_n hx hb dX11_named_51 rfl (lv_at hl 1 rfl) ?_
    refine va_get (D := G.1) (ci := 10) (v := .ref (g 316)) (C := RX11) (T := TX11) (N := 25) hx hb hts inlX11 hown hG.1 hP 315 (wl_at (by decide) hmo) rfl 0 (by decide) (hts (.fieldLink RX11 7 "SwornListsModel" "st" "[I") w_112) (fun _ h9 => h9) rfl dX11_named_52 ?_
    refine lv_iload hx hb dX11_named_55 (lv_at hl 0 rfl) ?_
    refine lv_iconst (v := 3) hx hb dX11_named_57 (by decide) ?_
    refine lv_iadd hx hb dX11_named_58 ?_
    refine my_bei (v := nI (4 * pn + 13)) ((nI_add (4 * pn + 10) 3).trans (congrArg nI (show (4 * pn + 10) + 3 = 4 * pn + 13 by omega))) ?_
    refine va_iald hx hb hG.1 hP 316 0 (wl_at (by decide) hss_) rfl (vp_in_nI (by omega) (by decide)) dX11_named_59 ?_
    refine my_bei (v := ss (4 * pn + 13)) (congrArg ss (nI_clamp (n := 4 * pn + 13) (by omega))) ?_
    refine lv_isub hx hb dX11_named_60 ?_
    refine lv_i2l hx hb dX11_named_61 rfl ?_
    exact W.lret (v := Int32.toInt64 ((100 + (q / 100)) - (ss (4 * pn + 13)))) hx hb hr (fun t ht hW => ⟨_, rfl, (trivial), ht⟩) (fun _ h => absurd h List.not_mem_nil) dX11_named_62
  by_cases e_1 : w = 1
  · refine my_bei e_1 ?_
    refine lv_tableIn (off := 54) (tgt := 63) hx hb dX11_named_9 (by decide) (by decide) (by decide) (by decide) ?_
    refine lv_aload_n hx hb dX11_named_63 rfl (lv_at hl 1 rfl) ?_
    refine va_get (D := G.1) (ci := 10) (v := .ref (g 316)) (C := RX11) (T := TX11) (N := 25) hx hb hts inlX11 hown hG.1 hP 315 (wl_at (by decide) hmo) rfl 0 (by decide) (hts (.fieldLink RX11 7 "SwornListsModel" "st" "[I") w_112) (fun _ h9 => h9) rfl dX11_named_64 ?_
    refine lv_iload hx hb dX11_named_67 (lv_at hl 0 rfl) ?_
    refine lv_iconst (v := 2) hx hb dX11_named_69 (by decide) ?_
    refine lv_iadd hx hb dX11_named_70 ?_
    refine my_bei (v := nI (4 * pn + 12)) ((nI_add (4 * pn + 10) 2).trans (congrArg nI (show (4 * pn + 10) + 2 = 4 * pn + 12 by omega))) ?_
    refine va_iald hx hb hG.1 hP 316 0 (wl_at (by decide) hss_) rfl (vp_in_nI (by omega) (by decide)) dX11_named_71 ?_
    refine my_bei (v := ss (4 * pn + 12)) (congrArg ss (nI_clamp (n := 4 * pn + 12) (by omega))) ?_
    refine lv_i2l hx hb dX11_named_72 rfl ?_
    exact W.lret (v := Int32.toInt64 (ss (4 * pn + 12))) hx hb hr (fun t ht hW => ⟨_, rfl, (trivial), ht⟩) (fun _ h => absurd h List.not_mem_nil) dX11_named_73
  by_cases e_2 : w = 2
  · refine my_bei e_2 ?_
    refine lv_tableIn (off := 65) (tgt := 74) hx hb dX11_named_9 (by decide) (by decide) (by decide) (by decide) ?_
    refine lv_aload_n hx hb dX11_named_74 rfl (lv_at hl 1 rfl) ?_
    refine va_get (D := G.1) (ci := 10) (v := .ref (g 316)) (C := RX11) (T := TX11) (N := 25) hx hb hts inlX11 hown hG.1 hP 315 (wl_at (by decide) hmo) rfl 0 (by decide) (hts (.fieldLink RX11 7 "SwornListsModel" "st" "[I") w_112) (fun _ h9 => h9) rfl dX11_named_75 ?_
    refine lv_iload hx hb dX11_named_78 (lv_at hl 0 rfl) ?_
    refine lv_iconst (v := 1) hx hb dX11_named_80 (by decide) ?_
    refine lv_iadd hx hb dX11_named_81 ?_
    refine my_bei (v := nI (4 * pn + 11)) ((nI_add (4 * pn + 10) 1).trans (congrArg nI (show (4 * pn + 10) + 1 = 4 * pn + 11 by omega))) ?_
    refine va_iald hx hb hG.1 hP 316 0 (wl_at (by decide) hss_) rfl (vp_in_nI (by omega) (by decide)) dX11_named_82 ?_
    refine my_bei (v := ss (4 * pn + 11)) (congrArg ss (nI_clamp (n := 4 * pn + 11) (by omega))) ?_
    refine lv_i2l hx hb dX11_named_83 rfl ?_
    exact W.lret (v := Int32.toInt64 (ss (4 * pn + 11))) hx hb hr (fun t ht hW => ⟨_, rfl, (trivial), ht⟩) (fun _ h => absurd h List.not_mem_nil) dX11_named_84
  by_cases e_3 : w = 3
  · refine my_bei e_3 ?_
    refine lv_tableIn (off := 76) (tgt := 85) hx hb dX11_named_9 (by decide) (by decide) (by decide) (by decide) ?_
    refine lv_aload_n hx hb dX11_named_85 rfl (lv_at hl 1 rfl) ?_
    refine va_get (D := G.1) (ci := 10) (v := .ref (g 316)) (C := RX11) (T := TX11) (N := 25) hx hb hts inlX11 hown hG.1 hP 315 (wl_at (by decide) hmo) rfl 0 (by decide) (hts (.fieldLink RX11 7 "SwornListsModel" "st" "[I") w_112) (fun _ h9 => h9) rfl dX11_named_86 ?_
    refine lv_iload hx hb dX11_named_89 (lv_at hl 0 rfl) ?_
    refine va_iald hx hb hG.1 hP 316 0 (wl_at (by decide) hss_) rfl (vp_in_nI (by omega) (by decide)) dX11_named_91 ?_
    refine my_bei (v := ss (4 * pn + 10)) (congrArg ss (nI_clamp (n := 4 * pn + 10) (by omega))) ?_
    refine lv_i2l hx hb dX11_named_92 rfl ?_
    exact W.lret (v := Int32.toInt64 (ss (4 * pn + 10))) hx hb hr (fun t ht hW => ⟨_, rfl, (trivial), ht⟩) (fun _ h => absurd h List.not_mem_nil) dX11_named_93
  by_cases e_4 : w = 4
  · refine my_bei e_4 ?_
    refine lv_tableIn (off := 85) (tgt := 94) hx hb dX11_named_9 (by decide) (by decide) (by decide) (by decide) ?_
    refine lv_aload_n hx hb dX11_named_94 rfl (lv_at hl 1 rfl) ?_
    refine va_get (D := G.1) (ci := 10) (v := .int sa) (C := RX11) (T := TX11) (N := 25) hx hb hts inlX11 hown hG.1 hP 315 (wl_at (by decide) hmo) rfl 11 (by decide) (hts (.fieldLink RX11 140 "SwornListsModel" "sat" "I") w_552) (fun _ h9 => h9) rfl dX11_named_95 ?_
    refine lv_i2l hx hb dX11_named_98 rfl ?_
    exact W.lret (v := Int32.toInt64 sa) hx hb hr (fun t ht hW => ⟨_, rfl, (trivial), ht⟩) (fun _ h => absurd h List.not_mem_nil) dX11_named_99
  have n_0 : w.toInt ≠ 0 := fun z => e_0 (Int32.toInt_inj.mp (z.trans (by decide)))
  have n_1 : w.toInt ≠ 1 := fun z => e_1 (Int32.toInt_inj.mp (z.trans (by decide)))
  have n_2 : w.toInt ≠ 2 := fun z => e_2 (Int32.toInt_inj.mp (z.trans (by decide)))
  have n_3 : w.toInt ≠ 3 := fun z => e_3 (Int32.toInt_inj.mp (z.trans (by decide)))
  have n_4 : w.toInt ≠ 4 := fun z => e_4 (Int32.toInt_inj.mp (z.trans (by decide)))
  refine lv_tableOut (tgt := 100) hx hb dX11_named_9 (by omega) (by decide) ?_
  refine lv_aload_n hx hb dX11_named_100 rfl (lv_at hl 1 rfl) ?_
  refine va_get (D := G.1) (ci := 10) (v := .int sa) (C := RX11) (T := TX11) (N := 25) hx hb hts inlX11 hown hG.1 hP 315 (wl_at (by decide) hmo) rfl 11 (by decide) (hts (.fieldLink RX11 140 "SwornListsModel" "sat" "I") w_552) (fun _ h9 => h9) rfl dX11_named_101 ?_
  refine lv_if_ne (tgt := 113) hx hb dX11_named_104 (by decide) (fun c_104 => ?_) (fun c_104 => ?_)
  · refine lv_iload_n hx hb dX11_named_113 rfl (lv_at hl 3 rfl) ?_
    refine lv_bipush (v := 100) hx hb dX11_named_114 (by decide) ?_
    refine lv_idiv hx hb dX11_named_116 (by decide) ?_
    refine lv_aload_n hx hb dX11_named_117 rfl (lv_at hl 1 rfl) ?_
    refine va_get (D := G.1) (ci := 10) (v := .int ly) (C := RX11) (T := TX11) (N := 25) hx hb hts inlX11 hown hG.1 hP 315 (wl_at (by decide) hmo) rfl 12 (by decide) (hts (.fieldLink RX11 143 "SwornListsModel" "lastYear" "I") w_553) (fun _ h9 => h9) rfl dX11_named_118 ?_
    refine lv_isub hx hb dX11_named_121 ?_
    refine lv_i2l hx hb dX11_named_122 rfl ?_
    exact W.lret (v := Int32.toInt64 ((q / 100) - ly)) hx hb hr (fun t ht hW => ⟨_, rfl, (trivial), ht⟩) (fun _ h => absurd h List.not_mem_nil) dX11_named_123
  · refine lv_ldc2 (v := 999) hx hb hown (hts (.constantLong RX11 153 (999)) w_558) dX11_named_107 ?_
    refine lv_goto (tgt := 123) hx hb dX11_named_110 (by decide) ?_
    exact W.lret (v := 999) hx hb hr (fun t ht hW => ⟨_, rfl, (trivial), ht⟩) (fun _ h => absurd h List.not_mem_nil) dX11_named_123
set_option maxHeartbeats 4000000 in
set_option maxRecDepth 100000 in
theorem r_twoOf (l : Launch) (G : gW) (g : Nat → Nat) (hg : gOK g) (f : Nat → va_E) (n : Int32) (u : Int64) (v : Int64)   : Met l yX11_twoOf (wsT yX11_twoOf cX11_twoOf 5 (some .long)) ({ frames := 0, cells := 0, slots := 0, locals := 0 }) (bP G g f [.int n, .long u, .long v]) (rQl (fun z9 => True)) 0 0 fr0 := by
  refine Met.ofW (cc := cX11_twoOf) (maxL := 5) (ret := (some .long)) (by decide) rfl ?_
  intro p e s m args below meth c s₁ B hml hv
  obtain ⟨rfl, hP, hG⟩ := hv
  have hx := B.exec
  have hb := B.bytes
  have hr := B.returns
  have hts := my_hts (atoms_spec (ws := wsT yX11_twoOf cX11_twoOf 5 (some .long)) B.pre)
  have hown : s.vm.findClass RX11 = some m.cls := findClass_of_methodNamed B.named
  have hlocks := B.notSynchronized
  have hl := lv_entry ([.int n, .long u, .long v]) (n := 5) (Nat.le_of_ble_eq_true rfl)
  rw [lg_entry_eq]
  generalize (lg_sl ([.int n, .long u, .long v]) ++ List.replicate (5 - (lg_sl ([.int n, .long u, .long v])).length) Slot.unset).toArray = ls at hl ⊢
  have hl : lv_has ls 5 [(0, .int n), (1, .long u), (3, .long v)] := hl
  refine lv_iload_n hx hb dX11_twoOf_0 rfl (lv_at hl 0 rfl) ?_
  by_cases e_4 : n = 4
  · refine my_bei e_4 ?_
    refine lv_tableIn (off := 47) (tgt := 48) hx hb dX11_twoOf_1 (by decide) (by decide) (by decide) (by decide) ?_
    refine lv_lload_n hx hb dX11_twoOf_48 rfl (lv_at hl 1 rfl) ?_
    refine lv_lload_n hx hb dX11_twoOf_49 rfl (lv_at hl 2 rfl) ?_
    refine lv_lmul hx hb dX11_twoOf_50 ?_
    exact W.lret (v := u * v) hx hb hr (fun t ht hW => ⟨_, rfl, (trivial), ht⟩) (fun _ h => absurd h List.not_mem_nil) dX11_twoOf_51
  by_cases e_5 : n = 5
  · refine my_bei e_5 ?_
    refine lv_tableIn (off := 51) (tgt := 52) hx hb dX11_twoOf_1 (by decide) (by decide) (by decide) (by decide) ?_
    refine lv_lload_n hx hb dX11_twoOf_52 rfl (lv_at hl 2 rfl) ?_
    refine lv_lconst (v := 0) hx hb dX11_twoOf_53 (by decide) ?_
    refine W.lcmp hx hb dX11_twoOf_54 ?_
    refine lv_if_ne (tgt := 62) hx hb dX11_twoOf_55 (by decide) (fun c_55 => ?_) (fun c_55 => ?_)
    · refine lv_lload_n hx hb dX11_twoOf_62 rfl (lv_at hl 1 rfl) ?_
      refine lv_lload_n hx hb dX11_twoOf_63 rfl (lv_at hl 2 rfl) ?_
      refine lv_ldiv hx hb dX11_twoOf_64 (fun z => c_55 ((lg_cmp_eq _ _).mpr z)) ?_
      exact W.lret (v := u / v) hx hb hr (fun t ht hW => ⟨_, rfl, (trivial), ht⟩) (fun _ h => absurd h List.not_mem_nil) dX11_twoOf_65
    · refine lv_lconst (v := 0) hx hb dX11_twoOf_58 (by decide) ?_
      refine lv_goto (tgt := 65) hx hb dX11_twoOf_59 (by decide) ?_
      exact W.lret (v := 0) hx hb hr (fun t ht hW => ⟨_, rfl, (trivial), ht⟩) (fun _ h => absurd h List.not_mem_nil) dX11_twoOf_65
  by_cases e_6 : n = 6
  · refine my_bei e_6 ?_
    refine lv_tableIn (off := 65) (tgt := 66) hx hb dX11_twoOf_1 (by decide) (by decide) (by decide) (by decide) ?_
    refine lv_lload_n hx hb dX11_twoOf_66 rfl (lv_at hl 1 rfl) ?_
    refine lv_lload_n hx hb dX11_twoOf_67 rfl (lv_at hl 2 rfl) ?_
    refine lv_ladd hx hb dX11_twoOf_68 ?_
    exact W.lret (v := u + v) hx hb hr (fun t ht hW => ⟨_, rfl, (trivial), ht⟩) (fun _ h => absurd h List.not_mem_nil) dX11_twoOf_69
  by_cases e_7 : n = 7
  · refine my_bei e_7 ?_
    refine lv_tableIn (off := 69) (tgt := 70) hx hb dX11_twoOf_1 (by decide) (by decide) (by decide) (by decide) ?_
    refine lv_lload_n hx hb dX11_twoOf_70 rfl (lv_at hl 1 rfl) ?_
    refine lv_lload_n hx hb dX11_twoOf_71 rfl (lv_at hl 2 rfl) ?_
    refine lv_lsub hx hb dX11_twoOf_72 ?_
    exact W.lret (v := u - v) hx hb hr (fun t ht hW => ⟨_, rfl, (trivial), ht⟩) (fun _ h => absurd h List.not_mem_nil) dX11_twoOf_73
  by_cases e_8 : n = 8
  · refine my_bei e_8 ?_
    refine lv_tableIn (off := 73) (tgt := 74) hx hb dX11_twoOf_1 (by decide) (by decide) (by decide) (by decide) ?_
    refine lv_lload_n hx hb dX11_twoOf_74 rfl (lv_at hl 1 rfl) ?_
    refine lv_lload_n hx hb dX11_twoOf_75 rfl (lv_at hl 2 rfl) ?_
    refine W.lcmp hx hb dX11_twoOf_76 ?_
    refine lv_if_ge (tgt := 84) hx hb dX11_twoOf_77 (by decide) (fun c_77 => ?_) (fun c_77 => ?_)
    · refine lv_lconst (v := 0) hx hb dX11_twoOf_84 (by decide) ?_
      exact W.lret (v := 0) hx hb hr (fun t ht hW => ⟨_, rfl, (trivial), ht⟩) (fun _ h => absurd h List.not_mem_nil) dX11_twoOf_85
    · refine lv_lconst (v := 1) hx hb dX11_twoOf_80 (by decide) ?_
      refine lv_goto (tgt := 85) hx hb dX11_twoOf_81 (by decide) ?_
      exact W.lret (v := 1) hx hb hr (fun t ht hW => ⟨_, rfl, (trivial), ht⟩) (fun _ h => absurd h List.not_mem_nil) dX11_twoOf_85
  by_cases e_9 : n = 9
  · refine my_bei e_9 ?_
    refine lv_tableIn (off := 85) (tgt := 86) hx hb dX11_twoOf_1 (by decide) (by decide) (by decide) (by decide) ?_
    refine lv_lload_n hx hb dX11_twoOf_86 rfl (lv_at hl 1 rfl) ?_
    refine lv_lload_n hx hb dX11_twoOf_87 rfl (lv_at hl 2 rfl) ?_
    refine W.lcmp hx hb dX11_twoOf_88 ?_
    refine lv_if_le (tgt := 96) hx hb dX11_twoOf_89 (by decide) (fun c_89 => ?_) (fun c_89 => ?_)
    · refine lv_lconst (v := 0) hx hb dX11_twoOf_96 (by decide) ?_
      exact W.lret (v := 0) hx hb hr (fun t ht hW => ⟨_, rfl, (trivial), ht⟩) (fun _ h => absurd h List.not_mem_nil) dX11_twoOf_97
    · refine lv_lconst (v := 1) hx hb dX11_twoOf_92 (by decide) ?_
      refine lv_goto (tgt := 97) hx hb dX11_twoOf_93 (by decide) ?_
      exact W.lret (v := 1) hx hb hr (fun t ht hW => ⟨_, rfl, (trivial), ht⟩) (fun _ h => absurd h List.not_mem_nil) dX11_twoOf_97
  by_cases e_10 : n = 10
  · refine my_bei e_10 ?_
    refine lv_tableIn (off := 97) (tgt := 98) hx hb dX11_twoOf_1 (by decide) (by decide) (by decide) (by decide) ?_
    refine lv_lload_n hx hb dX11_twoOf_98 rfl (lv_at hl 1 rfl) ?_
    refine lv_lload_n hx hb dX11_twoOf_99 rfl (lv_at hl 2 rfl) ?_
    refine W.lcmp hx hb dX11_twoOf_100 ?_
    refine lv_if_ne (tgt := 108) hx hb dX11_twoOf_101 (by decide) (fun c_101 => ?_) (fun c_101 => ?_)
    · refine lv_lconst (v := 0) hx hb dX11_twoOf_108 (by decide) ?_
      exact W.lret (v := 0) hx hb hr (fun t ht hW => ⟨_, rfl, (trivial), ht⟩) (fun _ h => absurd h List.not_mem_nil) dX11_twoOf_109
    · refine lv_lconst (v := 1) hx hb dX11_twoOf_104 (by decide) ?_
      refine lv_goto (tgt := 109) hx hb dX11_twoOf_105 (by decide) ?_
      exact W.lret (v := 1) hx hb hr (fun t ht hW => ⟨_, rfl, (trivial), ht⟩) (fun _ h => absurd h List.not_mem_nil) dX11_twoOf_109
  by_cases e_11 : n = 11
  · refine my_bei e_11 ?_
    refine lv_tableIn (off := 109) (tgt := 110) hx hb dX11_twoOf_1 (by decide) (by decide) (by decide) (by decide) ?_
    refine lv_lload_n hx hb dX11_twoOf_110 rfl (lv_at hl 1 rfl) ?_
    refine lv_lconst (v := 0) hx hb dX11_twoOf_111 (by decide) ?_
    refine W.lcmp hx hb dX11_twoOf_112 ?_
    refine lv_if_eq (tgt := 126) hx hb dX11_twoOf_113 (by decide) (fun c_113 => ?_) (fun c_113 => ?_)
    · refine lv_lconst (v := 0) hx hb dX11_twoOf_126 (by decide) ?_
      exact W.lret (v := 0) hx hb hr (fun t ht hW => ⟨_, rfl, (trivial), ht⟩) (fun _ h => absurd h List.not_mem_nil) dX11_twoOf_127
    · refine lv_lload_n hx hb dX11_twoOf_116 rfl (lv_at hl 2 rfl) ?_
      refine lv_lconst (v := 0) hx hb dX11_twoOf_117 (by decide) ?_
      refine W.lcmp hx hb dX11_twoOf_118 ?_
      refine lv_if_eq (tgt := 126) hx hb dX11_twoOf_119 (by decide) (fun c_119 => ?_) (fun c_119 => ?_)
      · refine lv_lconst (v := 0) hx hb dX11_twoOf_126 (by decide) ?_
        exact W.lret (v := 0) hx hb hr (fun t ht hW => ⟨_, rfl, (trivial), ht⟩) (fun _ h => absurd h List.not_mem_nil) dX11_twoOf_127
      · refine lv_lconst (v := 1) hx hb dX11_twoOf_122 (by decide) ?_
        refine lv_goto (tgt := 127) hx hb dX11_twoOf_123 (by decide) ?_
        exact W.lret (v := 1) hx hb hr (fun t ht hW => ⟨_, rfl, (trivial), ht⟩) (fun _ h => absurd h List.not_mem_nil) dX11_twoOf_127
  have n_4 : n.toInt ≠ 4 := fun z => e_4 (Int32.toInt_inj.mp (z.trans (by decide)))
  have n_5 : n.toInt ≠ 5 := fun z => e_5 (Int32.toInt_inj.mp (z.trans (by decide)))
  have n_6 : n.toInt ≠ 6 := fun z => e_6 (Int32.toInt_inj.mp (z.trans (by decide)))
  have n_7 : n.toInt ≠ 7 := fun z => e_7 (Int32.toInt_inj.mp (z.trans (by decide)))
  have n_8 : n.toInt ≠ 8 := fun z => e_8 (Int32.toInt_inj.mp (z.trans (by decide)))
  have n_9 : n.toInt ≠ 9 := fun z => e_9 (Int32.toInt_inj.mp (z.trans (by decide)))
  have n_10 : n.toInt ≠ 10 := fun z => e_10 (Int32.toInt_inj.mp (z.trans (by decide)))
  have n_11 : n.toInt ≠ 11 := fun z => e_11 (Int32.toInt_inj.mp (z.trans (by decide)))
  refine lv_tableOut (tgt := 128) hx hb dX11_twoOf_1 (by omega) (by decide) ?_
  refine lv_lload_n hx hb dX11_twoOf_128 rfl (lv_at hl 1 rfl) ?_
  refine lv_lconst (v := 0) hx hb dX11_twoOf_129 (by decide) ?_
  refine W.lcmp hx hb dX11_twoOf_130 ?_
  refine lv_if_ne (tgt := 140) hx hb dX11_twoOf_131 (by decide) (fun c_131 => ?_) (fun c_131 => ?_)
  · refine lv_lconst (v := 1) hx hb dX11_twoOf_140 (by decide) ?_
    refine lv_goto (tgt := 145) hx hb dX11_twoOf_141 (by decide) ?_
    exact W.lret (v := 1) hx hb hr (fun t ht hW => ⟨_, rfl, (trivial), ht⟩) (fun _ h => absurd h List.not_mem_nil) dX11_twoOf_145
  · refine lv_lload_n hx hb dX11_twoOf_134 rfl (lv_at hl 2 rfl) ?_
    refine lv_lconst (v := 0) hx hb dX11_twoOf_135 (by decide) ?_
    refine W.lcmp hx hb dX11_twoOf_136 ?_
    refine lv_if_eq (tgt := 144) hx hb dX11_twoOf_137 (by decide) (fun c_137 => ?_) (fun c_137 => ?_)
    · refine lv_lconst (v := 0) hx hb dX11_twoOf_144 (by decide) ?_
      exact W.lret (v := 0) hx hb hr (fun t ht hW => ⟨_, rfl, (trivial), ht⟩) (fun _ h => absurd h List.not_mem_nil) dX11_twoOf_145
    · refine lv_lconst (v := 1) hx hb dX11_twoOf_140 (by decide) ?_
      refine lv_goto (tgt := 145) hx hb dX11_twoOf_141 (by decide) ?_
      exact W.lret (v := 1) hx hb hr (fun t ht hW => ⟨_, rfl, (trivial), ht⟩) (fun _ h => absurd h List.not_mem_nil) dX11_twoOf_145
set_option maxHeartbeats 4000000 in
set_option maxRecDepth 100000 in
theorem r_tellsOf (l : Launch) (G : gW) (g : Nat → Nat) (hg : gOK g) (f : Nat → va_E) (ab2 : Int64) (be2 : Int64) (sn : Nat) (wn : Int32) (sa : Int32) (ly : Int32) (rdy : Int32) (fd : Nat) (ss : Nat → Int32) (ju : Nat → Int32) (sp : Nat → Int32) (wi : Nat → Int32) (va : Nat → Int64) (pn : Nat) (D : Nat) (q : Int32) (hmo : f 315 = eO 10 [.ref (g 316), .ref (g 317), .ref (g 318), .long ab2, .long be2, .int (nI sn), .ref (g 319), .ref (g 320), .int wn, .ref (g 321), .ref (g 322), .int sa, .int ly, .int rdy, .int (nI fd), .ref (g 323), .ref (g 324), .ref (g 325), .ref (g 326), .ref (g 327), .ref (g 328), .ref (g 329), .ref (g 330), .ref (g 331), .ref (g 332)]) (hss_ : f 316 = eI G 2246 ss) (hsp_ : f 319 = eI G 70 sp) (hwi_ : f 320 = eI G 70 wi) (hva_ : f 322 = eJ G 70 va) (hju_ : f 324 = eI G 11 ju) (hfo : fd ≤ 10) (hpn : pn < 30) (hsn : sn ≤ 70) (hD : dep sp sn = some D) : Met l yX11_tellsOf (wsT yX11_tellsOf cX11_tellsOf 6 (some .long)) ({ frames := 2, cells := 0, slots := 0, locals := 46 }) (bP G g f [.ref (g 315), .int (nI pn), .int q]) (bQl G g (fun (z9 : Int64) (f' : Nat → va_E) => ∃ sa9 : Int32, ∃ ly9 : Int32, ∃ va9 : Nat → Int64, f' 315 = eO 10 [.ref (g 316), .ref (g 317), .ref (g 318), .long ab2, .long be2, .int (nI sn), .ref (g 319), .ref (g 320), .int wn, .ref (g 321), .ref (g 322), .int sa9, .int ly9, .int rdy, .int (nI fd), .ref (g 323), .ref (g 324), .ref (g 325), .ref (g 326), .ref (g 327), .ref (g 328), .ref (g 329), .ref (g 330), .ref (g 331), .ref (g 332)] ∧ f' 322 = eJ G 70 va9 ∧ ∀ j, (j ≠ 315 ∧ j ≠ 322) → f' j = f j)) 0 0 (gA g) := by
  refine Met.ofW (cc := cX11_tellsOf) (maxL := 6) (ret := (some .long)) (by decide) rfl ?_
  intro p e s m args below meth c s₁ B hml hv
  obtain ⟨rfl, hP, hG⟩ := hv
  have hx := B.exec
  have hb := B.bytes
  have hr := B.returns
  have hts := my_hts (atoms_spec (ws := wsT yX11_tellsOf cX11_tellsOf 6 (some .long)) B.pre)
  have hown : s.vm.findClass RX11 = some m.cls := findClass_of_methodNamed B.named
  have hlocks := B.notSynchronized
  have hS : va_S (gA g) s.heap s.heap [] := va_S.rf
  have hl := lv_entry ([.ref (g 315), .int (nI pn), .int q]) (n := 6) (Nat.le_of_ble_eq_true rfl)
  rw [lg_entry_eq]
  generalize (lg_sl ([.ref (g 315), .int (nI pn), .int q]) ++ List.replicate (6 - (lg_sl ([.ref (g 315), .int (nI pn), .int q])).length) Slot.unset).toArray = ls at hl ⊢
  have hl : lv_has ls 6 [(0, .ref (g 315)), (1, .int (nI pn)), (2, .int q)] := hl
  refine lv_aload_n hx hb dX11_tellsOf_0 rfl (lv_at hl 0 rfl) ?_
  refine lv_iload_n hx hb dX11_tellsOf_1 rfl (lv_at hl 1 rfl) ?_
  refine lv_iload_n hx hb dX11_tellsOf_2 rfl (lv_at hl 2 rfl) ?_
  refine b_callv (va_runV (As := [.int (nI pn), .int q]) (rest := []) ⟨hx, hb, hml, hown, hts⟩ (r_findSat l G g hg f ab2 be2 (nI sn) wn sa ly rdy fd ss ju (nI pn) q hmo hss_ hju_ (by first | assumption | omega | decide)) (my_cwV hts ok_X11_findSat w_548 rfl rfl ⟨Nat.le_of_ble_eq_true rfl, Nat.le_of_ble_eq_true rfl⟩) ⟨bP.blind, va_recv hG.1 hP (ci := 10) (q0 := 315) rfl (wl_at (by decide) hmo), fun U hU hW => ⟨rfl, by rw [hU]; exact hP, kG.warm hW hG⟩⟩ rfl rfl hl.1 rfl (lv_room (Nat.le_of_ble_eq_true rfl)) dX11_tellsOf_3 ⟨Nat.le_of_ble_eq_true rfl, Nat.le_of_ble_eq_true rfl⟩) hS (fun f_1 H locs hq9 hP hS => ?_)
  obtain ⟨sa91, ly92, hq_1_0, o_1⟩ := hq9
  have hmo : f_1 315 = eO 10 [.ref (g 316), .ref (g 317), .ref (g 318), .long ab2, .long be2, .int (nI sn), .ref (g 319), .ref (g 320), .int wn, .ref (g 321), .ref (g 322), .int sa91, .int ly92, .int rdy, .int (nI fd), .ref (g 323), .ref (g 324), .ref (g 325), .ref (g 326), .ref (g 327), .ref (g 328), .ref (g 329), .ref (g 330), .ref (g 331), .ref (g 332)] := hq_1_0
  refine lv_iconst (v := 0) hx hb dX11_tellsOf_6 (by decide) ?_
  refine lv_istore_n (lv' := [(3, .int 0), (0, .ref (g 315)), (1, .int (nI pn)), (2, .int q)]) hx hb dX11_tellsOf_7 rfl hl (by decide) rfl (fun ls hl => ?_)
  refine lv_iconst (v := 0) hx hb dX11_tellsOf_8 (by decide) ?_
  refine lv_istore (lv' := [(4, .int 0), (3, .int 0), (0, .ref (g 315)), (1, .int (nI pn)), (2, .int q)]) hx hb dX11_tellsOf_9 hl (by decide) rfl (fun ls hl => ?_)
  replace hss_ := ((o_1 316 (by first | decide | omega))).trans hss_
  replace hsp_ := ((o_1 319 (by first | decide | omega))).trans hsp_
  replace hwi_ := ((o_1 320 (by first | decide | omega))).trans hwi_
  replace hva_ := ((o_1 322 (by first | decide | omega))).trans hva_
  have key3 : ∀ (n9_3 : Nat) (i : Nat) (d : Nat) (va1 : Nat → Int64) (f_2 : Nat → va_E) (H : Heap) (locs : List Loc) (ls : Array Slot), (i ≤ sn) → (dep sp i = some d) → sn - i < n9_3 → f_2 315 = eO 10 [.ref (g 316), .ref (g 317), .ref (g 318), .long ab2, .long be2, .int (nI sn), .ref (g 319), .ref (g 320), .int wn, .ref (g 321), .ref (g 322), .int sa91, .int ly92, .int rdy, .int (nI fd), .ref (g 323), .ref (g 324), .ref (g 325), .ref (g 326), .ref (g 327), .ref (g 328), .ref (g 329), .ref (g 330), .ref (g 331), .ref (g 332)] → f_2 316 = eI G 2246 ss → f_2 319 = eI G 70 sp → f_2 320 = eI G 70 wi → f_2 322 = eJ G 70 va1 → (∀ j, j ≠ 322 → f_2 j = f_1 j) → va_P G.1 vwCl (wl g f_2) H → va_S (gA g) s.heap H locs → lv_has ls 6 [(0, .ref (g 315)), (1, .int (nI pn)), (2, .int q), (3, .int (nI d)), (4, .int (nI i))] → W p l e (headSpec (wsT yX11_tellsOf cX11_tellsOf 6 (some .long)) ({ frames := 2, cells := 0, slots := 0, locals := 46 })).room s m ([.ref (g 315), .int (nI pn), .int q] : List Value).toArray below meth c H locs 0 0 (MQ below (bQl G g (fun (z9 : Int64) (f' : Nat → va_E) => ∃ sa9 : Int32, ∃ ly9 : Int32, ∃ va9 : Nat → Int64, f' 315 = eO 10 [.ref (g 316), .ref (g 317), .ref (g 318), .long ab2, .long be2, .int (nI sn), .ref (g 319), .ref (g 320), .int wn, .ref (g 321), .ref (g 322), .int sa9, .int ly9, .int rdy, .int (nI fd), .ref (g 323), .ref (g 324), .ref (g 325), .ref (g 326), .ref (g 327), .ref (g 328), .ref (g 329), .ref (g 330), .ref (g 331), .ref (g 332)] ∧ f' 322 = eJ G 70 va9 ∧ ∀ j, (j ≠ 315 ∧ j ≠ 322) → f' j = f j)) ([.ref (g 315), .int (nI pn), .int q] : List Value).toArray s 0 0 (gA g)) (F0 m 11 ls []) := by
    intro n9_3
    induction n9_3 with
    | zero => intro i d va1 f_2 H locs ls hi hd hn9_3; exact absurd hn9_3 (Nat.not_lt_zero _)
    | succ n9_3 ih_3 =>
      intro i d va1 f_2 H locs ls hi hd hn9_3 hmo hss_ hsp_ hwi_ hva_ o_2 hP hS hl
      refine lv_iload hx hb dX11_tellsOf_11 (lv_at hl 4 rfl) ?_
      refine lv_aload_n hx hb dX11_tellsOf_13 rfl (lv_at hl 0 rfl) ?_
      refine va_get (D := G.1) (ci := 10) (v := .int (nI sn)) (C := RX11) (T := TX11) (N := 25) hx hb hts inlX11 hown hG.1 hP 315 (wl_at (by decide) hmo) rfl 5 (by decide) (hts (.fieldLink RX11 106 "SwornListsModel" "steps" "I") w_349) (fun _ h9 => h9) rfl dX11_tellsOf_14 ?_
      refine lv_icmp_ge (tgt := 178) hx hb dX11_tellsOf_17 (by decide) (fun c_17 => ?_) (fun c_17 => ?_)
      · have k_17 : sn ≤ i := (nI_leI (a := sn) (b := i) (by omega) (by omega)).mp c_17
        refine lv_aload_n hx hb dX11_tellsOf_178 rfl (lv_at hl 0 rfl) ?_
        refine va_get (D := G.1) (ci := 10) (v := .ref (g 322)) (C := RX11) (T := TX11) (N := 25) hx hb hts inlX11 hown hG.1 hP 315 (wl_at (by decide) hmo) rfl 10 (by decide) (hts (.fieldLink RX11 29 "SwornListsModel" "value" "[J") w_118) (fun _ h9 => h9) rfl dX11_tellsOf_179 ?_
        refine lv_iconst (v := 0) hx hb dX11_tellsOf_182 (by decide) ?_
        refine va_lald hx hb hG.1 hP 322 1 (wl_at (by decide) hva_) rfl (by unfold vp_in; decide) dX11_tellsOf_183 ?_
        refine my_bel (v := va1 0) (rfl) ?_
        exact W.lret (v := va1 0) hx hb hr (fun t ht hW => ⟨⟨_, f_2, rfl, (⟨sa91, ly92, va1, hmo, hva_, fun j hj => ((o_2 j (by omega))).trans (o_1 j (by omega))⟩), by rw [ht]; exact hP⟩, hS.F ht⟩) hS.2.2 dX11_tellsOf_184
      · have k_17 : ¬ sn ≤ i := fun z9 => c_17 ((nI_leI (a := sn) (b := i) (by omega) (by omega)).mpr z9)
        obtain ⟨e9, he9⟩ := dep_pre _ _ (i + 1) hD (by omega)
        have hdi := dep_le _ _ hd
        refine lv_aload_n hx hb dX11_tellsOf_20 rfl (lv_at hl 0 rfl) ?_
        refine va_get (D := G.1) (ci := 10) (v := .ref (g 319)) (C := RX11) (T := TX11) (N := 25) hx hb hts inlX11 hown hG.1 hP 315 (wl_at (by decide) hmo) rfl 6 (by decide) (hts (.fieldLink RX11 20 "SwornListsModel" "step" "[I") w_115) (fun _ h9 => h9) rfl dX11_tellsOf_21 ?_
        refine lv_iload hx hb dX11_tellsOf_24 (lv_at hl 4 rfl) ?_
        refine va_iald hx hb hG.1 hP 319 0 (wl_at (by decide) hsp_) rfl (vp_in_nI (by omega) (by decide)) dX11_tellsOf_26 ?_
        refine my_bei (v := sp i) (congrArg sp (nI_clamp (n := i) (by omega))) ?_
        refine lv_istore (lv' := [(5, .int (sp i)), (0, .ref (g 315)), (1, .int (nI pn)), (2, .int q), (3, .int (nI d)), (4, .int (nI i))]) hx hb dX11_tellsOf_27 hl (by decide) rfl (fun ls hl => ?_)
        refine lv_iload hx hb dX11_tellsOf_29 (lv_at hl 0 rfl) ?_
        refine lv_if_eq (tgt := 40) hx hb dX11_tellsOf_31 (by decide) (fun c_31 => ?_) (fun c_31 => ?_)
        · refine lv_aload_n hx hb dX11_tellsOf_40 rfl (lv_at hl 1 rfl) ?_
          refine va_get (D := G.1) (ci := 10) (v := .ref (g 322)) (C := RX11) (T := TX11) (N := 25) hx hb hts inlX11 hown hG.1 hP 315 (wl_at (by decide) hmo) rfl 10 (by decide) (hts (.fieldLink RX11 29 "SwornListsModel" "value" "[J") w_118) (fun _ h9 => h9) rfl dX11_tellsOf_41 ?_
          refine lv_iload_n hx hb dX11_tellsOf_44 rfl (lv_at hl 4 rfl) ?_
          refine lv_iload hx hb dX11_tellsOf_45 (lv_at hl 0 rfl) ?_
          refine lv_if_ne (tgt := 61) hx hb dX11_tellsOf_47 (by decide) (fun c_47 => absurd (c_31) c_47) (fun c_47 => ?_)
          refine lv_aload_n hx hb dX11_tellsOf_50 rfl (lv_at hl 1 rfl) ?_
          refine va_get (D := G.1) (ci := 10) (v := .ref (g 320)) (C := RX11) (T := TX11) (N := 25) hx hb hts inlX11 hown hG.1 hP 315 (wl_at (by decide) hmo) rfl 7 (by decide) (hts (.fieldLink RX11 23 "SwornListsModel" "with" "[I") w_116) (fun _ h9 => h9) rfl dX11_tellsOf_51 ?_
          refine lv_iload hx hb dX11_tellsOf_54 (lv_at hl 5 rfl) ?_
          refine va_iald hx hb hG.1 hP 320 0 (wl_at (by decide) hwi_) rfl (vp_in_nI (by omega) (by decide)) dX11_tellsOf_56 ?_
          refine my_bei (v := wi i) (congrArg wi (nI_clamp (n := i) (by omega))) ?_
          refine lv_i2l hx hb dX11_tellsOf_57 rfl ?_
          refine lv_goto (tgt := 74) hx hb dX11_tellsOf_58 (by decide) ?_
          refine va_last hx hb hG.1 hP (wl_D hg f_2) hS 322 1 (wl_at (by decide) hva_) rfl (vp_in_nI (by omega) (by decide)) dX11_tellsOf_74 (fun H locs hP _ hS => ?_)
          have hP := (congrArg (fun z9 => va_P G.1 vwCl ((wl g f_2).set 322 (g 322, eJ G 70 ((vp_updL va1 z9 (Int32.toInt64 (wi i)))))) H) (show Int32.toNatClampNeg (nI d) = d from nI_clamp (by omega))).mp hP
          obtain ⟨f_3, hP, e_3, o_3⟩ := b_put (by decide) hP
          have hva_ : f_3 322 = eJ G 70 (vp_updL va1 d (Int32.toInt64 (wi i))) := e_3
          refine lv_iinc (v := nI (d + 1)) (lv' := [(3, .int (nI (d + 1))), (5, .int (sp i)), (0, .ref (g 315)), (1, .int (nI pn)), (2, .int q), (4, .int (nI i))]) hx hb dX11_tellsOf_75 hl (k := 4) rfl (nI_add d 1) (by decide) rfl (fun ls hl => ?_)
          refine lv_goto (tgt := 172) hx hb dX11_tellsOf_78 (by decide) ?_
          refine lv_iinc (v := nI (i + 1)) (lv' := [(4, .int (nI (i + 1))), (3, .int (nI (d + 1))), (5, .int (sp i)), (0, .ref (g 315)), (1, .int (nI pn)), (2, .int q)]) hx hb dX11_tellsOf_172 hl (k := 5) rfl (nI_add i 1) (by decide) rfl (fun ls hl => ?_)
          refine lv_goto (tgt := 11) hx hb dX11_tellsOf_175 (by decide) ?_
          replace hmo := ((o_3 315 (by decide))).trans hmo
          replace hss_ := ((o_3 316 (by decide))).trans hss_
          replace hsp_ := ((o_3 319 (by decide))).trans hsp_
          replace hwi_ := ((o_3 320 (by decide))).trans hwi_
          exact ih_3 (i + 1) (d + 1) (vp_updL va1 d (Int32.toInt64 (wi i))) f_3 _ _ _ (by omega) (dep_0 hd (Or.inl c_31)) (by omega) (hmo) (hss_) (hsp_) (hwi_) (hva_) (fun j hj => ((o_3 j (by omega))).trans (o_2 j (by omega))) hP hS (lv_sub hl [3, 4, 5, 1, 0] rfl)
        · refine lv_iload hx hb dX11_tellsOf_34 (lv_at hl 0 rfl) ?_
          refine lv_iconst (v := 1) hx hb dX11_tellsOf_36 (by decide) ?_
          refine lv_icmp_ne (tgt := 81) hx hb dX11_tellsOf_37 (by decide) (fun c_37 => ?_) (fun c_37 => ?_)
          · refine lv_iload hx hb dX11_tellsOf_81 (lv_at hl 0 rfl) ?_
            refine lv_iconst (v := 3) hx hb dX11_tellsOf_83 (by decide) ?_
            refine lv_icmp_ne (tgt := 107) hx hb dX11_tellsOf_84 (by decide) (fun c_84 => ?_) (fun c_84 => ?_)
            · refine lv_iload hx hb dX11_tellsOf_107 (lv_at hl 0 rfl) ?_
              refine lv_iconst (v := 2) hx hb dX11_tellsOf_109 (by decide) ?_
              refine lv_icmp_ne (tgt := 142) hx hb dX11_tellsOf_110 (by decide) (fun c_110 => ?_) (fun c_110 => ?_)
              · have hdz := dep_2 hd he9 c_31 c_37 c_110 c_84
                have hdz1 := hdz.1
                refine lv_iinc (v := nI (d - 1)) (lv' := [(3, .int (nI (d - 1))), (5, .int (sp i)), (0, .ref (g 315)), (1, .int (nI pn)), (2, .int q), (4, .int (nI i))]) hx hb dX11_tellsOf_142 hl (k := 4) rfl (sb_m1 (by omega)) (by decide) rfl (fun ls hl => ?_)
                refine lv_aload_n hx hb dX11_tellsOf_145 rfl (lv_at hl 2 rfl) ?_
                refine va_get (D := G.1) (ci := 10) (v := .ref (g 322)) (C := RX11) (T := TX11) (N := 25) hx hb hts inlX11 hown hG.1 hP 315 (wl_at (by decide) hmo) rfl 10 (by decide) (hts (.fieldLink RX11 29 "SwornListsModel" "value" "[J") w_118) (fun _ h9 => h9) rfl dX11_tellsOf_146 ?_
                refine lv_iload_n hx hb dX11_tellsOf_149 rfl (lv_at hl 0 rfl) ?_
                refine lv_iconst (v := 1) hx hb dX11_tellsOf_150 (by decide) ?_
                refine lv_isub hx hb dX11_tellsOf_151 ?_
                refine my_bei (v := nI ((d - 1) - 1)) (pk_sub (a := d - 1) (b := 1) (by omega)) ?_
                refine lv_iload hx hb dX11_tellsOf_152 (lv_at hl 1 rfl) ?_
                refine lv_aload_n hx hb dX11_tellsOf_154 rfl (lv_at hl 2 rfl) ?_
                refine va_get (D := G.1) (ci := 10) (v := .ref (g 322)) (C := RX11) (T := TX11) (N := 25) hx hb hts inlX11 hown hG.1 hP 315 (wl_at (by decide) hmo) rfl 10 (by decide) (hts (.fieldLink RX11 29 "SwornListsModel" "value" "[J") w_118) (fun _ h9 => h9) rfl dX11_tellsOf_155 ?_
                refine lv_iload_n hx hb dX11_tellsOf_158 rfl (lv_at hl 0 rfl) ?_
                refine lv_iconst (v := 1) hx hb dX11_tellsOf_159 (by decide) ?_
                refine lv_isub hx hb dX11_tellsOf_160 ?_
                refine my_bei (v := nI ((d - 1) - 1)) (pk_sub (a := d - 1) (b := 1) (by omega)) ?_
                refine va_lald hx hb hG.1 hP 322 1 (wl_at (by decide) hva_) rfl (vp_in_nI (by omega) (by decide)) dX11_tellsOf_161 ?_
                refine my_bel (v := va1 ((d - 1) - 1)) (congrArg va1 (nI_clamp (n := (d - 1) - 1) (by omega))) ?_
                refine lv_aload_n hx hb dX11_tellsOf_162 rfl (lv_at hl 2 rfl) ?_
                refine va_get (D := G.1) (ci := 10) (v := .ref (g 322)) (C := RX11) (T := TX11) (N := 25) hx hb hts inlX11 hown hG.1 hP 315 (wl_at (by decide) hmo) rfl 10 (by decide) (hts (.fieldLink RX11 29 "SwornListsModel" "value" "[J") w_118) (fun _ h9 => h9) rfl dX11_tellsOf_163 ?_
                refine lv_iload_n hx hb dX11_tellsOf_166 rfl (lv_at hl 0 rfl) ?_
                refine va_lald hx hb hG.1 hP 322 1 (wl_at (by decide) hva_) rfl (vp_in_nI (by omega) (by decide)) dX11_tellsOf_167 ?_
                refine my_bel (v := va1 (d - 1)) (congrArg va1 (nI_clamp (n := d - 1) (by omega))) ?_
                refine rd_calll (va_runS (As := [.int (sp i), .long (va1 ((d - 1) - 1)), .long (va1 (d - 1))]) (rest := [.int (nI ((d - 1) - 1)), .ref (g 322)]) ⟨hx, hb, hml, hown, hts⟩ (r_twoOf l G g hg f_2 (sp i) (va1 ((d - 1) - 1)) (va1 (d - 1))  ) (my_cwS hts ok_X11_twoOf w_559 rfl rfl ⟨Nat.le_of_ble_eq_true rfl, Nat.le_of_ble_eq_true rfl⟩) ⟨bP.blind, fun U hU hW => ⟨rfl, by rw [hU]; exact hP, kG.warm hW hG⟩⟩ rfl rfl hl.1 rfl (lv_room (Nat.le_of_ble_eq_true rfl)) dX11_tellsOf_168 ⟨Nat.le_of_ble_eq_true rfl, Nat.le_of_ble_eq_true rfl⟩) (fun v4 _ => ?_)
                refine va_last hx hb hG.1 hP (wl_D hg f_2) hS 322 1 (wl_at (by decide) hva_) rfl (vp_in_nI (by omega) (by decide)) dX11_tellsOf_171 (fun H locs hP _ hS => ?_)
                have hP := (congrArg (fun z9 => va_P G.1 vwCl ((wl g f_2).set 322 (g 322, eJ G 70 ((vp_updL va1 z9 v4)))) H) (show Int32.toNatClampNeg (nI ((d - 1) - 1)) = (d - 1) - 1 from nI_clamp (by omega))).mp hP
                obtain ⟨f_4, hP, e_4, o_4⟩ := b_put (by decide) hP
                have hva_ : f_4 322 = eJ G 70 (vp_updL va1 ((d - 1) - 1) v4) := e_4
                refine lv_iinc (v := nI (i + 1)) (lv' := [(4, .int (nI (i + 1))), (3, .int (nI (d - 1))), (5, .int (sp i)), (0, .ref (g 315)), (1, .int (nI pn)), (2, .int q)]) hx hb dX11_tellsOf_172 hl (k := 5) rfl (nI_add i 1) (by decide) rfl (fun ls hl => ?_)
                refine lv_goto (tgt := 11) hx hb dX11_tellsOf_175 (by decide) ?_
                replace hmo := ((o_4 315 (by decide))).trans hmo
                replace hss_ := ((o_4 316 (by decide))).trans hss_
                replace hsp_ := ((o_4 319 (by decide))).trans hsp_
                replace hwi_ := ((o_4 320 (by decide))).trans hwi_
                exact ih_3 (i + 1) (d - 1) (vp_updL va1 ((d - 1) - 1) v4) f_4 _ _ _ (by omega) (hdz.2) (by omega) (hmo) (hss_) (hsp_) (hwi_) (hva_) (fun j hj => ((o_4 j (by omega))).trans (o_2 j (by omega))) hP hS (lv_sub hl [3, 4, 5, 1, 0] rfl)
              · have hdz := dep_1 hd he9 (Or.inl c_110)
                have hdz1 := hdz.1
                refine lv_aload_n hx hb dX11_tellsOf_113 rfl (lv_at hl 1 rfl) ?_
                refine va_get (D := G.1) (ci := 10) (v := .ref (g 322)) (C := RX11) (T := TX11) (N := 25) hx hb hts inlX11 hown hG.1 hP 315 (wl_at (by decide) hmo) rfl 10 (by decide) (hts (.fieldLink RX11 29 "SwornListsModel" "value" "[J") w_118) (fun _ h9 => h9) rfl dX11_tellsOf_114 ?_
                refine lv_iload_n hx hb dX11_tellsOf_117 rfl (lv_at hl 4 rfl) ?_
                refine lv_iconst (v := 1) hx hb dX11_tellsOf_118 (by decide) ?_
                refine lv_isub hx hb dX11_tellsOf_119 ?_
                refine my_bei (v := nI (d - 1)) (pk_sub (a := d) (b := 1) (by omega)) ?_
                refine lv_aload_n hx hb dX11_tellsOf_120 rfl (lv_at hl 1 rfl) ?_
                refine va_get (D := G.1) (ci := 10) (v := .ref (g 322)) (C := RX11) (T := TX11) (N := 25) hx hb hts inlX11 hown hG.1 hP 315 (wl_at (by decide) hmo) rfl 10 (by decide) (hts (.fieldLink RX11 29 "SwornListsModel" "value" "[J") w_118) (fun _ h9 => h9) rfl dX11_tellsOf_121 ?_
                refine lv_iload_n hx hb dX11_tellsOf_124 rfl (lv_at hl 4 rfl) ?_
                refine lv_iconst (v := 1) hx hb dX11_tellsOf_125 (by decide) ?_
                refine lv_isub hx hb dX11_tellsOf_126 ?_
                refine my_bei (v := nI (d - 1)) (pk_sub (a := d) (b := 1) (by omega)) ?_
                refine va_lald hx hb hG.1 hP 322 1 (wl_at (by decide) hva_) rfl (vp_in_nI (by omega) (by decide)) dX11_tellsOf_127 ?_
                refine my_bel (v := va1 (d - 1)) (congrArg va1 (nI_clamp (n := d - 1) (by omega))) ?_
                refine lv_lconst (v := 0) hx hb dX11_tellsOf_128 (by decide) ?_
                refine W.lcmp hx hb dX11_tellsOf_129 ?_
                refine lv_if_ne (tgt := 137) hx hb dX11_tellsOf_130 (by decide) (fun c_130 => ?_) (fun c_130 => ?_)
                · refine lv_lconst (v := 0) hx hb dX11_tellsOf_137 (by decide) ?_
                  refine va_last hx hb hG.1 hP (wl_D hg f_2) hS 322 1 (wl_at (by decide) hva_) rfl (vp_in_nI (by omega) (by decide)) dX11_tellsOf_138 (fun H locs hP _ hS => ?_)
                  have hP := (congrArg (fun z9 => va_P G.1 vwCl ((wl g f_2).set 322 (g 322, eJ G 70 ((vp_updL va1 z9 0)))) H) (show Int32.toNatClampNeg (nI (d - 1)) = d - 1 from nI_clamp (by omega))).mp hP
                  obtain ⟨f_5, hP, e_5, o_5⟩ := b_put (by decide) hP
                  have hva_ : f_5 322 = eJ G 70 (vp_updL va1 (d - 1) 0) := e_5
                  refine lv_goto (tgt := 172) hx hb dX11_tellsOf_139 (by decide) ?_
                  refine lv_iinc (v := nI (i + 1)) (lv' := [(4, .int (nI (i + 1))), (5, .int (sp i)), (0, .ref (g 315)), (1, .int (nI pn)), (2, .int q), (3, .int (nI d))]) hx hb dX11_tellsOf_172 hl (k := 5) rfl (nI_add i 1) (by decide) rfl (fun ls hl => ?_)
                  refine lv_goto (tgt := 11) hx hb dX11_tellsOf_175 (by decide) ?_
                  replace hmo := ((o_5 315 (by decide))).trans hmo
                  replace hss_ := ((o_5 316 (by decide))).trans hss_
                  replace hsp_ := ((o_5 319 (by decide))).trans hsp_
                  replace hwi_ := ((o_5 320 (by decide))).trans hwi_
                  exact ih_3 (i + 1) d (vp_updL va1 (d - 1) 0) f_5 _ _ _ (by omega) (hdz.2) (by omega) (hmo) (hss_) (hsp_) (hwi_) (hva_) (fun j hj => ((o_5 j (by omega))).trans (o_2 j (by omega))) hP hS (lv_sub hl [2, 3, 4, 5, 0] rfl)
                · refine lv_lconst (v := 1) hx hb dX11_tellsOf_133 (by decide) ?_
                  refine lv_goto (tgt := 138) hx hb dX11_tellsOf_134 (by decide) ?_
                  refine va_last hx hb hG.1 hP (wl_D hg f_2) hS 322 1 (wl_at (by decide) hva_) rfl (vp_in_nI (by omega) (by decide)) dX11_tellsOf_138 (fun H locs hP _ hS => ?_)
                  have hP := (congrArg (fun z9 => va_P G.1 vwCl ((wl g f_2).set 322 (g 322, eJ G 70 ((vp_updL va1 z9 1)))) H) (show Int32.toNatClampNeg (nI (d - 1)) = d - 1 from nI_clamp (by omega))).mp hP
                  obtain ⟨f_6, hP, e_6, o_6⟩ := b_put (by decide) hP
                  have hva_ : f_6 322 = eJ G 70 (vp_updL va1 (d - 1) 1) := e_6
                  refine lv_goto (tgt := 172) hx hb dX11_tellsOf_139 (by decide) ?_
                  refine lv_iinc (v := nI (i + 1)) (lv' := [(4, .int (nI (i + 1))), (5, .int (sp i)), (0, .ref (g 315)), (1, .int (nI pn)), (2, .int q), (3, .int (nI d))]) hx hb dX11_tellsOf_172 hl (k := 5) rfl (nI_add i 1) (by decide) rfl (fun ls hl => ?_)
                  refine lv_goto (tgt := 11) hx hb dX11_tellsOf_175 (by decide) ?_
                  replace hmo := ((o_6 315 (by decide))).trans hmo
                  replace hss_ := ((o_6 316 (by decide))).trans hss_
                  replace hsp_ := ((o_6 319 (by decide))).trans hsp_
                  replace hwi_ := ((o_6 320 (by decide))).trans hwi_
                  exact ih_3 (i + 1) d (vp_updL va1 (d - 1) 1) f_6 _ _ _ (by omega) (hdz.2) (by omega) (hmo) (hss_) (hsp_) (hwi_) (hva_) (fun j hj => ((o_6 j (by omega))).trans (o_2 j (by omega))) hP hS (lv_sub hl [2, 3, 4, 5, 0] rfl)
            · have hdz := dep_1 hd he9 (Or.inr c_84)
              have hdz1 := hdz.1
              refine lv_aload_n hx hb dX11_tellsOf_87 rfl (lv_at hl 1 rfl) ?_
              refine va_get (D := G.1) (ci := 10) (v := .ref (g 322)) (C := RX11) (T := TX11) (N := 25) hx hb hts inlX11 hown hG.1 hP 315 (wl_at (by decide) hmo) rfl 10 (by decide) (hts (.fieldLink RX11 29 "SwornListsModel" "value" "[J") w_118) (fun _ h9 => h9) rfl dX11_tellsOf_88 ?_
              refine lv_iload_n hx hb dX11_tellsOf_91 rfl (lv_at hl 4 rfl) ?_
              refine lv_iconst (v := 1) hx hb dX11_tellsOf_92 (by decide) ?_
              refine lv_isub hx hb dX11_tellsOf_93 ?_
              refine my_bei (v := nI (d - 1)) (pk_sub (a := d) (b := 1) (by omega)) ?_
              refine lv_aload_n hx hb dX11_tellsOf_94 rfl (lv_at hl 1 rfl) ?_
              refine va_get (D := G.1) (ci := 10) (v := .ref (g 322)) (C := RX11) (T := TX11) (N := 25) hx hb hts inlX11 hown hG.1 hP 315 (wl_at (by decide) hmo) rfl 10 (by decide) (hts (.fieldLink RX11 29 "SwornListsModel" "value" "[J") w_118) (fun _ h9 => h9) rfl dX11_tellsOf_95 ?_
              refine lv_iload_n hx hb dX11_tellsOf_98 rfl (lv_at hl 4 rfl) ?_
              refine lv_iconst (v := 1) hx hb dX11_tellsOf_99 (by decide) ?_
              refine lv_isub hx hb dX11_tellsOf_100 ?_
              refine my_bei (v := nI (d - 1)) (pk_sub (a := d) (b := 1) (by omega)) ?_
              refine va_lald hx hb hG.1 hP 322 1 (wl_at (by decide) hva_) rfl (vp_in_nI (by omega) (by decide)) dX11_tellsOf_101 ?_
              refine my_bel (v := va1 (d - 1)) (congrArg va1 (nI_clamp (n := d - 1) (by omega))) ?_
              refine lv_lneg hx hb dX11_tellsOf_102 ?_
              refine va_last hx hb hG.1 hP (wl_D hg f_2) hS 322 1 (wl_at (by decide) hva_) rfl (vp_in_nI (by omega) (by decide)) dX11_tellsOf_103 (fun H locs hP _ hS => ?_)
              have hP := (congrArg (fun z9 => va_P G.1 vwCl ((wl g f_2).set 322 (g 322, eJ G 70 ((vp_updL va1 z9 (-(va1 (d - 1))))))) H) (show Int32.toNatClampNeg (nI (d - 1)) = d - 1 from nI_clamp (by omega))).mp hP
              obtain ⟨f_7, hP, e_7, o_7⟩ := b_put (by decide) hP
              have hva_ : f_7 322 = eJ G 70 (vp_updL va1 (d - 1) (-(va1 (d - 1)))) := e_7
              refine lv_goto (tgt := 172) hx hb dX11_tellsOf_104 (by decide) ?_
              refine lv_iinc (v := nI (i + 1)) (lv' := [(4, .int (nI (i + 1))), (5, .int (sp i)), (0, .ref (g 315)), (1, .int (nI pn)), (2, .int q), (3, .int (nI d))]) hx hb dX11_tellsOf_172 hl (k := 5) rfl (nI_add i 1) (by decide) rfl (fun ls hl => ?_)
              refine lv_goto (tgt := 11) hx hb dX11_tellsOf_175 (by decide) ?_
              replace hmo := ((o_7 315 (by decide))).trans hmo
              replace hss_ := ((o_7 316 (by decide))).trans hss_
              replace hsp_ := ((o_7 319 (by decide))).trans hsp_
              replace hwi_ := ((o_7 320 (by decide))).trans hwi_
              exact ih_3 (i + 1) d (vp_updL va1 (d - 1) (-(va1 (d - 1)))) f_7 _ _ _ (by omega) (hdz.2) (by omega) (hmo) (hss_) (hsp_) (hwi_) (hva_) (fun j hj => ((o_7 j (by omega))).trans (o_2 j (by omega))) hP hS (lv_sub hl [2, 3, 4, 5, 0] rfl)
          · refine lv_aload_n hx hb dX11_tellsOf_40 rfl (lv_at hl 1 rfl) ?_
            refine va_get (D := G.1) (ci := 10) (v := .ref (g 322)) (C := RX11) (T := TX11) (N := 25) hx hb hts inlX11 hown hG.1 hP 315 (wl_at (by decide) hmo) rfl 10 (by decide) (hts (.fieldLink RX11 29 "SwornListsModel" "value" "[J") w_118) (fun _ h9 => h9) rfl dX11_tellsOf_41 ?_
            refine lv_iload_n hx hb dX11_tellsOf_44 rfl (lv_at hl 4 rfl) ?_
            refine lv_iload hx hb dX11_tellsOf_45 (lv_at hl 0 rfl) ?_
            refine lv_if_ne (tgt := 61) hx hb dX11_tellsOf_47 (by decide) (fun c_47 => ?_) (fun c_47 => absurd c_47 (c_31))
            refine lv_aload_n hx hb dX11_tellsOf_61 rfl (lv_at hl 1 rfl) ?_
            refine lv_iload_n hx hb dX11_tellsOf_62 rfl (lv_at hl 2 rfl) ?_
            refine lv_iload_n hx hb dX11_tellsOf_63 rfl (lv_at hl 3 rfl) ?_
            refine lv_aload_n hx hb dX11_tellsOf_64 rfl (lv_at hl 1 rfl) ?_
            refine va_get (D := G.1) (ci := 10) (v := .ref (g 320)) (C := RX11) (T := TX11) (N := 25) hx hb hts inlX11 hown hG.1 hP 315 (wl_at (by decide) hmo) rfl 7 (by decide) (hts (.fieldLink RX11 23 "SwornListsModel" "with" "[I") w_116) (fun _ h9 => h9) rfl dX11_tellsOf_65 ?_
            refine lv_iload hx hb dX11_tellsOf_68 (lv_at hl 5 rfl) ?_
            refine va_iald hx hb hG.1 hP 320 0 (wl_at (by decide) hwi_) rfl (vp_in_nI (by omega) (by decide)) dX11_tellsOf_70 ?_
            refine my_bei (v := wi i) (congrArg wi (nI_clamp (n := i) (by omega))) ?_
            refine rd_calll (va_runV (As := [.int (nI pn), .int q, .int (wi i)]) (rest := [.int (nI d), .ref (g 322)]) ⟨hx, hb, hml, hown, hts⟩ (r_named l G g hg f_2 ab2 be2 (nI sn) wn sa91 ly92 rdy (nI fd) ss pn q (wi i) hmo hss_ (by first | assumption | omega | decide)) (my_cwV hts ok_X11_named w_554 rfl rfl ⟨Nat.le_of_ble_eq_true rfl, Nat.le_of_ble_eq_true rfl⟩) ⟨bP.blind, va_recv hG.1 hP (ci := 10) (q0 := 315) rfl (wl_at (by decide) hmo), fun U hU hW => ⟨rfl, by rw [hU]; exact hP, kG.warm hW hG⟩⟩ rfl rfl hl.1 rfl (lv_room (Nat.le_of_ble_eq_true rfl)) dX11_tellsOf_71 ⟨Nat.le_of_ble_eq_true rfl, Nat.le_of_ble_eq_true rfl⟩) (fun v5 _ => ?_)
            refine va_last hx hb hG.1 hP (wl_D hg f_2) hS 322 1 (wl_at (by decide) hva_) rfl (vp_in_nI (by omega) (by decide)) dX11_tellsOf_74 (fun H locs hP _ hS => ?_)
            have hP := (congrArg (fun z9 => va_P G.1 vwCl ((wl g f_2).set 322 (g 322, eJ G 70 ((vp_updL va1 z9 v5)))) H) (show Int32.toNatClampNeg (nI d) = d from nI_clamp (by omega))).mp hP
            obtain ⟨f_8, hP, e_8, o_8⟩ := b_put (by decide) hP
            have hva_ : f_8 322 = eJ G 70 (vp_updL va1 d v5) := e_8
            refine lv_iinc (v := nI (d + 1)) (lv' := [(3, .int (nI (d + 1))), (5, .int (sp i)), (0, .ref (g 315)), (1, .int (nI pn)), (2, .int q), (4, .int (nI i))]) hx hb dX11_tellsOf_75 hl (k := 4) rfl (nI_add d 1) (by decide) rfl (fun ls hl => ?_)
            refine lv_goto (tgt := 172) hx hb dX11_tellsOf_78 (by decide) ?_
            refine lv_iinc (v := nI (i + 1)) (lv' := [(4, .int (nI (i + 1))), (3, .int (nI (d + 1))), (5, .int (sp i)), (0, .ref (g 315)), (1, .int (nI pn)), (2, .int q)]) hx hb dX11_tellsOf_172 hl (k := 5) rfl (nI_add i 1) (by decide) rfl (fun ls hl => ?_)
            refine lv_goto (tgt := 11) hx hb dX11_tellsOf_175 (by decide) ?_
            replace hmo := ((o_8 315 (by decide))).trans hmo
            replace hss_ := ((o_8 316 (by decide))).trans hss_
            replace hsp_ := ((o_8 319 (by decide))).trans hsp_
            replace hwi_ := ((o_8 320 (by decide))).trans hwi_
            exact ih_3 (i + 1) (d + 1) (vp_updL va1 d v5) f_8 _ _ _ (by omega) (dep_0 hd (Or.inr c_37)) (by omega) (hmo) (hss_) (hsp_) (hwi_) (hva_) (fun j hj => ((o_8 j (by omega))).trans (o_2 j (by omega))) hP hS (lv_sub hl [3, 4, 5, 1, 0] rfl)
  exact key3 (sn + 1) 0 0 va f_1 _ _ _ (Nat.zero_le _) (rfl) (by omega) (hmo) (hss_) (hsp_) (hwi_) (hva_) (fun j _ => rfl) hP hS (lv_sub hl [2, 3, 4, 1, 0] rfl)


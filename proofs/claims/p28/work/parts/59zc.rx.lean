theorem rHz_fr {np nf nr na nt z to : Nat} {ss bo ju dr dn sl ax bo' ju' dr' dn' sl' ax' : Nat → Int32} (hs : stOK ss np nf nr na nt) (hz : z < nt) (hto : nt ≤ to) (h : rHz np nf nr na ss bo ju dr dn sl ax z)
    (h1 : ∀ k, k ≠ to → bo' k = bo k ∧ ju' k = ju k ∧ dn' k = dn k) (h2 : ∀ k, (k < 24 * to ∨ 24 * to + 24 ≤ k) → dr' k = dr k) (h3 : ∀ k, (k < 30 * to ∨ 30 + 30 * to ≤ k) → sl' k = sl k) (h4 : ∀ k, (k < 4 * to ∨ 4 * to + 4 ≤ k) → ax' k = ax k) : rHz np nf nr na ss bo' ju' dr' dn' sl' ax' z := by
  obtain ⟨_, sq, hsq, e8⟩ := hs.tr z hz
  have e : z ≠ to := by omega
  exact rQ_fr h (h1 z e).1 (h1 z e).2.1 (h1 z e).2.2 (fun k hk => h2 _ (by omega)) (fun k hk => h3 _ (by omega)) (fun k hk => h4 _ (by omega)) (by show (ss (10 * z + 8 + 1546)).toNatClampNeg ≤ 24; rw [nI_b9 e8 (by omega)]; exact hsq)
def abR (box pas : Int32) (R : Nat → Int32) : Nat → Int32
  | 0 => nI (hPs box pas R)
  | 1 => nI (cnt (hX box R).1 32)
  | 2 => nI (cnt (hX box R).2 32)
  | _ => lotF (R 7) (hM box R)
theorem rQ_ax {bo ju dr dn sl ax : Nat → Int32} {to k : Nat} {box pas : Int32} {R : Nat → Int32} (h : rQ bo ju dr dn sl ax to box pas R) (hk : k ≤ 3) : ax (k + 4 * to) = abR box pas R k := by
  obtain ⟨_, _, _, _, _, a6, a7, a8, a9⟩ := h
  rcases (show k = 0 ∨ k = 1 ∨ k = 2 ∨ k = 3 by omega) with e | e | e | e <;> subst e
  · rw [Nat.zero_add]; exact a6
  · rw [Nat.add_comm]; exact a7
  · rw [Nat.add_comm]; exact a8
  · rw [Nat.add_comm]; exact a9
theorem abR_V {box fit : Int32} {R : Nat → Int32} : ∀ k, abR box (pasV fit box) R k = abV box (pasV fit box) R k
  | 0 => congrArg nI hPs_ok
  | 1 => rfl
  | 2 => rfl
  | _ + 3 => rfl
set_option maxHeartbeats 4000000 in
set_option maxRecDepth 100000 in
theorem r_triesX0 (l : Launch) (G : gW) (g : Nat → Nat) (hg : gOK g) (f : Nat → va_E) (ab2 : Int64) (be2 : Int64) (sn : Int32) (wn : Int32) (sa : Int32) (ly : Int32) (rdy : Int32) (fd : Nat) (ss : Nat → Int32) (np : Nat) (nf : Nat) (nr : Nat) (na : Nat) (nt : Nat) (sp : Nat → Int32) (wi : Nat → Int32) (wa : Nat → Int32) (va : Nat → Int64) (bo : Nat → Int32) (ju : Nat → Int32) (dr : Nat → Int32) (dn : Nat → Int32) (sl : Nat → Int32) (ax : Nat → Int32) (lf : Nat → Int32) (t : Nat) (to : Nat) (sq : Nat) (q4 : Nat) (ks : Nat) (fit : Int32) (box : Int32) (xt : Nat) (l9 : Nat) (hmo : f 315 = eO 10 [.ref (g 316), .ref (g 317), .ref (g 318), .long ab2, .long be2, .int sn, .ref (g 319), .ref (g 320), .int wn, .ref (g 321), .ref (g 322), .int sa, .int ly, .int rdy, .int (nI fd), .ref (g 323), .ref (g 324), .ref (g 325), .ref (g 326), .ref (g 327), .ref (g 328), .ref (g 329), .ref (g 330), .ref (g 331), .ref (g 332)]) (hss_ : f 316 = eI G 2246 ss) (hsp_ : f 319 = eI G 70 sp) (hwi_ : f 320 = eI G 70 wi) (hwa_ : f 321 = eI G 70 wa) (hva_ : f 322 = eJ G 70 va) (hbo_ : f 323 = eI G 11 bo) (hju_ : f 324 = eI G 11 ju) (hdr_ : f 325 = eI G 264 dr) (hdn_ : f 326 = eI G 11 dn) (hsl_ : f 327 = eI G 330 sl) (hax_ : f 328 = eI G 44 ax) (hlf_ : f 329 = eI G 30 lf) (hst : stOK ss np nf nr na nt) (hfo : fd ≤ 10) (ht0 : t < nt) (hto : to < 11) (hdn : ∀ k, k < 11 → ∃ d, d ≤ 24 ∧ dn k = nI d) (hsq : sq ≤ 24) (hss : ss (10 * t + 1554) = nI sq) (hq4 : q4 ≤ 4) (hs4 : ss (10 * t + 1552) = nI q4) (hk2 : ss (10 * t + 1548) = nI ks) (hks : ks ≤ 8) (hs1 : ∀ o, o < t → ¬ ss (10 * t + 1546) + ss (10 * t + 1547) ≤ ss (10 * o + 1546)) (hs2 : ∀ o, o < t → (ss (10 * o + 1546) + ss (10 * o + 1547) ≤ ss (10 * t + 1546) ↔ ¬ ss (10 * t + 1546) ≤ ss (10 * o + 1546) + ss (10 * o + 1547) - 1)) (hfit : fitT np nf (fun i c => ss (4 * i + c + 10)) (fun i c => ss (3 * i + c + 130)) (fun t c => ss (10 * t + c + 1546)) ju fd t (some (rdO l9 (fun k => ss (51 * xt + 262 + k + 1)))) = fit) (hbox : boxT np nf nr (fun i c => ss (4 * i + c + 10)) (fun i c => ss (3 * i + c + 130)) (fun i c => ss (3 * i + c + 250)) (fun t c => ss (10 * t + c + 1546)) ju fd t (some (rdO l9 (fun k => ss (51 * xt + 262 + k + 1)))) ((fcB (fun i c => ss (54 * i + c + 466)) 1 (ss (10 * t + 1546)) na).map (rL ss)) = box) (hdy : ∀ o, o < fd → 0 ≤ (fun t c => ss (10 * t + c + 1546)) o 0) (hmo2 : ∀ o o', o ≤ o' → o' < fd → (fun t c => ss (10 * t + c + 1546)) o 0 ≤ (fun t c => ss (10 * t + c + 1546)) o' 0) (hxt : xt < 4) (hl8 : ss (51 * xt + 262) = nI l9) (hl9 : l9 ≤ 50) (hl7 : rdA l9 (fun k => ss (51 * xt + 262 + k + 1)) = -1) : Met l yX11_tries (wsT yX11_tries cX11_tries 13 none) ({ frames := 5, cells := 0, slots := 0, locals := 120 }) (bP G g f [.ref (g 315), .int (nI t), .int (nI to), .int (nI xt), .int 0]) (bQv G g (fun (f' : Nat → va_E) => ∃ sn9 : Int32, ∃ wn9 : Int32, ∃ sa9 : Int32, ∃ ly9 : Int32, ∃ sp9 : Nat → Int32, ∃ wi9 : Nat → Int32, ∃ wa9 : Nat → Int32, ∃ va9 : Nat → Int64, ∃ bo9 : Nat → Int32, ∃ ju9 : Nat → Int32, ∃ dr9 : Nat → Int32, ∃ dn9 : Nat → Int32, ∃ sl9 : Nat → Int32, ∃ ax9 : Nat → Int32, ∃ lf9 : Nat → Int32, f' 315 = eO 10 [.ref (g 316), .ref (g 317), .ref (g 318), .long ab2, .long be2, .int sn9, .ref (g 319), .ref (g 320), .int wn9, .ref (g 321), .ref (g 322), .int sa9, .int ly9, .int rdy, .int (nI fd), .ref (g 323), .ref (g 324), .ref (g 325), .ref (g 326), .ref (g 327), .ref (g 328), .ref (g 329), .ref (g 330), .ref (g 331), .ref (g 332)] ∧ f' 319 = eI G 70 sp9 ∧ f' 320 = eI G 70 wi9 ∧ f' 321 = eI G 70 wa9 ∧ f' 322 = eJ G 70 va9 ∧ f' 323 = eI G 11 bo9 ∧ f' 324 = eI G 11 ju9 ∧ f' 325 = eI G 264 dr9 ∧ f' 326 = eI G 11 dn9 ∧ f' 327 = eI G 330 sl9 ∧ f' 328 = eI G 44 ax9 ∧ f' 329 = eI G 30 lf9 ∧ (rQ bo9 ju9 dr9 dn9 sl9 ax9 to box (pasV fit box) (kS ss t)) ∧ (∀ k, k < 11 → ∃ d, d ≤ 24 ∧ dn9 k = nI d) ∧ (∀ k, k ≠ to → bo9 k = bo k ∧ ju9 k = ju k ∧ dn9 k = dn k) ∧ (∀ k, (k < 24 * to ∨ 24 * to + 24 ≤ k) → dr9 k = dr k) ∧ (∀ k, (k < 30 * to ∨ 30 + 30 * to ≤ k) → sl9 k = sl k) ∧ (∀ k, (k < 4 * to ∨ 4 * to + 4 ≤ k) → ax9 k = ax k) ∧ ∀ j, (j < 315 ∨ (316 ≤ j ∧ j ≤ 318) ∨ 330 ≤ j) → f' j = f j)) 0 0 (gA g) := by
  refine Met.ofW (cc := cX11_tries) (maxL := 13) (ret := none) (by decide) rfl ?_
  intro p e s m args below meth c s₁ B hml hv
  obtain ⟨rfl, hP, hG⟩ := hv
  have hx := B.exec
  have hb := B.bytes
  have hr := B.returns
  have hts := my_hts (atoms_spec (ws := wsT yX11_tries cX11_tries 13 none) B.pre)
  have hown : s.vm.findClass RX11 = some m.cls := findClass_of_methodNamed B.named
  have hlocks := B.notSynchronized
  have hS : va_S (gA g) s.heap s.heap [] := va_S.rf
  have hl := lv_entry ([.ref (g 315), .int (nI t), .int (nI to), .int (nI xt), .int 0]) (n := 13) (Nat.le_of_ble_eq_true rfl)
  rw [lg_entry_eq]
  generalize (lg_sl ([.ref (g 315), .int (nI t), .int (nI to), .int (nI xt), .int 0]) ++ List.replicate (13 - (lg_sl ([.ref (g 315), .int (nI t), .int (nI to), .int (nI xt), .int 0])).length) Slot.unset).toArray = ls at hl ⊢
  have hl : lv_has ls 13 [(0, .ref (g 315)), (1, .int (nI t)), (2, .int (nI to)), (3, .int (nI xt)), (4, .int 0)] := hl
  refine W_q8 (fun Q9 hQ9 => ?_)
  have hc0 := hst.c0
  have hc1 := hst.c1
  have hc2 := hst.c2
  have hc3 := hst.c3
  have hc4 := hst.c4
  refine lv_aload_n hx hb dX11_tries_0 rfl (lv_at hl 0 rfl) ?_
  refine lv_iload_n hx hb dX11_tries_1 rfl (lv_at hl 1 rfl) ?_
  refine lv_iconst (v := 0) hx hb dX11_tries_2 (by decide) ?_
  refine rd_calli (va_runV (As := [.int (nI t), .int 0]) (rest := []) ⟨hx, hb, hml, hown, hts⟩ (r_ofTrial l G g hg f ab2 be2 sn wn sa ly rdy (nI fd) ss t 0 hmo hss_ (by first | assumption | omega | decide)) (my_cwV hts ok_X11_ofTrial w_532 rfl rfl ⟨Nat.le_of_ble_eq_true rfl, Nat.le_of_ble_eq_true rfl⟩) ⟨bP.blind, va_recv hG.1 hP (ci := 10) (q0 := 315) rfl (wl_at (by decide) hmo), fun U hU hW => ⟨rfl, by rw [hU]; exact hP, kG.warm hW hG⟩⟩ rfl rfl hl.1 rfl (lv_room (Nat.le_of_ble_eq_true rfl)) dX11_tries_3 ⟨Nat.le_of_ble_eq_true rfl, Nat.le_of_ble_eq_true rfl⟩) (fun r hr9 => ?_)
  subst hr9
  refine my_bei (v := ss (10 * t + 1546)) (congrArg ss (show 10 * t + 0 + 1546 = 10 * t + 1546 by omega)) ?_
  refine lv_istore (lv' := [(5, .int (ss (10 * t + 1546))), (0, .ref (g 315)), (1, .int (nI t)), (2, .int (nI to)), (3, .int (nI xt)), (4, .int 0)]) hx hb dX11_tries_6 hl (by decide) rfl (fun ls hl => ?_)
  refine lv_aload_n hx hb dX11_tries_8 rfl (lv_at hl 1 rfl) ?_
  refine lv_iconst (v := 0) hx hb dX11_tries_9 (by decide) ?_
  refine lv_iload hx hb dX11_tries_10 (lv_at hl 0 rfl) ?_
  refine lv_iload hx hb dX11_tries_12 (lv_at hl 5 rfl) ?_
  refine lv_if_ne (tgt := 21) hx hb dX11_tries_14 (by decide) (fun c_14 => absurd (by decide) c_14) (fun c_14 => ?_)
  refine lv_iload_n hx hb dX11_tries_17 rfl (lv_at hl 4 rfl) ?_
  refine lv_goto (tgt := 22) hx hb dX11_tries_18 (by decide) ?_
  obtain ⟨w0, hw0⟩ : ∃ w, whV np (nvF (fun i c => ss (4 * i + c + 10)) (fun t c => ss (10 * t + c + 1546)) ju (ss (10 * t + 1546)) fd) ((1 <<< (nI np &&& 31)) - 1) (some (rdO l9 (fun k => ss (51 * xt + 262 + k + 1)))) = w := ⟨_, rfl⟩
  refine b_calli (va_runV (As := [.int 0, .int (ss (10 * t + 1546)), .int (nI xt)]) (rest := []) ⟨hx, hb, hml, hown, hts⟩ (r_whomX0 l G g hg f ab2 be2 sn wn sa ly rdy fd ss np nf nr na nt sp wi wa va ju (ss (10 * t + 1546)) xt l9 hmo hss_ hsp_ hwi_ hwa_ hva_ hju_ (by first | assumption | omega | decide) (by first | assumption | omega | decide) (by first | assumption | omega | decide) (by first | assumption | omega | decide) (by first | assumption | omega | decide) (by first | assumption | omega | decide) (by first | assumption | omega | decide) (by first | assumption | omega | decide)) (my_cwV hts ok_X11_whom w_536 rfl rfl ⟨Nat.le_of_ble_eq_true rfl, Nat.le_of_ble_eq_true rfl⟩) ⟨bP.blind, va_recv hG.1 hP (ci := 10) (q0 := 315) rfl (wl_at (by decide) hmo), fun U hU hW => ⟨rfl, by rw [hU]; exact hP, kG.warm hW hG⟩⟩ rfl rfl hl.1 rfl (lv_room (Nat.le_of_ble_eq_true rfl)) dX11_tries_22 ⟨Nat.le_of_ble_eq_true rfl, Nat.le_of_ble_eq_true rfl⟩) hS (fun v1 f_1 H locs hq9 hP hS => ?_)
  obtain ⟨sn92, wn93, sa94, ly95, sp96, wi97, wa98, va99, rfl, hq_1_0, hq_1_1, hq_1_2, hq_1_3, hq_1_4, o_1⟩ := hq9
  have hmo : f_1 315 = eO 10 [.ref (g 316), .ref (g 317), .ref (g 318), .long ab2, .long be2, .int sn92, .ref (g 319), .ref (g 320), .int wn93, .ref (g 321), .ref (g 322), .int sa94, .int ly95, .int rdy, .int (nI fd), .ref (g 323), .ref (g 324), .ref (g 325), .ref (g 326), .ref (g 327), .ref (g 328), .ref (g 329), .ref (g 330), .ref (g 331), .ref (g 332)] := hq_1_0
  have hsp_ : f_1 319 = eI G 70 sp96 := hq_1_1
  have hwi_ : f_1 320 = eI G 70 wi97 := hq_1_2
  have hwa_ : f_1 321 = eI G 70 wa98 := hq_1_3
  have hva_ : f_1 322 = eJ G 70 va99 := hq_1_4
  refine my_bei (v := w0) (hw0) ?_
  refine lv_istore (lv' := [(6, .int w0), (5, .int (ss (10 * t + 1546))), (0, .ref (g 315)), (1, .int (nI t)), (2, .int (nI to)), (3, .int (nI xt)), (4, .int 0)]) hx hb dX11_tries_25 hl (by decide) rfl (fun ls hl => ?_)
  refine lv_aload_n hx hb dX11_tries_27 rfl (lv_at hl 2 rfl) ?_
  refine lv_iconst (v := 1) hx hb dX11_tries_28 (by decide) ?_
  refine lv_iload hx hb dX11_tries_29 (lv_at hl 1 rfl) ?_
  refine lv_iload hx hb dX11_tries_31 (lv_at hl 6 rfl) ?_
  refine lv_iconst (v := 1) hx hb dX11_tries_33 (by decide) ?_
  refine lv_icmp_ne (tgt := 41) hx hb dX11_tries_34 (by decide) (fun c_34 => ?_) (fun c_34 => absurd c_34 (by decide))
  refine lv_iconst (v := (-1)) hx hb dX11_tries_41 (by decide) ?_
  obtain ⟨w1, hw1⟩ : ∃ w, whV np (nvF (fun i c => ss (4 * i + c + 10)) (fun t c => ss (10 * t + c + 1546)) ju (ss (10 * t + 1546)) fd) 0 ((fcB (fun i c => ss (54 * i + c + 466)) 1 (ss (10 * t + 1546)) na).map (rL ss)) = w := ⟨_, rfl⟩
  replace hss_ := ((o_1 316 (by first | decide | omega))).trans hss_
  replace hju_ := ((o_1 324 (by first | decide | omega))).trans hju_
  refine b_calli (va_runV (As := [.int 1, .int (ss (10 * t + 1546)), .int (-1)]) (rest := []) ⟨hx, hb, hml, hown, hts⟩ (r_whomE1 l G g hg f_1 ab2 be2 sn92 wn93 sa94 ly95 rdy fd ss np nf nr na nt sp96 wi97 wa98 va99 ju (ss (10 * t + 1546)) hmo hss_ hsp_ hwi_ hwa_ hva_ hju_ (by first | assumption | omega | decide) (by first | assumption | omega | decide) (by first | assumption | omega | decide) (by first | assumption | omega | decide)) (my_cwV hts ok_X11_whom w_536 rfl rfl ⟨Nat.le_of_ble_eq_true rfl, Nat.le_of_ble_eq_true rfl⟩) ⟨bP.blind, va_recv hG.1 hP (ci := 10) (q0 := 315) rfl (wl_at (by decide) hmo), fun U hU hW => ⟨rfl, by rw [hU]; exact hP, kG.warm hW hG⟩⟩ rfl rfl hl.1 rfl (lv_room (Nat.le_of_ble_eq_true rfl)) dX11_tries_42 ⟨Nat.le_of_ble_eq_true rfl, Nat.le_of_ble_eq_true rfl⟩) hS (fun v10 f_2 H locs hq9 hP hS => ?_)
  obtain ⟨sn911, wn912, sa913, ly914, sp915, wi916, wa917, va918, rfl, hq_2_0, hq_2_1, hq_2_2, hq_2_3, hq_2_4, o_2⟩ := hq9
  have hmo : f_2 315 = eO 10 [.ref (g 316), .ref (g 317), .ref (g 318), .long ab2, .long be2, .int sn911, .ref (g 319), .ref (g 320), .int wn912, .ref (g 321), .ref (g 322), .int sa913, .int ly914, .int rdy, .int (nI fd), .ref (g 323), .ref (g 324), .ref (g 325), .ref (g 326), .ref (g 327), .ref (g 328), .ref (g 329), .ref (g 330), .ref (g 331), .ref (g 332)] := hq_2_0
  have hsp_ : f_2 319 = eI G 70 sp915 := hq_2_1
  have hwi_ : f_2 320 = eI G 70 wi916 := hq_2_2
  have hwa_ : f_2 321 = eI G 70 wa917 := hq_2_3
  have hva_ : f_2 322 = eJ G 70 va918 := hq_2_4
  refine my_bei (v := w1) (hw1) ?_
  refine lv_istore (lv' := [(7, .int w1), (6, .int w0), (5, .int (ss (10 * t + 1546))), (0, .ref (g 315)), (1, .int (nI t)), (2, .int (nI to)), (3, .int (nI xt)), (4, .int 0)]) hx hb dX11_tries_45 hl (by decide) rfl (fun ls hl => ?_)
  refine lv_aload_n hx hb dX11_tries_47 rfl (lv_at hl 3 rfl) ?_
  refine lv_iload_n hx hb dX11_tries_48 rfl (lv_at hl 4 rfl) ?_
  refine lv_iload hx hb dX11_tries_49 (lv_at hl 2 rfl) ?_
  obtain ⟨kn, hkn⟩ : ∃ w, knV (fun i c => ss (3 * i + c + 130)) (ss (10 * t + 1549)) (ss (10 * t + 1550)) (ss (10 * t + 1546)) nf = w := ⟨_, rfl⟩
  replace hss_ := ((o_2 316 (by first | decide | omega))).trans hss_
  refine rd_calli (va_runV (As := [.int (nI t), .int (ss (10 * t + 1546))]) (rest := []) ⟨hx, hb, hml, hown, hts⟩ (r_kinOfE l G g hg f_2 ab2 be2 sn911 wn912 sa913 ly914 rdy (nI fd) ss np nf nr na nt t (ss (10 * t + 1546)) hmo hss_ (by first | assumption | omega | decide) (by first | assumption | omega | decide)) (my_cwV hts ok_X11_kinOf w_562 rfl rfl ⟨Nat.le_of_ble_eq_true rfl, Nat.le_of_ble_eq_true rfl⟩) ⟨bP.blind, va_recv hG.1 hP (ci := 10) (q0 := 315) rfl (wl_at (by decide) hmo), fun U hU hW => ⟨rfl, by rw [hU]; exact hP, kG.warm hW hG⟩⟩ rfl rfl hl.1 rfl (lv_room (Nat.le_of_ble_eq_true rfl)) dX11_tries_51 ⟨Nat.le_of_ble_eq_true rfl, Nat.le_of_ble_eq_true rfl⟩) (fun r hr9 => ?_)
  subst hr9
  refine my_bei (v := kn) (hkn) ?_
  refine lv_aload_n hx hb dX11_tries_54 rfl (lv_at hl 3 rfl) ?_
  refine lv_iload_n hx hb dX11_tries_55 rfl (lv_at hl 4 rfl) ?_
  obtain ⟨bz, hbz⟩ : ∃ w, bzV (fun t c => ss (10 * t + c + 1546)) ju t t = w := ⟨_, rfl⟩
  replace hju_ := ((o_2 324 (by first | decide | omega))).trans hju_
  refine rd_calli (va_runV (As := [.int (nI t)]) (rest := [.int kn]) ⟨hx, hb, hml, hown, hts⟩ (r_sittingE l G g hg f_2 ab2 be2 sn911 wn912 sa913 ly914 rdy (nI fd) ss ju t hmo hss_ hju_ (by first | assumption | omega | decide) (by first | assumption | omega | decide) (by first | assumption | omega | decide)) (my_cwV hts ok_X11_sitting w_566 rfl rfl ⟨Nat.le_of_ble_eq_true rfl, Nat.le_of_ble_eq_true rfl⟩) ⟨bP.blind, va_recv hG.1 hP (ci := 10) (q0 := 315) rfl (wl_at (by decide) hmo), fun U hU hW => ⟨rfl, by rw [hU]; exact hP, kG.warm hW hG⟩⟩ rfl rfl hl.1 rfl (lv_room (Nat.le_of_ble_eq_true rfl)) dX11_tries_56 ⟨Nat.le_of_ble_eq_true rfl, Nat.le_of_ble_eq_true rfl⟩) (fun r hr9 => ?_)
  subst hr9
  refine my_bei (v := bz) (hbz) ?_
  refine lv_ior hx hb dX11_tries_59 ?_
  refine lv_istore (lv' := [(8, .int (kn ||| bz)), (7, .int w1), (6, .int w0), (5, .int (ss (10 * t + 1546))), (0, .ref (g 315)), (1, .int (nI t)), (2, .int (nI to)), (3, .int (nI xt)), (4, .int 0)]) hx hb dX11_tries_60 hl (by decide) rfl (fun ls hl => ?_)
  refine lv_aload_n hx hb dX11_tries_62 rfl (lv_at hl 4 rfl) ?_
  refine lv_iload hx hb dX11_tries_63 (lv_at hl 3 rfl) ?_
  obtain ⟨rl, hrl⟩ : ∃ w, rlV np nr (fun i c => ss (3 * i + c + 250)) (ss (10 * t + 1546)) = w := ⟨_, rfl⟩
  refine rd_calli (va_runV (As := [.int (ss (10 * t + 1546))]) (rest := []) ⟨hx, hb, hml, hown, hts⟩ (r_theRollE l G g hg f_2 ab2 be2 sn911 wn912 sa913 ly914 rdy (nI fd) ss np nf nr na nt (ss (10 * t + 1546)) hmo hss_ (by first | assumption | omega | decide)) (my_cwV hts ok_X11_theRoll w_234 rfl rfl ⟨Nat.le_of_ble_eq_true rfl, Nat.le_of_ble_eq_true rfl⟩) ⟨bP.blind, va_recv hG.1 hP (ci := 10) (q0 := 315) rfl (wl_at (by decide) hmo), fun U hU hW => ⟨rfl, by rw [hU]; exact hP, kG.warm hW hG⟩⟩ rfl rfl hl.1 rfl (lv_room (Nat.le_of_ble_eq_true rfl)) dX11_tries_65 ⟨Nat.le_of_ble_eq_true rfl, Nat.le_of_ble_eq_true rfl⟩) (fun r hr9 => ?_)
  subst hr9
  refine my_bei (v := rl) (hrl) ?_
  refine lv_iload hx hb dX11_tries_68 (lv_at hl 2 rfl) ?_
  refine lv_iand hx hb dX11_tries_70 ?_
  refine lv_iload hx hb dX11_tries_71 (lv_at hl 1 rfl) ?_
  refine lv_iconst (v := (-1)) hx hb dX11_tries_73 (by decide) ?_
  refine lv_ixor hx hb dX11_tries_74 ?_
  refine lv_iand hx hb dX11_tries_75 ?_
  refine lv_iload hx hb dX11_tries_76 (lv_at hl 0 rfl) ?_
  refine lv_iconst (v := (-1)) hx hb dX11_tries_78 (by decide) ?_
  refine lv_ixor hx hb dX11_tries_79 ?_
  refine lv_iand hx hb dX11_tries_80 ?_
  refine lv_istore (lv' := [(9, .int (((rl &&& w0) &&& (w1 ^^^ (-1))) &&& ((kn ||| bz) ^^^ (-1)))), (8, .int (kn ||| bz)), (7, .int w1), (6, .int w0), (5, .int (ss (10 * t + 1546))), (0, .ref (g 315)), (1, .int (nI t)), (2, .int (nI to)), (3, .int (nI xt)), (4, .int 0)]) hx hb dX11_tries_81 hl (by decide) rfl (fun ls hl => ?_)
  refine lv_iconst (v := 0) hx hb dX11_tries_83 (by decide) ?_
  refine lv_istore (lv' := [(10, .int 0), (9, .int (((rl &&& w0) &&& (w1 ^^^ (-1))) &&& ((kn ||| bz) ^^^ (-1)))), (8, .int (kn ||| bz)), (7, .int w1), (6, .int w0), (5, .int (ss (10 * t + 1546))), (0, .ref (g 315)), (1, .int (nI t)), (2, .int (nI to)), (3, .int (nI xt)), (4, .int 0)]) hx hb dX11_tries_84 hl (by decide) rfl (fun ls hl => ?_)
  replace hbo_ := ((o_2 323 (by first | decide | omega)).trans ((o_1 323 (by first | decide | omega)))).trans hbo_
  replace hdr_ := ((o_2 325 (by first | decide | omega)).trans ((o_1 325 (by first | decide | omega)))).trans hdr_
  replace hdn_ := ((o_2 326 (by first | decide | omega)).trans ((o_1 326 (by first | decide | omega)))).trans hdn_
  replace hsl_ := ((o_2 327 (by first | decide | omega)).trans ((o_1 327 (by first | decide | omega)))).trans hsl_
  replace hax_ := ((o_2 328 (by first | decide | omega)).trans ((o_1 328 (by first | decide | omega)))).trans hax_
  replace hlf_ := ((o_2 329 (by first | decide | omega)).trans ((o_1 329 (by first | decide | omega)))).trans hlf_
  have key19 : ∀ (n9_19 : Nat) (i : Nat) (u : Int32) (f_3 : Nat → va_E) (H : Heap) (locs : List Loc) (ls : Array Slot), (i ≤ np) → (u = (((rl &&& w0) &&& (w1 ^^^ (-1))) &&& ((kn ||| bz) ^^^ (-1))) &&& (sO (fun p => decide (¬ ss (10 * t + 1551) = -1) && decide (¬ (fun i c => ss (4 * i + c + 10)) p 1 = ss (10 * t + 1551))) i ^^^ (-1))) → np - i < n9_19 → f_3 315 = eO 10 [.ref (g 316), .ref (g 317), .ref (g 318), .long ab2, .long be2, .int sn911, .ref (g 319), .ref (g 320), .int wn912, .ref (g 321), .ref (g 322), .int sa913, .int ly914, .int rdy, .int (nI fd), .ref (g 323), .ref (g 324), .ref (g 325), .ref (g 326), .ref (g 327), .ref (g 328), .ref (g 329), .ref (g 330), .ref (g 331), .ref (g 332)] → f_3 316 = eI G 2246 ss → f_3 319 = eI G 70 sp915 → f_3 320 = eI G 70 wi916 → f_3 321 = eI G 70 wa917 → f_3 322 = eJ G 70 va918 → f_3 323 = eI G 11 bo → f_3 324 = eI G 11 ju → f_3 325 = eI G 264 dr → f_3 326 = eI G 11 dn → f_3 327 = eI G 330 sl → f_3 328 = eI G 44 ax → f_3 329 = eI G 30 lf → (∀ j, (j < 333 ∨ 333 ≤ j) → f_3 j = f_2 j) → va_P G.1 vwCl (wl g f_3) H → va_S (gA g) s.heap H locs → lv_has ls 13 [(0, .ref (g 315)), (1, .int (nI t)), (2, .int (nI to)), (6, .int w0), (8, .int (kn ||| bz)), (9, .int u), (10, .int (nI i))] → W p l e (headSpec (wsT yX11_tries cX11_tries 13 none) ({ frames := 5, cells := 0, slots := 0, locals := 120 })).room s m ([.ref (g 315), .int (nI t), .int (nI to), .int (nI xt), .int 0] : List Value).toArray below meth c H locs 0 0 Q9 (F0 m 86 ls []) := by
    intro n9_19
    induction n9_19 with
    | zero => intro i u f_3 H locs ls hi hu hn9_19; exact absurd hn9_19 (Nat.not_lt_zero _)
    | succ n9_19 ih_19 =>
      intro i u f_3 H locs ls hi hu hn9_19 hmo hss_ hsp_ hwi_ hwa_ hva_ hbo_ hju_ hdr_ hdn_ hsl_ hax_ hlf_ o_3 hP hS hl
      refine lv_iload hx hb dX11_tries_86 (lv_at hl 6 rfl) ?_
      refine lv_aload_n hx hb dX11_tries_88 rfl (lv_at hl 0 rfl) ?_
      refine va_get (D := G.1) (ci := 10) (v := .ref (g 316)) (C := RX11) (T := TX11) (N := 25) hx hb hts inlX11 hown hG.1 hP 315 (wl_at (by decide) hmo) rfl 0 (by decide) (hts (.fieldLink RX11 7 "SwornListsModel" "st" "[I") w_112) (fun _ h9 => h9) rfl dX11_tries_89 ?_
      refine lv_iconst (v := 0) hx hb dX11_tries_92 (by decide) ?_
      refine va_iald hx hb hG.1 hP 316 0 (wl_at (by decide) hss_) rfl (by unfold vp_in; decide) dX11_tries_93 ?_
      refine my_bei (v := ss 0) (rfl) ?_
      refine my_bei (v := nI np) (hst.h0) ?_
      refine lv_icmp_ge (tgt := 163) hx hb dX11_tries_94 (by decide) (fun c_94 => ?_) (fun c_94 => ?_)
      · have k_94 : np ≤ i := (nI_leI (a := np) (b := i) (by omega) (by omega)).mp c_94
        have hfw : w0 &&& ((kn ||| bz) ^^^ (-1)) = fit := by rw [← hw0, ← hkn, ← hbz]; exact (fit_ref hst.c0).trans hfit
        have hub : box = u := by
          rw [← hbox]
          unfold boxT
          rw [hfit, hu, show i = np by omega, ← hrl, ← hw0, ← hw1, ← hkn, ← hbz]
          exact (box_ref hst.c0 hfit rfl).symm
        subst hub
        refine lv_aload_n hx hb dX11_tries_163 rfl (lv_at hl 0 rfl) ?_
        refine va_get (D := G.1) (ci := 10) (v := .ref (g 323)) (C := RX11) (T := TX11) (N := 25) hx hb hts inlX11 hown hG.1 hP 315 (wl_at (by decide) hmo) rfl 15 (by decide) (hts (.fieldLink RX11 33 "SwornListsModel" "boxes" "[I") w_119) (fun _ h9 => h9) rfl dX11_tries_164 ?_
        refine lv_iload_n hx hb dX11_tries_167 rfl (lv_at hl 2 rfl) ?_
        refine lv_iload hx hb dX11_tries_168 (lv_at hl 5 rfl) ?_
        refine va_iast hx hb hG.1 hP (wl_D hg f_3) hS 323 0 (wl_at (by decide) hbo_) rfl (vp_in_nI (by omega) (by decide)) dX11_tries_170 (fun H locs hP _ hS => ?_)
        have hP := (congrArg (fun z9 => va_P G.1 vwCl ((wl g f_3).set 323 (g 323, eI G 11 ((upd bo z9 box)))) H) (show Int32.toNatClampNeg (nI to) = to from nI_clamp (by omega))).mp hP
        obtain ⟨f_4, hP, e_4, o_4⟩ := b_put (by decide) hP
        have hbo_ : f_4 323 = eI G 11 (upd bo to box) := e_4
        refine lv_aload_n hx hb dX11_tries_171 rfl (lv_at hl 0 rfl) ?_
        refine lv_iload_n hx hb dX11_tries_172 rfl (lv_at hl 1 rfl) ?_
        refine lv_iload_n hx hb dX11_tries_173 rfl (lv_at hl 2 rfl) ?_
        replace hmo := ((o_4 315 (by decide))).trans hmo
        replace hss_ := ((o_4 316 (by decide))).trans hss_
        replace hdr_ := ((o_4 325 (by decide))).trans hdr_
        replace hdn_ := ((o_4 326 (by decide))).trans hdn_
        replace hax_ := ((o_4 328 (by decide))).trans hax_
        replace hlf_ := ((o_4 329 (by decide))).trans hlf_
        refine b_callv (va_runV (As := [.int (nI t), .int (nI to)]) (rest := []) ⟨hx, hb, hml, hown, hts⟩ (r_drawsE l G g hg f_4 ab2 be2 sn911 wn912 sa913 ly914 rdy (nI fd) ss np nf nr na nt (upd bo to box) dr dn ax lf t to sq box hmo hss_ hbo_ hdr_ hdn_ hax_ hlf_ (by first | assumption | omega | decide) (by first | assumption | omega | decide) (by first | assumption | omega | decide) (pk_us) (hsq) (hss)) (my_cwV hts ok_X11_draws w_570 rfl rfl ⟨Nat.le_of_ble_eq_true rfl, Nat.le_of_ble_eq_true rfl⟩) ⟨bP.blind, va_recv hG.1 hP (ci := 10) (q0 := 315) rfl (wl_at (by decide) hmo), fun U hU hW => ⟨rfl, by rw [hU]; exact hP, kG.warm hW hG⟩⟩ rfl rfl hl.1 rfl (lv_room (Nat.le_of_ble_eq_true rfl)) dX11_tries_174 ⟨Nat.le_of_ble_eq_true rfl, Nat.le_of_ble_eq_true rfl⟩) hS (fun f_5 H locs hq9 hP hS => ?_)
        obtain ⟨dr920, dn921, ax922, lf923, hq_5_0, hq_5_1, hq_5_2, hq_5_3, hx_5_0, hx_5_1, hx_5_2, hx_5_3, hx_5_4, hx_5_5, o_5⟩ := hq9
        have hdr_ : f_5 325 = eI G 264 dr920 := hq_5_0
        have hdn_ : f_5 326 = eI G 11 dn921 := hq_5_1
        have hax_ : f_5 328 = eI G 44 ax922 := hq_5_2
        have hlf_ : f_5 329 = eI G 30 lf923 := hq_5_3
        refine lv_iconst (v := 0) hx hb dX11_tries_177 (by decide) ?_
        refine lv_istore (lv' := [(10, .int 0), (0, .ref (g 315)), (1, .int (nI t)), (2, .int (nI to)), (6, .int w0), (8, .int (kn ||| bz)), (9, .int box)]) hx hb dX11_tries_178 hl (by decide) rfl (fun ls hl => ?_)
        replace hmo := ((o_5 315 (by first | decide | omega))).trans hmo
        replace hss_ := ((o_5 316 (by first | decide | omega))).trans hss_
        replace hsp_ := ((o_5 319 (by first | decide | omega)).trans ((o_4 319 (by decide)))).trans hsp_
        replace hwi_ := ((o_5 320 (by first | decide | omega)).trans ((o_4 320 (by decide)))).trans hwi_
        replace hwa_ := ((o_5 321 (by first | decide | omega)).trans ((o_4 321 (by decide)))).trans hwa_
        replace hva_ := ((o_5 322 (by first | decide | omega)).trans ((o_4 322 (by decide)))).trans hva_
        replace hbo_ := ((o_5 323 (by first | decide | omega))).trans hbo_
        replace hju_ := ((o_5 324 (by first | decide | omega)).trans ((o_4 324 (by decide)))).trans hju_
        replace hsl_ := ((o_5 327 (by first | decide | omega)).trans ((o_4 327 (by decide)))).trans hsl_
        have key24 : ∀ (n9_24 : Nat) (i2 : Nat) (sl2 : Nat → Int32) (f_6 : Nat → va_E) (H : Heap) (locs : List Loc) (ls : Array Slot), (i2 ≤ 30) → (∀ p, p < i2 → sl2 (p + 30 * to) = (if bt box p = true then 1 else 0)) → (∀ k, (k < 30 * to ∨ 30 + 30 * to ≤ k) → sl2 k = sl k) → 30 - i2 < n9_24 → f_6 315 = eO 10 [.ref (g 316), .ref (g 317), .ref (g 318), .long ab2, .long be2, .int sn911, .ref (g 319), .ref (g 320), .int wn912, .ref (g 321), .ref (g 322), .int sa913, .int ly914, .int rdy, .int (nI fd), .ref (g 323), .ref (g 324), .ref (g 325), .ref (g 326), .ref (g 327), .ref (g 328), .ref (g 329), .ref (g 330), .ref (g 331), .ref (g 332)] → f_6 316 = eI G 2246 ss → f_6 319 = eI G 70 sp915 → f_6 320 = eI G 70 wi916 → f_6 321 = eI G 70 wa917 → f_6 322 = eJ G 70 va918 → f_6 323 = eI G 11 (upd bo to box) → f_6 324 = eI G 11 ju → f_6 325 = eI G 264 dr920 → f_6 326 = eI G 11 dn921 → f_6 327 = eI G 330 sl2 → f_6 328 = eI G 44 ax922 → f_6 329 = eI G 30 lf923 → (∀ j, j ≠ 327 → f_6 j = f_5 j) → va_P G.1 vwCl (wl g f_6) H → va_S (gA g) s.heap H locs → lv_has ls 13 [(0, .ref (g 315)), (1, .int (nI t)), (2, .int (nI to)), (6, .int w0), (8, .int (kn ||| bz)), (9, .int box), (10, .int (nI i2))] → W p l e (headSpec (wsT yX11_tries cX11_tries 13 none) ({ frames := 5, cells := 0, slots := 0, locals := 120 })).room s m ([.ref (g 315), .int (nI t), .int (nI to), .int (nI xt), .int 0] : List Value).toArray below meth c H locs 0 0 Q9 (F0 m 180 ls []) := by
          intro n9_24
          induction n9_24 with
          | zero => intro i2 sl2 f_6 H locs ls hi2 hs2_ hso2 hn9_24; exact absurd hn9_24 (Nat.not_lt_zero _)
          | succ n9_24 ih_24 =>
            intro i2 sl2 f_6 H locs ls hi2 hs2_ hso2 hn9_24 hmo hss_ hsp_ hwi_ hwa_ hva_ hbo_ hju_ hdr_ hdn_ hsl_ hax_ hlf_ o_6 hP hS hl
            refine lv_iload hx hb dX11_tries_180 (lv_at hl 6 rfl) ?_
            refine lv_bipush (v := 30) hx hb dX11_tries_182 (by decide) ?_
            refine lv_icmp_ge (tgt := 212) hx hb dX11_tries_184 (by decide) (fun c_184 => ?_) (fun c_184 => ?_)
            · have k_184 : 30 ≤ i2 := (nI_leI (a := 30) (b := i2) (by omega) (by omega)).mp c_184
              refine lv_iconst (v := 0) hx hb dX11_tries_212 (by decide) ?_
              refine lv_istore (lv' := [(10, .int 0), (0, .ref (g 315)), (1, .int (nI t)), (2, .int (nI to)), (6, .int w0), (8, .int (kn ||| bz)), (9, .int box)]) hx hb dX11_tries_213 hl (by decide) rfl (fun ls hl => ?_)
              have hcl := cnt_le (x := box) 30
              have key25 : ∀ (n9_25 : Nat) (i3 : Nat) (sl3 : Nat → Int32) (f_7 : Nat → va_E) (H : Heap) (locs : List Loc) (ls : Array Slot), (i3 ≤ (min sq (cnt box 30))) → (∀ p, p < 30 → sl3 (p + 30 * to) = slD box (drC box (ss (10 * t + 1553)) i3) (ss (10 * t + 1555)) p) → (∀ k, (k < 30 * to ∨ 30 + 30 * to ≤ k) → sl3 k = sl k) → 24 - i3 < n9_25 → f_7 315 = eO 10 [.ref (g 316), .ref (g 317), .ref (g 318), .long ab2, .long be2, .int sn911, .ref (g 319), .ref (g 320), .int wn912, .ref (g 321), .ref (g 322), .int sa913, .int ly914, .int rdy, .int (nI fd), .ref (g 323), .ref (g 324), .ref (g 325), .ref (g 326), .ref (g 327), .ref (g 328), .ref (g 329), .ref (g 330), .ref (g 331), .ref (g 332)] → f_7 316 = eI G 2246 ss → f_7 319 = eI G 70 sp915 → f_7 320 = eI G 70 wi916 → f_7 321 = eI G 70 wa917 → f_7 322 = eJ G 70 va918 → f_7 323 = eI G 11 (upd bo to box) → f_7 324 = eI G 11 ju → f_7 325 = eI G 264 dr920 → f_7 326 = eI G 11 dn921 → f_7 327 = eI G 330 sl3 → f_7 328 = eI G 44 ax922 → f_7 329 = eI G 30 lf923 → (∀ j, j ≠ 327 → f_7 j = f_6 j) → va_P G.1 vwCl (wl g f_7) H → va_S (gA g) s.heap H locs → lv_has ls 13 [(0, .ref (g 315)), (1, .int (nI t)), (2, .int (nI to)), (6, .int w0), (8, .int (kn ||| bz)), (9, .int box), (10, .int (nI i3))] → W p l e (headSpec (wsT yX11_tries cX11_tries 13 none) ({ frames := 5, cells := 0, slots := 0, locals := 120 })).room s m ([.ref (g 315), .int (nI t), .int (nI to), .int (nI xt), .int 0] : List Value).toArray below meth c H locs 0 0 Q9 (F0 m 215 ls []) := by
                intro n9_25
                induction n9_25 with
                | zero => intro i3 sl3 f_7 H locs ls hi3 hs3 hso3 hn9_25; exact absurd hn9_25 (Nat.not_lt_zero _)
                | succ n9_25 ih_25 =>
                  intro i3 sl3 f_7 H locs ls hi3 hs3 hso3 hn9_25 hmo hss_ hsp_ hwi_ hwa_ hva_ hbo_ hju_ hdr_ hdn_ hsl_ hax_ hlf_ o_7 hP hS hl
                  have hcl := cnt_le (x := box) 30
                  refine lv_iload hx hb dX11_tries_215 (lv_at hl 6 rfl) ?_
                  refine lv_aload_n hx hb dX11_tries_217 rfl (lv_at hl 0 rfl) ?_
                  refine va_get (D := G.1) (ci := 10) (v := .ref (g 326)) (C := RX11) (T := TX11) (N := 25) hx hb hts inlX11 hown hG.1 hP 315 (wl_at (by decide) hmo) rfl 18 (by decide) (hts (.fieldLink RX11 42 "SwornListsModel" "drews" "[I") w_122) (fun _ h9 => h9) rfl dX11_tries_218 ?_
                  refine lv_iload_n hx hb dX11_tries_221 rfl (lv_at hl 2 rfl) ?_
                  refine va_iald hx hb hG.1 hP 326 0 (wl_at (by decide) hdn_) rfl (vp_in_nI (by omega) (by decide)) dX11_tries_222 ?_
                  refine my_bei (v := dn921 to) (congrArg dn921 (nI_clamp (n := to) (by omega))) ?_
                  refine my_bei (v := nI (min sq (cnt box 30))) (hx_5_0) ?_
                  refine lv_icmp_ge (tgt := 280) hx hb dX11_tries_223 (by decide) (fun c_223 => ?_) (fun c_223 => ?_)
                  · have k_223 : min sq (cnt box 30) ≤ i3 := (nI_leI (a := min sq (cnt box 30)) (b := i3) (by omega) (by omega)).mp c_223
                    refine lv_aload_n hx hb dX11_tries_280 rfl (lv_at hl 0 rfl) ?_
                    refine va_get (D := G.1) (ci := 10) (v := .ref (g 328)) (C := RX11) (T := TX11) (N := 25) hx hb hts inlX11 hown hG.1 hP 315 (wl_at (by decide) hmo) rfl 20 (by decide) (hts (.fieldLink RX11 48 "SwornListsModel" "abouts" "[I") w_124) (fun _ h9 => h9) rfl dX11_tries_281 ?_
                    refine lv_iconst (v := 4) hx hb dX11_tries_284 (by decide) ?_
                    refine lv_iload_n hx hb dX11_tries_285 rfl (lv_at hl 2 rfl) ?_
                    refine lv_imul hx hb dX11_tries_286 ?_
                    refine my_bei (v := nI (4 * to)) (pk_mul 4 to) ?_
                    refine lv_iconst (v := 0) hx hb dX11_tries_287 (by decide) ?_
                    refine va_iast hx hb hG.1 hP (wl_D hg f_7) hS 328 0 (wl_at (by decide) hax_) rfl (vp_in_nI (by omega) (by decide)) dX11_tries_288 (fun H locs hP _ hS => ?_)
                    have hP := (congrArg (fun z9 => va_P G.1 vwCl ((wl g f_7).set 328 (g 328, eI G 44 ((upd ax922 z9 0)))) H) (show Int32.toNatClampNeg (nI (4 * to)) = 4 * to from nI_clamp (by omega))).mp hP
                    obtain ⟨f_8, hP, e_8, o_8⟩ := b_put (by decide) hP
                    have hax_ : f_8 328 = eI G 44 (upd ax922 (4 * to) 0) := e_8
                    refine lv_aload_n hx hb dX11_tries_289 rfl (lv_at hl 0 rfl) ?_
                    replace hmo := ((o_8 315 (by decide))).trans hmo
                    refine va_get (D := G.1) (ci := 10) (v := .ref (g 328)) (C := RX11) (T := TX11) (N := 25) hx hb hts inlX11 hown hG.1 hP 315 (wl_at (by decide) hmo) rfl 20 (by decide) (hts (.fieldLink RX11 48 "SwornListsModel" "abouts" "[I") w_124) (fun _ h9 => h9) rfl dX11_tries_290 ?_
                    refine lv_iconst (v := 4) hx hb dX11_tries_293 (by decide) ?_
                    refine lv_iload_n hx hb dX11_tries_294 rfl (lv_at hl 2 rfl) ?_
                    refine lv_imul hx hb dX11_tries_295 ?_
                    refine my_bei (v := nI (4 * to)) (pk_mul 4 to) ?_
                    refine lv_iconst (v := 1) hx hb dX11_tries_296 (by decide) ?_
                    refine lv_iadd hx hb dX11_tries_297 ?_
                    refine my_bei (v := nI (4 * to + 1)) ((nI_add (4 * to) 1).trans (congrArg nI (show (4 * to) + 1 = 4 * to + 1 by omega))) ?_
                    refine lv_iconst (v := 0) hx hb dX11_tries_298 (by decide) ?_
                    refine va_iast hx hb hG.1 hP (wl_D hg f_8) hS 328 0 (wl_at (by decide) hax_) rfl (vp_in_nI (by omega) (by decide)) dX11_tries_299 (fun H locs hP _ hS => ?_)
                    have hP := (congrArg (fun z9 => va_P G.1 vwCl ((wl g f_8).set 328 (g 328, eI G 44 ((upd (upd ax922 (4 * to) 0) z9 0)))) H) (show Int32.toNatClampNeg (nI (4 * to + 1)) = 4 * to + 1 from nI_clamp (by omega))).mp hP
                    obtain ⟨f_9, hP, e_9, o_9⟩ := b_put (by decide) hP
                    have hax_ : f_9 328 = eI G 44 (upd (upd ax922 (4 * to) 0) (4 * to + 1) 0) := e_9
                    refine lv_aload_n hx hb dX11_tries_300 rfl (lv_at hl 0 rfl) ?_
                    replace hmo := ((o_9 315 (by decide))).trans hmo
                    refine va_get (D := G.1) (ci := 10) (v := .ref (g 328)) (C := RX11) (T := TX11) (N := 25) hx hb hts inlX11 hown hG.1 hP 315 (wl_at (by decide) hmo) rfl 20 (by decide) (hts (.fieldLink RX11 48 "SwornListsModel" "abouts" "[I") w_124) (fun _ h9 => h9) rfl dX11_tries_301 ?_
                    refine lv_iconst (v := 4) hx hb dX11_tries_304 (by decide) ?_
                    refine lv_iload_n hx hb dX11_tries_305 rfl (lv_at hl 2 rfl) ?_
                    refine lv_imul hx hb dX11_tries_306 ?_
                    refine my_bei (v := nI (4 * to)) (pk_mul 4 to) ?_
                    refine lv_iconst (v := 2) hx hb dX11_tries_307 (by decide) ?_
                    refine lv_iadd hx hb dX11_tries_308 ?_
                    refine my_bei (v := nI (4 * to + 2)) ((nI_add (4 * to) 2).trans (congrArg nI (show (4 * to) + 2 = 4 * to + 2 by omega))) ?_
                    refine lv_iconst (v := 0) hx hb dX11_tries_309 (by decide) ?_
                    refine va_iast hx hb hG.1 hP (wl_D hg f_9) hS 328 0 (wl_at (by decide) hax_) rfl (vp_in_nI (by omega) (by decide)) dX11_tries_310 (fun H locs hP _ hS => ?_)
                    have hP := (congrArg (fun z9 => va_P G.1 vwCl ((wl g f_9).set 328 (g 328, eI G 44 ((upd (upd (upd ax922 (4 * to) 0) (4 * to + 1) 0) z9 0)))) H) (show Int32.toNatClampNeg (nI (4 * to + 2)) = 4 * to + 2 from nI_clamp (by omega))).mp hP
                    obtain ⟨f_10, hP, e_10, o_10⟩ := b_put (by decide) hP
                    have hax_ : f_10 328 = eI G 44 (upd (upd (upd ax922 (4 * to) 0) (4 * to + 1) 0) (4 * to + 2) 0) := e_10
                    refine lv_iconst (v := 0) hx hb dX11_tries_311 (by decide) ?_
                    refine lv_istore (lv' := [(10, .int 0), (0, .ref (g 315)), (1, .int (nI t)), (2, .int (nI to)), (6, .int w0), (8, .int (kn ||| bz)), (9, .int box)]) hx hb dX11_tries_312 hl (by decide) rfl (fun ls hl => ?_)
                    refine lv_iconst (v := 0) hx hb dX11_tries_314 (by decide) ?_
                    refine lv_istore (lv' := [(11, .int 0), (10, .int 0), (0, .ref (g 315)), (1, .int (nI t)), (2, .int (nI to)), (6, .int w0), (8, .int (kn ||| bz)), (9, .int box)]) hx hb dX11_tries_315 hl (by decide) rfl (fun ls hl => ?_)
                    replace hmo := ((o_10 315 (by decide))).trans hmo
                    replace hss_ := ((o_10 316 (by decide)).trans ((o_9 316 (by decide)).trans ((o_8 316 (by decide))))).trans hss_
                    replace hsp_ := ((o_10 319 (by decide)).trans ((o_9 319 (by decide)).trans ((o_8 319 (by decide))))).trans hsp_
                    replace hwi_ := ((o_10 320 (by decide)).trans ((o_9 320 (by decide)).trans ((o_8 320 (by decide))))).trans hwi_
                    replace hwa_ := ((o_10 321 (by decide)).trans ((o_9 321 (by decide)).trans ((o_8 321 (by decide))))).trans hwa_
                    replace hva_ := ((o_10 322 (by decide)).trans ((o_9 322 (by decide)).trans ((o_8 322 (by decide))))).trans hva_
                    replace hbo_ := ((o_10 323 (by decide)).trans ((o_9 323 (by decide)).trans ((o_8 323 (by decide))))).trans hbo_
                    replace hju_ := ((o_10 324 (by decide)).trans ((o_9 324 (by decide)).trans ((o_8 324 (by decide))))).trans hju_
                    replace hdr_ := ((o_10 325 (by decide)).trans ((o_9 325 (by decide)).trans ((o_8 325 (by decide))))).trans hdr_
                    replace hdn_ := ((o_10 326 (by decide)).trans ((o_9 326 (by decide)).trans ((o_8 326 (by decide))))).trans hdn_
                    replace hsl_ := ((o_10 327 (by decide)).trans ((o_9 327 (by decide)).trans ((o_8 327 (by decide))))).trans hsl_
                    replace hlf_ := ((o_10 329 (by decide)).trans ((o_9 329 (by decide)).trans ((o_8 329 (by decide))))).trans hlf_
                    have key26 : ∀ (n9_26 : Nat) (u5 : Nat) (th : Nat) (sd : Nat) (a0 : Nat) (a1 : Nat) (x5 : Int32 × Int32) (sl4 : Nat → Int32) (ax4 : Nat → Int32) (f_11 : Nat → va_E) (H : Heap) (locs : List Loc) (ls : Array Slot), (th ≤ 2) → (sd = u5 % 2) → (a0 ≤ q4) → (a1 ≤ q4) → (tuI (rPk ss t (drP box (ss (10 * t + 1553))) (min sq (cnt box 30))) (drC box (ss (10 * t + 1553)) (min sq (cnt box 30))) ((drC box (ss (10 * t + 1553)) (min sq (cnt box 30))) &&& (ss (10 * t + 1555))) q4 u5 th x5 a0 a1) → (∀ p, p < 30 → sl4 (p + 30 * to) = slV box (drC box (ss (10 * t + 1553)) (min sq (cnt box 30))) ((drC box (ss (10 * t + 1553)) (min sq (cnt box 30))) &&& (ss (10 * t + 1555))) x5 p) → (∀ k, (k < 30 * to ∨ 30 + 30 * to ≤ k) → sl4 k = sl k) → (ax4 (4 * to + 1) = nI a0) → (ax4 (4 * to + 2) = nI a1) → (∀ k, k ≠ 4 * to + 1 → k ≠ 4 * to + 2 → ax4 k = (upd (upd (upd ax922 (4 * to) 0) (4 * to + 1) 0) (4 * to + 2) 0) k) → 3 * (2 * q4 - a0 - a1) + (2 - th) < n9_26 → f_11 315 = eO 10 [.ref (g 316), .ref (g 317), .ref (g 318), .long ab2, .long be2, .int sn911, .ref (g 319), .ref (g 320), .int wn912, .ref (g 321), .ref (g 322), .int sa913, .int ly914, .int rdy, .int (nI fd), .ref (g 323), .ref (g 324), .ref (g 325), .ref (g 326), .ref (g 327), .ref (g 328), .ref (g 329), .ref (g 330), .ref (g 331), .ref (g 332)] → f_11 316 = eI G 2246 ss → f_11 319 = eI G 70 sp915 → f_11 320 = eI G 70 wi916 → f_11 321 = eI G 70 wa917 → f_11 322 = eJ G 70 va918 → f_11 323 = eI G 11 (upd bo to box) → f_11 324 = eI G 11 ju → f_11 325 = eI G 264 dr920 → f_11 326 = eI G 11 dn921 → f_11 327 = eI G 330 sl4 → f_11 328 = eI G 44 ax4 → f_11 329 = eI G 30 lf923 → (∀ j, (j ≠ 327 ∧ j ≠ 328) → f_11 j = f_10 j) → va_P G.1 vwCl (wl g f_11) H → va_S (gA g) s.heap H locs → lv_has ls 13 [(0, .ref (g 315)), (1, .int (nI t)), (2, .int (nI to)), (6, .int w0), (8, .int (kn ||| bz)), (9, .int box), (10, .int (nI th)), (11, .int (nI sd))] → W p l e (headSpec (wsT yX11_tries cX11_tries 13 none) ({ frames := 5, cells := 0, slots := 0, locals := 120 })).room s m ([.ref (g 315), .int (nI t), .int (nI to), .int (nI xt), .int 0] : List Value).toArray below meth c H locs 0 0 Q9 (F0 m 317 ls []) := by
                      intro n9_26
                      induction n9_26 with
                      | zero => intro u5 th sd a0 a1 x5 sl4 ax4 f_11 H locs ls hth hsd hq0 hq1 hI hs5 hso5 ha0 ha1 hao hn9_26; exact absurd hn9_26 (Nat.not_lt_zero _)
                      | succ n9_26 ih_26 =>
                        intro u5 th sd a0 a1 x5 sl4 ax4 f_11 H locs ls hth hsd hq0 hq1 hI hs5 hso5 ha0 ha1 hao hn9_26 hmo hss_ hsp_ hwi_ hwa_ hva_ hbo_ hju_ hdr_ hdn_ hsl_ hax_ hlf_ o_11 hP hS hl
                        refine lv_iload hx hb dX11_tries_317 (lv_at hl 6 rfl) ?_
                        refine lv_iconst (v := 2) hx hb dX11_tries_319 (by decide) ?_
                        refine lv_icmp_ge (tgt := 397) hx hb dX11_tries_320 (by decide) (fun c_320 => ?_) (fun c_320 => ?_)
                        · have k_320 : 2 ≤ th := (nI_leI (a := 2) (b := th) (by omega) (by omega)).mp c_320
                          have hth2 : th = 2 := by omega
                          rw [hth2] at hI
                          have hEn := tuI_end hI
                          refine lv_aload_n hx hb dX11_tries_397 rfl (lv_at hl 0 rfl) ?_
                          refine lv_iload_n hx hb dX11_tries_398 rfl (lv_at hl 1 rfl) ?_
                          refine lv_iload_n hx hb dX11_tries_399 rfl (lv_at hl 2 rfl) ?_
                          refine lv_iload hx hb dX11_tries_400 (lv_at hl 3 rfl) ?_
                          refine lv_iload hx hb dX11_tries_402 (lv_at hl 5 rfl) ?_
                          refine lv_iconst (v := (-1)) hx hb dX11_tries_404 (by decide) ?_
                          refine lv_ixor hx hb dX11_tries_405 ?_
                          refine lv_iand hx hb dX11_tries_406 ?_
                          refine lv_iload hx hb dX11_tries_407 (lv_at hl 4 rfl) ?_
                          refine lv_iconst (v := (-1)) hx hb dX11_tries_409 (by decide) ?_
                          refine lv_ixor hx hb dX11_tries_410 ?_
                          refine lv_iand hx hb dX11_tries_411 ?_
                          refine my_bei (v := pasV fit box) (pas_ref hfw) ?_
                          refine b_callv (va_runV (As := [.int (nI t), .int (nI to), .int (pasV fit box)]) (rest := []) ⟨hx, hb, hml, hown, hts⟩ (r_seatsE l G g hg f_11 ab2 be2 sn911 wn912 sa913 ly914 rdy (nI fd) ss ju dr920 dn921 sl4 ax4 t to (min sq (cnt box 30)) ks (drP box (ss (10 * t + 1553))) (pasV fit box) (lfV (drC box (ss (10 * t + 1553)) (min sq (cnt box 30))) ((drC box (ss (10 * t + 1553)) (min sq (cnt box 30))) &&& (ss (10 * t + 1555))) x5) hmo hss_ hju_ hdr_ hdn_ hsl_ hax_ (by omega) (by first | assumption | omega | decide) (hx_5_0) (by first | assumption | omega | decide) (fun k9 hk9 => ⟨hx_5_2 k9 hk9, (dr_in (box := box) (o0 := (ss (10 * t + 1553))) (j := k9) (by omega)).1⟩) (hk2) (hks) (fun p hp => by rw [hs5 p hp]; exact slV_6 (by omega) (drC_in (by omega)))) (my_cwV hts ok_X11_seats w_580 rfl rfl ⟨Nat.le_of_ble_eq_true rfl, Nat.le_of_ble_eq_true rfl⟩) ⟨bP.blind, va_recv hG.1 hP (ci := 10) (q0 := 315) rfl (wl_at (by decide) hmo), fun U hU hW => ⟨rfl, by rw [hU]; exact hP, kG.warm hW hG⟩⟩ rfl rfl hl.1 rfl (lv_room (Nat.le_of_ble_eq_true rfl)) dX11_tries_412 ⟨Nat.le_of_ble_eq_true rfl, Nat.le_of_ble_eq_true rfl⟩) hS (fun f_12 H locs hq9 hP hS => ?_)
                          obtain ⟨ju927, sl928, ax929, hq_12_0, hq_12_1, hq_12_2, hx_12_0, hx_12_1, hx_12_2, hx_12_3, hx_12_4, hx_12_5, hx_12_6, o_12⟩ := hq9
                          have hju_ : f_12 324 = eI G 11 ju927 := hq_12_0
                          have hsl_ : f_12 327 = eI G 330 sl928 := hq_12_1
                          have hax_ : f_12 328 = eI G 44 ax929 := hq_12_2
                          replace hmo := ((o_12 315 (by first | decide | omega))).trans hmo
                          replace hsp_ := ((o_12 319 (by first | decide | omega))).trans hsp_
                          replace hwi_ := ((o_12 320 (by first | decide | omega))).trans hwi_
                          replace hwa_ := ((o_12 321 (by first | decide | omega))).trans hwa_
                          replace hva_ := ((o_12 322 (by first | decide | omega))).trans hva_
                          replace hbo_ := ((o_12 323 (by first | decide | omega))).trans hbo_
                          replace hdr_ := ((o_12 325 (by first | decide | omega))).trans hdr_
                          replace hdn_ := ((o_12 326 (by first | decide | omega))).trans hdn_
                          replace hlf_ := ((o_12 329 (by first | decide | omega))).trans hlf_
                          refine W_q9 hQ9 ?_
                          exact W.vret hx hb hr (fun _ hT9 _ => ⟨⟨f_12, rfl, (⟨sn911, wn912, sa913, ly914, sp915, wi916, wa917, va918, (upd bo to box), ju927, dr920, dn921, sl928, ax929, lf923, hmo, hsp_, hwi_, hwa_, hva_, hbo_, hju_, hdr_, hdn_, hsl_, hax_, hlf_, rQ_mk hss hsq hs4 hq4 hk2 hks hEn.1 pk_us hx_5_0 hx_5_2 hs5 hx_12_0 hx_12_2 (ax_if (fun z9 => congrFun (hx_12_4 z9) _) hx_12_5 ((hao _ (by omega) (by omega)).trans ((pk_un (by omega)).trans ((pk_un (by omega)).trans pk_us)))) ((hx_12_6 _ (by omega)).trans (ha0.trans (by rw [hEn.2.1]))) ((hx_12_6 _ (by omega)).trans (ha1.trans (by rw [hEn.2.2]))) ((hx_12_6 _ (by omega)).trans ((hao _ (by omega) (by omega)).trans ((pk_un (by omega)).trans ((pk_un (by omega)).trans ((pk_un (by omega)).trans hx_5_4))))), dn_new hdn hx_5_0 (by omega) hx_5_1, fun k hk => ⟨pk_un hk, hx_12_1 k hk, hx_5_1 k hk⟩, hx_5_3, fun k hk => (hx_12_3 k hk).trans (hso5 k hk), fun k hk => (hx_12_6 k (by omega)).trans ((hao k (by omega) (by omega)).trans ((pk_un (by omega)).trans ((pk_un (by omega)).trans ((pk_un (by omega)).trans (hx_5_5 k (by omega)))))), fun j hj => ((((((((((((o_12 j (by omega))).trans (o_11 j (by omega))).trans (o_10 j (by omega))).trans (o_9 j (by omega))).trans (o_8 j (by omega))).trans (o_7 j (by omega))).trans (o_6 j (by omega))).trans (o_5 j (by omega))).trans (o_4 j (by omega))).trans (o_3 j (by omega))).trans (o_2 j (by omega))).trans (o_1 j (by omega))⟩), by rw [hT9]; exact hP⟩, hS.F hT9⟩) hS.2.2 dX11_tries_415
                        · have k_320 : ¬ 2 ≤ th := fun z9 => c_320 ((nI_leI (a := 2) (b := th) (by omega) (by omega)).mpr z9)
                          rcases (show sd = 0 ∨ sd = 1 by omega) with rfl | rfl
                          · have hu9 : u5 % 2 = 0 := hsd.symm
                            refine lv_aload_n hx hb dX11_tries_323 rfl (lv_at hl 0 rfl) ?_
                            refine lv_iload_n hx hb dX11_tries_324 rfl (lv_at hl 1 rfl) ?_
                            refine lv_iload_n hx hb dX11_tries_325 rfl (lv_at hl 2 rfl) ?_
                            refine lv_iload hx hb dX11_tries_326 (lv_at hl 7 rfl) ?_
                            refine rd_calli (va_runV (As := [.int (nI t), .int (nI to), .int 0]) (rest := []) ⟨hx, hb, hml, hown, hts⟩ (r_strikesE l G g hg f_11 ab2 be2 sn911 wn912 sa913 ly914 rdy (nI fd) ss np nf nr na nt dr920 dn921 sl4 ax4 t to 0 a0 (min sq (cnt box 30)) q4 (drP box (ss (10 * t + 1553))) (lfV (drC box (ss (10 * t + 1553)) (min sq (cnt box 30))) ((drC box (ss (10 * t + 1553)) (min sq (cnt box 30))) &&& (ss (10 * t + 1555))) x5) hmo hss_ hdr_ hdn_ hsl_ hax_ (by first | assumption | omega | decide) (by first | assumption | omega | decide) (by first | assumption | omega | decide) (by first | assumption | omega | decide) (by first | assumption | omega | decide) (by rw [show 0 + 4 * to + 1 = 4 * to + 1 by omega]; exact ha0) (hx_5_0) (by first | assumption | omega | decide) (fun k9 hk9 => ⟨hx_5_2 k9 hk9, (dr_in (box := box) (o0 := (ss (10 * t + 1553))) (j := k9) (by omega)).1⟩) (by first | assumption | omega | decide) (hs4) (fun p hp => by rw [hs5 p hp]; exact slV_6 (by omega) (drC_in (by omega)))) (my_cwV hts ok_X11_strikes w_576 rfl rfl ⟨Nat.le_of_ble_eq_true rfl, Nat.le_of_ble_eq_true rfl⟩) ⟨bP.blind, va_recv hG.1 hP (ci := 10) (q0 := 315) rfl (wl_at (by decide) hmo), fun U hU hW => ⟨rfl, by rw [hU]; exact hP, kG.warm hW hG⟩⟩ rfl rfl hl.1 rfl (lv_room (Nat.le_of_ble_eq_true rfl)) dX11_tries_328 ⟨Nat.le_of_ble_eq_true rfl, Nat.le_of_ble_eq_true rfl⟩) (fun r hr9 => ?_)
                            obtain ⟨o930, rfl, hx_13_0, hx_13_1⟩ := hr9
                            refine lv_istore (lv' := [(12, .int (fo o930)), (0, .ref (g 315)), (1, .int (nI t)), (2, .int (nI to)), (6, .int w0), (8, .int (kn ||| bz)), (9, .int box), (10, .int (nI th)), (11, .int 0)]) hx hb dX11_tries_331 hl (by decide) rfl (fun ls hl => ?_)
                            refine lv_iload hx hb dX11_tries_333 (lv_at hl 0 rfl) ?_
                            refine lv_iconst (v := (-1)) hx hb dX11_tries_335 (by decide) ?_
                            refine lv_icmp_ne (tgt := 346) hx hb dX11_tries_336 (by decide) (fun c_336 => ?_) (fun c_336 => ?_)
                            · refine lv_iconst (v := 0) hx hb dX11_tries_346 (by decide) ?_
                              refine lv_istore (lv' := [(10, .int 0), (12, .int (fo o930)), (0, .ref (g 315)), (1, .int (nI t)), (2, .int (nI to)), (6, .int w0), (8, .int (kn ||| bz)), (9, .int box), (11, .int 0)]) hx hb dX11_tries_347 hl (by decide) rfl (fun ls hl => ?_)
                              refine lv_iload hx hb dX11_tries_349 (lv_at hl 1 rfl) ?_
                              refine lv_iconst (v := (-1)) hx hb dX11_tries_351 (by decide) ?_
                              refine lv_icmp_eq (tgt := 388) hx hb dX11_tries_352 (by decide) (fun c_352 => absurd c_352 (c_336)) (fun c_352 => ?_)
                              obtain ⟨t5, rfl⟩ : ∃ b, o930 = some b := by
                                cases o930 with
                                | none => exact absurd rfl c_336
                                | some z => exact ⟨z, rfl⟩
                              have ht5a := hx_13_0 t5 rfl
                              have hlt5 : ¬ a0 = q4 := fun z => by have h9 := hx_13_1; rw [if_pos z] at h9; cases h9
                              have hk5 : (rPk ss t (drP box (ss (10 * t + 1553))) (min sq (cnt box 30))) 0 (lfV (drC box (ss (10 * t + 1553)) (min sq (cnt box 30))) ((drC box (ss (10 * t + 1553)) (min sq (cnt box 30))) &&& (ss (10 * t + 1555))) x5) = some t5 := by have h9 := hx_13_1; rw [if_neg hlt5] at h9; exact h9.symm
                              have ht5 : t5 < 30 ∧ bt (lfV (drC box (ss (10 * t + 1553)) (min sq (cnt box 30))) ((drC box (ss (10 * t + 1553)) (min sq (cnt box 30))) &&& (ss (10 * t + 1555))) x5) t5 = true := ⟨ht5a, (lkP_s _ _ hk5).2.1⟩
                              have ht51 := ht5.1
                              refine lv_aload_n hx hb dX11_tries_355 rfl (lv_at hl 2 rfl) ?_
                              refine va_get (D := G.1) (ci := 10) (v := .ref (g 327)) (C := RX11) (T := TX11) (N := 25) hx hb hts inlX11 hown hG.1 hP 315 (wl_at (by decide) hmo) rfl 19 (by decide) (hts (.fieldLink RX11 45 "SwornListsModel" "slips" "[I") w_123) (fun _ h9 => h9) rfl dX11_tries_356 ?_
                              refine lv_bipush (v := 30) hx hb dX11_tries_359 (by decide) ?_
                              refine lv_iload_n hx hb dX11_tries_361 rfl (lv_at hl 4 rfl) ?_
                              refine lv_imul hx hb dX11_tries_362 ?_
                              refine my_bei (v := nI (30 * to)) (pk_mul 30 to) ?_
                              refine lv_iload hx hb dX11_tries_363 (lv_at hl 1 rfl) ?_
                              refine lv_iadd hx hb dX11_tries_365 ?_
                              refine my_bei (v := nI (t5 + 30 * to)) ((nI_add (30 * to) t5).trans (congrArg nI (show (30 * to) + t5 = t5 + 30 * to by omega))) ?_
                              refine lv_iconst (v := 3) hx hb dX11_tries_366 (by decide) ?_
                              refine lv_iload hx hb dX11_tries_367 (lv_at hl 8 rfl) ?_
                              refine lv_iadd hx hb dX11_tries_369 ?_
                              refine my_bei (v := 3) (by decide) ?_
                              refine va_iast hx hb hG.1 hP (wl_D hg f_11) hS 327 0 (wl_at (by decide) hsl_) rfl (vp_in_nI (by omega) (by decide)) dX11_tries_370 (fun H locs hP _ hS => ?_)
                              have hP := (congrArg (fun z9 => va_P G.1 vwCl ((wl g f_11).set 327 (g 327, eI G 330 ((upd sl4 z9 3)))) H) (show Int32.toNatClampNeg (nI (t5 + 30 * to)) = t5 + 30 * to from nI_clamp (by omega))).mp hP
                              obtain ⟨f_14, hP, e_14, o_14⟩ := b_put (by decide) hP
                              have hsl_ : f_14 327 = eI G 330 (upd sl4 (t5 + 30 * to) 3) := e_14
                              refine lv_aload_n hx hb dX11_tries_371 rfl (lv_at hl 2 rfl) ?_
                              replace hmo := ((o_14 315 (by decide))).trans hmo
                              refine va_get (D := G.1) (ci := 10) (v := .ref (g 328)) (C := RX11) (T := TX11) (N := 25) hx hb hts inlX11 hown hG.1 hP 315 (wl_at (by decide) hmo) rfl 20 (by decide) (hts (.fieldLink RX11 48 "SwornListsModel" "abouts" "[I") w_124) (fun _ h9 => h9) rfl dX11_tries_372 ?_
                              refine lv_iconst (v := 4) hx hb dX11_tries_375 (by decide) ?_
                              refine lv_iload_n hx hb dX11_tries_376 rfl (lv_at hl 4 rfl) ?_
                              refine lv_imul hx hb dX11_tries_377 ?_
                              refine my_bei (v := nI (4 * to)) (pk_mul 4 to) ?_
                              refine lv_iconst (v := 1) hx hb dX11_tries_378 (by decide) ?_
                              refine lv_iadd hx hb dX11_tries_379 ?_
                              refine my_bei (v := nI (4 * to + 1)) ((nI_add (4 * to) 1).trans (congrArg nI (show (4 * to) + 1 = 4 * to + 1 by omega))) ?_
                              refine lv_iload hx hb dX11_tries_380 (lv_at hl 8 rfl) ?_
                              refine lv_iadd hx hb dX11_tries_382 ?_
                              refine my_bei (v := nI (4 * to + 1)) ((nI_add (4 * to + 1) 0).trans (congrArg nI (show (4 * to + 1) + 0 = 4 * to + 1 by omega))) ?_
                              refine lv_dup2_11 hx hb dX11_tries_383 rfl rfl ?_
                              replace hax_ := ((o_14 328 (by decide))).trans hax_
                              refine va_iald hx hb hG.1 hP 328 0 (wl_at (by decide) hax_) rfl (vp_in_nI (by omega) (by decide)) dX11_tries_384 ?_
                              refine my_bei (v := ax4 (4 * to + 1)) (congrArg ax4 (nI_clamp (n := 4 * to + 1) (by omega))) ?_
                              refine my_bei (v := nI a0) (ha0) ?_
                              refine lv_iconst (v := 1) hx hb dX11_tries_385 (by decide) ?_
                              refine lv_iadd hx hb dX11_tries_386 ?_
                              refine my_bei (v := nI (a0 + 1)) (nI_add a0 1) ?_
                              refine va_iast hx hb hG.1 hP (wl_D hg f_14) hS 328 0 (wl_at (by decide) hax_) rfl (vp_in_nI (by omega) (by decide)) dX11_tries_387 (fun H locs hP _ hS => ?_)
                              have hP := (congrArg (fun z9 => va_P G.1 vwCl ((wl g f_14).set 328 (g 328, eI G 44 ((upd ax4 z9 (nI (a0 + 1)))))) H) (show Int32.toNatClampNeg (nI (4 * to + 1)) = 4 * to + 1 from nI_clamp (by omega))).mp hP
                              obtain ⟨f_15, hP, e_15, o_15⟩ := b_put (by decide) hP
                              have hax_ : f_15 328 = eI G 44 (upd ax4 (4 * to + 1) (nI (a0 + 1))) := e_15
                              refine lv_iconst (v := 1) hx hb dX11_tries_388 (by decide) ?_
                              refine lv_iload hx hb dX11_tries_389 (lv_at hl 8 rfl) ?_
                              refine lv_isub hx hb dX11_tries_391 ?_
                              refine my_bei (v := 1) (by decide) ?_
                              refine lv_istore (lv' := [(11, .int 1), (10, .int 0), (12, .int (nI t5)), (0, .ref (g 315)), (1, .int (nI t)), (2, .int (nI to)), (6, .int w0), (8, .int (kn ||| bz)), (9, .int box)]) hx hb dX11_tries_392 hl (by decide) rfl (fun ls hl => ?_)
                              refine lv_goto (tgt := 317) hx hb dX11_tries_394 (by decide) ?_
                              replace hmo := ((o_15 315 (by decide))).trans hmo
                              replace hss_ := ((o_15 316 (by decide)).trans ((o_14 316 (by decide)))).trans hss_
                              replace hsp_ := ((o_15 319 (by decide)).trans ((o_14 319 (by decide)))).trans hsp_
                              replace hwi_ := ((o_15 320 (by decide)).trans ((o_14 320 (by decide)))).trans hwi_
                              replace hwa_ := ((o_15 321 (by decide)).trans ((o_14 321 (by decide)))).trans hwa_
                              replace hva_ := ((o_15 322 (by decide)).trans ((o_14 322 (by decide)))).trans hva_
                              replace hbo_ := ((o_15 323 (by decide)).trans ((o_14 323 (by decide)))).trans hbo_
                              replace hju_ := ((o_15 324 (by decide)).trans ((o_14 324 (by decide)))).trans hju_
                              replace hdr_ := ((o_15 325 (by decide)).trans ((o_14 325 (by decide)))).trans hdr_
                              replace hdn_ := ((o_15 326 (by decide)).trans ((o_14 326 (by decide)))).trans hdn_
                              replace hsl_ := ((o_15 327 (by decide))).trans hsl_
                              replace hlf_ := ((o_15 329 (by decide)).trans ((o_14 329 (by decide)))).trans hlf_
                              exact ih_26 (u5 + 1) 0 1 (a0 + 1) a1 (stN u5 x5 (some t5)) (upd sl4 (t5 + 30 * to) 3) (upd ax4 (4 * to + 1) (nI (a0 + 1))) f_15 _ _ _ (by omega) (by omega) (by omega) (by omega) ((by have h9 := tuI_hit rPk_mono hI ht5.1 (lf_x (by omega) ht5.2).1 (lf_x (by omega) ht5.2).2 (by rw [if_pos hu9]; exact hlt5) (by rw [hu9]; exact hk5); rw [if_pos hu9, if_pos hu9] at h9; exact h9)) (fun p hp => by
  rw [slV_hit (show t5 < 32 by omega) (show p < 32 by omega) (drC_in (by omega)) ht5.2, if_pos hu9]
  exact if e9 : p = t5 then (by rw [if_pos e9, e9, pk_us]) else (by rw [if_neg e9, pk_un (by omega)]; exact hs5 p hp)) (fun k hk => (pk_un (by omega)).trans (hso5 k hk)) (pk_us) ((pk_un (by omega)).trans ha1) (fun k h1 h2 => (pk_un (by omega)).trans (hao k h1 h2)) (by omega) (hmo) (hss_) (hsp_) (hwi_) (hwa_) (hva_) (hbo_) (hju_) (hdr_) (hdn_) (hsl_) (hax_) (hlf_) (fun j hj => (((o_15 j (by omega))).trans (o_14 j (by omega))).trans (o_11 j (by omega))) hP hS (lv_sub hl [3, 4, 5, 6, 7, 8, 1, 0] rfl)
                            · have hfl : a0 = q4 ∨ (rPk ss t (drP box (ss (10 * t + 1553))) (min sq (cnt box 30))) (u5 % 2) (lfV (drC box (ss (10 * t + 1553)) (min sq (cnt box 30))) ((drC box (ss (10 * t + 1553)) (min sq (cnt box 30))) &&& (ss (10 * t + 1555))) x5) = none := by
                                have h9 := hx_13_1
                                rw [fo_none (N := 30) (by omega) hx_13_0 c_336] at h9
                                by_cases e9 : a0 = q4
                                · exact Or.inl e9
                                · rw [if_neg e9] at h9; exact Or.inr (by rw [hu9]; exact h9.symm)
                              refine lv_iload hx hb dX11_tries_339 (lv_at hl 7 rfl) ?_
                              refine lv_iconst (v := 1) hx hb dX11_tries_341 (by decide) ?_
                              refine lv_iadd hx hb dX11_tries_342 ?_
                              refine my_bei (v := nI (th + 1)) (nI_add th 1) ?_
                              refine lv_goto (tgt := 347) hx hb dX11_tries_343 (by decide) ?_
                              refine lv_istore (lv' := [(10, .int (nI (th + 1))), (12, .int (fo o930)), (0, .ref (g 315)), (1, .int (nI t)), (2, .int (nI to)), (6, .int w0), (8, .int (kn ||| bz)), (9, .int box), (11, .int 0)]) hx hb dX11_tries_347 hl (by decide) rfl (fun ls hl => ?_)
                              refine lv_iload hx hb dX11_tries_349 (lv_at hl 1 rfl) ?_
                              refine lv_iconst (v := (-1)) hx hb dX11_tries_351 (by decide) ?_
                              refine lv_icmp_eq (tgt := 388) hx hb dX11_tries_352 (by decide) (fun c_352 => ?_) (fun c_352 => absurd (c_336) c_352)
                              refine lv_iconst (v := 1) hx hb dX11_tries_388 (by decide) ?_
                              refine lv_iload hx hb dX11_tries_389 (lv_at hl 8 rfl) ?_
                              refine lv_isub hx hb dX11_tries_391 ?_
                              refine my_bei (v := 1) (by decide) ?_
                              refine lv_istore (lv' := [(11, .int 1), (10, .int (nI (th + 1))), (12, .int (fo o930)), (0, .ref (g 315)), (1, .int (nI t)), (2, .int (nI to)), (6, .int w0), (8, .int (kn ||| bz)), (9, .int box)]) hx hb dX11_tries_392 hl (by decide) rfl (fun ls hl => ?_)
                              refine lv_goto (tgt := 317) hx hb dX11_tries_394 (by decide) ?_
                              exact ih_26 (u5 + 1) (th + 1) 1 a0 a1 x5 sl4 ax4 f_11 _ _ _ (by omega) (by omega) (by omega) (by omega) (tuI_fail hI (by omega) (by rw [if_pos hu9]; exact hfl)) (hs5) (hso5) (ha0) (ha1) (hao) (by omega) (hmo) (hss_) (hsp_) (hwi_) (hwa_) (hva_) (hbo_) (hju_) (hdr_) (hdn_) (hsl_) (hax_) (hlf_) (fun j hj => (o_11 j (by omega))) hP hS (lv_sub hl [3, 4, 5, 6, 7, 8, 1, 0] rfl)
                          · have hu9 : u5 % 2 = 1 := hsd.symm
                            refine lv_aload_n hx hb dX11_tries_323 rfl (lv_at hl 0 rfl) ?_
                            refine lv_iload_n hx hb dX11_tries_324 rfl (lv_at hl 1 rfl) ?_
                            refine lv_iload_n hx hb dX11_tries_325 rfl (lv_at hl 2 rfl) ?_
                            refine lv_iload hx hb dX11_tries_326 (lv_at hl 7 rfl) ?_
                            refine rd_calli (va_runV (As := [.int (nI t), .int (nI to), .int 1]) (rest := []) ⟨hx, hb, hml, hown, hts⟩ (r_strikesE l G g hg f_11 ab2 be2 sn911 wn912 sa913 ly914 rdy (nI fd) ss np nf nr na nt dr920 dn921 sl4 ax4 t to 1 a1 (min sq (cnt box 30)) q4 (drP box (ss (10 * t + 1553))) (lfV (drC box (ss (10 * t + 1553)) (min sq (cnt box 30))) ((drC box (ss (10 * t + 1553)) (min sq (cnt box 30))) &&& (ss (10 * t + 1555))) x5) hmo hss_ hdr_ hdn_ hsl_ hax_ (by first | assumption | omega | decide) (by first | assumption | omega | decide) (by first | assumption | omega | decide) (by first | assumption | omega | decide) (by first | assumption | omega | decide) (by rw [show 1 + 4 * to + 1 = 4 * to + 2 by omega]; exact ha1) (hx_5_0) (by first | assumption | omega | decide) (fun k9 hk9 => ⟨hx_5_2 k9 hk9, (dr_in (box := box) (o0 := (ss (10 * t + 1553))) (j := k9) (by omega)).1⟩) (by first | assumption | omega | decide) (hs4) (fun p hp => by rw [hs5 p hp]; exact slV_6 (by omega) (drC_in (by omega)))) (my_cwV hts ok_X11_strikes w_576 rfl rfl ⟨Nat.le_of_ble_eq_true rfl, Nat.le_of_ble_eq_true rfl⟩) ⟨bP.blind, va_recv hG.1 hP (ci := 10) (q0 := 315) rfl (wl_at (by decide) hmo), fun U hU hW => ⟨rfl, by rw [hU]; exact hP, kG.warm hW hG⟩⟩ rfl rfl hl.1 rfl (lv_room (Nat.le_of_ble_eq_true rfl)) dX11_tries_328 ⟨Nat.le_of_ble_eq_true rfl, Nat.le_of_ble_eq_true rfl⟩) (fun r hr9 => ?_)
                            obtain ⟨o931, rfl, hx_16_0, hx_16_1⟩ := hr9
                            refine lv_istore (lv' := [(12, .int (fo o931)), (0, .ref (g 315)), (1, .int (nI t)), (2, .int (nI to)), (6, .int w0), (8, .int (kn ||| bz)), (9, .int box), (10, .int (nI th)), (11, .int 1)]) hx hb dX11_tries_331 hl (by decide) rfl (fun ls hl => ?_)
                            refine lv_iload hx hb dX11_tries_333 (lv_at hl 0 rfl) ?_
                            refine lv_iconst (v := (-1)) hx hb dX11_tries_335 (by decide) ?_
                            refine lv_icmp_ne (tgt := 346) hx hb dX11_tries_336 (by decide) (fun c_336 => ?_) (fun c_336 => ?_)
                            · refine lv_iconst (v := 0) hx hb dX11_tries_346 (by decide) ?_
                              refine lv_istore (lv' := [(10, .int 0), (12, .int (fo o931)), (0, .ref (g 315)), (1, .int (nI t)), (2, .int (nI to)), (6, .int w0), (8, .int (kn ||| bz)), (9, .int box), (11, .int 1)]) hx hb dX11_tries_347 hl (by decide) rfl (fun ls hl => ?_)
                              refine lv_iload hx hb dX11_tries_349 (lv_at hl 1 rfl) ?_
                              refine lv_iconst (v := (-1)) hx hb dX11_tries_351 (by decide) ?_
                              refine lv_icmp_eq (tgt := 388) hx hb dX11_tries_352 (by decide) (fun c_352 => absurd c_352 (c_336)) (fun c_352 => ?_)
                              obtain ⟨t5, rfl⟩ : ∃ b, o931 = some b := by
                                cases o931 with
                                | none => exact absurd rfl c_336
                                | some z => exact ⟨z, rfl⟩
                              have ht5a := hx_16_0 t5 rfl
                              have hlt5 : ¬ a1 = q4 := fun z => by have h9 := hx_16_1; rw [if_pos z] at h9; cases h9
                              have hk5 : (rPk ss t (drP box (ss (10 * t + 1553))) (min sq (cnt box 30))) 1 (lfV (drC box (ss (10 * t + 1553)) (min sq (cnt box 30))) ((drC box (ss (10 * t + 1553)) (min sq (cnt box 30))) &&& (ss (10 * t + 1555))) x5) = some t5 := by have h9 := hx_16_1; rw [if_neg hlt5] at h9; exact h9.symm
                              have ht5 : t5 < 30 ∧ bt (lfV (drC box (ss (10 * t + 1553)) (min sq (cnt box 30))) ((drC box (ss (10 * t + 1553)) (min sq (cnt box 30))) &&& (ss (10 * t + 1555))) x5) t5 = true := ⟨ht5a, (lkP_s _ _ hk5).2.1⟩
                              have ht51 := ht5.1
                              refine lv_aload_n hx hb dX11_tries_355 rfl (lv_at hl 2 rfl) ?_
                              refine va_get (D := G.1) (ci := 10) (v := .ref (g 327)) (C := RX11) (T := TX11) (N := 25) hx hb hts inlX11 hown hG.1 hP 315 (wl_at (by decide) hmo) rfl 19 (by decide) (hts (.fieldLink RX11 45 "SwornListsModel" "slips" "[I") w_123) (fun _ h9 => h9) rfl dX11_tries_356 ?_
                              refine lv_bipush (v := 30) hx hb dX11_tries_359 (by decide) ?_
                              refine lv_iload_n hx hb dX11_tries_361 rfl (lv_at hl 4 rfl) ?_
                              refine lv_imul hx hb dX11_tries_362 ?_
                              refine my_bei (v := nI (30 * to)) (pk_mul 30 to) ?_
                              refine lv_iload hx hb dX11_tries_363 (lv_at hl 1 rfl) ?_
                              refine lv_iadd hx hb dX11_tries_365 ?_
                              refine my_bei (v := nI (t5 + 30 * to)) ((nI_add (30 * to) t5).trans (congrArg nI (show (30 * to) + t5 = t5 + 30 * to by omega))) ?_
                              refine lv_iconst (v := 3) hx hb dX11_tries_366 (by decide) ?_
                              refine lv_iload hx hb dX11_tries_367 (lv_at hl 8 rfl) ?_
                              refine lv_iadd hx hb dX11_tries_369 ?_
                              refine my_bei (v := 4) (by decide) ?_
                              refine va_iast hx hb hG.1 hP (wl_D hg f_11) hS 327 0 (wl_at (by decide) hsl_) rfl (vp_in_nI (by omega) (by decide)) dX11_tries_370 (fun H locs hP _ hS => ?_)
                              have hP := (congrArg (fun z9 => va_P G.1 vwCl ((wl g f_11).set 327 (g 327, eI G 330 ((upd sl4 z9 4)))) H) (show Int32.toNatClampNeg (nI (t5 + 30 * to)) = t5 + 30 * to from nI_clamp (by omega))).mp hP
                              obtain ⟨f_17, hP, e_17, o_17⟩ := b_put (by decide) hP
                              have hsl_ : f_17 327 = eI G 330 (upd sl4 (t5 + 30 * to) 4) := e_17
                              refine lv_aload_n hx hb dX11_tries_371 rfl (lv_at hl 2 rfl) ?_
                              replace hmo := ((o_17 315 (by decide))).trans hmo
                              refine va_get (D := G.1) (ci := 10) (v := .ref (g 328)) (C := RX11) (T := TX11) (N := 25) hx hb hts inlX11 hown hG.1 hP 315 (wl_at (by decide) hmo) rfl 20 (by decide) (hts (.fieldLink RX11 48 "SwornListsModel" "abouts" "[I") w_124) (fun _ h9 => h9) rfl dX11_tries_372 ?_
                              refine lv_iconst (v := 4) hx hb dX11_tries_375 (by decide) ?_
                              refine lv_iload_n hx hb dX11_tries_376 rfl (lv_at hl 4 rfl) ?_
                              refine lv_imul hx hb dX11_tries_377 ?_
                              refine my_bei (v := nI (4 * to)) (pk_mul 4 to) ?_
                              refine lv_iconst (v := 1) hx hb dX11_tries_378 (by decide) ?_
                              refine lv_iadd hx hb dX11_tries_379 ?_
                              refine my_bei (v := nI (4 * to + 1)) ((nI_add (4 * to) 1).trans (congrArg nI (show (4 * to) + 1 = 4 * to + 1 by omega))) ?_
                              refine lv_iload hx hb dX11_tries_380 (lv_at hl 8 rfl) ?_
                              refine lv_iadd hx hb dX11_tries_382 ?_
                              refine my_bei (v := nI (4 * to + 2)) ((nI_add (4 * to + 1) 1).trans (congrArg nI (show (4 * to + 1) + 1 = 4 * to + 2 by omega))) ?_
                              refine lv_dup2_11 hx hb dX11_tries_383 rfl rfl ?_
                              replace hax_ := ((o_17 328 (by decide))).trans hax_
                              refine va_iald hx hb hG.1 hP 328 0 (wl_at (by decide) hax_) rfl (vp_in_nI (by omega) (by decide)) dX11_tries_384 ?_
                              refine my_bei (v := ax4 (4 * to + 2)) (congrArg ax4 (nI_clamp (n := 4 * to + 2) (by omega))) ?_
                              refine my_bei (v := nI a1) (ha1) ?_
                              refine lv_iconst (v := 1) hx hb dX11_tries_385 (by decide) ?_
                              refine lv_iadd hx hb dX11_tries_386 ?_
                              refine my_bei (v := nI (a1 + 1)) (nI_add a1 1) ?_
                              refine va_iast hx hb hG.1 hP (wl_D hg f_17) hS 328 0 (wl_at (by decide) hax_) rfl (vp_in_nI (by omega) (by decide)) dX11_tries_387 (fun H locs hP _ hS => ?_)
                              have hP := (congrArg (fun z9 => va_P G.1 vwCl ((wl g f_17).set 328 (g 328, eI G 44 ((upd ax4 z9 (nI (a1 + 1)))))) H) (show Int32.toNatClampNeg (nI (4 * to + 2)) = 4 * to + 2 from nI_clamp (by omega))).mp hP
                              obtain ⟨f_18, hP, e_18, o_18⟩ := b_put (by decide) hP
                              have hax_ : f_18 328 = eI G 44 (upd ax4 (4 * to + 2) (nI (a1 + 1))) := e_18
                              refine lv_iconst (v := 1) hx hb dX11_tries_388 (by decide) ?_
                              refine lv_iload hx hb dX11_tries_389 (lv_at hl 8 rfl) ?_
                              refine lv_isub hx hb dX11_tries_391 ?_
                              refine my_bei (v := 0) (by decide) ?_
                              refine lv_istore (lv' := [(11, .int 0), (10, .int 0), (12, .int (nI t5)), (0, .ref (g 315)), (1, .int (nI t)), (2, .int (nI to)), (6, .int w0), (8, .int (kn ||| bz)), (9, .int box)]) hx hb dX11_tries_392 hl (by decide) rfl (fun ls hl => ?_)
                              refine lv_goto (tgt := 317) hx hb dX11_tries_394 (by decide) ?_
                              replace hmo := ((o_18 315 (by decide))).trans hmo
                              replace hss_ := ((o_18 316 (by decide)).trans ((o_17 316 (by decide)))).trans hss_
                              replace hsp_ := ((o_18 319 (by decide)).trans ((o_17 319 (by decide)))).trans hsp_
                              replace hwi_ := ((o_18 320 (by decide)).trans ((o_17 320 (by decide)))).trans hwi_
                              replace hwa_ := ((o_18 321 (by decide)).trans ((o_17 321 (by decide)))).trans hwa_
                              replace hva_ := ((o_18 322 (by decide)).trans ((o_17 322 (by decide)))).trans hva_
                              replace hbo_ := ((o_18 323 (by decide)).trans ((o_17 323 (by decide)))).trans hbo_
                              replace hju_ := ((o_18 324 (by decide)).trans ((o_17 324 (by decide)))).trans hju_
                              replace hdr_ := ((o_18 325 (by decide)).trans ((o_17 325 (by decide)))).trans hdr_
                              replace hdn_ := ((o_18 326 (by decide)).trans ((o_17 326 (by decide)))).trans hdn_
                              replace hsl_ := ((o_18 327 (by decide))).trans hsl_
                              replace hlf_ := ((o_18 329 (by decide)).trans ((o_17 329 (by decide)))).trans hlf_
                              exact ih_26 (u5 + 1) 0 0 a0 (a1 + 1) (stN u5 x5 (some t5)) (upd sl4 (t5 + 30 * to) 4) (upd ax4 (4 * to + 2) (nI (a1 + 1))) f_18 _ _ _ (by omega) (by omega) (by omega) (by omega) ((by have h9 := tuI_hit rPk_mono hI ht5.1 (lf_x (by omega) ht5.2).1 (lf_x (by omega) ht5.2).2 (by rw [if_neg (by omega)]; exact hlt5) (by rw [hu9]; exact hk5); rw [if_neg (show ¬ u5 % 2 = 0 by omega), if_neg (show ¬ u5 % 2 = 0 by omega)] at h9; exact h9)) (fun p hp => by
  rw [slV_hit (show t5 < 32 by omega) (show p < 32 by omega) (drC_in (by omega)) ht5.2, if_neg (show ¬ u5 % 2 = 0 by omega)]
  exact if e9 : p = t5 then (by rw [if_pos e9, e9, pk_us]) else (by rw [if_neg e9, pk_un (by omega)]; exact hs5 p hp)) (fun k hk => (pk_un (by omega)).trans (hso5 k hk)) ((pk_un (by omega)).trans ha0) (pk_us) (fun k h1 h2 => (pk_un (by omega)).trans (hao k h1 h2)) (by omega) (hmo) (hss_) (hsp_) (hwi_) (hwa_) (hva_) (hbo_) (hju_) (hdr_) (hdn_) (hsl_) (hax_) (hlf_) (fun j hj => (((o_18 j (by omega))).trans (o_17 j (by omega))).trans (o_11 j (by omega))) hP hS (lv_sub hl [3, 4, 5, 6, 7, 8, 1, 0] rfl)
                            · have hfl : a1 = q4 ∨ (rPk ss t (drP box (ss (10 * t + 1553))) (min sq (cnt box 30))) (u5 % 2) (lfV (drC box (ss (10 * t + 1553)) (min sq (cnt box 30))) ((drC box (ss (10 * t + 1553)) (min sq (cnt box 30))) &&& (ss (10 * t + 1555))) x5) = none := by
                                have h9 := hx_16_1
                                rw [fo_none (N := 30) (by omega) hx_16_0 c_336] at h9
                                by_cases e9 : a1 = q4
                                · exact Or.inl e9
                                · rw [if_neg e9] at h9; exact Or.inr (by rw [hu9]; exact h9.symm)
                              refine lv_iload hx hb dX11_tries_339 (lv_at hl 7 rfl) ?_
                              refine lv_iconst (v := 1) hx hb dX11_tries_341 (by decide) ?_
                              refine lv_iadd hx hb dX11_tries_342 ?_
                              refine my_bei (v := nI (th + 1)) (nI_add th 1) ?_
                              refine lv_goto (tgt := 347) hx hb dX11_tries_343 (by decide) ?_
                              refine lv_istore (lv' := [(10, .int (nI (th + 1))), (12, .int (fo o931)), (0, .ref (g 315)), (1, .int (nI t)), (2, .int (nI to)), (6, .int w0), (8, .int (kn ||| bz)), (9, .int box), (11, .int 1)]) hx hb dX11_tries_347 hl (by decide) rfl (fun ls hl => ?_)
                              refine lv_iload hx hb dX11_tries_349 (lv_at hl 1 rfl) ?_
                              refine lv_iconst (v := (-1)) hx hb dX11_tries_351 (by decide) ?_
                              refine lv_icmp_eq (tgt := 388) hx hb dX11_tries_352 (by decide) (fun c_352 => ?_) (fun c_352 => absurd (c_336) c_352)
                              refine lv_iconst (v := 1) hx hb dX11_tries_388 (by decide) ?_
                              refine lv_iload hx hb dX11_tries_389 (lv_at hl 8 rfl) ?_
                              refine lv_isub hx hb dX11_tries_391 ?_
                              refine my_bei (v := 0) (by decide) ?_
                              refine lv_istore (lv' := [(11, .int 0), (10, .int (nI (th + 1))), (12, .int (fo o931)), (0, .ref (g 315)), (1, .int (nI t)), (2, .int (nI to)), (6, .int w0), (8, .int (kn ||| bz)), (9, .int box)]) hx hb dX11_tries_392 hl (by decide) rfl (fun ls hl => ?_)
                              refine lv_goto (tgt := 317) hx hb dX11_tries_394 (by decide) ?_
                              exact ih_26 (u5 + 1) (th + 1) 0 a0 a1 x5 sl4 ax4 f_11 _ _ _ (by omega) (by omega) (by omega) (by omega) (tuI_fail hI (by omega) (by rw [if_neg (by omega)]; exact hfl)) (hs5) (hso5) (ha0) (ha1) (hao) (by omega) (hmo) (hss_) (hsp_) (hwi_) (hwa_) (hva_) (hbo_) (hju_) (hdr_) (hdn_) (hsl_) (hax_) (hlf_) (fun j hj => (o_11 j (by omega))) hP hS (lv_sub hl [3, 4, 5, 6, 7, 8, 1, 0] rfl)
                    exact key26 ((3 * (2 * q4) + 2) + 1) 0 0 0 0 0 (0, 0) sl3 (upd (upd (upd ax922 (4 * to) 0) (4 * to + 1) 0) (4 * to + 2) 0) f_10 _ _ _ (Nat.zero_le _) (rfl) (Nat.zero_le _) (Nat.zero_le _) (tuI_0) (fun p hp => (hs3 p hp).trans (by rw [show i3 = (min sq (cnt box 30)) by omega]; exact slD_V)) (hso3) ((pk_un (by omega)).trans pk_us) (pk_us) (fun k _ _ => rfl) (by omega) (hmo) (hss_) (hsp_) (hwi_) (hwa_) (hva_) (hbo_) (hju_) (hdr_) (hdn_) (hsl_) (hax_) (hlf_) (fun j _ => rfl) hP hS (lv_sub hl [2, 3, 4, 5, 6, 7, 1, 0] rfl)
                  · have k_223 : ¬ min sq (cnt box 30) ≤ i3 := fun z9 => c_223 ((nI_leI (a := min sq (cnt box 30)) (b := i3) (by omega) (by omega)).mpr z9)
                    refine lv_aload_n hx hb dX11_tries_226 rfl (lv_at hl 0 rfl) ?_
                    refine va_get (D := G.1) (ci := 10) (v := .ref (g 325)) (C := RX11) (T := TX11) (N := 25) hx hb hts inlX11 hown hG.1 hP 315 (wl_at (by decide) hmo) rfl 17 (by decide) (hts (.fieldLink RX11 39 "SwornListsModel" "drew" "[I") w_121) (fun _ h9 => h9) rfl dX11_tries_227 ?_
                    refine lv_bipush (v := 24) hx hb dX11_tries_230 (by decide) ?_
                    refine lv_iload_n hx hb dX11_tries_232 rfl (lv_at hl 2 rfl) ?_
                    refine lv_imul hx hb dX11_tries_233 ?_
                    refine my_bei (v := nI (24 * to)) (pk_mul 24 to) ?_
                    refine lv_iload hx hb dX11_tries_234 (lv_at hl 6 rfl) ?_
                    refine lv_iadd hx hb dX11_tries_236 ?_
                    refine my_bei (v := nI (i3 + 24 * to)) ((nI_add (24 * to) i3).trans (congrArg nI (show (24 * to) + i3 = i3 + 24 * to by omega))) ?_
                    obtain ⟨t1, et1⟩ : ∃ z, (drP box (ss (10 * t + 1553))) i3 = z := ⟨_, rfl⟩
                    have hdi9 := dr_in (box := box) (o0 := (ss (10 * t + 1553))) (j := i3) (by omega)
                    rw [et1] at hdi9
                    have ht1 := hdi9.1
                    have hzb := hdi9.2.1
                    refine va_iald hx hb hG.1 hP 325 0 (wl_at (by decide) hdr_) rfl (vp_in_nI (by omega) (by decide)) dX11_tries_237 ?_
                    refine my_bei (v := dr920 (i3 + 24 * to)) (congrArg dr920 (nI_clamp (n := i3 + 24 * to) (by omega))) ?_
                    refine my_bei (v := nI t1) (by rw [← et1]; exact hx_5_2 i3 (by omega)) ?_
                    refine lv_istore (lv' := [(11, .int (nI t1)), (0, .ref (g 315)), (1, .int (nI t)), (2, .int (nI to)), (6, .int w0), (8, .int (kn ||| bz)), (9, .int box), (10, .int (nI i3))]) hx hb dX11_tries_238 hl (by decide) rfl (fun ls hl => ?_)
                    refine lv_aload_n hx hb dX11_tries_240 rfl (lv_at hl 1 rfl) ?_
                    refine va_get (D := G.1) (ci := 10) (v := .ref (g 327)) (C := RX11) (T := TX11) (N := 25) hx hb hts inlX11 hown hG.1 hP 315 (wl_at (by decide) hmo) rfl 19 (by decide) (hts (.fieldLink RX11 45 "SwornListsModel" "slips" "[I") w_123) (fun _ h9 => h9) rfl dX11_tries_241 ?_
                    refine lv_bipush (v := 30) hx hb dX11_tries_244 (by decide) ?_
                    refine lv_iload_n hx hb dX11_tries_246 rfl (lv_at hl 3 rfl) ?_
                    refine lv_imul hx hb dX11_tries_247 ?_
                    refine my_bei (v := nI (30 * to)) (pk_mul 30 to) ?_
                    refine lv_iload hx hb dX11_tries_248 (lv_at hl 0 rfl) ?_
                    refine lv_iadd hx hb dX11_tries_250 ?_
                    refine my_bei (v := nI (t1 + 30 * to)) ((nI_add (30 * to) t1).trans (congrArg nI (show (30 * to) + t1 = t1 + 30 * to by omega))) ?_
                    refine lv_aload_n hx hb dX11_tries_251 rfl (lv_at hl 1 rfl) ?_
                    refine lv_iload_n hx hb dX11_tries_252 rfl (lv_at hl 2 rfl) ?_
                    refine lv_bipush (v := 9) hx hb dX11_tries_253 (by decide) ?_
                    refine rd_calli (va_runV (As := [.int (nI t), .int 9]) (rest := [.int (nI (t1 + 30 * to)), .ref (g 327)]) ⟨hx, hb, hml, hown, hts⟩ (r_ofTrial l G g hg f_7 ab2 be2 sn911 wn912 sa913 ly914 rdy (nI fd) ss t 9 hmo hss_ (by first | assumption | omega | decide)) (my_cwV hts ok_X11_ofTrial w_532 rfl rfl ⟨Nat.le_of_ble_eq_true rfl, Nat.le_of_ble_eq_true rfl⟩) ⟨bP.blind, va_recv hG.1 hP (ci := 10) (q0 := 315) rfl (wl_at (by decide) hmo), fun U hU hW => ⟨rfl, by rw [hU]; exact hP, kG.warm hW hG⟩⟩ rfl rfl hl.1 rfl (lv_room (Nat.le_of_ble_eq_true rfl)) dX11_tries_255 ⟨Nat.le_of_ble_eq_true rfl, Nat.le_of_ble_eq_true rfl⟩) (fun r hr9 => ?_)
                    subst hr9
                    refine my_bei (v := ss (10 * t + 1555)) (congrArg ss (show 10 * t + 9 + 1546 = 10 * t + 1555 by omega)) ?_
                    refine lv_iload hx hb dX11_tries_258 (lv_at hl 0 rfl) ?_
                    refine lv_ishr hx hb dX11_tries_260 ?_
                    refine lv_iconst (v := 1) hx hb dX11_tries_261 (by decide) ?_
                    refine lv_iand hx hb dX11_tries_262 ?_
                    refine lv_iconst (v := 1) hx hb dX11_tries_263 (by decide) ?_
                    refine lv_icmp_ne (tgt := 271) hx hb dX11_tries_264 (by decide) (fun c_264 => ?_) (fun c_264 => ?_)
                    · refine lv_bipush (v := 6) hx hb dX11_tries_271 (by decide) ?_
                      refine va_iast hx hb hG.1 hP (wl_D hg f_7) hS 327 0 (wl_at (by decide) hsl_) rfl (vp_in_nI (by omega) (by decide)) dX11_tries_273 (fun H locs hP _ hS => ?_)
                      have hP := (congrArg (fun z9 => va_P G.1 vwCl ((wl g f_7).set 327 (g 327, eI G 330 ((upd sl3 z9 6)))) H) (show Int32.toNatClampNeg (nI (t1 + 30 * to)) = t1 + 30 * to from nI_clamp (by omega))).mp hP
                      obtain ⟨f_19, hP, e_19, o_19⟩ := b_put (by decide) hP
                      have hsl_ : f_19 327 = eI G 330 (upd sl3 (t1 + 30 * to) 6) := e_19
                      refine lv_iinc (v := nI (i3 + 1)) (lv' := [(10, .int (nI (i3 + 1))), (11, .int (nI t1)), (0, .ref (g 315)), (1, .int (nI t)), (2, .int (nI to)), (6, .int w0), (8, .int (kn ||| bz)), (9, .int box)]) hx hb dX11_tries_274 hl (k := 7) rfl (nI_add i3 1) (by decide) rfl (fun ls hl => ?_)
                      refine lv_goto (tgt := 215) hx hb dX11_tries_277 (by decide) ?_
                      replace hmo := ((o_19 315 (by decide))).trans hmo
                      replace hss_ := ((o_19 316 (by decide))).trans hss_
                      replace hsp_ := ((o_19 319 (by decide))).trans hsp_
                      replace hwi_ := ((o_19 320 (by decide))).trans hwi_
                      replace hwa_ := ((o_19 321 (by decide))).trans hwa_
                      replace hva_ := ((o_19 322 (by decide))).trans hva_
                      replace hbo_ := ((o_19 323 (by decide))).trans hbo_
                      replace hju_ := ((o_19 324 (by decide))).trans hju_
                      replace hdr_ := ((o_19 325 (by decide))).trans hdr_
                      replace hdn_ := ((o_19 326 (by decide))).trans hdn_
                      replace hax_ := ((o_19 328 (by decide))).trans hax_
                      replace hlf_ := ((o_19 329 (by decide))).trans hlf_
                      exact ih_25 (i3 + 1) (upd sl3 (t1 + 30 * to) 6) f_19 _ _ _ (by omega) (fun p hp => by
  rw [drC_s, et1, slD_s ht1 hp hzb]
  exact if e9 : p = t1 then (by rw [if_pos e9, e9, pk_us]; exact (if_neg (fun z => c_264 ((sr_iff (by omega)).mpr z))).symm) else (by rw [if_neg e9, pk_un (by omega)]; exact hs3 p hp)) (fun k hk => (pk_un (by omega)).trans (hso3 k hk)) (by omega) (hmo) (hss_) (hsp_) (hwi_) (hwa_) (hva_) (hbo_) (hju_) (hdr_) (hdn_) (hsl_) (hax_) (hlf_) (fun j hj => ((o_19 j (by omega))).trans (o_7 j (by omega))) hP hS (lv_sub hl [2, 3, 4, 5, 6, 7, 0] rfl)
                    · refine lv_iconst (v := 2) hx hb dX11_tries_267 (by decide) ?_
                      refine lv_goto (tgt := 273) hx hb dX11_tries_268 (by decide) ?_
                      refine va_iast hx hb hG.1 hP (wl_D hg f_7) hS 327 0 (wl_at (by decide) hsl_) rfl (vp_in_nI (by omega) (by decide)) dX11_tries_273 (fun H locs hP _ hS => ?_)
                      have hP := (congrArg (fun z9 => va_P G.1 vwCl ((wl g f_7).set 327 (g 327, eI G 330 ((upd sl3 z9 2)))) H) (show Int32.toNatClampNeg (nI (t1 + 30 * to)) = t1 + 30 * to from nI_clamp (by omega))).mp hP
                      obtain ⟨f_20, hP, e_20, o_20⟩ := b_put (by decide) hP
                      have hsl_ : f_20 327 = eI G 330 (upd sl3 (t1 + 30 * to) 2) := e_20
                      refine lv_iinc (v := nI (i3 + 1)) (lv' := [(10, .int (nI (i3 + 1))), (11, .int (nI t1)), (0, .ref (g 315)), (1, .int (nI t)), (2, .int (nI to)), (6, .int w0), (8, .int (kn ||| bz)), (9, .int box)]) hx hb dX11_tries_274 hl (k := 7) rfl (nI_add i3 1) (by decide) rfl (fun ls hl => ?_)
                      refine lv_goto (tgt := 215) hx hb dX11_tries_277 (by decide) ?_
                      replace hmo := ((o_20 315 (by decide))).trans hmo
                      replace hss_ := ((o_20 316 (by decide))).trans hss_
                      replace hsp_ := ((o_20 319 (by decide))).trans hsp_
                      replace hwi_ := ((o_20 320 (by decide))).trans hwi_
                      replace hwa_ := ((o_20 321 (by decide))).trans hwa_
                      replace hva_ := ((o_20 322 (by decide))).trans hva_
                      replace hbo_ := ((o_20 323 (by decide))).trans hbo_
                      replace hju_ := ((o_20 324 (by decide))).trans hju_
                      replace hdr_ := ((o_20 325 (by decide))).trans hdr_
                      replace hdn_ := ((o_20 326 (by decide))).trans hdn_
                      replace hax_ := ((o_20 328 (by decide))).trans hax_
                      replace hlf_ := ((o_20 329 (by decide))).trans hlf_
                      exact ih_25 (i3 + 1) (upd sl3 (t1 + 30 * to) 2) f_20 _ _ _ (by omega) (fun p hp => by
  rw [drC_s, et1, slD_s ht1 hp hzb]
  exact if e9 : p = t1 then (by rw [if_pos e9, e9, pk_us]; exact (if_pos ((sr_iff (by omega)).mp c_264)).symm) else (by rw [if_neg e9, pk_un (by omega)]; exact hs3 p hp)) (fun k hk => (pk_un (by omega)).trans (hso3 k hk)) (by omega) (hmo) (hss_) (hsp_) (hwi_) (hwa_) (hva_) (hbo_) (hju_) (hdr_) (hdn_) (hsl_) (hax_) (hlf_) (fun j hj => ((o_20 j (by omega))).trans (o_7 j (by omega))) hP hS (lv_sub hl [2, 3, 4, 5, 6, 7, 0] rfl)
              exact key25 (24 + 1) 0 sl2 f_6 _ _ _ (Nat.zero_le _) (fun p hp => (hs2_ p (by omega)).trans slD_0.symm) (hso2) (by omega) (hmo) (hss_) (hsp_) (hwi_) (hwa_) (hva_) (hbo_) (hju_) (hdr_) (hdn_) (hsl_) (hax_) (hlf_) (fun j _ => rfl) hP hS (lv_sub hl [1, 2, 3, 4, 5, 6, 0] rfl)
            · have k_184 : ¬ 30 ≤ i2 := fun z9 => c_184 ((nI_leI (a := 30) (b := i2) (by omega) (by omega)).mpr z9)
              refine lv_aload_n hx hb dX11_tries_187 rfl (lv_at hl 0 rfl) ?_
              refine va_get (D := G.1) (ci := 10) (v := .ref (g 327)) (C := RX11) (T := TX11) (N := 25) hx hb hts inlX11 hown hG.1 hP 315 (wl_at (by decide) hmo) rfl 19 (by decide) (hts (.fieldLink RX11 45 "SwornListsModel" "slips" "[I") w_123) (fun _ h9 => h9) rfl dX11_tries_188 ?_
              refine lv_bipush (v := 30) hx hb dX11_tries_191 (by decide) ?_
              refine lv_iload_n hx hb dX11_tries_193 rfl (lv_at hl 2 rfl) ?_
              refine lv_imul hx hb dX11_tries_194 ?_
              refine my_bei (v := nI (30 * to)) (pk_mul 30 to) ?_
              refine lv_iload hx hb dX11_tries_195 (lv_at hl 6 rfl) ?_
              refine lv_iadd hx hb dX11_tries_197 ?_
              refine my_bei (v := nI (i2 + 30 * to)) ((nI_add (30 * to) i2).trans (congrArg nI (show (30 * to) + i2 = i2 + 30 * to by omega))) ?_
              refine lv_iload hx hb dX11_tries_198 (lv_at hl 5 rfl) ?_
              refine lv_iload hx hb dX11_tries_200 (lv_at hl 6 rfl) ?_
              refine lv_ishr hx hb dX11_tries_202 ?_
              refine lv_iconst (v := 1) hx hb dX11_tries_203 (by decide) ?_
              refine lv_iand hx hb dX11_tries_204 ?_
              refine my_bei (v := (if bt box i2 = true then 1 else 0)) (sr_bt (by omega)) ?_
              refine va_iast hx hb hG.1 hP (wl_D hg f_6) hS 327 0 (wl_at (by decide) hsl_) rfl (vp_in_nI (by omega) (by decide)) dX11_tries_205 (fun H locs hP _ hS => ?_)
              have hP := (congrArg (fun z9 => va_P G.1 vwCl ((wl g f_6).set 327 (g 327, eI G 330 ((upd sl2 z9 (if bt box i2 = true then 1 else 0))))) H) (show Int32.toNatClampNeg (nI (i2 + 30 * to)) = i2 + 30 * to from nI_clamp (by omega))).mp hP
              obtain ⟨f_21, hP, e_21, o_21⟩ := b_put (by decide) hP
              have hsl_ : f_21 327 = eI G 330 (upd sl2 (i2 + 30 * to) (if bt box i2 = true then 1 else 0)) := e_21
              refine lv_iinc (v := nI (i2 + 1)) (lv' := [(10, .int (nI (i2 + 1))), (0, .ref (g 315)), (1, .int (nI t)), (2, .int (nI to)), (6, .int w0), (8, .int (kn ||| bz)), (9, .int box)]) hx hb dX11_tries_206 hl (k := 6) rfl (nI_add i2 1) (by decide) rfl (fun ls hl => ?_)
              refine lv_goto (tgt := 180) hx hb dX11_tries_209 (by decide) ?_
              replace hmo := ((o_21 315 (by decide))).trans hmo
              replace hss_ := ((o_21 316 (by decide))).trans hss_
              replace hsp_ := ((o_21 319 (by decide))).trans hsp_
              replace hwi_ := ((o_21 320 (by decide))).trans hwi_
              replace hwa_ := ((o_21 321 (by decide))).trans hwa_
              replace hva_ := ((o_21 322 (by decide))).trans hva_
              replace hbo_ := ((o_21 323 (by decide))).trans hbo_
              replace hju_ := ((o_21 324 (by decide))).trans hju_
              replace hdr_ := ((o_21 325 (by decide))).trans hdr_
              replace hdn_ := ((o_21 326 (by decide))).trans hdn_
              replace hax_ := ((o_21 328 (by decide))).trans hax_
              replace hlf_ := ((o_21 329 (by decide))).trans hlf_
              exact ih_24 (i2 + 1) (upd sl2 (i2 + 30 * to) (if bt box i2 = true then 1 else 0)) f_21 _ _ _ (by omega) (fun p hp => if e9 : p = i2 then (by rw [e9, pk_us]) else (pk_un (by omega)).trans (hs2_ p (by omega))) (fun k hk => (pk_un (by omega)).trans (hso2 k hk)) (by omega) (hmo) (hss_) (hsp_) (hwi_) (hwa_) (hva_) (hbo_) (hju_) (hdr_) (hdn_) (hsl_) (hax_) (hlf_) (fun j hj => ((o_21 j (by omega))).trans (o_6 j (by omega))) hP hS (lv_sub hl [1, 2, 3, 4, 5, 6, 0] rfl)
        exact key24 (30 + 1) 0 sl f_5 _ _ _ (Nat.zero_le _) (fun p hp => absurd hp (Nat.not_lt_zero _)) (fun k _ => rfl) (by omega) (hmo) (hss_) (hsp_) (hwi_) (hwa_) (hva_) (hbo_) (hju_) (hdr_) (hdn_) (hsl_) (hax_) (hlf_) (fun j _ => rfl) hP hS (lv_sub hl [1, 2, 3, 4, 5, 6, 0] rfl)
      · have k_94 : ¬ np ≤ i := fun z9 => c_94 ((nI_leI (a := np) (b := i) (by omega) (by omega)).mpr z9)
        refine lv_aload_n hx hb dX11_tries_97 rfl (lv_at hl 0 rfl) ?_
        refine lv_iload_n hx hb dX11_tries_98 rfl (lv_at hl 1 rfl) ?_
        refine lv_iconst (v := 5) hx hb dX11_tries_99 (by decide) ?_
        refine rd_calli (va_runV (As := [.int (nI t), .int 5]) (rest := []) ⟨hx, hb, hml, hown, hts⟩ (r_ofTrial l G g hg f_3 ab2 be2 sn911 wn912 sa913 ly914 rdy (nI fd) ss t 5 hmo hss_ (by first | assumption | omega | decide)) (my_cwV hts ok_X11_ofTrial w_532 rfl rfl ⟨Nat.le_of_ble_eq_true rfl, Nat.le_of_ble_eq_true rfl⟩) ⟨bP.blind, va_recv hG.1 hP (ci := 10) (q0 := 315) rfl (wl_at (by decide) hmo), fun U hU hW => ⟨rfl, by rw [hU]; exact hP, kG.warm hW hG⟩⟩ rfl rfl hl.1 rfl (lv_room (Nat.le_of_ble_eq_true rfl)) dX11_tries_100 ⟨Nat.le_of_ble_eq_true rfl, Nat.le_of_ble_eq_true rfl⟩) (fun r hr9 => ?_)
        subst hr9
        refine my_bei (v := ss (10 * t + 1551)) (congrArg ss (show 10 * t + 5 + 1546 = 10 * t + 1551 by omega)) ?_
        refine lv_iconst (v := (-1)) hx hb dX11_tries_103 (by decide) ?_
        refine lv_icmp_eq (tgt := 134) hx hb dX11_tries_104 (by decide) (fun c_104 => ?_) (fun c_104 => ?_)
        · refine lv_iconst (v := 0) hx hb dX11_tries_134 (by decide) ?_
          refine lv_istore (lv' := [(11, .int 0), (0, .ref (g 315)), (1, .int (nI t)), (2, .int (nI to)), (6, .int w0), (8, .int (kn ||| bz)), (9, .int u), (10, .int (nI i))]) hx hb dX11_tries_135 hl (by decide) rfl (fun ls hl => ?_)
          refine lv_iload hx hb dX11_tries_137 (lv_at hl 6 rfl) ?_
          refine lv_iload hx hb dX11_tries_139 (lv_at hl 0 rfl) ?_
          refine lv_if_eq (tgt := 153) hx hb dX11_tries_141 (by decide) (fun c_141 => ?_) (fun c_141 => absurd (by decide) c_141)
          refine lv_iconst (v := (-1)) hx hb dX11_tries_153 (by decide) ?_
          refine lv_iand hx hb dX11_tries_154 ?_
          refine my_bei (v := u) (and_m1 u) ?_
          refine lv_istore (lv' := [(9, .int u), (11, .int 0), (0, .ref (g 315)), (1, .int (nI t)), (2, .int (nI to)), (6, .int w0), (8, .int (kn ||| bz)), (10, .int (nI i))]) hx hb dX11_tries_155 hl (by decide) rfl (fun ls hl => ?_)
          refine lv_iinc (v := nI (i + 1)) (lv' := [(10, .int (nI (i + 1))), (9, .int u), (11, .int 0), (0, .ref (g 315)), (1, .int (nI t)), (2, .int (nI to)), (6, .int w0), (8, .int (kn ||| bz))]) hx hb dX11_tries_157 hl (k := 7) rfl (nI_add i 1) (by decide) rfl (fun ls hl => ?_)
          refine lv_goto (tgt := 86) hx hb dX11_tries_160 (by decide) ?_
          exact ih_19 (i + 1) u f_3 _ _ _ (by omega) (by rw [hu, sO_n (q := (fun p => decide (¬ ss (10 * t + 1551) = -1) && decide (¬ (fun i c => ss (4 * i + c + 10)) p 1 = ss (10 * t + 1551)))) (fun z => of_decide_eq_true ((Bool.and_eq_true _ _).mp z).1 c_104)]) (by omega) (hmo) (hss_) (hsp_) (hwi_) (hwa_) (hva_) (hbo_) (hju_) (hdr_) (hdn_) (hsl_) (hax_) (hlf_) (fun j hj => (o_3 j (by omega))) hP hS (lv_sub hl [3, 4, 5, 6, 7, 1, 0] rfl)
        · refine lv_aload_n hx hb dX11_tries_107 rfl (lv_at hl 0 rfl) ?_
          refine va_get (D := G.1) (ci := 10) (v := .ref (g 316)) (C := RX11) (T := TX11) (N := 25) hx hb hts inlX11 hown hG.1 hP 315 (wl_at (by decide) hmo) rfl 0 (by decide) (hts (.fieldLink RX11 7 "SwornListsModel" "st" "[I") w_112) (fun _ h9 => h9) rfl dX11_tries_108 ?_
          refine lv_bipush (v := 10) hx hb dX11_tries_111 (by decide) ?_
          refine lv_iconst (v := 4) hx hb dX11_tries_113 (by decide) ?_
          refine lv_iload hx hb dX11_tries_114 (lv_at hl 6 rfl) ?_
          refine lv_imul hx hb dX11_tries_116 ?_
          refine my_bei (v := nI (4 * i)) (pk_mul 4 i) ?_
          refine lv_iadd hx hb dX11_tries_117 ?_
          refine my_bei (v := nI (4 * i + 10)) ((nI_add 10 (4 * i)).trans (congrArg nI (show 10 + (4 * i) = 4 * i + 10 by omega))) ?_
          refine lv_iconst (v := 1) hx hb dX11_tries_118 (by decide) ?_
          refine lv_iadd hx hb dX11_tries_119 ?_
          refine my_bei (v := nI (4 * i + 11)) ((nI_add (4 * i + 10) 1).trans (congrArg nI (show (4 * i + 10) + 1 = 4 * i + 11 by omega))) ?_
          refine va_iald hx hb hG.1 hP 316 0 (wl_at (by decide) hss_) rfl (vp_in_nI (by omega) (by decide)) dX11_tries_120 ?_
          refine my_bei (v := ss (4 * i + 11)) (congrArg ss (nI_clamp (n := 4 * i + 11) (by omega))) ?_
          refine lv_aload_n hx hb dX11_tries_121 rfl (lv_at hl 0 rfl) ?_
          refine lv_iload_n hx hb dX11_tries_122 rfl (lv_at hl 1 rfl) ?_
          refine lv_iconst (v := 5) hx hb dX11_tries_123 (by decide) ?_
          refine rd_calli (va_runV (As := [.int (nI t), .int 5]) (rest := [.int (ss (4 * i + 11))]) ⟨hx, hb, hml, hown, hts⟩ (r_ofTrial l G g hg f_3 ab2 be2 sn911 wn912 sa913 ly914 rdy (nI fd) ss t 5 hmo hss_ (by first | assumption | omega | decide)) (my_cwV hts ok_X11_ofTrial w_532 rfl rfl ⟨Nat.le_of_ble_eq_true rfl, Nat.le_of_ble_eq_true rfl⟩) ⟨bP.blind, va_recv hG.1 hP (ci := 10) (q0 := 315) rfl (wl_at (by decide) hmo), fun U hU hW => ⟨rfl, by rw [hU]; exact hP, kG.warm hW hG⟩⟩ rfl rfl hl.1 rfl (lv_room (Nat.le_of_ble_eq_true rfl)) dX11_tries_124 ⟨Nat.le_of_ble_eq_true rfl, Nat.le_of_ble_eq_true rfl⟩) (fun r hr9 => ?_)
          subst hr9
          refine my_bei (v := ss (10 * t + 1551)) (congrArg ss (show 10 * t + 5 + 1546 = 10 * t + 1551 by omega)) ?_
          refine lv_icmp_eq (tgt := 134) hx hb dX11_tries_127 (by decide) (fun c_127 => ?_) (fun c_127 => ?_)
          · refine lv_iconst (v := 0) hx hb dX11_tries_134 (by decide) ?_
            refine lv_istore (lv' := [(11, .int 0), (0, .ref (g 315)), (1, .int (nI t)), (2, .int (nI to)), (6, .int w0), (8, .int (kn ||| bz)), (9, .int u), (10, .int (nI i))]) hx hb dX11_tries_135 hl (by decide) rfl (fun ls hl => ?_)
            refine lv_iload hx hb dX11_tries_137 (lv_at hl 6 rfl) ?_
            refine lv_iload hx hb dX11_tries_139 (lv_at hl 0 rfl) ?_
            refine lv_if_eq (tgt := 153) hx hb dX11_tries_141 (by decide) (fun c_141 => ?_) (fun c_141 => absurd (by decide) c_141)
            refine lv_iconst (v := (-1)) hx hb dX11_tries_153 (by decide) ?_
            refine lv_iand hx hb dX11_tries_154 ?_
            refine my_bei (v := u) (and_m1 u) ?_
            refine lv_istore (lv' := [(9, .int u), (11, .int 0), (0, .ref (g 315)), (1, .int (nI t)), (2, .int (nI to)), (6, .int w0), (8, .int (kn ||| bz)), (10, .int (nI i))]) hx hb dX11_tries_155 hl (by decide) rfl (fun ls hl => ?_)
            refine lv_iinc (v := nI (i + 1)) (lv' := [(10, .int (nI (i + 1))), (9, .int u), (11, .int 0), (0, .ref (g 315)), (1, .int (nI t)), (2, .int (nI to)), (6, .int w0), (8, .int (kn ||| bz))]) hx hb dX11_tries_157 hl (k := 7) rfl (nI_add i 1) (by decide) rfl (fun ls hl => ?_)
            refine lv_goto (tgt := 86) hx hb dX11_tries_160 (by decide) ?_
            exact ih_19 (i + 1) u f_3 _ _ _ (by omega) (by rw [hu, sO_n (q := (fun p => decide (¬ ss (10 * t + 1551) = -1) && decide (¬ (fun i c => ss (4 * i + c + 10)) p 1 = ss (10 * t + 1551)))) (fun z => of_decide_eq_true ((Bool.and_eq_true _ _).mp z).2 c_127)]) (by omega) (hmo) (hss_) (hsp_) (hwi_) (hwa_) (hva_) (hbo_) (hju_) (hdr_) (hdn_) (hsl_) (hax_) (hlf_) (fun j hj => (o_3 j (by omega))) hP hS (lv_sub hl [3, 4, 5, 6, 7, 1, 0] rfl)
          · refine lv_iconst (v := 1) hx hb dX11_tries_130 (by decide) ?_
            refine lv_goto (tgt := 135) hx hb dX11_tries_131 (by decide) ?_
            refine lv_istore (lv' := [(11, .int 1), (0, .ref (g 315)), (1, .int (nI t)), (2, .int (nI to)), (6, .int w0), (8, .int (kn ||| bz)), (9, .int u), (10, .int (nI i))]) hx hb dX11_tries_135 hl (by decide) rfl (fun ls hl => ?_)
            refine lv_iload hx hb dX11_tries_137 (lv_at hl 6 rfl) ?_
            refine lv_iload hx hb dX11_tries_139 (lv_at hl 0 rfl) ?_
            refine lv_if_eq (tgt := 153) hx hb dX11_tries_141 (by decide) (fun c_141 => absurd c_141 (by decide)) (fun c_141 => ?_)
            refine lv_iconst (v := 1) hx hb dX11_tries_144 (by decide) ?_
            refine lv_iload hx hb dX11_tries_145 (lv_at hl 7 rfl) ?_
            refine lv_ishl hx hb dX11_tries_147 ?_
            refine lv_iconst (v := (-1)) hx hb dX11_tries_148 (by decide) ?_
            refine lv_ixor hx hb dX11_tries_149 ?_
            refine lv_goto (tgt := 154) hx hb dX11_tries_150 (by decide) ?_
            refine lv_iand hx hb dX11_tries_154 ?_
            refine lv_istore (lv' := [(9, .int (u &&& ((1 <<< ((nI i) &&& 31)) ^^^ (-1)))), (11, .int 1), (0, .ref (g 315)), (1, .int (nI t)), (2, .int (nI to)), (6, .int w0), (8, .int (kn ||| bz)), (10, .int (nI i))]) hx hb dX11_tries_155 hl (by decide) rfl (fun ls hl => ?_)
            refine lv_iinc (v := nI (i + 1)) (lv' := [(10, .int (nI (i + 1))), (9, .int (u &&& ((1 <<< ((nI i) &&& 31)) ^^^ (-1)))), (11, .int 1), (0, .ref (g 315)), (1, .int (nI t)), (2, .int (nI to)), (6, .int w0), (8, .int (kn ||| bz))]) hx hb dX11_tries_157 hl (k := 7) rfl (nI_add i 1) (by decide) rfl (fun ls hl => ?_)
            refine lv_goto (tgt := 86) hx hb dX11_tries_160 (by decide) ?_
            exact ih_19 (i + 1) (u &&& ((1 <<< ((nI i) &&& 31)) ^^^ (-1))) f_3 _ _ _ (by omega) (by rw [hu, sO_y (q := (fun p => decide (¬ ss (10 * t + 1551) = -1) && decide (¬ (fun i c => ss (4 * i + c + 10)) p 1 = ss (10 * t + 1551)))) ((Bool.and_eq_true _ _).mpr ⟨decide_eq_true c_104, decide_eq_true c_127⟩)]; exact nor_and) (by omega) (hmo) (hss_) (hsp_) (hwi_) (hwa_) (hva_) (hbo_) (hju_) (hdr_) (hdn_) (hsl_) (hax_) (hlf_) (fun j hj => (o_3 j (by omega))) hP hS (lv_sub hl [3, 4, 5, 6, 7, 1, 0] rfl)
  exact key19 (np + 1) 0 (((rl &&& w0) &&& (w1 ^^^ (-1))) &&& ((kn ||| bz) ^^^ (-1))) f_2 _ _ _ (Nat.zero_le _) (and_n0) (by omega) (hmo) (hss_) (hsp_) (hwi_) (hwa_) (hva_) (hbo_) (hju_) (hdr_) (hdn_) (hsl_) (hax_) (hlf_) (fun j _ => rfl) hP hS (lv_sub hl [6, 7, 8, 4, 2, 1, 0] rfl)
set_option maxHeartbeats 4000000 in
set_option maxRecDepth 100000 in
theorem r_triesX1 (l : Launch) (G : gW) (g : Nat → Nat) (hg : gOK g) (f : Nat → va_E) (ab2 : Int64) (be2 : Int64) (sn : Int32) (wn : Int32) (sa : Int32) (ly : Int32) (rdy : Int32) (fd : Nat) (ss : Nat → Int32) (np : Nat) (nf : Nat) (nr : Nat) (na : Nat) (nt : Nat) (sp : Nat → Int32) (wi : Nat → Int32) (wa : Nat → Int32) (va : Nat → Int64) (bo : Nat → Int32) (ju : Nat → Int32) (dr : Nat → Int32) (dn : Nat → Int32) (sl : Nat → Int32) (ax : Nat → Int32) (lf : Nat → Int32) (t : Nat) (to : Nat) (sq : Nat) (q4 : Nat) (ks : Nat) (fit : Int32) (box : Int32) (xt : Nat) (l9 : Nat) (hmo : f 315 = eO 10 [.ref (g 316), .ref (g 317), .ref (g 318), .long ab2, .long be2, .int sn, .ref (g 319), .ref (g 320), .int wn, .ref (g 321), .ref (g 322), .int sa, .int ly, .int rdy, .int (nI fd), .ref (g 323), .ref (g 324), .ref (g 325), .ref (g 326), .ref (g 327), .ref (g 328), .ref (g 329), .ref (g 330), .ref (g 331), .ref (g 332)]) (hss_ : f 316 = eI G 2246 ss) (hsp_ : f 319 = eI G 70 sp) (hwi_ : f 320 = eI G 70 wi) (hwa_ : f 321 = eI G 70 wa) (hva_ : f 322 = eJ G 70 va) (hbo_ : f 323 = eI G 11 bo) (hju_ : f 324 = eI G 11 ju) (hdr_ : f 325 = eI G 264 dr) (hdn_ : f 326 = eI G 11 dn) (hsl_ : f 327 = eI G 330 sl) (hax_ : f 328 = eI G 44 ax) (hlf_ : f 329 = eI G 30 lf) (hst : stOK ss np nf nr na nt) (hfo : fd ≤ 10) (ht0 : t < nt) (hto : to < 11) (hdn : ∀ k, k < 11 → ∃ d, d ≤ 24 ∧ dn k = nI d) (hsq : sq ≤ 24) (hss : ss (10 * t + 1554) = nI sq) (hq4 : q4 ≤ 4) (hs4 : ss (10 * t + 1552) = nI q4) (hk2 : ss (10 * t + 1548) = nI ks) (hks : ks ≤ 8) (hs1 : ∀ o, o < t → ¬ ss (10 * t + 1546) + ss (10 * t + 1547) ≤ ss (10 * o + 1546)) (hs2 : ∀ o, o < t → (ss (10 * o + 1546) + ss (10 * o + 1547) ≤ ss (10 * t + 1546) ↔ ¬ ss (10 * t + 1546) ≤ ss (10 * o + 1546) + ss (10 * o + 1547) - 1)) (hfit : fitT np nf (fun i c => ss (4 * i + c + 10)) (fun i c => ss (3 * i + c + 130)) (fun t c => ss (10 * t + c + 1546)) ju fd t ((fcB (fun i c => ss (54 * i + c + 466)) 0 (ss (10 * t + 1546)) na).map (rL ss)) = fit) (hbox : boxT np nf nr (fun i c => ss (4 * i + c + 10)) (fun i c => ss (3 * i + c + 130)) (fun i c => ss (3 * i + c + 250)) (fun t c => ss (10 * t + c + 1546)) ju fd t ((fcB (fun i c => ss (54 * i + c + 466)) 0 (ss (10 * t + 1546)) na).map (rL ss)) (some (rdO l9 (fun k => ss (51 * xt + 262 + k + 1)))) = box) (hdy : ∀ o, o < fd → 0 ≤ (fun t c => ss (10 * t + c + 1546)) o 0) (hmo2 : ∀ o o', o ≤ o' → o' < fd → (fun t c => ss (10 * t + c + 1546)) o 0 ≤ (fun t c => ss (10 * t + c + 1546)) o' 0) (hxt : xt < 4) (hl8 : ss (51 * xt + 262) = nI l9) (hl9 : l9 ≤ 50) (hl7 : rdA l9 (fun k => ss (51 * xt + 262 + k + 1)) = -1) : Met l yX11_tries (wsT yX11_tries cX11_tries 13 none) ({ frames := 5, cells := 0, slots := 0, locals := 120 }) (bP G g f [.ref (g 315), .int (nI t), .int (nI to), .int (nI xt), .int 1]) (bQv G g (fun (f' : Nat → va_E) => ∃ sn9 : Int32, ∃ wn9 : Int32, ∃ sa9 : Int32, ∃ ly9 : Int32, ∃ sp9 : Nat → Int32, ∃ wi9 : Nat → Int32, ∃ wa9 : Nat → Int32, ∃ va9 : Nat → Int64, ∃ bo9 : Nat → Int32, ∃ ju9 : Nat → Int32, ∃ dr9 : Nat → Int32, ∃ dn9 : Nat → Int32, ∃ sl9 : Nat → Int32, ∃ ax9 : Nat → Int32, ∃ lf9 : Nat → Int32, f' 315 = eO 10 [.ref (g 316), .ref (g 317), .ref (g 318), .long ab2, .long be2, .int sn9, .ref (g 319), .ref (g 320), .int wn9, .ref (g 321), .ref (g 322), .int sa9, .int ly9, .int rdy, .int (nI fd), .ref (g 323), .ref (g 324), .ref (g 325), .ref (g 326), .ref (g 327), .ref (g 328), .ref (g 329), .ref (g 330), .ref (g 331), .ref (g 332)] ∧ f' 319 = eI G 70 sp9 ∧ f' 320 = eI G 70 wi9 ∧ f' 321 = eI G 70 wa9 ∧ f' 322 = eJ G 70 va9 ∧ f' 323 = eI G 11 bo9 ∧ f' 324 = eI G 11 ju9 ∧ f' 325 = eI G 264 dr9 ∧ f' 326 = eI G 11 dn9 ∧ f' 327 = eI G 330 sl9 ∧ f' 328 = eI G 44 ax9 ∧ f' 329 = eI G 30 lf9 ∧ (rQ bo9 ju9 dr9 dn9 sl9 ax9 to box (pasV fit box) (kS ss t)) ∧ (∀ k, k < 11 → ∃ d, d ≤ 24 ∧ dn9 k = nI d) ∧ (∀ k, k ≠ to → bo9 k = bo k ∧ ju9 k = ju k ∧ dn9 k = dn k) ∧ (∀ k, (k < 24 * to ∨ 24 * to + 24 ≤ k) → dr9 k = dr k) ∧ (∀ k, (k < 30 * to ∨ 30 + 30 * to ≤ k) → sl9 k = sl k) ∧ (∀ k, (k < 4 * to ∨ 4 * to + 4 ≤ k) → ax9 k = ax k) ∧ ∀ j, (j < 315 ∨ (316 ≤ j ∧ j ≤ 318) ∨ 330 ≤ j) → f' j = f j)) 0 0 (gA g) := by
  refine Met.ofW (cc := cX11_tries) (maxL := 13) (ret := none) (by decide) rfl ?_
  intro p e s m args below meth c s₁ B hml hv
  obtain ⟨rfl, hP, hG⟩ := hv
  have hx := B.exec
  have hb := B.bytes
  have hr := B.returns
  have hts := my_hts (atoms_spec (ws := wsT yX11_tries cX11_tries 13 none) B.pre)
  have hown : s.vm.findClass RX11 = some m.cls := findClass_of_methodNamed B.named
  have hlocks := B.notSynchronized
  have hS : va_S (gA g) s.heap s.heap [] := va_S.rf
  have hl := lv_entry ([.ref (g 315), .int (nI t), .int (nI to), .int (nI xt), .int 1]) (n := 13) (Nat.le_of_ble_eq_true rfl)
  rw [lg_entry_eq]
  generalize (lg_sl ([.ref (g 315), .int (nI t), .int (nI to), .int (nI xt), .int 1]) ++ List.replicate (13 - (lg_sl ([.ref (g 315), .int (nI t), .int (nI to), .int (nI xt), .int 1])).length) Slot.unset).toArray = ls at hl ⊢
  have hl : lv_has ls 13 [(0, .ref (g 315)), (1, .int (nI t)), (2, .int (nI to)), (3, .int (nI xt)), (4, .int 1)] := hl
  refine W_q8 (fun Q9 hQ9 => ?_)
  have hc0 := hst.c0
  have hc1 := hst.c1
  have hc2 := hst.c2
  have hc3 := hst.c3
  have hc4 := hst.c4
  refine lv_aload_n hx hb dX11_tries_0 rfl (lv_at hl 0 rfl) ?_
  refine lv_iload_n hx hb dX11_tries_1 rfl (lv_at hl 1 rfl) ?_
  refine lv_iconst (v := 0) hx hb dX11_tries_2 (by decide) ?_
  refine rd_calli (va_runV (As := [.int (nI t), .int 0]) (rest := []) ⟨hx, hb, hml, hown, hts⟩ (r_ofTrial l G g hg f ab2 be2 sn wn sa ly rdy (nI fd) ss t 0 hmo hss_ (by first | assumption | omega | decide)) (my_cwV hts ok_X11_ofTrial w_532 rfl rfl ⟨Nat.le_of_ble_eq_true rfl, Nat.le_of_ble_eq_true rfl⟩) ⟨bP.blind, va_recv hG.1 hP (ci := 10) (q0 := 315) rfl (wl_at (by decide) hmo), fun U hU hW => ⟨rfl, by rw [hU]; exact hP, kG.warm hW hG⟩⟩ rfl rfl hl.1 rfl (lv_room (Nat.le_of_ble_eq_true rfl)) dX11_tries_3 ⟨Nat.le_of_ble_eq_true rfl, Nat.le_of_ble_eq_true rfl⟩) (fun r hr9 => ?_)
  subst hr9
  refine my_bei (v := ss (10 * t + 1546)) (congrArg ss (show 10 * t + 0 + 1546 = 10 * t + 1546 by omega)) ?_
  refine lv_istore (lv' := [(5, .int (ss (10 * t + 1546))), (0, .ref (g 315)), (1, .int (nI t)), (2, .int (nI to)), (3, .int (nI xt)), (4, .int 1)]) hx hb dX11_tries_6 hl (by decide) rfl (fun ls hl => ?_)
  refine lv_aload_n hx hb dX11_tries_8 rfl (lv_at hl 1 rfl) ?_
  refine lv_iconst (v := 0) hx hb dX11_tries_9 (by decide) ?_
  refine lv_iload hx hb dX11_tries_10 (lv_at hl 0 rfl) ?_
  refine lv_iload hx hb dX11_tries_12 (lv_at hl 5 rfl) ?_
  refine lv_if_ne (tgt := 21) hx hb dX11_tries_14 (by decide) (fun c_14 => ?_) (fun c_14 => absurd c_14 (by decide))
  refine lv_iconst (v := (-1)) hx hb dX11_tries_21 (by decide) ?_
  obtain ⟨w0, hw0⟩ : ∃ w, whV np (nvF (fun i c => ss (4 * i + c + 10)) (fun t c => ss (10 * t + c + 1546)) ju (ss (10 * t + 1546)) fd) ((1 <<< (nI np &&& 31)) - 1) ((fcB (fun i c => ss (54 * i + c + 466)) 0 (ss (10 * t + 1546)) na).map (rL ss)) = w := ⟨_, rfl⟩
  refine b_calli (va_runV (As := [.int 0, .int (ss (10 * t + 1546)), .int (-1)]) (rest := []) ⟨hx, hb, hml, hown, hts⟩ (r_whomE0 l G g hg f ab2 be2 sn wn sa ly rdy fd ss np nf nr na nt sp wi wa va ju (ss (10 * t + 1546)) hmo hss_ hsp_ hwi_ hwa_ hva_ hju_ (by first | assumption | omega | decide) (by first | assumption | omega | decide) (by first | assumption | omega | decide) (by first | assumption | omega | decide)) (my_cwV hts ok_X11_whom w_536 rfl rfl ⟨Nat.le_of_ble_eq_true rfl, Nat.le_of_ble_eq_true rfl⟩) ⟨bP.blind, va_recv hG.1 hP (ci := 10) (q0 := 315) rfl (wl_at (by decide) hmo), fun U hU hW => ⟨rfl, by rw [hU]; exact hP, kG.warm hW hG⟩⟩ rfl rfl hl.1 rfl (lv_room (Nat.le_of_ble_eq_true rfl)) dX11_tries_22 ⟨Nat.le_of_ble_eq_true rfl, Nat.le_of_ble_eq_true rfl⟩) hS (fun v1 f_1 H locs hq9 hP hS => ?_)
  obtain ⟨sn92, wn93, sa94, ly95, sp96, wi97, wa98, va99, rfl, hq_1_0, hq_1_1, hq_1_2, hq_1_3, hq_1_4, o_1⟩ := hq9
  have hmo : f_1 315 = eO 10 [.ref (g 316), .ref (g 317), .ref (g 318), .long ab2, .long be2, .int sn92, .ref (g 319), .ref (g 320), .int wn93, .ref (g 321), .ref (g 322), .int sa94, .int ly95, .int rdy, .int (nI fd), .ref (g 323), .ref (g 324), .ref (g 325), .ref (g 326), .ref (g 327), .ref (g 328), .ref (g 329), .ref (g 330), .ref (g 331), .ref (g 332)] := hq_1_0
  have hsp_ : f_1 319 = eI G 70 sp96 := hq_1_1
  have hwi_ : f_1 320 = eI G 70 wi97 := hq_1_2
  have hwa_ : f_1 321 = eI G 70 wa98 := hq_1_3
  have hva_ : f_1 322 = eJ G 70 va99 := hq_1_4
  refine my_bei (v := w0) (hw0) ?_
  refine lv_istore (lv' := [(6, .int w0), (5, .int (ss (10 * t + 1546))), (0, .ref (g 315)), (1, .int (nI t)), (2, .int (nI to)), (3, .int (nI xt)), (4, .int 1)]) hx hb dX11_tries_25 hl (by decide) rfl (fun ls hl => ?_)
  refine lv_aload_n hx hb dX11_tries_27 rfl (lv_at hl 2 rfl) ?_
  refine lv_iconst (v := 1) hx hb dX11_tries_28 (by decide) ?_
  refine lv_iload hx hb dX11_tries_29 (lv_at hl 1 rfl) ?_
  refine lv_iload hx hb dX11_tries_31 (lv_at hl 6 rfl) ?_
  refine lv_iconst (v := 1) hx hb dX11_tries_33 (by decide) ?_
  refine lv_icmp_ne (tgt := 41) hx hb dX11_tries_34 (by decide) (fun c_34 => absurd (by decide) c_34) (fun c_34 => ?_)
  refine lv_iload_n hx hb dX11_tries_37 rfl (lv_at hl 5 rfl) ?_
  refine lv_goto (tgt := 42) hx hb dX11_tries_38 (by decide) ?_
  obtain ⟨w1, hw1⟩ : ∃ w, whV np (nvF (fun i c => ss (4 * i + c + 10)) (fun t c => ss (10 * t + c + 1546)) ju (ss (10 * t + 1546)) fd) 0 (some (rdO l9 (fun k => ss (51 * xt + 262 + k + 1)))) = w := ⟨_, rfl⟩
  replace hss_ := ((o_1 316 (by first | decide | omega))).trans hss_
  replace hju_ := ((o_1 324 (by first | decide | omega))).trans hju_
  refine b_calli (va_runV (As := [.int 1, .int (ss (10 * t + 1546)), .int (nI xt)]) (rest := []) ⟨hx, hb, hml, hown, hts⟩ (r_whomX1 l G g hg f_1 ab2 be2 sn92 wn93 sa94 ly95 rdy fd ss np nf nr na nt sp96 wi97 wa98 va99 ju (ss (10 * t + 1546)) xt l9 hmo hss_ hsp_ hwi_ hwa_ hva_ hju_ (by first | assumption | omega | decide) (by first | assumption | omega | decide) (by first | assumption | omega | decide) (by first | assumption | omega | decide) (by first | assumption | omega | decide) (by first | assumption | omega | decide) (by first | assumption | omega | decide) (by first | assumption | omega | decide)) (my_cwV hts ok_X11_whom w_536 rfl rfl ⟨Nat.le_of_ble_eq_true rfl, Nat.le_of_ble_eq_true rfl⟩) ⟨bP.blind, va_recv hG.1 hP (ci := 10) (q0 := 315) rfl (wl_at (by decide) hmo), fun U hU hW => ⟨rfl, by rw [hU]; exact hP, kG.warm hW hG⟩⟩ rfl rfl hl.1 rfl (lv_room (Nat.le_of_ble_eq_true rfl)) dX11_tries_42 ⟨Nat.le_of_ble_eq_true rfl, Nat.le_of_ble_eq_true rfl⟩) hS (fun v10 f_2 H locs hq9 hP hS => ?_)
  obtain ⟨sn911, wn912, sa913, ly914, sp915, wi916, wa917, va918, rfl, hq_2_0, hq_2_1, hq_2_2, hq_2_3, hq_2_4, o_2⟩ := hq9
  have hmo : f_2 315 = eO 10 [.ref (g 316), .ref (g 317), .ref (g 318), .long ab2, .long be2, .int sn911, .ref (g 319), .ref (g 320), .int wn912, .ref (g 321), .ref (g 322), .int sa913, .int ly914, .int rdy, .int (nI fd), .ref (g 323), .ref (g 324), .ref (g 325), .ref (g 326), .ref (g 327), .ref (g 328), .ref (g 329), .ref (g 330), .ref (g 331), .ref (g 332)] := hq_2_0
  have hsp_ : f_2 319 = eI G 70 sp915 := hq_2_1
  have hwi_ : f_2 320 = eI G 70 wi916 := hq_2_2
  have hwa_ : f_2 321 = eI G 70 wa917 := hq_2_3
  have hva_ : f_2 322 = eJ G 70 va918 := hq_2_4
  refine my_bei (v := w1) (hw1) ?_
  refine lv_istore (lv' := [(7, .int w1), (6, .int w0), (5, .int (ss (10 * t + 1546))), (0, .ref (g 315)), (1, .int (nI t)), (2, .int (nI to)), (3, .int (nI xt)), (4, .int 1)]) hx hb dX11_tries_45 hl (by decide) rfl (fun ls hl => ?_)
  refine lv_aload_n hx hb dX11_tries_47 rfl (lv_at hl 3 rfl) ?_
  refine lv_iload_n hx hb dX11_tries_48 rfl (lv_at hl 4 rfl) ?_
  refine lv_iload hx hb dX11_tries_49 (lv_at hl 2 rfl) ?_
  obtain ⟨kn, hkn⟩ : ∃ w, knV (fun i c => ss (3 * i + c + 130)) (ss (10 * t + 1549)) (ss (10 * t + 1550)) (ss (10 * t + 1546)) nf = w := ⟨_, rfl⟩
  replace hss_ := ((o_2 316 (by first | decide | omega))).trans hss_
  refine rd_calli (va_runV (As := [.int (nI t), .int (ss (10 * t + 1546))]) (rest := []) ⟨hx, hb, hml, hown, hts⟩ (r_kinOfE l G g hg f_2 ab2 be2 sn911 wn912 sa913 ly914 rdy (nI fd) ss np nf nr na nt t (ss (10 * t + 1546)) hmo hss_ (by first | assumption | omega | decide) (by first | assumption | omega | decide)) (my_cwV hts ok_X11_kinOf w_562 rfl rfl ⟨Nat.le_of_ble_eq_true rfl, Nat.le_of_ble_eq_true rfl⟩) ⟨bP.blind, va_recv hG.1 hP (ci := 10) (q0 := 315) rfl (wl_at (by decide) hmo), fun U hU hW => ⟨rfl, by rw [hU]; exact hP, kG.warm hW hG⟩⟩ rfl rfl hl.1 rfl (lv_room (Nat.le_of_ble_eq_true rfl)) dX11_tries_51 ⟨Nat.le_of_ble_eq_true rfl, Nat.le_of_ble_eq_true rfl⟩) (fun r hr9 => ?_)
  subst hr9
  refine my_bei (v := kn) (hkn) ?_
  refine lv_aload_n hx hb dX11_tries_54 rfl (lv_at hl 3 rfl) ?_
  refine lv_iload_n hx hb dX11_tries_55 rfl (lv_at hl 4 rfl) ?_
  obtain ⟨bz, hbz⟩ : ∃ w, bzV (fun t c => ss (10 * t + c + 1546)) ju t t = w := ⟨_, rfl⟩
  replace hju_ := ((o_2 324 (by first | decide | omega))).trans hju_
  refine rd_calli (va_runV (As := [.int (nI t)]) (rest := [.int kn]) ⟨hx, hb, hml, hown, hts⟩ (r_sittingE l G g hg f_2 ab2 be2 sn911 wn912 sa913 ly914 rdy (nI fd) ss ju t hmo hss_ hju_ (by first | assumption | omega | decide) (by first | assumption | omega | decide) (by first | assumption | omega | decide)) (my_cwV hts ok_X11_sitting w_566 rfl rfl ⟨Nat.le_of_ble_eq_true rfl, Nat.le_of_ble_eq_true rfl⟩) ⟨bP.blind, va_recv hG.1 hP (ci := 10) (q0 := 315) rfl (wl_at (by decide) hmo), fun U hU hW => ⟨rfl, by rw [hU]; exact hP, kG.warm hW hG⟩⟩ rfl rfl hl.1 rfl (lv_room (Nat.le_of_ble_eq_true rfl)) dX11_tries_56 ⟨Nat.le_of_ble_eq_true rfl, Nat.le_of_ble_eq_true rfl⟩) (fun r hr9 => ?_)
  subst hr9
  refine my_bei (v := bz) (hbz) ?_
  refine lv_ior hx hb dX11_tries_59 ?_
  refine lv_istore (lv' := [(8, .int (kn ||| bz)), (7, .int w1), (6, .int w0), (5, .int (ss (10 * t + 1546))), (0, .ref (g 315)), (1, .int (nI t)), (2, .int (nI to)), (3, .int (nI xt)), (4, .int 1)]) hx hb dX11_tries_60 hl (by decide) rfl (fun ls hl => ?_)
  refine lv_aload_n hx hb dX11_tries_62 rfl (lv_at hl 4 rfl) ?_
  refine lv_iload hx hb dX11_tries_63 (lv_at hl 3 rfl) ?_
  obtain ⟨rl, hrl⟩ : ∃ w, rlV np nr (fun i c => ss (3 * i + c + 250)) (ss (10 * t + 1546)) = w := ⟨_, rfl⟩
  refine rd_calli (va_runV (As := [.int (ss (10 * t + 1546))]) (rest := []) ⟨hx, hb, hml, hown, hts⟩ (r_theRollE l G g hg f_2 ab2 be2 sn911 wn912 sa913 ly914 rdy (nI fd) ss np nf nr na nt (ss (10 * t + 1546)) hmo hss_ (by first | assumption | omega | decide)) (my_cwV hts ok_X11_theRoll w_234 rfl rfl ⟨Nat.le_of_ble_eq_true rfl, Nat.le_of_ble_eq_true rfl⟩) ⟨bP.blind, va_recv hG.1 hP (ci := 10) (q0 := 315) rfl (wl_at (by decide) hmo), fun U hU hW => ⟨rfl, by rw [hU]; exact hP, kG.warm hW hG⟩⟩ rfl rfl hl.1 rfl (lv_room (Nat.le_of_ble_eq_true rfl)) dX11_tries_65 ⟨Nat.le_of_ble_eq_true rfl, Nat.le_of_ble_eq_true rfl⟩) (fun r hr9 => ?_)
  subst hr9
  refine my_bei (v := rl) (hrl) ?_
  refine lv_iload hx hb dX11_tries_68 (lv_at hl 2 rfl) ?_
  refine lv_iand hx hb dX11_tries_70 ?_
  refine lv_iload hx hb dX11_tries_71 (lv_at hl 1 rfl) ?_
  refine lv_iconst (v := (-1)) hx hb dX11_tries_73 (by decide) ?_
  refine lv_ixor hx hb dX11_tries_74 ?_
  refine lv_iand hx hb dX11_tries_75 ?_
  refine lv_iload hx hb dX11_tries_76 (lv_at hl 0 rfl) ?_
  refine lv_iconst (v := (-1)) hx hb dX11_tries_78 (by decide) ?_
  refine lv_ixor hx hb dX11_tries_79 ?_
  refine lv_iand hx hb dX11_tries_80 ?_
  refine lv_istore (lv' := [(9, .int (((rl &&& w0) &&& (w1 ^^^ (-1))) &&& ((kn ||| bz) ^^^ (-1)))), (8, .int (kn ||| bz)), (7, .int w1), (6, .int w0), (5, .int (ss (10 * t + 1546))), (0, .ref (g 315)), (1, .int (nI t)), (2, .int (nI to)), (3, .int (nI xt)), (4, .int 1)]) hx hb dX11_tries_81 hl (by decide) rfl (fun ls hl => ?_)
  refine lv_iconst (v := 0) hx hb dX11_tries_83 (by decide) ?_
  refine lv_istore (lv' := [(10, .int 0), (9, .int (((rl &&& w0) &&& (w1 ^^^ (-1))) &&& ((kn ||| bz) ^^^ (-1)))), (8, .int (kn ||| bz)), (7, .int w1), (6, .int w0), (5, .int (ss (10 * t + 1546))), (0, .ref (g 315)), (1, .int (nI t)), (2, .int (nI to)), (3, .int (nI xt)), (4, .int 1)]) hx hb dX11_tries_84 hl (by decide) rfl (fun ls hl => ?_)
  replace hbo_ := ((o_2 323 (by first | decide | omega)).trans ((o_1 323 (by first | decide | omega)))).trans hbo_
  replace hdr_ := ((o_2 325 (by first | decide | omega)).trans ((o_1 325 (by first | decide | omega)))).trans hdr_
  replace hdn_ := ((o_2 326 (by first | decide | omega)).trans ((o_1 326 (by first | decide | omega)))).trans hdn_
  replace hsl_ := ((o_2 327 (by first | decide | omega)).trans ((o_1 327 (by first | decide | omega)))).trans hsl_
  replace hax_ := ((o_2 328 (by first | decide | omega)).trans ((o_1 328 (by first | decide | omega)))).trans hax_
  replace hlf_ := ((o_2 329 (by first | decide | omega)).trans ((o_1 329 (by first | decide | omega)))).trans hlf_
  have key19 : ∀ (n9_19 : Nat) (i : Nat) (u : Int32) (f_3 : Nat → va_E) (H : Heap) (locs : List Loc) (ls : Array Slot), (i ≤ np) → (u = (((rl &&& w0) &&& (w1 ^^^ (-1))) &&& ((kn ||| bz) ^^^ (-1))) &&& (sO (fun p => decide (¬ ss (10 * t + 1551) = -1) && decide (¬ (fun i c => ss (4 * i + c + 10)) p 1 = ss (10 * t + 1551))) i ^^^ (-1))) → np - i < n9_19 → f_3 315 = eO 10 [.ref (g 316), .ref (g 317), .ref (g 318), .long ab2, .long be2, .int sn911, .ref (g 319), .ref (g 320), .int wn912, .ref (g 321), .ref (g 322), .int sa913, .int ly914, .int rdy, .int (nI fd), .ref (g 323), .ref (g 324), .ref (g 325), .ref (g 326), .ref (g 327), .ref (g 328), .ref (g 329), .ref (g 330), .ref (g 331), .ref (g 332)] → f_3 316 = eI G 2246 ss → f_3 319 = eI G 70 sp915 → f_3 320 = eI G 70 wi916 → f_3 321 = eI G 70 wa917 → f_3 322 = eJ G 70 va918 → f_3 323 = eI G 11 bo → f_3 324 = eI G 11 ju → f_3 325 = eI G 264 dr → f_3 326 = eI G 11 dn → f_3 327 = eI G 330 sl → f_3 328 = eI G 44 ax → f_3 329 = eI G 30 lf → (∀ j, (j < 333 ∨ 333 ≤ j) → f_3 j = f_2 j) → va_P G.1 vwCl (wl g f_3) H → va_S (gA g) s.heap H locs → lv_has ls 13 [(0, .ref (g 315)), (1, .int (nI t)), (2, .int (nI to)), (6, .int w0), (8, .int (kn ||| bz)), (9, .int u), (10, .int (nI i))] → W p l e (headSpec (wsT yX11_tries cX11_tries 13 none) ({ frames := 5, cells := 0, slots := 0, locals := 120 })).room s m ([.ref (g 315), .int (nI t), .int (nI to), .int (nI xt), .int 1] : List Value).toArray below meth c H locs 0 0 Q9 (F0 m 86 ls []) := by
    intro n9_19
    induction n9_19 with
    | zero => intro i u f_3 H locs ls hi hu hn9_19; exact absurd hn9_19 (Nat.not_lt_zero _)
    | succ n9_19 ih_19 =>
      intro i u f_3 H locs ls hi hu hn9_19 hmo hss_ hsp_ hwi_ hwa_ hva_ hbo_ hju_ hdr_ hdn_ hsl_ hax_ hlf_ o_3 hP hS hl
      refine lv_iload hx hb dX11_tries_86 (lv_at hl 6 rfl) ?_
      refine lv_aload_n hx hb dX11_tries_88 rfl (lv_at hl 0 rfl) ?_
      refine va_get (D := G.1) (ci := 10) (v := .ref (g 316)) (C := RX11) (T := TX11) (N := 25) hx hb hts inlX11 hown hG.1 hP 315 (wl_at (by decide) hmo) rfl 0 (by decide) (hts (.fieldLink RX11 7 "SwornListsModel" "st" "[I") w_112) (fun _ h9 => h9) rfl dX11_tries_89 ?_
      refine lv_iconst (v := 0) hx hb dX11_tries_92 (by decide) ?_
      refine va_iald hx hb hG.1 hP 316 0 (wl_at (by decide) hss_) rfl (by unfold vp_in; decide) dX11_tries_93 ?_
      refine my_bei (v := ss 0) (rfl) ?_
      refine my_bei (v := nI np) (hst.h0) ?_
      refine lv_icmp_ge (tgt := 163) hx hb dX11_tries_94 (by decide) (fun c_94 => ?_) (fun c_94 => ?_)
      · have k_94 : np ≤ i := (nI_leI (a := np) (b := i) (by omega) (by omega)).mp c_94
        have hfw : w0 &&& ((kn ||| bz) ^^^ (-1)) = fit := by rw [← hw0, ← hkn, ← hbz]; exact (fit_ref hst.c0).trans hfit
        have hub : box = u := by
          rw [← hbox]
          unfold boxT
          rw [hfit, hu, show i = np by omega, ← hrl, ← hw0, ← hw1, ← hkn, ← hbz]
          exact (box_ref hst.c0 hfit rfl).symm
        subst hub
        refine lv_aload_n hx hb dX11_tries_163 rfl (lv_at hl 0 rfl) ?_
        refine va_get (D := G.1) (ci := 10) (v := .ref (g 323)) (C := RX11) (T := TX11) (N := 25) hx hb hts inlX11 hown hG.1 hP 315 (wl_at (by decide) hmo) rfl 15 (by decide) (hts (.fieldLink RX11 33 "SwornListsModel" "boxes" "[I") w_119) (fun _ h9 => h9) rfl dX11_tries_164 ?_
        refine lv_iload_n hx hb dX11_tries_167 rfl (lv_at hl 2 rfl) ?_
        refine lv_iload hx hb dX11_tries_168 (lv_at hl 5 rfl) ?_
        refine va_iast hx hb hG.1 hP (wl_D hg f_3) hS 323 0 (wl_at (by decide) hbo_) rfl (vp_in_nI (by omega) (by decide)) dX11_tries_170 (fun H locs hP _ hS => ?_)
        have hP := (congrArg (fun z9 => va_P G.1 vwCl ((wl g f_3).set 323 (g 323, eI G 11 ((upd bo z9 box)))) H) (show Int32.toNatClampNeg (nI to) = to from nI_clamp (by omega))).mp hP
        obtain ⟨f_4, hP, e_4, o_4⟩ := b_put (by decide) hP
        have hbo_ : f_4 323 = eI G 11 (upd bo to box) := e_4
        refine lv_aload_n hx hb dX11_tries_171 rfl (lv_at hl 0 rfl) ?_
        refine lv_iload_n hx hb dX11_tries_172 rfl (lv_at hl 1 rfl) ?_
        refine lv_iload_n hx hb dX11_tries_173 rfl (lv_at hl 2 rfl) ?_
        replace hmo := ((o_4 315 (by decide))).trans hmo
        replace hss_ := ((o_4 316 (by decide))).trans hss_
        replace hdr_ := ((o_4 325 (by decide))).trans hdr_
        replace hdn_ := ((o_4 326 (by decide))).trans hdn_
        replace hax_ := ((o_4 328 (by decide))).trans hax_
        replace hlf_ := ((o_4 329 (by decide))).trans hlf_
        refine b_callv (va_runV (As := [.int (nI t), .int (nI to)]) (rest := []) ⟨hx, hb, hml, hown, hts⟩ (r_drawsE l G g hg f_4 ab2 be2 sn911 wn912 sa913 ly914 rdy (nI fd) ss np nf nr na nt (upd bo to box) dr dn ax lf t to sq box hmo hss_ hbo_ hdr_ hdn_ hax_ hlf_ (by first | assumption | omega | decide) (by first | assumption | omega | decide) (by first | assumption | omega | decide) (pk_us) (hsq) (hss)) (my_cwV hts ok_X11_draws w_570 rfl rfl ⟨Nat.le_of_ble_eq_true rfl, Nat.le_of_ble_eq_true rfl⟩) ⟨bP.blind, va_recv hG.1 hP (ci := 10) (q0 := 315) rfl (wl_at (by decide) hmo), fun U hU hW => ⟨rfl, by rw [hU]; exact hP, kG.warm hW hG⟩⟩ rfl rfl hl.1 rfl (lv_room (Nat.le_of_ble_eq_true rfl)) dX11_tries_174 ⟨Nat.le_of_ble_eq_true rfl, Nat.le_of_ble_eq_true rfl⟩) hS (fun f_5 H locs hq9 hP hS => ?_)
        obtain ⟨dr920, dn921, ax922, lf923, hq_5_0, hq_5_1, hq_5_2, hq_5_3, hx_5_0, hx_5_1, hx_5_2, hx_5_3, hx_5_4, hx_5_5, o_5⟩ := hq9
        have hdr_ : f_5 325 = eI G 264 dr920 := hq_5_0
        have hdn_ : f_5 326 = eI G 11 dn921 := hq_5_1
        have hax_ : f_5 328 = eI G 44 ax922 := hq_5_2
        have hlf_ : f_5 329 = eI G 30 lf923 := hq_5_3
        refine lv_iconst (v := 0) hx hb dX11_tries_177 (by decide) ?_
        refine lv_istore (lv' := [(10, .int 0), (0, .ref (g 315)), (1, .int (nI t)), (2, .int (nI to)), (6, .int w0), (8, .int (kn ||| bz)), (9, .int box)]) hx hb dX11_tries_178 hl (by decide) rfl (fun ls hl => ?_)
        replace hmo := ((o_5 315 (by first | decide | omega))).trans hmo
        replace hss_ := ((o_5 316 (by first | decide | omega))).trans hss_
        replace hsp_ := ((o_5 319 (by first | decide | omega)).trans ((o_4 319 (by decide)))).trans hsp_
        replace hwi_ := ((o_5 320 (by first | decide | omega)).trans ((o_4 320 (by decide)))).trans hwi_
        replace hwa_ := ((o_5 321 (by first | decide | omega)).trans ((o_4 321 (by decide)))).trans hwa_
        replace hva_ := ((o_5 322 (by first | decide | omega)).trans ((o_4 322 (by decide)))).trans hva_
        replace hbo_ := ((o_5 323 (by first | decide | omega))).trans hbo_
        replace hju_ := ((o_5 324 (by first | decide | omega)).trans ((o_4 324 (by decide)))).trans hju_
        replace hsl_ := ((o_5 327 (by first | decide | omega)).trans ((o_4 327 (by decide)))).trans hsl_
        have key24 : ∀ (n9_24 : Nat) (i2 : Nat) (sl2 : Nat → Int32) (f_6 : Nat → va_E) (H : Heap) (locs : List Loc) (ls : Array Slot), (i2 ≤ 30) → (∀ p, p < i2 → sl2 (p + 30 * to) = (if bt box p = true then 1 else 0)) → (∀ k, (k < 30 * to ∨ 30 + 30 * to ≤ k) → sl2 k = sl k) → 30 - i2 < n9_24 → f_6 315 = eO 10 [.ref (g 316), .ref (g 317), .ref (g 318), .long ab2, .long be2, .int sn911, .ref (g 319), .ref (g 320), .int wn912, .ref (g 321), .ref (g 322), .int sa913, .int ly914, .int rdy, .int (nI fd), .ref (g 323), .ref (g 324), .ref (g 325), .ref (g 326), .ref (g 327), .ref (g 328), .ref (g 329), .ref (g 330), .ref (g 331), .ref (g 332)] → f_6 316 = eI G 2246 ss → f_6 319 = eI G 70 sp915 → f_6 320 = eI G 70 wi916 → f_6 321 = eI G 70 wa917 → f_6 322 = eJ G 70 va918 → f_6 323 = eI G 11 (upd bo to box) → f_6 324 = eI G 11 ju → f_6 325 = eI G 264 dr920 → f_6 326 = eI G 11 dn921 → f_6 327 = eI G 330 sl2 → f_6 328 = eI G 44 ax922 → f_6 329 = eI G 30 lf923 → (∀ j, j ≠ 327 → f_6 j = f_5 j) → va_P G.1 vwCl (wl g f_6) H → va_S (gA g) s.heap H locs → lv_has ls 13 [(0, .ref (g 315)), (1, .int (nI t)), (2, .int (nI to)), (6, .int w0), (8, .int (kn ||| bz)), (9, .int box), (10, .int (nI i2))] → W p l e (headSpec (wsT yX11_tries cX11_tries 13 none) ({ frames := 5, cells := 0, slots := 0, locals := 120 })).room s m ([.ref (g 315), .int (nI t), .int (nI to), .int (nI xt), .int 1] : List Value).toArray below meth c H locs 0 0 Q9 (F0 m 180 ls []) := by
          intro n9_24
          induction n9_24 with
          | zero => intro i2 sl2 f_6 H locs ls hi2 hs2_ hso2 hn9_24; exact absurd hn9_24 (Nat.not_lt_zero _)
          | succ n9_24 ih_24 =>
            intro i2 sl2 f_6 H locs ls hi2 hs2_ hso2 hn9_24 hmo hss_ hsp_ hwi_ hwa_ hva_ hbo_ hju_ hdr_ hdn_ hsl_ hax_ hlf_ o_6 hP hS hl
            refine lv_iload hx hb dX11_tries_180 (lv_at hl 6 rfl) ?_
            refine lv_bipush (v := 30) hx hb dX11_tries_182 (by decide) ?_
            refine lv_icmp_ge (tgt := 212) hx hb dX11_tries_184 (by decide) (fun c_184 => ?_) (fun c_184 => ?_)
            · have k_184 : 30 ≤ i2 := (nI_leI (a := 30) (b := i2) (by omega) (by omega)).mp c_184
              refine lv_iconst (v := 0) hx hb dX11_tries_212 (by decide) ?_
              refine lv_istore (lv' := [(10, .int 0), (0, .ref (g 315)), (1, .int (nI t)), (2, .int (nI to)), (6, .int w0), (8, .int (kn ||| bz)), (9, .int box)]) hx hb dX11_tries_213 hl (by decide) rfl (fun ls hl => ?_)
              have hcl := cnt_le (x := box) 30
              have key25 : ∀ (n9_25 : Nat) (i3 : Nat) (sl3 : Nat → Int32) (f_7 : Nat → va_E) (H : Heap) (locs : List Loc) (ls : Array Slot), (i3 ≤ (min sq (cnt box 30))) → (∀ p, p < 30 → sl3 (p + 30 * to) = slD box (drC box (ss (10 * t + 1553)) i3) (ss (10 * t + 1555)) p) → (∀ k, (k < 30 * to ∨ 30 + 30 * to ≤ k) → sl3 k = sl k) → 24 - i3 < n9_25 → f_7 315 = eO 10 [.ref (g 316), .ref (g 317), .ref (g 318), .long ab2, .long be2, .int sn911, .ref (g 319), .ref (g 320), .int wn912, .ref (g 321), .ref (g 322), .int sa913, .int ly914, .int rdy, .int (nI fd), .ref (g 323), .ref (g 324), .ref (g 325), .ref (g 326), .ref (g 327), .ref (g 328), .ref (g 329), .ref (g 330), .ref (g 331), .ref (g 332)] → f_7 316 = eI G 2246 ss → f_7 319 = eI G 70 sp915 → f_7 320 = eI G 70 wi916 → f_7 321 = eI G 70 wa917 → f_7 322 = eJ G 70 va918 → f_7 323 = eI G 11 (upd bo to box) → f_7 324 = eI G 11 ju → f_7 325 = eI G 264 dr920 → f_7 326 = eI G 11 dn921 → f_7 327 = eI G 330 sl3 → f_7 328 = eI G 44 ax922 → f_7 329 = eI G 30 lf923 → (∀ j, j ≠ 327 → f_7 j = f_6 j) → va_P G.1 vwCl (wl g f_7) H → va_S (gA g) s.heap H locs → lv_has ls 13 [(0, .ref (g 315)), (1, .int (nI t)), (2, .int (nI to)), (6, .int w0), (8, .int (kn ||| bz)), (9, .int box), (10, .int (nI i3))] → W p l e (headSpec (wsT yX11_tries cX11_tries 13 none) ({ frames := 5, cells := 0, slots := 0, locals := 120 })).room s m ([.ref (g 315), .int (nI t), .int (nI to), .int (nI xt), .int 1] : List Value).toArray below meth c H locs 0 0 Q9 (F0 m 215 ls []) := by
                intro n9_25
                induction n9_25 with
                | zero => intro i3 sl3 f_7 H locs ls hi3 hs3 hso3 hn9_25; exact absurd hn9_25 (Nat.not_lt_zero _)
                | succ n9_25 ih_25 =>
                  intro i3 sl3 f_7 H locs ls hi3 hs3 hso3 hn9_25 hmo hss_ hsp_ hwi_ hwa_ hva_ hbo_ hju_ hdr_ hdn_ hsl_ hax_ hlf_ o_7 hP hS hl
                  have hcl := cnt_le (x := box) 30
                  refine lv_iload hx hb dX11_tries_215 (lv_at hl 6 rfl) ?_
                  refine lv_aload_n hx hb dX11_tries_217 rfl (lv_at hl 0 rfl) ?_
                  refine va_get (D := G.1) (ci := 10) (v := .ref (g 326)) (C := RX11) (T := TX11) (N := 25) hx hb hts inlX11 hown hG.1 hP 315 (wl_at (by decide) hmo) rfl 18 (by decide) (hts (.fieldLink RX11 42 "SwornListsModel" "drews" "[I") w_122) (fun _ h9 => h9) rfl dX11_tries_218 ?_
                  refine lv_iload_n hx hb dX11_tries_221 rfl (lv_at hl 2 rfl) ?_
                  refine va_iald hx hb hG.1 hP 326 0 (wl_at (by decide) hdn_) rfl (vp_in_nI (by omega) (by decide)) dX11_tries_222 ?_
                  refine my_bei (v := dn921 to) (congrArg dn921 (nI_clamp (n := to) (by omega))) ?_
                  refine my_bei (v := nI (min sq (cnt box 30))) (hx_5_0) ?_
                  refine lv_icmp_ge (tgt := 280) hx hb dX11_tries_223 (by decide) (fun c_223 => ?_) (fun c_223 => ?_)
                  · have k_223 : min sq (cnt box 30) ≤ i3 := (nI_leI (a := min sq (cnt box 30)) (b := i3) (by omega) (by omega)).mp c_223
                    refine lv_aload_n hx hb dX11_tries_280 rfl (lv_at hl 0 rfl) ?_
                    refine va_get (D := G.1) (ci := 10) (v := .ref (g 328)) (C := RX11) (T := TX11) (N := 25) hx hb hts inlX11 hown hG.1 hP 315 (wl_at (by decide) hmo) rfl 20 (by decide) (hts (.fieldLink RX11 48 "SwornListsModel" "abouts" "[I") w_124) (fun _ h9 => h9) rfl dX11_tries_281 ?_
                    refine lv_iconst (v := 4) hx hb dX11_tries_284 (by decide) ?_
                    refine lv_iload_n hx hb dX11_tries_285 rfl (lv_at hl 2 rfl) ?_
                    refine lv_imul hx hb dX11_tries_286 ?_
                    refine my_bei (v := nI (4 * to)) (pk_mul 4 to) ?_
                    refine lv_iconst (v := 0) hx hb dX11_tries_287 (by decide) ?_
                    refine va_iast hx hb hG.1 hP (wl_D hg f_7) hS 328 0 (wl_at (by decide) hax_) rfl (vp_in_nI (by omega) (by decide)) dX11_tries_288 (fun H locs hP _ hS => ?_)
                    have hP := (congrArg (fun z9 => va_P G.1 vwCl ((wl g f_7).set 328 (g 328, eI G 44 ((upd ax922 z9 0)))) H) (show Int32.toNatClampNeg (nI (4 * to)) = 4 * to from nI_clamp (by omega))).mp hP
                    obtain ⟨f_8, hP, e_8, o_8⟩ := b_put (by decide) hP
                    have hax_ : f_8 328 = eI G 44 (upd ax922 (4 * to) 0) := e_8
                    refine lv_aload_n hx hb dX11_tries_289 rfl (lv_at hl 0 rfl) ?_
                    replace hmo := ((o_8 315 (by decide))).trans hmo
                    refine va_get (D := G.1) (ci := 10) (v := .ref (g 328)) (C := RX11) (T := TX11) (N := 25) hx hb hts inlX11 hown hG.1 hP 315 (wl_at (by decide) hmo) rfl 20 (by decide) (hts (.fieldLink RX11 48 "SwornListsModel" "abouts" "[I") w_124) (fun _ h9 => h9) rfl dX11_tries_290 ?_
                    refine lv_iconst (v := 4) hx hb dX11_tries_293 (by decide) ?_
                    refine lv_iload_n hx hb dX11_tries_294 rfl (lv_at hl 2 rfl) ?_
                    refine lv_imul hx hb dX11_tries_295 ?_
                    refine my_bei (v := nI (4 * to)) (pk_mul 4 to) ?_
                    refine lv_iconst (v := 1) hx hb dX11_tries_296 (by decide) ?_
                    refine lv_iadd hx hb dX11_tries_297 ?_
                    refine my_bei (v := nI (4 * to + 1)) ((nI_add (4 * to) 1).trans (congrArg nI (show (4 * to) + 1 = 4 * to + 1 by omega))) ?_
                    refine lv_iconst (v := 0) hx hb dX11_tries_298 (by decide) ?_
                    refine va_iast hx hb hG.1 hP (wl_D hg f_8) hS 328 0 (wl_at (by decide) hax_) rfl (vp_in_nI (by omega) (by decide)) dX11_tries_299 (fun H locs hP _ hS => ?_)
                    have hP := (congrArg (fun z9 => va_P G.1 vwCl ((wl g f_8).set 328 (g 328, eI G 44 ((upd (upd ax922 (4 * to) 0) z9 0)))) H) (show Int32.toNatClampNeg (nI (4 * to + 1)) = 4 * to + 1 from nI_clamp (by omega))).mp hP
                    obtain ⟨f_9, hP, e_9, o_9⟩ := b_put (by decide) hP
                    have hax_ : f_9 328 = eI G 44 (upd (upd ax922 (4 * to) 0) (4 * to + 1) 0) := e_9
                    refine lv_aload_n hx hb dX11_tries_300 rfl (lv_at hl 0 rfl) ?_
                    replace hmo := ((o_9 315 (by decide))).trans hmo
                    refine va_get (D := G.1) (ci := 10) (v := .ref (g 328)) (C := RX11) (T := TX11) (N := 25) hx hb hts inlX11 hown hG.1 hP 315 (wl_at (by decide) hmo) rfl 20 (by decide) (hts (.fieldLink RX11 48 "SwornListsModel" "abouts" "[I") w_124) (fun _ h9 => h9) rfl dX11_tries_301 ?_
                    refine lv_iconst (v := 4) hx hb dX11_tries_304 (by decide) ?_
                    refine lv_iload_n hx hb dX11_tries_305 rfl (lv_at hl 2 rfl) ?_
                    refine lv_imul hx hb dX11_tries_306 ?_
                    refine my_bei (v := nI (4 * to)) (pk_mul 4 to) ?_
                    refine lv_iconst (v := 2) hx hb dX11_tries_307 (by decide) ?_
                    refine lv_iadd hx hb dX11_tries_308 ?_
                    refine my_bei (v := nI (4 * to + 2)) ((nI_add (4 * to) 2).trans (congrArg nI (show (4 * to) + 2 = 4 * to + 2 by omega))) ?_
                    refine lv_iconst (v := 0) hx hb dX11_tries_309 (by decide) ?_
                    refine va_iast hx hb hG.1 hP (wl_D hg f_9) hS 328 0 (wl_at (by decide) hax_) rfl (vp_in_nI (by omega) (by decide)) dX11_tries_310 (fun H locs hP _ hS => ?_)
                    have hP := (congrArg (fun z9 => va_P G.1 vwCl ((wl g f_9).set 328 (g 328, eI G 44 ((upd (upd (upd ax922 (4 * to) 0) (4 * to + 1) 0) z9 0)))) H) (show Int32.toNatClampNeg (nI (4 * to + 2)) = 4 * to + 2 from nI_clamp (by omega))).mp hP
                    obtain ⟨f_10, hP, e_10, o_10⟩ := b_put (by decide) hP
                    have hax_ : f_10 328 = eI G 44 (upd (upd (upd ax922 (4 * to) 0) (4 * to + 1) 0) (4 * to + 2) 0) := e_10
                    refine lv_iconst (v := 0) hx hb dX11_tries_311 (by decide) ?_
                    refine lv_istore (lv' := [(10, .int 0), (0, .ref (g 315)), (1, .int (nI t)), (2, .int (nI to)), (6, .int w0), (8, .int (kn ||| bz)), (9, .int box)]) hx hb dX11_tries_312 hl (by decide) rfl (fun ls hl => ?_)
                    refine lv_iconst (v := 0) hx hb dX11_tries_314 (by decide) ?_
                    refine lv_istore (lv' := [(11, .int 0), (10, .int 0), (0, .ref (g 315)), (1, .int (nI t)), (2, .int (nI to)), (6, .int w0), (8, .int (kn ||| bz)), (9, .int box)]) hx hb dX11_tries_315 hl (by decide) rfl (fun ls hl => ?_)
                    replace hmo := ((o_10 315 (by decide))).trans hmo
                    replace hss_ := ((o_10 316 (by decide)).trans ((o_9 316 (by decide)).trans ((o_8 316 (by decide))))).trans hss_
                    replace hsp_ := ((o_10 319 (by decide)).trans ((o_9 319 (by decide)).trans ((o_8 319 (by decide))))).trans hsp_
                    replace hwi_ := ((o_10 320 (by decide)).trans ((o_9 320 (by decide)).trans ((o_8 320 (by decide))))).trans hwi_
                    replace hwa_ := ((o_10 321 (by decide)).trans ((o_9 321 (by decide)).trans ((o_8 321 (by decide))))).trans hwa_
                    replace hva_ := ((o_10 322 (by decide)).trans ((o_9 322 (by decide)).trans ((o_8 322 (by decide))))).trans hva_
                    replace hbo_ := ((o_10 323 (by decide)).trans ((o_9 323 (by decide)).trans ((o_8 323 (by decide))))).trans hbo_
                    replace hju_ := ((o_10 324 (by decide)).trans ((o_9 324 (by decide)).trans ((o_8 324 (by decide))))).trans hju_
                    replace hdr_ := ((o_10 325 (by decide)).trans ((o_9 325 (by decide)).trans ((o_8 325 (by decide))))).trans hdr_
                    replace hdn_ := ((o_10 326 (by decide)).trans ((o_9 326 (by decide)).trans ((o_8 326 (by decide))))).trans hdn_
                    replace hsl_ := ((o_10 327 (by decide)).trans ((o_9 327 (by decide)).trans ((o_8 327 (by decide))))).trans hsl_
                    replace hlf_ := ((o_10 329 (by decide)).trans ((o_9 329 (by decide)).trans ((o_8 329 (by decide))))).trans hlf_
                    have key26 : ∀ (n9_26 : Nat) (u5 : Nat) (th : Nat) (sd : Nat) (a0 : Nat) (a1 : Nat) (x5 : Int32 × Int32) (sl4 : Nat → Int32) (ax4 : Nat → Int32) (f_11 : Nat → va_E) (H : Heap) (locs : List Loc) (ls : Array Slot), (th ≤ 2) → (sd = u5 % 2) → (a0 ≤ q4) → (a1 ≤ q4) → (tuI (rPk ss t (drP box (ss (10 * t + 1553))) (min sq (cnt box 30))) (drC box (ss (10 * t + 1553)) (min sq (cnt box 30))) ((drC box (ss (10 * t + 1553)) (min sq (cnt box 30))) &&& (ss (10 * t + 1555))) q4 u5 th x5 a0 a1) → (∀ p, p < 30 → sl4 (p + 30 * to) = slV box (drC box (ss (10 * t + 1553)) (min sq (cnt box 30))) ((drC box (ss (10 * t + 1553)) (min sq (cnt box 30))) &&& (ss (10 * t + 1555))) x5 p) → (∀ k, (k < 30 * to ∨ 30 + 30 * to ≤ k) → sl4 k = sl k) → (ax4 (4 * to + 1) = nI a0) → (ax4 (4 * to + 2) = nI a1) → (∀ k, k ≠ 4 * to + 1 → k ≠ 4 * to + 2 → ax4 k = (upd (upd (upd ax922 (4 * to) 0) (4 * to + 1) 0) (4 * to + 2) 0) k) → 3 * (2 * q4 - a0 - a1) + (2 - th) < n9_26 → f_11 315 = eO 10 [.ref (g 316), .ref (g 317), .ref (g 318), .long ab2, .long be2, .int sn911, .ref (g 319), .ref (g 320), .int wn912, .ref (g 321), .ref (g 322), .int sa913, .int ly914, .int rdy, .int (nI fd), .ref (g 323), .ref (g 324), .ref (g 325), .ref (g 326), .ref (g 327), .ref (g 328), .ref (g 329), .ref (g 330), .ref (g 331), .ref (g 332)] → f_11 316 = eI G 2246 ss → f_11 319 = eI G 70 sp915 → f_11 320 = eI G 70 wi916 → f_11 321 = eI G 70 wa917 → f_11 322 = eJ G 70 va918 → f_11 323 = eI G 11 (upd bo to box) → f_11 324 = eI G 11 ju → f_11 325 = eI G 264 dr920 → f_11 326 = eI G 11 dn921 → f_11 327 = eI G 330 sl4 → f_11 328 = eI G 44 ax4 → f_11 329 = eI G 30 lf923 → (∀ j, (j ≠ 327 ∧ j ≠ 328) → f_11 j = f_10 j) → va_P G.1 vwCl (wl g f_11) H → va_S (gA g) s.heap H locs → lv_has ls 13 [(0, .ref (g 315)), (1, .int (nI t)), (2, .int (nI to)), (6, .int w0), (8, .int (kn ||| bz)), (9, .int box), (10, .int (nI th)), (11, .int (nI sd))] → W p l e (headSpec (wsT yX11_tries cX11_tries 13 none) ({ frames := 5, cells := 0, slots := 0, locals := 120 })).room s m ([.ref (g 315), .int (nI t), .int (nI to), .int (nI xt), .int 1] : List Value).toArray below meth c H locs 0 0 Q9 (F0 m 317 ls []) := by
                      intro n9_26
                      induction n9_26 with
                      | zero => intro u5 th sd a0 a1 x5 sl4 ax4 f_11 H locs ls hth hsd hq0 hq1 hI hs5 hso5 ha0 ha1 hao hn9_26; exact absurd hn9_26 (Nat.not_lt_zero _)
                      | succ n9_26 ih_26 =>
                        intro u5 th sd a0 a1 x5 sl4 ax4 f_11 H locs ls hth hsd hq0 hq1 hI hs5 hso5 ha0 ha1 hao hn9_26 hmo hss_ hsp_ hwi_ hwa_ hva_ hbo_ hju_ hdr_ hdn_ hsl_ hax_ hlf_ o_11 hP hS hl
                        refine lv_iload hx hb dX11_tries_317 (lv_at hl 6 rfl) ?_
                        refine lv_iconst (v := 2) hx hb dX11_tries_319 (by decide) ?_
                        refine lv_icmp_ge (tgt := 397) hx hb dX11_tries_320 (by decide) (fun c_320 => ?_) (fun c_320 => ?_)
                        · have k_320 : 2 ≤ th := (nI_leI (a := 2) (b := th) (by omega) (by omega)).mp c_320
                          have hth2 : th = 2 := by omega
                          rw [hth2] at hI
                          have hEn := tuI_end hI
                          refine lv_aload_n hx hb dX11_tries_397 rfl (lv_at hl 0 rfl) ?_
                          refine lv_iload_n hx hb dX11_tries_398 rfl (lv_at hl 1 rfl) ?_
                          refine lv_iload_n hx hb dX11_tries_399 rfl (lv_at hl 2 rfl) ?_
                          refine lv_iload hx hb dX11_tries_400 (lv_at hl 3 rfl) ?_
                          refine lv_iload hx hb dX11_tries_402 (lv_at hl 5 rfl) ?_
                          refine lv_iconst (v := (-1)) hx hb dX11_tries_404 (by decide) ?_
                          refine lv_ixor hx hb dX11_tries_405 ?_
                          refine lv_iand hx hb dX11_tries_406 ?_
                          refine lv_iload hx hb dX11_tries_407 (lv_at hl 4 rfl) ?_
                          refine lv_iconst (v := (-1)) hx hb dX11_tries_409 (by decide) ?_
                          refine lv_ixor hx hb dX11_tries_410 ?_
                          refine lv_iand hx hb dX11_tries_411 ?_
                          refine my_bei (v := pasV fit box) (pas_ref hfw) ?_
                          refine b_callv (va_runV (As := [.int (nI t), .int (nI to), .int (pasV fit box)]) (rest := []) ⟨hx, hb, hml, hown, hts⟩ (r_seatsE l G g hg f_11 ab2 be2 sn911 wn912 sa913 ly914 rdy (nI fd) ss ju dr920 dn921 sl4 ax4 t to (min sq (cnt box 30)) ks (drP box (ss (10 * t + 1553))) (pasV fit box) (lfV (drC box (ss (10 * t + 1553)) (min sq (cnt box 30))) ((drC box (ss (10 * t + 1553)) (min sq (cnt box 30))) &&& (ss (10 * t + 1555))) x5) hmo hss_ hju_ hdr_ hdn_ hsl_ hax_ (by omega) (by first | assumption | omega | decide) (hx_5_0) (by first | assumption | omega | decide) (fun k9 hk9 => ⟨hx_5_2 k9 hk9, (dr_in (box := box) (o0 := (ss (10 * t + 1553))) (j := k9) (by omega)).1⟩) (hk2) (hks) (fun p hp => by rw [hs5 p hp]; exact slV_6 (by omega) (drC_in (by omega)))) (my_cwV hts ok_X11_seats w_580 rfl rfl ⟨Nat.le_of_ble_eq_true rfl, Nat.le_of_ble_eq_true rfl⟩) ⟨bP.blind, va_recv hG.1 hP (ci := 10) (q0 := 315) rfl (wl_at (by decide) hmo), fun U hU hW => ⟨rfl, by rw [hU]; exact hP, kG.warm hW hG⟩⟩ rfl rfl hl.1 rfl (lv_room (Nat.le_of_ble_eq_true rfl)) dX11_tries_412 ⟨Nat.le_of_ble_eq_true rfl, Nat.le_of_ble_eq_true rfl⟩) hS (fun f_12 H locs hq9 hP hS => ?_)
                          obtain ⟨ju927, sl928, ax929, hq_12_0, hq_12_1, hq_12_2, hx_12_0, hx_12_1, hx_12_2, hx_12_3, hx_12_4, hx_12_5, hx_12_6, o_12⟩ := hq9
                          have hju_ : f_12 324 = eI G 11 ju927 := hq_12_0
                          have hsl_ : f_12 327 = eI G 330 sl928 := hq_12_1
                          have hax_ : f_12 328 = eI G 44 ax929 := hq_12_2
                          replace hmo := ((o_12 315 (by first | decide | omega))).trans hmo
                          replace hsp_ := ((o_12 319 (by first | decide | omega))).trans hsp_
                          replace hwi_ := ((o_12 320 (by first | decide | omega))).trans hwi_
                          replace hwa_ := ((o_12 321 (by first | decide | omega))).trans hwa_
                          replace hva_ := ((o_12 322 (by first | decide | omega))).trans hva_
                          replace hbo_ := ((o_12 323 (by first | decide | omega))).trans hbo_
                          replace hdr_ := ((o_12 325 (by first | decide | omega))).trans hdr_
                          replace hdn_ := ((o_12 326 (by first | decide | omega))).trans hdn_
                          replace hlf_ := ((o_12 329 (by first | decide | omega))).trans hlf_
                          refine W_q9 hQ9 ?_
                          exact W.vret hx hb hr (fun _ hT9 _ => ⟨⟨f_12, rfl, (⟨sn911, wn912, sa913, ly914, sp915, wi916, wa917, va918, (upd bo to box), ju927, dr920, dn921, sl928, ax929, lf923, hmo, hsp_, hwi_, hwa_, hva_, hbo_, hju_, hdr_, hdn_, hsl_, hax_, hlf_, rQ_mk hss hsq hs4 hq4 hk2 hks hEn.1 pk_us hx_5_0 hx_5_2 hs5 hx_12_0 hx_12_2 (ax_if (fun z9 => congrFun (hx_12_4 z9) _) hx_12_5 ((hao _ (by omega) (by omega)).trans ((pk_un (by omega)).trans ((pk_un (by omega)).trans pk_us)))) ((hx_12_6 _ (by omega)).trans (ha0.trans (by rw [hEn.2.1]))) ((hx_12_6 _ (by omega)).trans (ha1.trans (by rw [hEn.2.2]))) ((hx_12_6 _ (by omega)).trans ((hao _ (by omega) (by omega)).trans ((pk_un (by omega)).trans ((pk_un (by omega)).trans ((pk_un (by omega)).trans hx_5_4))))), dn_new hdn hx_5_0 (by omega) hx_5_1, fun k hk => ⟨pk_un hk, hx_12_1 k hk, hx_5_1 k hk⟩, hx_5_3, fun k hk => (hx_12_3 k hk).trans (hso5 k hk), fun k hk => (hx_12_6 k (by omega)).trans ((hao k (by omega) (by omega)).trans ((pk_un (by omega)).trans ((pk_un (by omega)).trans ((pk_un (by omega)).trans (hx_5_5 k (by omega)))))), fun j hj => ((((((((((((o_12 j (by omega))).trans (o_11 j (by omega))).trans (o_10 j (by omega))).trans (o_9 j (by omega))).trans (o_8 j (by omega))).trans (o_7 j (by omega))).trans (o_6 j (by omega))).trans (o_5 j (by omega))).trans (o_4 j (by omega))).trans (o_3 j (by omega))).trans (o_2 j (by omega))).trans (o_1 j (by omega))⟩), by rw [hT9]; exact hP⟩, hS.F hT9⟩) hS.2.2 dX11_tries_415
                        · have k_320 : ¬ 2 ≤ th := fun z9 => c_320 ((nI_leI (a := 2) (b := th) (by omega) (by omega)).mpr z9)
                          rcases (show sd = 0 ∨ sd = 1 by omega) with rfl | rfl
                          · have hu9 : u5 % 2 = 0 := hsd.symm
                            refine lv_aload_n hx hb dX11_tries_323 rfl (lv_at hl 0 rfl) ?_
                            refine lv_iload_n hx hb dX11_tries_324 rfl (lv_at hl 1 rfl) ?_
                            refine lv_iload_n hx hb dX11_tries_325 rfl (lv_at hl 2 rfl) ?_
                            refine lv_iload hx hb dX11_tries_326 (lv_at hl 7 rfl) ?_
                            refine rd_calli (va_runV (As := [.int (nI t), .int (nI to), .int 0]) (rest := []) ⟨hx, hb, hml, hown, hts⟩ (r_strikesE l G g hg f_11 ab2 be2 sn911 wn912 sa913 ly914 rdy (nI fd) ss np nf nr na nt dr920 dn921 sl4 ax4 t to 0 a0 (min sq (cnt box 30)) q4 (drP box (ss (10 * t + 1553))) (lfV (drC box (ss (10 * t + 1553)) (min sq (cnt box 30))) ((drC box (ss (10 * t + 1553)) (min sq (cnt box 30))) &&& (ss (10 * t + 1555))) x5) hmo hss_ hdr_ hdn_ hsl_ hax_ (by first | assumption | omega | decide) (by first | assumption | omega | decide) (by first | assumption | omega | decide) (by first | assumption | omega | decide) (by first | assumption | omega | decide) (by rw [show 0 + 4 * to + 1 = 4 * to + 1 by omega]; exact ha0) (hx_5_0) (by first | assumption | omega | decide) (fun k9 hk9 => ⟨hx_5_2 k9 hk9, (dr_in (box := box) (o0 := (ss (10 * t + 1553))) (j := k9) (by omega)).1⟩) (by first | assumption | omega | decide) (hs4) (fun p hp => by rw [hs5 p hp]; exact slV_6 (by omega) (drC_in (by omega)))) (my_cwV hts ok_X11_strikes w_576 rfl rfl ⟨Nat.le_of_ble_eq_true rfl, Nat.le_of_ble_eq_true rfl⟩) ⟨bP.blind, va_recv hG.1 hP (ci := 10) (q0 := 315) rfl (wl_at (by decide) hmo), fun U hU hW => ⟨rfl, by rw [hU]; exact hP, kG.warm hW hG⟩⟩ rfl rfl hl.1 rfl (lv_room (Nat.le_of_ble_eq_true rfl)) dX11_tries_328 ⟨Nat.le_of_ble_eq_true rfl, Nat.le_of_ble_eq_true rfl⟩) (fun r hr9 => ?_)
                            obtain ⟨o930, rfl, hx_13_0, hx_13_1⟩ := hr9
                            refine lv_istore (lv' := [(12, .int (fo o930)), (0, .ref (g 315)), (1, .int (nI t)), (2, .int (nI to)), (6, .int w0), (8, .int (kn ||| bz)), (9, .int box), (10, .int (nI th)), (11, .int 0)]) hx hb dX11_tries_331 hl (by decide) rfl (fun ls hl => ?_)
                            refine lv_iload hx hb dX11_tries_333 (lv_at hl 0 rfl) ?_
                            refine lv_iconst (v := (-1)) hx hb dX11_tries_335 (by decide) ?_
                            refine lv_icmp_ne (tgt := 346) hx hb dX11_tries_336 (by decide) (fun c_336 => ?_) (fun c_336 => ?_)
                            · refine lv_iconst (v := 0) hx hb dX11_tries_346 (by decide) ?_
                              refine lv_istore (lv' := [(10, .int 0), (12, .int (fo o930)), (0, .ref (g 315)), (1, .int (nI t)), (2, .int (nI to)), (6, .int w0), (8, .int (kn ||| bz)), (9, .int box), (11, .int 0)]) hx hb dX11_tries_347 hl (by decide) rfl (fun ls hl => ?_)
                              refine lv_iload hx hb dX11_tries_349 (lv_at hl 1 rfl) ?_
                              refine lv_iconst (v := (-1)) hx hb dX11_tries_351 (by decide) ?_
                              refine lv_icmp_eq (tgt := 388) hx hb dX11_tries_352 (by decide) (fun c_352 => absurd c_352 (c_336)) (fun c_352 => ?_)
                              obtain ⟨t5, rfl⟩ : ∃ b, o930 = some b := by
                                cases o930 with
                                | none => exact absurd rfl c_336
                                | some z => exact ⟨z, rfl⟩
                              have ht5a := hx_13_0 t5 rfl
                              have hlt5 : ¬ a0 = q4 := fun z => by have h9 := hx_13_1; rw [if_pos z] at h9; cases h9
                              have hk5 : (rPk ss t (drP box (ss (10 * t + 1553))) (min sq (cnt box 30))) 0 (lfV (drC box (ss (10 * t + 1553)) (min sq (cnt box 30))) ((drC box (ss (10 * t + 1553)) (min sq (cnt box 30))) &&& (ss (10 * t + 1555))) x5) = some t5 := by have h9 := hx_13_1; rw [if_neg hlt5] at h9; exact h9.symm
                              have ht5 : t5 < 30 ∧ bt (lfV (drC box (ss (10 * t + 1553)) (min sq (cnt box 30))) ((drC box (ss (10 * t + 1553)) (min sq (cnt box 30))) &&& (ss (10 * t + 1555))) x5) t5 = true := ⟨ht5a, (lkP_s _ _ hk5).2.1⟩
                              have ht51 := ht5.1
                              refine lv_aload_n hx hb dX11_tries_355 rfl (lv_at hl 2 rfl) ?_
                              refine va_get (D := G.1) (ci := 10) (v := .ref (g 327)) (C := RX11) (T := TX11) (N := 25) hx hb hts inlX11 hown hG.1 hP 315 (wl_at (by decide) hmo) rfl 19 (by decide) (hts (.fieldLink RX11 45 "SwornListsModel" "slips" "[I") w_123) (fun _ h9 => h9) rfl dX11_tries_356 ?_
                              refine lv_bipush (v := 30) hx hb dX11_tries_359 (by decide) ?_
                              refine lv_iload_n hx hb dX11_tries_361 rfl (lv_at hl 4 rfl) ?_
                              refine lv_imul hx hb dX11_tries_362 ?_
                              refine my_bei (v := nI (30 * to)) (pk_mul 30 to) ?_
                              refine lv_iload hx hb dX11_tries_363 (lv_at hl 1 rfl) ?_
                              refine lv_iadd hx hb dX11_tries_365 ?_
                              refine my_bei (v := nI (t5 + 30 * to)) ((nI_add (30 * to) t5).trans (congrArg nI (show (30 * to) + t5 = t5 + 30 * to by omega))) ?_
                              refine lv_iconst (v := 3) hx hb dX11_tries_366 (by decide) ?_
                              refine lv_iload hx hb dX11_tries_367 (lv_at hl 8 rfl) ?_
                              refine lv_iadd hx hb dX11_tries_369 ?_
                              refine my_bei (v := 3) (by decide) ?_
                              refine va_iast hx hb hG.1 hP (wl_D hg f_11) hS 327 0 (wl_at (by decide) hsl_) rfl (vp_in_nI (by omega) (by decide)) dX11_tries_370 (fun H locs hP _ hS => ?_)
                              have hP := (congrArg (fun z9 => va_P G.1 vwCl ((wl g f_11).set 327 (g 327, eI G 330 ((upd sl4 z9 3)))) H) (show Int32.toNatClampNeg (nI (t5 + 30 * to)) = t5 + 30 * to from nI_clamp (by omega))).mp hP
                              obtain ⟨f_14, hP, e_14, o_14⟩ := b_put (by decide) hP
                              have hsl_ : f_14 327 = eI G 330 (upd sl4 (t5 + 30 * to) 3) := e_14
                              refine lv_aload_n hx hb dX11_tries_371 rfl (lv_at hl 2 rfl) ?_
                              replace hmo := ((o_14 315 (by decide))).trans hmo
                              refine va_get (D := G.1) (ci := 10) (v := .ref (g 328)) (C := RX11) (T := TX11) (N := 25) hx hb hts inlX11 hown hG.1 hP 315 (wl_at (by decide) hmo) rfl 20 (by decide) (hts (.fieldLink RX11 48 "SwornListsModel" "abouts" "[I") w_124) (fun _ h9 => h9) rfl dX11_tries_372 ?_
                              refine lv_iconst (v := 4) hx hb dX11_tries_375 (by decide) ?_
                              refine lv_iload_n hx hb dX11_tries_376 rfl (lv_at hl 4 rfl) ?_
                              refine lv_imul hx hb dX11_tries_377 ?_
                              refine my_bei (v := nI (4 * to)) (pk_mul 4 to) ?_
                              refine lv_iconst (v := 1) hx hb dX11_tries_378 (by decide) ?_
                              refine lv_iadd hx hb dX11_tries_379 ?_
                              refine my_bei (v := nI (4 * to + 1)) ((nI_add (4 * to) 1).trans (congrArg nI (show (4 * to) + 1 = 4 * to + 1 by omega))) ?_
                              refine lv_iload hx hb dX11_tries_380 (lv_at hl 8 rfl) ?_
                              refine lv_iadd hx hb dX11_tries_382 ?_
                              refine my_bei (v := nI (4 * to + 1)) ((nI_add (4 * to + 1) 0).trans (congrArg nI (show (4 * to + 1) + 0 = 4 * to + 1 by omega))) ?_
                              refine lv_dup2_11 hx hb dX11_tries_383 rfl rfl ?_
                              replace hax_ := ((o_14 328 (by decide))).trans hax_
                              refine va_iald hx hb hG.1 hP 328 0 (wl_at (by decide) hax_) rfl (vp_in_nI (by omega) (by decide)) dX11_tries_384 ?_
                              refine my_bei (v := ax4 (4 * to + 1)) (congrArg ax4 (nI_clamp (n := 4 * to + 1) (by omega))) ?_
                              refine my_bei (v := nI a0) (ha0) ?_
                              refine lv_iconst (v := 1) hx hb dX11_tries_385 (by decide) ?_
                              refine lv_iadd hx hb dX11_tries_386 ?_
                              refine my_bei (v := nI (a0 + 1)) (nI_add a0 1) ?_
                              refine va_iast hx hb hG.1 hP (wl_D hg f_14) hS 328 0 (wl_at (by decide) hax_) rfl (vp_in_nI (by omega) (by decide)) dX11_tries_387 (fun H locs hP _ hS => ?_)
                              have hP := (congrArg (fun z9 => va_P G.1 vwCl ((wl g f_14).set 328 (g 328, eI G 44 ((upd ax4 z9 (nI (a0 + 1)))))) H) (show Int32.toNatClampNeg (nI (4 * to + 1)) = 4 * to + 1 from nI_clamp (by omega))).mp hP
                              obtain ⟨f_15, hP, e_15, o_15⟩ := b_put (by decide) hP
                              have hax_ : f_15 328 = eI G 44 (upd ax4 (4 * to + 1) (nI (a0 + 1))) := e_15
                              refine lv_iconst (v := 1) hx hb dX11_tries_388 (by decide) ?_
                              refine lv_iload hx hb dX11_tries_389 (lv_at hl 8 rfl) ?_
                              refine lv_isub hx hb dX11_tries_391 ?_
                              refine my_bei (v := 1) (by decide) ?_
                              refine lv_istore (lv' := [(11, .int 1), (10, .int 0), (12, .int (nI t5)), (0, .ref (g 315)), (1, .int (nI t)), (2, .int (nI to)), (6, .int w0), (8, .int (kn ||| bz)), (9, .int box)]) hx hb dX11_tries_392 hl (by decide) rfl (fun ls hl => ?_)
                              refine lv_goto (tgt := 317) hx hb dX11_tries_394 (by decide) ?_
                              replace hmo := ((o_15 315 (by decide))).trans hmo
                              replace hss_ := ((o_15 316 (by decide)).trans ((o_14 316 (by decide)))).trans hss_
                              replace hsp_ := ((o_15 319 (by decide)).trans ((o_14 319 (by decide)))).trans hsp_
                              replace hwi_ := ((o_15 320 (by decide)).trans ((o_14 320 (by decide)))).trans hwi_
                              replace hwa_ := ((o_15 321 (by decide)).trans ((o_14 321 (by decide)))).trans hwa_
                              replace hva_ := ((o_15 322 (by decide)).trans ((o_14 322 (by decide)))).trans hva_
                              replace hbo_ := ((o_15 323 (by decide)).trans ((o_14 323 (by decide)))).trans hbo_
                              replace hju_ := ((o_15 324 (by decide)).trans ((o_14 324 (by decide)))).trans hju_
                              replace hdr_ := ((o_15 325 (by decide)).trans ((o_14 325 (by decide)))).trans hdr_
                              replace hdn_ := ((o_15 326 (by decide)).trans ((o_14 326 (by decide)))).trans hdn_
                              replace hsl_ := ((o_15 327 (by decide))).trans hsl_
                              replace hlf_ := ((o_15 329 (by decide)).trans ((o_14 329 (by decide)))).trans hlf_
                              exact ih_26 (u5 + 1) 0 1 (a0 + 1) a1 (stN u5 x5 (some t5)) (upd sl4 (t5 + 30 * to) 3) (upd ax4 (4 * to + 1) (nI (a0 + 1))) f_15 _ _ _ (by omega) (by omega) (by omega) (by omega) ((by have h9 := tuI_hit rPk_mono hI ht5.1 (lf_x (by omega) ht5.2).1 (lf_x (by omega) ht5.2).2 (by rw [if_pos hu9]; exact hlt5) (by rw [hu9]; exact hk5); rw [if_pos hu9, if_pos hu9] at h9; exact h9)) (fun p hp => by
  rw [slV_hit (show t5 < 32 by omega) (show p < 32 by omega) (drC_in (by omega)) ht5.2, if_pos hu9]
  exact if e9 : p = t5 then (by rw [if_pos e9, e9, pk_us]) else (by rw [if_neg e9, pk_un (by omega)]; exact hs5 p hp)) (fun k hk => (pk_un (by omega)).trans (hso5 k hk)) (pk_us) ((pk_un (by omega)).trans ha1) (fun k h1 h2 => (pk_un (by omega)).trans (hao k h1 h2)) (by omega) (hmo) (hss_) (hsp_) (hwi_) (hwa_) (hva_) (hbo_) (hju_) (hdr_) (hdn_) (hsl_) (hax_) (hlf_) (fun j hj => (((o_15 j (by omega))).trans (o_14 j (by omega))).trans (o_11 j (by omega))) hP hS (lv_sub hl [3, 4, 5, 6, 7, 8, 1, 0] rfl)
                            · have hfl : a0 = q4 ∨ (rPk ss t (drP box (ss (10 * t + 1553))) (min sq (cnt box 30))) (u5 % 2) (lfV (drC box (ss (10 * t + 1553)) (min sq (cnt box 30))) ((drC box (ss (10 * t + 1553)) (min sq (cnt box 30))) &&& (ss (10 * t + 1555))) x5) = none := by
                                have h9 := hx_13_1
                                rw [fo_none (N := 30) (by omega) hx_13_0 c_336] at h9
                                by_cases e9 : a0 = q4
                                · exact Or.inl e9
                                · rw [if_neg e9] at h9; exact Or.inr (by rw [hu9]; exact h9.symm)
                              refine lv_iload hx hb dX11_tries_339 (lv_at hl 7 rfl) ?_
                              refine lv_iconst (v := 1) hx hb dX11_tries_341 (by decide) ?_
                              refine lv_iadd hx hb dX11_tries_342 ?_
                              refine my_bei (v := nI (th + 1)) (nI_add th 1) ?_
                              refine lv_goto (tgt := 347) hx hb dX11_tries_343 (by decide) ?_
                              refine lv_istore (lv' := [(10, .int (nI (th + 1))), (12, .int (fo o930)), (0, .ref (g 315)), (1, .int (nI t)), (2, .int (nI to)), (6, .int w0), (8, .int (kn ||| bz)), (9, .int box), (11, .int 0)]) hx hb dX11_tries_347 hl (by decide) rfl (fun ls hl => ?_)
                              refine lv_iload hx hb dX11_tries_349 (lv_at hl 1 rfl) ?_
                              refine lv_iconst (v := (-1)) hx hb dX11_tries_351 (by decide) ?_
                              refine lv_icmp_eq (tgt := 388) hx hb dX11_tries_352 (by decide) (fun c_352 => ?_) (fun c_352 => absurd (c_336) c_352)
                              refine lv_iconst (v := 1) hx hb dX11_tries_388 (by decide) ?_
                              refine lv_iload hx hb dX11_tries_389 (lv_at hl 8 rfl) ?_
                              refine lv_isub hx hb dX11_tries_391 ?_
                              refine my_bei (v := 1) (by decide) ?_
                              refine lv_istore (lv' := [(11, .int 1), (10, .int (nI (th + 1))), (12, .int (fo o930)), (0, .ref (g 315)), (1, .int (nI t)), (2, .int (nI to)), (6, .int w0), (8, .int (kn ||| bz)), (9, .int box)]) hx hb dX11_tries_392 hl (by decide) rfl (fun ls hl => ?_)
                              refine lv_goto (tgt := 317) hx hb dX11_tries_394 (by decide) ?_
                              exact ih_26 (u5 + 1) (th + 1) 1 a0 a1 x5 sl4 ax4 f_11 _ _ _ (by omega) (by omega) (by omega) (by omega) (tuI_fail hI (by omega) (by rw [if_pos hu9]; exact hfl)) (hs5) (hso5) (ha0) (ha1) (hao) (by omega) (hmo) (hss_) (hsp_) (hwi_) (hwa_) (hva_) (hbo_) (hju_) (hdr_) (hdn_) (hsl_) (hax_) (hlf_) (fun j hj => (o_11 j (by omega))) hP hS (lv_sub hl [3, 4, 5, 6, 7, 8, 1, 0] rfl)
                          · have hu9 : u5 % 2 = 1 := hsd.symm
                            refine lv_aload_n hx hb dX11_tries_323 rfl (lv_at hl 0 rfl) ?_
                            refine lv_iload_n hx hb dX11_tries_324 rfl (lv_at hl 1 rfl) ?_
                            refine lv_iload_n hx hb dX11_tries_325 rfl (lv_at hl 2 rfl) ?_
                            refine lv_iload hx hb dX11_tries_326 (lv_at hl 7 rfl) ?_
                            refine rd_calli (va_runV (As := [.int (nI t), .int (nI to), .int 1]) (rest := []) ⟨hx, hb, hml, hown, hts⟩ (r_strikesE l G g hg f_11 ab2 be2 sn911 wn912 sa913 ly914 rdy (nI fd) ss np nf nr na nt dr920 dn921 sl4 ax4 t to 1 a1 (min sq (cnt box 30)) q4 (drP box (ss (10 * t + 1553))) (lfV (drC box (ss (10 * t + 1553)) (min sq (cnt box 30))) ((drC box (ss (10 * t + 1553)) (min sq (cnt box 30))) &&& (ss (10 * t + 1555))) x5) hmo hss_ hdr_ hdn_ hsl_ hax_ (by first | assumption | omega | decide) (by first | assumption | omega | decide) (by first | assumption | omega | decide) (by first | assumption | omega | decide) (by first | assumption | omega | decide) (by rw [show 1 + 4 * to + 1 = 4 * to + 2 by omega]; exact ha1) (hx_5_0) (by first | assumption | omega | decide) (fun k9 hk9 => ⟨hx_5_2 k9 hk9, (dr_in (box := box) (o0 := (ss (10 * t + 1553))) (j := k9) (by omega)).1⟩) (by first | assumption | omega | decide) (hs4) (fun p hp => by rw [hs5 p hp]; exact slV_6 (by omega) (drC_in (by omega)))) (my_cwV hts ok_X11_strikes w_576 rfl rfl ⟨Nat.le_of_ble_eq_true rfl, Nat.le_of_ble_eq_true rfl⟩) ⟨bP.blind, va_recv hG.1 hP (ci := 10) (q0 := 315) rfl (wl_at (by decide) hmo), fun U hU hW => ⟨rfl, by rw [hU]; exact hP, kG.warm hW hG⟩⟩ rfl rfl hl.1 rfl (lv_room (Nat.le_of_ble_eq_true rfl)) dX11_tries_328 ⟨Nat.le_of_ble_eq_true rfl, Nat.le_of_ble_eq_true rfl⟩) (fun r hr9 => ?_)
                            obtain ⟨o931, rfl, hx_16_0, hx_16_1⟩ := hr9
                            refine lv_istore (lv' := [(12, .int (fo o931)), (0, .ref (g 315)), (1, .int (nI t)), (2, .int (nI to)), (6, .int w0), (8, .int (kn ||| bz)), (9, .int box), (10, .int (nI th)), (11, .int 1)]) hx hb dX11_tries_331 hl (by decide) rfl (fun ls hl => ?_)
                            refine lv_iload hx hb dX11_tries_333 (lv_at hl 0 rfl) ?_
                            refine lv_iconst (v := (-1)) hx hb dX11_tries_335 (by decide) ?_
                            refine lv_icmp_ne (tgt := 346) hx hb dX11_tries_336 (by decide) (fun c_336 => ?_) (fun c_336 => ?_)
                            · refine lv_iconst (v := 0) hx hb dX11_tries_346 (by decide) ?_
                              refine lv_istore (lv' := [(10, .int 0), (12, .int (fo o931)), (0, .ref (g 315)), (1, .int (nI t)), (2, .int (nI to)), (6, .int w0), (8, .int (kn ||| bz)), (9, .int box), (11, .int 1)]) hx hb dX11_tries_347 hl (by decide) rfl (fun ls hl => ?_)
                              refine lv_iload hx hb dX11_tries_349 (lv_at hl 1 rfl) ?_
                              refine lv_iconst (v := (-1)) hx hb dX11_tries_351 (by decide) ?_
                              refine lv_icmp_eq (tgt := 388) hx hb dX11_tries_352 (by decide) (fun c_352 => absurd c_352 (c_336)) (fun c_352 => ?_)
                              obtain ⟨t5, rfl⟩ : ∃ b, o931 = some b := by
                                cases o931 with
                                | none => exact absurd rfl c_336
                                | some z => exact ⟨z, rfl⟩
                              have ht5a := hx_16_0 t5 rfl
                              have hlt5 : ¬ a1 = q4 := fun z => by have h9 := hx_16_1; rw [if_pos z] at h9; cases h9
                              have hk5 : (rPk ss t (drP box (ss (10 * t + 1553))) (min sq (cnt box 30))) 1 (lfV (drC box (ss (10 * t + 1553)) (min sq (cnt box 30))) ((drC box (ss (10 * t + 1553)) (min sq (cnt box 30))) &&& (ss (10 * t + 1555))) x5) = some t5 := by have h9 := hx_16_1; rw [if_neg hlt5] at h9; exact h9.symm
                              have ht5 : t5 < 30 ∧ bt (lfV (drC box (ss (10 * t + 1553)) (min sq (cnt box 30))) ((drC box (ss (10 * t + 1553)) (min sq (cnt box 30))) &&& (ss (10 * t + 1555))) x5) t5 = true := ⟨ht5a, (lkP_s _ _ hk5).2.1⟩
                              have ht51 := ht5.1
                              refine lv_aload_n hx hb dX11_tries_355 rfl (lv_at hl 2 rfl) ?_
                              refine va_get (D := G.1) (ci := 10) (v := .ref (g 327)) (C := RX11) (T := TX11) (N := 25) hx hb hts inlX11 hown hG.1 hP 315 (wl_at (by decide) hmo) rfl 19 (by decide) (hts (.fieldLink RX11 45 "SwornListsModel" "slips" "[I") w_123) (fun _ h9 => h9) rfl dX11_tries_356 ?_
                              refine lv_bipush (v := 30) hx hb dX11_tries_359 (by decide) ?_
                              refine lv_iload_n hx hb dX11_tries_361 rfl (lv_at hl 4 rfl) ?_
                              refine lv_imul hx hb dX11_tries_362 ?_
                              refine my_bei (v := nI (30 * to)) (pk_mul 30 to) ?_
                              refine lv_iload hx hb dX11_tries_363 (lv_at hl 1 rfl) ?_
                              refine lv_iadd hx hb dX11_tries_365 ?_
                              refine my_bei (v := nI (t5 + 30 * to)) ((nI_add (30 * to) t5).trans (congrArg nI (show (30 * to) + t5 = t5 + 30 * to by omega))) ?_
                              refine lv_iconst (v := 3) hx hb dX11_tries_366 (by decide) ?_
                              refine lv_iload hx hb dX11_tries_367 (lv_at hl 8 rfl) ?_
                              refine lv_iadd hx hb dX11_tries_369 ?_
                              refine my_bei (v := 4) (by decide) ?_
                              refine va_iast hx hb hG.1 hP (wl_D hg f_11) hS 327 0 (wl_at (by decide) hsl_) rfl (vp_in_nI (by omega) (by decide)) dX11_tries_370 (fun H locs hP _ hS => ?_)
                              have hP := (congrArg (fun z9 => va_P G.1 vwCl ((wl g f_11).set 327 (g 327, eI G 330 ((upd sl4 z9 4)))) H) (show Int32.toNatClampNeg (nI (t5 + 30 * to)) = t5 + 30 * to from nI_clamp (by omega))).mp hP
                              obtain ⟨f_17, hP, e_17, o_17⟩ := b_put (by decide) hP
                              have hsl_ : f_17 327 = eI G 330 (upd sl4 (t5 + 30 * to) 4) := e_17
                              refine lv_aload_n hx hb dX11_tries_371 rfl (lv_at hl 2 rfl) ?_
                              replace hmo := ((o_17 315 (by decide))).trans hmo
                              refine va_get (D := G.1) (ci := 10) (v := .ref (g 328)) (C := RX11) (T := TX11) (N := 25) hx hb hts inlX11 hown hG.1 hP 315 (wl_at (by decide) hmo) rfl 20 (by decide) (hts (.fieldLink RX11 48 "SwornListsModel" "abouts" "[I") w_124) (fun _ h9 => h9) rfl dX11_tries_372 ?_
                              refine lv_iconst (v := 4) hx hb dX11_tries_375 (by decide) ?_
                              refine lv_iload_n hx hb dX11_tries_376 rfl (lv_at hl 4 rfl) ?_
                              refine lv_imul hx hb dX11_tries_377 ?_
                              refine my_bei (v := nI (4 * to)) (pk_mul 4 to) ?_
                              refine lv_iconst (v := 1) hx hb dX11_tries_378 (by decide) ?_
                              refine lv_iadd hx hb dX11_tries_379 ?_
                              refine my_bei (v := nI (4 * to + 1)) ((nI_add (4 * to) 1).trans (congrArg nI (show (4 * to) + 1 = 4 * to + 1 by omega))) ?_
                              refine lv_iload hx hb dX11_tries_380 (lv_at hl 8 rfl) ?_
                              refine lv_iadd hx hb dX11_tries_382 ?_
                              refine my_bei (v := nI (4 * to + 2)) ((nI_add (4 * to + 1) 1).trans (congrArg nI (show (4 * to + 1) + 1 = 4 * to + 2 by omega))) ?_
                              refine lv_dup2_11 hx hb dX11_tries_383 rfl rfl ?_
                              replace hax_ := ((o_17 328 (by decide))).trans hax_
                              refine va_iald hx hb hG.1 hP 328 0 (wl_at (by decide) hax_) rfl (vp_in_nI (by omega) (by decide)) dX11_tries_384 ?_
                              refine my_bei (v := ax4 (4 * to + 2)) (congrArg ax4 (nI_clamp (n := 4 * to + 2) (by omega))) ?_
                              refine my_bei (v := nI a1) (ha1) ?_
                              refine lv_iconst (v := 1) hx hb dX11_tries_385 (by decide) ?_
                              refine lv_iadd hx hb dX11_tries_386 ?_
                              refine my_bei (v := nI (a1 + 1)) (nI_add a1 1) ?_
                              refine va_iast hx hb hG.1 hP (wl_D hg f_17) hS 328 0 (wl_at (by decide) hax_) rfl (vp_in_nI (by omega) (by decide)) dX11_tries_387 (fun H locs hP _ hS => ?_)
                              have hP := (congrArg (fun z9 => va_P G.1 vwCl ((wl g f_17).set 328 (g 328, eI G 44 ((upd ax4 z9 (nI (a1 + 1)))))) H) (show Int32.toNatClampNeg (nI (4 * to + 2)) = 4 * to + 2 from nI_clamp (by omega))).mp hP
                              obtain ⟨f_18, hP, e_18, o_18⟩ := b_put (by decide) hP
                              have hax_ : f_18 328 = eI G 44 (upd ax4 (4 * to + 2) (nI (a1 + 1))) := e_18
                              refine lv_iconst (v := 1) hx hb dX11_tries_388 (by decide) ?_
                              refine lv_iload hx hb dX11_tries_389 (lv_at hl 8 rfl) ?_
                              refine lv_isub hx hb dX11_tries_391 ?_
                              refine my_bei (v := 0) (by decide) ?_
                              refine lv_istore (lv' := [(11, .int 0), (10, .int 0), (12, .int (nI t5)), (0, .ref (g 315)), (1, .int (nI t)), (2, .int (nI to)), (6, .int w0), (8, .int (kn ||| bz)), (9, .int box)]) hx hb dX11_tries_392 hl (by decide) rfl (fun ls hl => ?_)
                              refine lv_goto (tgt := 317) hx hb dX11_tries_394 (by decide) ?_
                              replace hmo := ((o_18 315 (by decide))).trans hmo
                              replace hss_ := ((o_18 316 (by decide)).trans ((o_17 316 (by decide)))).trans hss_
                              replace hsp_ := ((o_18 319 (by decide)).trans ((o_17 319 (by decide)))).trans hsp_
                              replace hwi_ := ((o_18 320 (by decide)).trans ((o_17 320 (by decide)))).trans hwi_
                              replace hwa_ := ((o_18 321 (by decide)).trans ((o_17 321 (by decide)))).trans hwa_
                              replace hva_ := ((o_18 322 (by decide)).trans ((o_17 322 (by decide)))).trans hva_
                              replace hbo_ := ((o_18 323 (by decide)).trans ((o_17 323 (by decide)))).trans hbo_
                              replace hju_ := ((o_18 324 (by decide)).trans ((o_17 324 (by decide)))).trans hju_
                              replace hdr_ := ((o_18 325 (by decide)).trans ((o_17 325 (by decide)))).trans hdr_
                              replace hdn_ := ((o_18 326 (by decide)).trans ((o_17 326 (by decide)))).trans hdn_
                              replace hsl_ := ((o_18 327 (by decide))).trans hsl_
                              replace hlf_ := ((o_18 329 (by decide)).trans ((o_17 329 (by decide)))).trans hlf_
                              exact ih_26 (u5 + 1) 0 0 a0 (a1 + 1) (stN u5 x5 (some t5)) (upd sl4 (t5 + 30 * to) 4) (upd ax4 (4 * to + 2) (nI (a1 + 1))) f_18 _ _ _ (by omega) (by omega) (by omega) (by omega) ((by have h9 := tuI_hit rPk_mono hI ht5.1 (lf_x (by omega) ht5.2).1 (lf_x (by omega) ht5.2).2 (by rw [if_neg (by omega)]; exact hlt5) (by rw [hu9]; exact hk5); rw [if_neg (show ¬ u5 % 2 = 0 by omega), if_neg (show ¬ u5 % 2 = 0 by omega)] at h9; exact h9)) (fun p hp => by
  rw [slV_hit (show t5 < 32 by omega) (show p < 32 by omega) (drC_in (by omega)) ht5.2, if_neg (show ¬ u5 % 2 = 0 by omega)]
  exact if e9 : p = t5 then (by rw [if_pos e9, e9, pk_us]) else (by rw [if_neg e9, pk_un (by omega)]; exact hs5 p hp)) (fun k hk => (pk_un (by omega)).trans (hso5 k hk)) ((pk_un (by omega)).trans ha0) (pk_us) (fun k h1 h2 => (pk_un (by omega)).trans (hao k h1 h2)) (by omega) (hmo) (hss_) (hsp_) (hwi_) (hwa_) (hva_) (hbo_) (hju_) (hdr_) (hdn_) (hsl_) (hax_) (hlf_) (fun j hj => (((o_18 j (by omega))).trans (o_17 j (by omega))).trans (o_11 j (by omega))) hP hS (lv_sub hl [3, 4, 5, 6, 7, 8, 1, 0] rfl)
                            · have hfl : a1 = q4 ∨ (rPk ss t (drP box (ss (10 * t + 1553))) (min sq (cnt box 30))) (u5 % 2) (lfV (drC box (ss (10 * t + 1553)) (min sq (cnt box 30))) ((drC box (ss (10 * t + 1553)) (min sq (cnt box 30))) &&& (ss (10 * t + 1555))) x5) = none := by
                                have h9 := hx_16_1
                                rw [fo_none (N := 30) (by omega) hx_16_0 c_336] at h9
                                by_cases e9 : a1 = q4
                                · exact Or.inl e9
                                · rw [if_neg e9] at h9; exact Or.inr (by rw [hu9]; exact h9.symm)
                              refine lv_iload hx hb dX11_tries_339 (lv_at hl 7 rfl) ?_
                              refine lv_iconst (v := 1) hx hb dX11_tries_341 (by decide) ?_
                              refine lv_iadd hx hb dX11_tries_342 ?_
                              refine my_bei (v := nI (th + 1)) (nI_add th 1) ?_
                              refine lv_goto (tgt := 347) hx hb dX11_tries_343 (by decide) ?_
                              refine lv_istore (lv' := [(10, .int (nI (th + 1))), (12, .int (fo o931)), (0, .ref (g 315)), (1, .int (nI t)), (2, .int (nI to)), (6, .int w0), (8, .int (kn ||| bz)), (9, .int box), (11, .int 1)]) hx hb dX11_tries_347 hl (by decide) rfl (fun ls hl => ?_)
                              refine lv_iload hx hb dX11_tries_349 (lv_at hl 1 rfl) ?_
                              refine lv_iconst (v := (-1)) hx hb dX11_tries_351 (by decide) ?_
                              refine lv_icmp_eq (tgt := 388) hx hb dX11_tries_352 (by decide) (fun c_352 => ?_) (fun c_352 => absurd (c_336) c_352)
                              refine lv_iconst (v := 1) hx hb dX11_tries_388 (by decide) ?_
                              refine lv_iload hx hb dX11_tries_389 (lv_at hl 8 rfl) ?_
                              refine lv_isub hx hb dX11_tries_391 ?_
                              refine my_bei (v := 0) (by decide) ?_
                              refine lv_istore (lv' := [(11, .int 0), (10, .int (nI (th + 1))), (12, .int (fo o931)), (0, .ref (g 315)), (1, .int (nI t)), (2, .int (nI to)), (6, .int w0), (8, .int (kn ||| bz)), (9, .int box)]) hx hb dX11_tries_392 hl (by decide) rfl (fun ls hl => ?_)
                              refine lv_goto (tgt := 317) hx hb dX11_tries_394 (by decide) ?_
                              exact ih_26 (u5 + 1) (th + 1) 0 a0 a1 x5 sl4 ax4 f_11 _ _ _ (by omega) (by omega) (by omega) (by omega) (tuI_fail hI (by omega) (by rw [if_neg (by omega)]; exact hfl)) (hs5) (hso5) (ha0) (ha1) (hao) (by omega) (hmo) (hss_) (hsp_) (hwi_) (hwa_) (hva_) (hbo_) (hju_) (hdr_) (hdn_) (hsl_) (hax_) (hlf_) (fun j hj => (o_11 j (by omega))) hP hS (lv_sub hl [3, 4, 5, 6, 7, 8, 1, 0] rfl)
                    exact key26 ((3 * (2 * q4) + 2) + 1) 0 0 0 0 0 (0, 0) sl3 (upd (upd (upd ax922 (4 * to) 0) (4 * to + 1) 0) (4 * to + 2) 0) f_10 _ _ _ (Nat.zero_le _) (rfl) (Nat.zero_le _) (Nat.zero_le _) (tuI_0) (fun p hp => (hs3 p hp).trans (by rw [show i3 = (min sq (cnt box 30)) by omega]; exact slD_V)) (hso3) ((pk_un (by omega)).trans pk_us) (pk_us) (fun k _ _ => rfl) (by omega) (hmo) (hss_) (hsp_) (hwi_) (hwa_) (hva_) (hbo_) (hju_) (hdr_) (hdn_) (hsl_) (hax_) (hlf_) (fun j _ => rfl) hP hS (lv_sub hl [2, 3, 4, 5, 6, 7, 1, 0] rfl)
                  · have k_223 : ¬ min sq (cnt box 30) ≤ i3 := fun z9 => c_223 ((nI_leI (a := min sq (cnt box 30)) (b := i3) (by omega) (by omega)).mpr z9)
                    refine lv_aload_n hx hb dX11_tries_226 rfl (lv_at hl 0 rfl) ?_
                    refine va_get (D := G.1) (ci := 10) (v := .ref (g 325)) (C := RX11) (T := TX11) (N := 25) hx hb hts inlX11 hown hG.1 hP 315 (wl_at (by decide) hmo) rfl 17 (by decide) (hts (.fieldLink RX11 39 "SwornListsModel" "drew" "[I") w_121) (fun _ h9 => h9) rfl dX11_tries_227 ?_
                    refine lv_bipush (v := 24) hx hb dX11_tries_230 (by decide) ?_
                    refine lv_iload_n hx hb dX11_tries_232 rfl (lv_at hl 2 rfl) ?_
                    refine lv_imul hx hb dX11_tries_233 ?_
                    refine my_bei (v := nI (24 * to)) (pk_mul 24 to) ?_
                    refine lv_iload hx hb dX11_tries_234 (lv_at hl 6 rfl) ?_
                    refine lv_iadd hx hb dX11_tries_236 ?_
                    refine my_bei (v := nI (i3 + 24 * to)) ((nI_add (24 * to) i3).trans (congrArg nI (show (24 * to) + i3 = i3 + 24 * to by omega))) ?_
                    obtain ⟨t1, et1⟩ : ∃ z, (drP box (ss (10 * t + 1553))) i3 = z := ⟨_, rfl⟩
                    have hdi9 := dr_in (box := box) (o0 := (ss (10 * t + 1553))) (j := i3) (by omega)
                    rw [et1] at hdi9
                    have ht1 := hdi9.1
                    have hzb := hdi9.2.1
                    refine va_iald hx hb hG.1 hP 325 0 (wl_at (by decide) hdr_) rfl (vp_in_nI (by omega) (by decide)) dX11_tries_237 ?_
                    refine my_bei (v := dr920 (i3 + 24 * to)) (congrArg dr920 (nI_clamp (n := i3 + 24 * to) (by omega))) ?_
                    refine my_bei (v := nI t1) (by rw [← et1]; exact hx_5_2 i3 (by omega)) ?_
                    refine lv_istore (lv' := [(11, .int (nI t1)), (0, .ref (g 315)), (1, .int (nI t)), (2, .int (nI to)), (6, .int w0), (8, .int (kn ||| bz)), (9, .int box), (10, .int (nI i3))]) hx hb dX11_tries_238 hl (by decide) rfl (fun ls hl => ?_)
                    refine lv_aload_n hx hb dX11_tries_240 rfl (lv_at hl 1 rfl) ?_
                    refine va_get (D := G.1) (ci := 10) (v := .ref (g 327)) (C := RX11) (T := TX11) (N := 25) hx hb hts inlX11 hown hG.1 hP 315 (wl_at (by decide) hmo) rfl 19 (by decide) (hts (.fieldLink RX11 45 "SwornListsModel" "slips" "[I") w_123) (fun _ h9 => h9) rfl dX11_tries_241 ?_
                    refine lv_bipush (v := 30) hx hb dX11_tries_244 (by decide) ?_
                    refine lv_iload_n hx hb dX11_tries_246 rfl (lv_at hl 3 rfl) ?_
                    refine lv_imul hx hb dX11_tries_247 ?_
                    refine my_bei (v := nI (30 * to)) (pk_mul 30 to) ?_
                    refine lv_iload hx hb dX11_tries_248 (lv_at hl 0 rfl) ?_
                    refine lv_iadd hx hb dX11_tries_250 ?_
                    refine my_bei (v := nI (t1 + 30 * to)) ((nI_add (30 * to) t1).trans (congrArg nI (show (30 * to) + t1 = t1 + 30 * to by omega))) ?_
                    refine lv_aload_n hx hb dX11_tries_251 rfl (lv_at hl 1 rfl) ?_
                    refine lv_iload_n hx hb dX11_tries_252 rfl (lv_at hl 2 rfl) ?_
                    refine lv_bipush (v := 9) hx hb dX11_tries_253 (by decide) ?_
                    refine rd_calli (va_runV (As := [.int (nI t), .int 9]) (rest := [.int (nI (t1 + 30 * to)), .ref (g 327)]) ⟨hx, hb, hml, hown, hts⟩ (r_ofTrial l G g hg f_7 ab2 be2 sn911 wn912 sa913 ly914 rdy (nI fd) ss t 9 hmo hss_ (by first | assumption | omega | decide)) (my_cwV hts ok_X11_ofTrial w_532 rfl rfl ⟨Nat.le_of_ble_eq_true rfl, Nat.le_of_ble_eq_true rfl⟩) ⟨bP.blind, va_recv hG.1 hP (ci := 10) (q0 := 315) rfl (wl_at (by decide) hmo), fun U hU hW => ⟨rfl, by rw [hU]; exact hP, kG.warm hW hG⟩⟩ rfl rfl hl.1 rfl (lv_room (Nat.le_of_ble_eq_true rfl)) dX11_tries_255 ⟨Nat.le_of_ble_eq_true rfl, Nat.le_of_ble_eq_true rfl⟩) (fun r hr9 => ?_)
                    subst hr9
                    refine my_bei (v := ss (10 * t + 1555)) (congrArg ss (show 10 * t + 9 + 1546 = 10 * t + 1555 by omega)) ?_
                    refine lv_iload hx hb dX11_tries_258 (lv_at hl 0 rfl) ?_
                    refine lv_ishr hx hb dX11_tries_260 ?_
                    refine lv_iconst (v := 1) hx hb dX11_tries_261 (by decide) ?_
                    refine lv_iand hx hb dX11_tries_262 ?_
                    refine lv_iconst (v := 1) hx hb dX11_tries_263 (by decide) ?_
                    refine lv_icmp_ne (tgt := 271) hx hb dX11_tries_264 (by decide) (fun c_264 => ?_) (fun c_264 => ?_)
                    · refine lv_bipush (v := 6) hx hb dX11_tries_271 (by decide) ?_
                      refine va_iast hx hb hG.1 hP (wl_D hg f_7) hS 327 0 (wl_at (by decide) hsl_) rfl (vp_in_nI (by omega) (by decide)) dX11_tries_273 (fun H locs hP _ hS => ?_)
                      have hP := (congrArg (fun z9 => va_P G.1 vwCl ((wl g f_7).set 327 (g 327, eI G 330 ((upd sl3 z9 6)))) H) (show Int32.toNatClampNeg (nI (t1 + 30 * to)) = t1 + 30 * to from nI_clamp (by omega))).mp hP
                      obtain ⟨f_19, hP, e_19, o_19⟩ := b_put (by decide) hP
                      have hsl_ : f_19 327 = eI G 330 (upd sl3 (t1 + 30 * to) 6) := e_19
                      refine lv_iinc (v := nI (i3 + 1)) (lv' := [(10, .int (nI (i3 + 1))), (11, .int (nI t1)), (0, .ref (g 315)), (1, .int (nI t)), (2, .int (nI to)), (6, .int w0), (8, .int (kn ||| bz)), (9, .int box)]) hx hb dX11_tries_274 hl (k := 7) rfl (nI_add i3 1) (by decide) rfl (fun ls hl => ?_)
                      refine lv_goto (tgt := 215) hx hb dX11_tries_277 (by decide) ?_
                      replace hmo := ((o_19 315 (by decide))).trans hmo
                      replace hss_ := ((o_19 316 (by decide))).trans hss_
                      replace hsp_ := ((o_19 319 (by decide))).trans hsp_
                      replace hwi_ := ((o_19 320 (by decide))).trans hwi_
                      replace hwa_ := ((o_19 321 (by decide))).trans hwa_
                      replace hva_ := ((o_19 322 (by decide))).trans hva_
                      replace hbo_ := ((o_19 323 (by decide))).trans hbo_
                      replace hju_ := ((o_19 324 (by decide))).trans hju_
                      replace hdr_ := ((o_19 325 (by decide))).trans hdr_
                      replace hdn_ := ((o_19 326 (by decide))).trans hdn_
                      replace hax_ := ((o_19 328 (by decide))).trans hax_
                      replace hlf_ := ((o_19 329 (by decide))).trans hlf_
                      exact ih_25 (i3 + 1) (upd sl3 (t1 + 30 * to) 6) f_19 _ _ _ (by omega) (fun p hp => by
  rw [drC_s, et1, slD_s ht1 hp hzb]
  exact if e9 : p = t1 then (by rw [if_pos e9, e9, pk_us]; exact (if_neg (fun z => c_264 ((sr_iff (by omega)).mpr z))).symm) else (by rw [if_neg e9, pk_un (by omega)]; exact hs3 p hp)) (fun k hk => (pk_un (by omega)).trans (hso3 k hk)) (by omega) (hmo) (hss_) (hsp_) (hwi_) (hwa_) (hva_) (hbo_) (hju_) (hdr_) (hdn_) (hsl_) (hax_) (hlf_) (fun j hj => ((o_19 j (by omega))).trans (o_7 j (by omega))) hP hS (lv_sub hl [2, 3, 4, 5, 6, 7, 0] rfl)
                    · refine lv_iconst (v := 2) hx hb dX11_tries_267 (by decide) ?_
                      refine lv_goto (tgt := 273) hx hb dX11_tries_268 (by decide) ?_
                      refine va_iast hx hb hG.1 hP (wl_D hg f_7) hS 327 0 (wl_at (by decide) hsl_) rfl (vp_in_nI (by omega) (by decide)) dX11_tries_273 (fun H locs hP _ hS => ?_)
                      have hP := (congrArg (fun z9 => va_P G.1 vwCl ((wl g f_7).set 327 (g 327, eI G 330 ((upd sl3 z9 2)))) H) (show Int32.toNatClampNeg (nI (t1 + 30 * to)) = t1 + 30 * to from nI_clamp (by omega))).mp hP
                      obtain ⟨f_20, hP, e_20, o_20⟩ := b_put (by decide) hP
                      have hsl_ : f_20 327 = eI G 330 (upd sl3 (t1 + 30 * to) 2) := e_20
                      refine lv_iinc (v := nI (i3 + 1)) (lv' := [(10, .int (nI (i3 + 1))), (11, .int (nI t1)), (0, .ref (g 315)), (1, .int (nI t)), (2, .int (nI to)), (6, .int w0), (8, .int (kn ||| bz)), (9, .int box)]) hx hb dX11_tries_274 hl (k := 7) rfl (nI_add i3 1) (by decide) rfl (fun ls hl => ?_)
                      refine lv_goto (tgt := 215) hx hb dX11_tries_277 (by decide) ?_
                      replace hmo := ((o_20 315 (by decide))).trans hmo
                      replace hss_ := ((o_20 316 (by decide))).trans hss_
                      replace hsp_ := ((o_20 319 (by decide))).trans hsp_
                      replace hwi_ := ((o_20 320 (by decide))).trans hwi_
                      replace hwa_ := ((o_20 321 (by decide))).trans hwa_
                      replace hva_ := ((o_20 322 (by decide))).trans hva_
                      replace hbo_ := ((o_20 323 (by decide))).trans hbo_
                      replace hju_ := ((o_20 324 (by decide))).trans hju_
                      replace hdr_ := ((o_20 325 (by decide))).trans hdr_
                      replace hdn_ := ((o_20 326 (by decide))).trans hdn_
                      replace hax_ := ((o_20 328 (by decide))).trans hax_
                      replace hlf_ := ((o_20 329 (by decide))).trans hlf_
                      exact ih_25 (i3 + 1) (upd sl3 (t1 + 30 * to) 2) f_20 _ _ _ (by omega) (fun p hp => by
  rw [drC_s, et1, slD_s ht1 hp hzb]
  exact if e9 : p = t1 then (by rw [if_pos e9, e9, pk_us]; exact (if_pos ((sr_iff (by omega)).mp c_264)).symm) else (by rw [if_neg e9, pk_un (by omega)]; exact hs3 p hp)) (fun k hk => (pk_un (by omega)).trans (hso3 k hk)) (by omega) (hmo) (hss_) (hsp_) (hwi_) (hwa_) (hva_) (hbo_) (hju_) (hdr_) (hdn_) (hsl_) (hax_) (hlf_) (fun j hj => ((o_20 j (by omega))).trans (o_7 j (by omega))) hP hS (lv_sub hl [2, 3, 4, 5, 6, 7, 0] rfl)
              exact key25 (24 + 1) 0 sl2 f_6 _ _ _ (Nat.zero_le _) (fun p hp => (hs2_ p (by omega)).trans slD_0.symm) (hso2) (by omega) (hmo) (hss_) (hsp_) (hwi_) (hwa_) (hva_) (hbo_) (hju_) (hdr_) (hdn_) (hsl_) (hax_) (hlf_) (fun j _ => rfl) hP hS (lv_sub hl [1, 2, 3, 4, 5, 6, 0] rfl)
            · have k_184 : ¬ 30 ≤ i2 := fun z9 => c_184 ((nI_leI (a := 30) (b := i2) (by omega) (by omega)).mpr z9)
              refine lv_aload_n hx hb dX11_tries_187 rfl (lv_at hl 0 rfl) ?_
              refine va_get (D := G.1) (ci := 10) (v := .ref (g 327)) (C := RX11) (T := TX11) (N := 25) hx hb hts inlX11 hown hG.1 hP 315 (wl_at (by decide) hmo) rfl 19 (by decide) (hts (.fieldLink RX11 45 "SwornListsModel" "slips" "[I") w_123) (fun _ h9 => h9) rfl dX11_tries_188 ?_
              refine lv_bipush (v := 30) hx hb dX11_tries_191 (by decide) ?_
              refine lv_iload_n hx hb dX11_tries_193 rfl (lv_at hl 2 rfl) ?_
              refine lv_imul hx hb dX11_tries_194 ?_
              refine my_bei (v := nI (30 * to)) (pk_mul 30 to) ?_
              refine lv_iload hx hb dX11_tries_195 (lv_at hl 6 rfl) ?_
              refine lv_iadd hx hb dX11_tries_197 ?_
              refine my_bei (v := nI (i2 + 30 * to)) ((nI_add (30 * to) i2).trans (congrArg nI (show (30 * to) + i2 = i2 + 30 * to by omega))) ?_
              refine lv_iload hx hb dX11_tries_198 (lv_at hl 5 rfl) ?_
              refine lv_iload hx hb dX11_tries_200 (lv_at hl 6 rfl) ?_
              refine lv_ishr hx hb dX11_tries_202 ?_
              refine lv_iconst (v := 1) hx hb dX11_tries_203 (by decide) ?_
              refine lv_iand hx hb dX11_tries_204 ?_
              refine my_bei (v := (if bt box i2 = true then 1 else 0)) (sr_bt (by omega)) ?_
              refine va_iast hx hb hG.1 hP (wl_D hg f_6) hS 327 0 (wl_at (by decide) hsl_) rfl (vp_in_nI (by omega) (by decide)) dX11_tries_205 (fun H locs hP _ hS => ?_)
              have hP := (congrArg (fun z9 => va_P G.1 vwCl ((wl g f_6).set 327 (g 327, eI G 330 ((upd sl2 z9 (if bt box i2 = true then 1 else 0))))) H) (show Int32.toNatClampNeg (nI (i2 + 30 * to)) = i2 + 30 * to from nI_clamp (by omega))).mp hP
              obtain ⟨f_21, hP, e_21, o_21⟩ := b_put (by decide) hP
              have hsl_ : f_21 327 = eI G 330 (upd sl2 (i2 + 30 * to) (if bt box i2 = true then 1 else 0)) := e_21
              refine lv_iinc (v := nI (i2 + 1)) (lv' := [(10, .int (nI (i2 + 1))), (0, .ref (g 315)), (1, .int (nI t)), (2, .int (nI to)), (6, .int w0), (8, .int (kn ||| bz)), (9, .int box)]) hx hb dX11_tries_206 hl (k := 6) rfl (nI_add i2 1) (by decide) rfl (fun ls hl => ?_)
              refine lv_goto (tgt := 180) hx hb dX11_tries_209 (by decide) ?_
              replace hmo := ((o_21 315 (by decide))).trans hmo
              replace hss_ := ((o_21 316 (by decide))).trans hss_
              replace hsp_ := ((o_21 319 (by decide))).trans hsp_
              replace hwi_ := ((o_21 320 (by decide))).trans hwi_
              replace hwa_ := ((o_21 321 (by decide))).trans hwa_
              replace hva_ := ((o_21 322 (by decide))).trans hva_
              replace hbo_ := ((o_21 323 (by decide))).trans hbo_
              replace hju_ := ((o_21 324 (by decide))).trans hju_
              replace hdr_ := ((o_21 325 (by decide))).trans hdr_
              replace hdn_ := ((o_21 326 (by decide))).trans hdn_
              replace hax_ := ((o_21 328 (by decide))).trans hax_
              replace hlf_ := ((o_21 329 (by decide))).trans hlf_
              exact ih_24 (i2 + 1) (upd sl2 (i2 + 30 * to) (if bt box i2 = true then 1 else 0)) f_21 _ _ _ (by omega) (fun p hp => if e9 : p = i2 then (by rw [e9, pk_us]) else (pk_un (by omega)).trans (hs2_ p (by omega))) (fun k hk => (pk_un (by omega)).trans (hso2 k hk)) (by omega) (hmo) (hss_) (hsp_) (hwi_) (hwa_) (hva_) (hbo_) (hju_) (hdr_) (hdn_) (hsl_) (hax_) (hlf_) (fun j hj => ((o_21 j (by omega))).trans (o_6 j (by omega))) hP hS (lv_sub hl [1, 2, 3, 4, 5, 6, 0] rfl)
        exact key24 (30 + 1) 0 sl f_5 _ _ _ (Nat.zero_le _) (fun p hp => absurd hp (Nat.not_lt_zero _)) (fun k _ => rfl) (by omega) (hmo) (hss_) (hsp_) (hwi_) (hwa_) (hva_) (hbo_) (hju_) (hdr_) (hdn_) (hsl_) (hax_) (hlf_) (fun j _ => rfl) hP hS (lv_sub hl [1, 2, 3, 4, 5, 6, 0] rfl)
      · have k_94 : ¬ np ≤ i := fun z9 => c_94 ((nI_leI (a := np) (b := i) (by omega) (by omega)).mpr z9)
        refine lv_aload_n hx hb dX11_tries_97 rfl (lv_at hl 0 rfl) ?_
        refine lv_iload_n hx hb dX11_tries_98 rfl (lv_at hl 1 rfl) ?_
        refine lv_iconst (v := 5) hx hb dX11_tries_99 (by decide) ?_
        refine rd_calli (va_runV (As := [.int (nI t), .int 5]) (rest := []) ⟨hx, hb, hml, hown, hts⟩ (r_ofTrial l G g hg f_3 ab2 be2 sn911 wn912 sa913 ly914 rdy (nI fd) ss t 5 hmo hss_ (by first | assumption | omega | decide)) (my_cwV hts ok_X11_ofTrial w_532 rfl rfl ⟨Nat.le_of_ble_eq_true rfl, Nat.le_of_ble_eq_true rfl⟩) ⟨bP.blind, va_recv hG.1 hP (ci := 10) (q0 := 315) rfl (wl_at (by decide) hmo), fun U hU hW => ⟨rfl, by rw [hU]; exact hP, kG.warm hW hG⟩⟩ rfl rfl hl.1 rfl (lv_room (Nat.le_of_ble_eq_true rfl)) dX11_tries_100 ⟨Nat.le_of_ble_eq_true rfl, Nat.le_of_ble_eq_true rfl⟩) (fun r hr9 => ?_)
        subst hr9
        refine my_bei (v := ss (10 * t + 1551)) (congrArg ss (show 10 * t + 5 + 1546 = 10 * t + 1551 by omega)) ?_
        refine lv_iconst (v := (-1)) hx hb dX11_tries_103 (by decide) ?_
        refine lv_icmp_eq (tgt := 134) hx hb dX11_tries_104 (by decide) (fun c_104 => ?_) (fun c_104 => ?_)
        · refine lv_iconst (v := 0) hx hb dX11_tries_134 (by decide) ?_
          refine lv_istore (lv' := [(11, .int 0), (0, .ref (g 315)), (1, .int (nI t)), (2, .int (nI to)), (6, .int w0), (8, .int (kn ||| bz)), (9, .int u), (10, .int (nI i))]) hx hb dX11_tries_135 hl (by decide) rfl (fun ls hl => ?_)
          refine lv_iload hx hb dX11_tries_137 (lv_at hl 6 rfl) ?_
          refine lv_iload hx hb dX11_tries_139 (lv_at hl 0 rfl) ?_
          refine lv_if_eq (tgt := 153) hx hb dX11_tries_141 (by decide) (fun c_141 => ?_) (fun c_141 => absurd (by decide) c_141)
          refine lv_iconst (v := (-1)) hx hb dX11_tries_153 (by decide) ?_
          refine lv_iand hx hb dX11_tries_154 ?_
          refine my_bei (v := u) (and_m1 u) ?_
          refine lv_istore (lv' := [(9, .int u), (11, .int 0), (0, .ref (g 315)), (1, .int (nI t)), (2, .int (nI to)), (6, .int w0), (8, .int (kn ||| bz)), (10, .int (nI i))]) hx hb dX11_tries_155 hl (by decide) rfl (fun ls hl => ?_)
          refine lv_iinc (v := nI (i + 1)) (lv' := [(10, .int (nI (i + 1))), (9, .int u), (11, .int 0), (0, .ref (g 315)), (1, .int (nI t)), (2, .int (nI to)), (6, .int w0), (8, .int (kn ||| bz))]) hx hb dX11_tries_157 hl (k := 7) rfl (nI_add i 1) (by decide) rfl (fun ls hl => ?_)
          refine lv_goto (tgt := 86) hx hb dX11_tries_160 (by decide) ?_
          exact ih_19 (i + 1) u f_3 _ _ _ (by omega) (by rw [hu, sO_n (q := (fun p => decide (¬ ss (10 * t + 1551) = -1) && decide (¬ (fun i c => ss (4 * i + c + 10)) p 1 = ss (10 * t + 1551)))) (fun z => of_decide_eq_true ((Bool.and_eq_true _ _).mp z).1 c_104)]) (by omega) (hmo) (hss_) (hsp_) (hwi_) (hwa_) (hva_) (hbo_) (hju_) (hdr_) (hdn_) (hsl_) (hax_) (hlf_) (fun j hj => (o_3 j (by omega))) hP hS (lv_sub hl [3, 4, 5, 6, 7, 1, 0] rfl)
        · refine lv_aload_n hx hb dX11_tries_107 rfl (lv_at hl 0 rfl) ?_
          refine va_get (D := G.1) (ci := 10) (v := .ref (g 316)) (C := RX11) (T := TX11) (N := 25) hx hb hts inlX11 hown hG.1 hP 315 (wl_at (by decide) hmo) rfl 0 (by decide) (hts (.fieldLink RX11 7 "SwornListsModel" "st" "[I") w_112) (fun _ h9 => h9) rfl dX11_tries_108 ?_
          refine lv_bipush (v := 10) hx hb dX11_tries_111 (by decide) ?_
          refine lv_iconst (v := 4) hx hb dX11_tries_113 (by decide) ?_
          refine lv_iload hx hb dX11_tries_114 (lv_at hl 6 rfl) ?_
          refine lv_imul hx hb dX11_tries_116 ?_
          refine my_bei (v := nI (4 * i)) (pk_mul 4 i) ?_
          refine lv_iadd hx hb dX11_tries_117 ?_
          refine my_bei (v := nI (4 * i + 10)) ((nI_add 10 (4 * i)).trans (congrArg nI (show 10 + (4 * i) = 4 * i + 10 by omega))) ?_
          refine lv_iconst (v := 1) hx hb dX11_tries_118 (by decide) ?_
          refine lv_iadd hx hb dX11_tries_119 ?_
          refine my_bei (v := nI (4 * i + 11)) ((nI_add (4 * i + 10) 1).trans (congrArg nI (show (4 * i + 10) + 1 = 4 * i + 11 by omega))) ?_
          refine va_iald hx hb hG.1 hP 316 0 (wl_at (by decide) hss_) rfl (vp_in_nI (by omega) (by decide)) dX11_tries_120 ?_
          refine my_bei (v := ss (4 * i + 11)) (congrArg ss (nI_clamp (n := 4 * i + 11) (by omega))) ?_
          refine lv_aload_n hx hb dX11_tries_121 rfl (lv_at hl 0 rfl) ?_
          refine lv_iload_n hx hb dX11_tries_122 rfl (lv_at hl 1 rfl) ?_
          refine lv_iconst (v := 5) hx hb dX11_tries_123 (by decide) ?_
          refine rd_calli (va_runV (As := [.int (nI t), .int 5]) (rest := [.int (ss (4 * i + 11))]) ⟨hx, hb, hml, hown, hts⟩ (r_ofTrial l G g hg f_3 ab2 be2 sn911 wn912 sa913 ly914 rdy (nI fd) ss t 5 hmo hss_ (by first | assumption | omega | decide)) (my_cwV hts ok_X11_ofTrial w_532 rfl rfl ⟨Nat.le_of_ble_eq_true rfl, Nat.le_of_ble_eq_true rfl⟩) ⟨bP.blind, va_recv hG.1 hP (ci := 10) (q0 := 315) rfl (wl_at (by decide) hmo), fun U hU hW => ⟨rfl, by rw [hU]; exact hP, kG.warm hW hG⟩⟩ rfl rfl hl.1 rfl (lv_room (Nat.le_of_ble_eq_true rfl)) dX11_tries_124 ⟨Nat.le_of_ble_eq_true rfl, Nat.le_of_ble_eq_true rfl⟩) (fun r hr9 => ?_)
          subst hr9
          refine my_bei (v := ss (10 * t + 1551)) (congrArg ss (show 10 * t + 5 + 1546 = 10 * t + 1551 by omega)) ?_
          refine lv_icmp_eq (tgt := 134) hx hb dX11_tries_127 (by decide) (fun c_127 => ?_) (fun c_127 => ?_)
          · refine lv_iconst (v := 0) hx hb dX11_tries_134 (by decide) ?_
            refine lv_istore (lv' := [(11, .int 0), (0, .ref (g 315)), (1, .int (nI t)), (2, .int (nI to)), (6, .int w0), (8, .int (kn ||| bz)), (9, .int u), (10, .int (nI i))]) hx hb dX11_tries_135 hl (by decide) rfl (fun ls hl => ?_)
            refine lv_iload hx hb dX11_tries_137 (lv_at hl 6 rfl) ?_
            refine lv_iload hx hb dX11_tries_139 (lv_at hl 0 rfl) ?_
            refine lv_if_eq (tgt := 153) hx hb dX11_tries_141 (by decide) (fun c_141 => ?_) (fun c_141 => absurd (by decide) c_141)
            refine lv_iconst (v := (-1)) hx hb dX11_tries_153 (by decide) ?_
            refine lv_iand hx hb dX11_tries_154 ?_
            refine my_bei (v := u) (and_m1 u) ?_
            refine lv_istore (lv' := [(9, .int u), (11, .int 0), (0, .ref (g 315)), (1, .int (nI t)), (2, .int (nI to)), (6, .int w0), (8, .int (kn ||| bz)), (10, .int (nI i))]) hx hb dX11_tries_155 hl (by decide) rfl (fun ls hl => ?_)
            refine lv_iinc (v := nI (i + 1)) (lv' := [(10, .int (nI (i + 1))), (9, .int u), (11, .int 0), (0, .ref (g 315)), (1, .int (nI t)), (2, .int (nI to)), (6, .int w0), (8, .int (kn ||| bz))]) hx hb dX11_tries_157 hl (k := 7) rfl (nI_add i 1) (by decide) rfl (fun ls hl => ?_)
            refine lv_goto (tgt := 86) hx hb dX11_tries_160 (by decide) ?_
            exact ih_19 (i + 1) u f_3 _ _ _ (by omega) (by rw [hu, sO_n (q := (fun p => decide (¬ ss (10 * t + 1551) = -1) && decide (¬ (fun i c => ss (4 * i + c + 10)) p 1 = ss (10 * t + 1551)))) (fun z => of_decide_eq_true ((Bool.and_eq_true _ _).mp z).2 c_127)]) (by omega) (hmo) (hss_) (hsp_) (hwi_) (hwa_) (hva_) (hbo_) (hju_) (hdr_) (hdn_) (hsl_) (hax_) (hlf_) (fun j hj => (o_3 j (by omega))) hP hS (lv_sub hl [3, 4, 5, 6, 7, 1, 0] rfl)
          · refine lv_iconst (v := 1) hx hb dX11_tries_130 (by decide) ?_
            refine lv_goto (tgt := 135) hx hb dX11_tries_131 (by decide) ?_
            refine lv_istore (lv' := [(11, .int 1), (0, .ref (g 315)), (1, .int (nI t)), (2, .int (nI to)), (6, .int w0), (8, .int (kn ||| bz)), (9, .int u), (10, .int (nI i))]) hx hb dX11_tries_135 hl (by decide) rfl (fun ls hl => ?_)
            refine lv_iload hx hb dX11_tries_137 (lv_at hl 6 rfl) ?_
            refine lv_iload hx hb dX11_tries_139 (lv_at hl 0 rfl) ?_
            refine lv_if_eq (tgt := 153) hx hb dX11_tries_141 (by decide) (fun c_141 => absurd c_141 (by decide)) (fun c_141 => ?_)
            refine lv_iconst (v := 1) hx hb dX11_tries_144 (by decide) ?_
            refine lv_iload hx hb dX11_tries_145 (lv_at hl 7 rfl) ?_
            refine lv_ishl hx hb dX11_tries_147 ?_
            refine lv_iconst (v := (-1)) hx hb dX11_tries_148 (by decide) ?_
            refine lv_ixor hx hb dX11_tries_149 ?_
            refine lv_goto (tgt := 154) hx hb dX11_tries_150 (by decide) ?_
            refine lv_iand hx hb dX11_tries_154 ?_
            refine lv_istore (lv' := [(9, .int (u &&& ((1 <<< ((nI i) &&& 31)) ^^^ (-1)))), (11, .int 1), (0, .ref (g 315)), (1, .int (nI t)), (2, .int (nI to)), (6, .int w0), (8, .int (kn ||| bz)), (10, .int (nI i))]) hx hb dX11_tries_155 hl (by decide) rfl (fun ls hl => ?_)
            refine lv_iinc (v := nI (i + 1)) (lv' := [(10, .int (nI (i + 1))), (9, .int (u &&& ((1 <<< ((nI i) &&& 31)) ^^^ (-1)))), (11, .int 1), (0, .ref (g 315)), (1, .int (nI t)), (2, .int (nI to)), (6, .int w0), (8, .int (kn ||| bz))]) hx hb dX11_tries_157 hl (k := 7) rfl (nI_add i 1) (by decide) rfl (fun ls hl => ?_)
            refine lv_goto (tgt := 86) hx hb dX11_tries_160 (by decide) ?_
            exact ih_19 (i + 1) (u &&& ((1 <<< ((nI i) &&& 31)) ^^^ (-1))) f_3 _ _ _ (by omega) (by rw [hu, sO_y (q := (fun p => decide (¬ ss (10 * t + 1551) = -1) && decide (¬ (fun i c => ss (4 * i + c + 10)) p 1 = ss (10 * t + 1551)))) ((Bool.and_eq_true _ _).mpr ⟨decide_eq_true c_104, decide_eq_true c_127⟩)]; exact nor_and) (by omega) (hmo) (hss_) (hsp_) (hwi_) (hwa_) (hva_) (hbo_) (hju_) (hdr_) (hdn_) (hsl_) (hax_) (hlf_) (fun j hj => (o_3 j (by omega))) hP hS (lv_sub hl [3, 4, 5, 6, 7, 1, 0] rfl)
  exact key19 (np + 1) 0 (((rl &&& w0) &&& (w1 ^^^ (-1))) &&& ((kn ||| bz) ^^^ (-1))) f_2 _ _ _ (Nat.zero_le _) (and_n0) (by omega) (hmo) (hss_) (hsp_) (hwi_) (hwa_) (hva_) (hbo_) (hju_) (hdr_) (hdn_) (hsl_) (hax_) (hlf_) (fun j _ => rfl) hP hS (lv_sub hl [6, 7, 8, 4, 2, 1, 0] rfl)


set_option maxHeartbeats 4000000 in
set_option maxRecDepth 100000 in
theorem u_truthsN0 (l : Launch) (G : gW) (g : Nat → Nat) (hg : gOK g) (f : Nat → va_E) (q : Int32) (w : Int32)   : Met l yX1_truths (wsT yX1_truths cX1_truths 7 (some .int)) ({ frames := 0, cells := 0, slots := 0, locals := 0 }) (bP G g f [.ref (g 1), .null, .int 0, .int q, .int w]) (rQi (fun z9 => z9 = w)) 0 0 fr0 := by
  refine Met.ofW (cc := cX1_truths) (maxL := 7) (ret := (some .int)) (by decide) rfl ?_
  intro p e s m args below meth c s₁ B hml hv
  obtain ⟨rfl, hP, hG⟩ := hv
  have hx := B.exec
  have hb := B.bytes
  have hr := B.returns
  have hts := my_hts (atoms_spec (ws := wsT yX1_truths cX1_truths 7 (some .int)) B.pre)
  have hown : s.vm.findClass RX1 = some m.cls := findClass_of_methodNamed B.named
  have hlocks := B.notSynchronized
  have hl := lv_entry ([.ref (g 1), .null, .int 0, .int q, .int w]) (n := 7) (Nat.le_of_ble_eq_true rfl)
  rw [lg_entry_eq]
  generalize (lg_sl ([.ref (g 1), .null, .int 0, .int q, .int w]) ++ List.replicate (7 - (lg_sl ([.ref (g 1), .null, .int 0, .int q, .int w])).length) Slot.unset).toArray = ls at hl ⊢
  have hl : lv_has ls 7 [(0, .ref (g 1)), (1, .null), (2, .int 0), (3, .int q), (4, .int w)] := hl
  refine W_q8 (fun Q9 hQ9 => ?_)
  refine lv_aload_nN hx hb dX1_truths_0 rfl (lv_at hl 1 rfl) ?_
  refine lv_ifnonnullN hx hb dX1_truths_1 ?_
  refine lv_iload_n hx hb dX1_truths_4 rfl (lv_at hl 2 rfl) ?_
  refine lv_if_ne (tgt := 13) hx hb dX1_truths_5 (by decide) (fun c_5 => absurd (by decide) c_5) (fun c_5 => ?_)
  refine lv_iload hx hb dX1_truths_8 (lv_at hl 4 rfl) ?_
  refine lv_goto (tgt := 14) hx hb dX1_truths_10 (by decide) ?_
  refine W_q9 hQ9 ?_
  exact W.iret (v := w) hx hb hr (fun _ hT9 _ => ⟨_, rfl, (rfl), hT9⟩) (fun _ h => absurd h List.not_mem_nil) dX1_truths_14
set_option maxHeartbeats 4000000 in
set_option maxRecDepth 100000 in
theorem u_truthsN1 (l : Launch) (G : gW) (g : Nat → Nat) (hg : gOK g) (f : Nat → va_E) (q : Int32) (w : Int32)   : Met l yX1_truths (wsT yX1_truths cX1_truths 7 (some .int)) ({ frames := 0, cells := 0, slots := 0, locals := 0 }) (bP G g f [.ref (g 1), .null, .int 1, .int q, .int w]) (rQi (fun z9 => z9 = 0)) 0 0 fr0 := by
  refine Met.ofW (cc := cX1_truths) (maxL := 7) (ret := (some .int)) (by decide) rfl ?_
  intro p e s m args below meth c s₁ B hml hv
  obtain ⟨rfl, hP, hG⟩ := hv
  have hx := B.exec
  have hb := B.bytes
  have hr := B.returns
  have hts := my_hts (atoms_spec (ws := wsT yX1_truths cX1_truths 7 (some .int)) B.pre)
  have hown : s.vm.findClass RX1 = some m.cls := findClass_of_methodNamed B.named
  have hlocks := B.notSynchronized
  have hl := lv_entry ([.ref (g 1), .null, .int 1, .int q, .int w]) (n := 7) (Nat.le_of_ble_eq_true rfl)
  rw [lg_entry_eq]
  generalize (lg_sl ([.ref (g 1), .null, .int 1, .int q, .int w]) ++ List.replicate (7 - (lg_sl ([.ref (g 1), .null, .int 1, .int q, .int w])).length) Slot.unset).toArray = ls at hl ⊢
  have hl : lv_has ls 7 [(0, .ref (g 1)), (1, .null), (2, .int 1), (3, .int q), (4, .int w)] := hl
  refine W_q8 (fun Q9 hQ9 => ?_)
  refine lv_aload_nN hx hb dX1_truths_0 rfl (lv_at hl 1 rfl) ?_
  refine lv_ifnonnullN hx hb dX1_truths_1 ?_
  refine lv_iload_n hx hb dX1_truths_4 rfl (lv_at hl 2 rfl) ?_
  refine lv_if_ne (tgt := 13) hx hb dX1_truths_5 (by decide) (fun c_5 => ?_) (fun c_5 => absurd c_5 (by decide))
  refine lv_iconst (v := 0) hx hb dX1_truths_13 (by decide) ?_
  refine W_q9 hQ9 ?_
  exact W.iret (v := 0) hx hb hr (fun _ hT9 _ => ⟨_, rfl, (rfl), hT9⟩) (fun _ h => absurd h List.not_mem_nil) dX1_truths_14
set_option maxHeartbeats 4000000 in
set_option maxRecDepth 100000 in
theorem u_truthsTE (l : Launch) (G : gW) (g : Nat → Nat) (hg : gOK g) (f : Nat → va_E) (se : Nat) (hf : Nat → Option Nat) (pay : Int32) (fine : Int32) (nt : Nat) (ct : Nat → Int32) (np : Nat) (dp : Nat → Int32) (k : Nat) (ln : Nat) (sc : Nat) (sp : Nat → Int32) (vv : Nat → Int64) (sw : Nat → Int32) (zl : List (Int32 × Int32)) (n : Int32) (q : Int32) (w : Int32) (hctc : f 1 = eO 1 [.ref (g 36), .ref (g 12), .ref (g 13), .ref (g 15), .int (nI se)]) (hhs : f 12 = eA G 4 10 hf) (hbk : f 36 = eO 0 [.ref (g 37), .ref (g 39), .ref (g 41), .ref (g 43), .ref (g 45), .ref (g 47), .ref (g 112), .int pay, .int fine]) (htr : f 45 = eO 5 [.int (nI 10), .int (nI 70), .ref (g 46), .int (nI nt)]) (hct : f 46 = eI G (10 * 70) ct) (hpr : f 37 = eO 5 [.int (nI 30), .int (nI 4), .ref (g 38), .int (nI np)]) (hpd : f 38 = eI G (30 * 4) dp) (htx : f k = eO 7 [.ref (g (k + 1)), .ref (g (k + 2)), .int (nI ln), .int (nI sc)]) (hpx : f (k + 2) = eI G 50 sp) (hvl : f 15 = eJ G 50 vv) (hse : se ≤ 10) (hhf : ∀ i, i < 10 → hf i = some (g (2 * i + 16))) (hnt : nt ≤ 10) (hnp : np ≤ 30) (hk3 : k + 2 < 333) (hln : ln ≤ 50) (hsc : sc ≤ 50) (hkt : 36 ≤ k) (hls : stk sp sc = zl.map cdp) (hlen : zl.length = sc) (hdl : dpl zl = some 1) (hol : okO zl) (hZ : ∀ i, i < 10 → okZ G g f (2 * i + 16) (sw i)) : Met l yX1_truths (wsT yX1_truths cX1_truths 7 (some .int)) ({ frames := 4, cells := 0, slots := 0, locals := 98 }) (bP G g f [.ref (g 1), .ref (g k), .int n, .int q, .int w]) (bQi G g (fun (z9 : Int32) (f' : Nat → va_E) => ∃ vv9 : Nat → Int64, z9 = sO (fun p => bt w p && decide (¬ (ev (ltk (fun i c => dp (4 * i + c)) (satN (fun t c => ct (70 * t + c)) sw q p nt) (sinV (fun t c => ct (70 * t + c)) sw q p nt) p q) zl).headD 0 = 0)) np ∧ f' 15 = eJ G 50 vv9 ∧ ∀ j, j ≠ 15 → f' j = f j)) 0 0 (gA g) := by
  refine Met.ofW (cc := cX1_truths) (maxL := 7) (ret := (some .int)) (by decide) rfl ?_
  intro p e s m args below meth c s₁ B hml hv
  obtain ⟨rfl, hP, hG⟩ := hv
  have hx := B.exec
  have hb := B.bytes
  have hr := B.returns
  have hts := my_hts (atoms_spec (ws := wsT yX1_truths cX1_truths 7 (some .int)) B.pre)
  have hown : s.vm.findClass RX1 = some m.cls := findClass_of_methodNamed B.named
  have hlocks := B.notSynchronized
  have hS : va_S (gA g) s.heap s.heap [] := va_S.rf
  have hl := lv_entry ([.ref (g 1), .ref (g k), .int n, .int q, .int w]) (n := 7) (Nat.le_of_ble_eq_true rfl)
  rw [lg_entry_eq]
  generalize (lg_sl ([.ref (g 1), .ref (g k), .int n, .int q, .int w]) ++ List.replicate (7 - (lg_sl ([.ref (g 1), .ref (g k), .int n, .int q, .int w])).length) Slot.unset).toArray = ls at hl ⊢
  have hl : lv_has ls 7 [(0, .ref (g 1)), (1, .ref (g k)), (2, .int n), (3, .int q), (4, .int w)] := hl
  refine W_q8 (fun Q9 hQ9 => ?_)
  refine lv_aload_n hx hb dX1_truths_0 rfl (lv_at hl 1 rfl) ?_
  refine lv_ifnonnull (tgt := 15) hx hb dX1_truths_1 (by decide) ?_
  refine lv_iconst (v := 0) hx hb dX1_truths_15 (by decide) ?_
  refine lv_istore (lv' := [(5, .int 0), (0, .ref (g 1)), (1, .ref (g k)), (2, .int n), (3, .int q), (4, .int w)]) hx hb dX1_truths_16 hl (by decide) rfl (fun ls hl => ?_)
  refine lv_iconst (v := 0) hx hb dX1_truths_18 (by decide) ?_
  refine lv_istore (lv' := [(6, .int 0), (5, .int 0), (0, .ref (g 1)), (1, .ref (g k)), (2, .int n), (3, .int q), (4, .int w)]) hx hb dX1_truths_19 hl (by decide) rfl (fun ls hl => ?_)
  have key1 : ∀ (n9_1 : Nat) (i : Nat) (u : Int32) (vv1 : Nat → Int64) (f_1 : Nat → va_E) (H : Heap) (locs : List Loc) (ls : Array Slot), (i ≤ np) → (u = sO (fun p => bt w p && decide (¬ (ev (ltk (fun i c => dp (4 * i + c)) (satN (fun t c => ct (70 * t + c)) sw q p nt) (sinV (fun t c => ct (70 * t + c)) sw q p nt) p q) zl).headD 0 = 0)) i) → (∀ i, i < 10 → okZ G g f_1 (2 * i + 16) (sw i)) → np - i < n9_1 → f_1 1 = eO 1 [.ref (g 36), .ref (g 12), .ref (g 13), .ref (g 15), .int (nI se)] → f_1 12 = eA G 4 10 hf → f_1 36 = eO 0 [.ref (g 37), .ref (g 39), .ref (g 41), .ref (g 43), .ref (g 45), .ref (g 47), .ref (g 112), .int pay, .int fine] → f_1 45 = eO 5 [.int (nI 10), .int (nI 70), .ref (g 46), .int (nI nt)] → f_1 46 = eI G (10 * 70) ct → f_1 37 = eO 5 [.int (nI 30), .int (nI 4), .ref (g 38), .int (nI np)] → f_1 38 = eI G (30 * 4) dp → f_1 k = eO 7 [.ref (g (k + 1)), .ref (g (k + 2)), .int (nI ln), .int (nI sc)] → f_1 (k + 2) = eI G 50 sp → f_1 15 = eJ G 50 vv1 → (∀ j, j ≠ 15 → f_1 j = f j) → va_P G.1 vwCl (wl g f_1) H → va_S (gA g) s.heap H locs → lv_has ls 7 [(0, .ref (g 1)), (1, .ref (g k)), (3, .int q), (4, .int w), (5, .int u), (6, .int (nI i))] → W p l e (headSpec (wsT yX1_truths cX1_truths 7 (some .int)) ({ frames := 4, cells := 0, slots := 0, locals := 98 })).room s m ([.ref (g 1), .ref (g k), .int n, .int q, .int w] : List Value).toArray below meth c H locs 0 0 Q9 (F0 m 21 ls []) := by
    intro n9_1
    induction n9_1 with
    | zero => intro i u vv1 f_1 H locs ls hi hu hZ hn9_1; exact absurd hn9_1 (Nat.not_lt_zero _)
    | succ n9_1 ih_1 =>
      intro i u vv1 f_1 H locs ls hi hu hZ hn9_1 hctc hhs hbk htr hct hpr hpd htx hpx hvl o_1 hP hS hl
      refine lv_iload hx hb dX1_truths_21 (lv_at hl 5 rfl) ?_
      refine lv_aload_n hx hb dX1_truths_23 rfl (lv_at hl 0 rfl) ?_
      refine va_get (D := G.1) (ci := 1) (v := .ref (g 36)) (C := RX1) (T := TX1) (N := 5) hx hb hts inlX1 hown hG.1 hP 1 (wl_at (by decide) hctc) rfl 0 (by decide) (hts (.fieldLink RX1 12 "SwornLists$Court" "book" "LSwornLists$Book;") w_40) (fun _ h9 => h9) rfl dX1_truths_24 ?_
      refine va_getN (D := G.1) (ci := 0) (v := .ref (g 37)) (C := RX0) (T := TX0) (N := 9) (host := RX10) hx hb hts inlX0 hown hG.1 hP 36 (wl_at (by decide) hbk) rfl 0 (by decide) (va_Nw.use rfl (hG.2.1 (.fieldLinkNest RX1 110 RX0 "people" "LSwornLists$Rows;" RX10) (List.mem_of_getElem? (i := 1) rfl))) (fun _ h9 => h9) rfl dX1_truths_27 ?_
      refine rd_calli (va_runV (As := []) (rest := [.int (nI i)]) ⟨hx, hb, hml, hown, hts⟩ (r_size l G g hg f_1 37 30 4 np hpr (by first | assumption | omega | decide) (by first | assumption | omega | decide) (by first | assumption | omega | decide) (by first | assumption | omega | decide)) (my_cwV hts ok_X5_size w_388 rfl rfl ⟨Nat.le_of_ble_eq_true rfl, Nat.le_of_ble_eq_true rfl⟩) ⟨bP.blind, va_recv hG.1 hP (ci := 5) (q0 := 37) rfl (wl_at (by decide) hpr), fun U hU hW => ⟨rfl, by rw [hU]; exact hP, kG.warm hW hG⟩⟩ rfl rfl hl.1 rfl (lv_room (Nat.le_of_ble_eq_true rfl)) dX1_truths_30 ⟨Nat.le_of_ble_eq_true rfl, Nat.le_of_ble_eq_true rfl⟩) (fun r hr9 => ?_)
      subst hr9
      refine lv_icmp_ge (tgt := 74) hx hb dX1_truths_33 (by decide) (fun c_33 => ?_) (fun c_33 => ?_)
      · have k_33 : np ≤ i := (nI_leI (a := np) (b := i) (by omega) (by omega)).mp c_33
        refine lv_iload hx hb dX1_truths_74 (lv_at hl 4 rfl) ?_
        refine W_q9 hQ9 ?_
        exact W.iret (v := u) hx hb hr (fun _ hT9 _ => ⟨⟨_, f_1, rfl, (⟨vv1, by rw [hu, show i = np by omega], hvl, fun j hj => (o_1 j (by omega))⟩), by rw [hT9]; exact hP⟩, hS.F hT9⟩) hS.2.2 dX1_truths_76
      · have k_33 : ¬ np ≤ i := fun z9 => c_33 ((nI_leI (a := np) (b := i) (by omega) (by omega)).mpr z9)
        have hi9 : i < np := by omega
        refine lv_iload hx hb dX1_truths_36 (lv_at hl 3 rfl) ?_
        refine lv_iload hx hb dX1_truths_38 (lv_at hl 5 rfl) ?_
        refine rd_calli (va_runSN (As := [.int w, .int (nI i)]) (rest := []) ⟨hx, hb, hml, hown, hts⟩ (s_hasBit l G g hg f_1 w (nI i)  ) (⟨my_cn hts ok_X10_hasBit.1 (hG.2.1 (.methodLinkNest RX1 113 yX10_hasBit RX10) (List.mem_of_getElem? (i := 31) rfl)) rfl rfl ⟨Nat.le_of_ble_eq_true rfl, Nat.le_of_ble_eq_true rfl⟩, hts _ ok_X10_hasBit.2.2.1, trivial⟩) ⟨bP.blind, fun U hU hW => ⟨rfl, by rw [hU]; exact hP, kG.warm hW hG⟩⟩ rfl rfl hl.1 rfl (lv_room (Nat.le_of_ble_eq_true rfl)) dX1_truths_40 ⟨Nat.le_of_ble_eq_true rfl, Nat.le_of_ble_eq_true rfl⟩) (fun r hr9 => ?_)
        subst hr9
        refine my_ifeq (tgt := 68) hx hb dX1_truths_43 (by decide) (fun c_43 => ?_) (fun c_43 => ?_)
        · refine lv_iinc (v := nI (i + 1)) (lv' := [(6, .int (nI (i + 1))), (0, .ref (g 1)), (1, .ref (g k)), (3, .int q), (4, .int w), (5, .int u)]) hx hb dX1_truths_68 hl (k := 5) rfl (nI_add i 1) (by decide) rfl (fun ls hl => ?_)
          refine lv_goto (tgt := 21) hx hb dX1_truths_71 (by decide) ?_
          exact ih_1 (i + 1) u vv1 f_1 _ _ _ (by omega) (by rw [hu, sO_n (q := (fun p => bt w p && decide (¬ (ev (ltk (fun i c => dp (4 * i + c)) (satN (fun t c => ct (70 * t + c)) sw q p nt) (sinV (fun t c => ct (70 * t + c)) sw q p nt) p q) zl).headD 0 = 0))) (fun z => c_43 (by rw [hbt_bt (by omega)]; exact ((Bool.and_eq_true _ _).mp z).1))]) (hZ) (by omega) (hctc) (hhs) (hbk) (htr) (hct) (hpr) (hpd) (htx) (hpx) (hvl) (fun j hj => (o_1 j (by omega))) hP hS (lv_sub hl [1, 2, 3, 4, 5, 0] rfl)
        · refine lv_aload_n hx hb dX1_truths_46 rfl (lv_at hl 0 rfl) ?_
          refine lv_aload_n hx hb dX1_truths_47 rfl (lv_at hl 1 rfl) ?_
          refine lv_iload hx hb dX1_truths_48 (lv_at hl 5 rfl) ?_
          refine lv_iload_n hx hb dX1_truths_50 rfl (lv_at hl 2 rfl) ?_
          refine b_calll (va_runV (As := [.ref (g k), .int (nI i), .int q]) (rest := []) ⟨hx, hb, hml, hown, hts⟩ (u_tellE l G g hg f_1 se hf pay fine nt ct np dp k ln sc sp vv1 sw i zl q hctc hhs hbk htr hct hpr hpd htx hpx hvl (by first | assumption | omega | decide) (by first | assumption | omega | decide) (by first | assumption | omega | decide) (by first | assumption | omega | decide) (by first | assumption | omega | decide) (by first | assumption | omega | decide) (by first | assumption | omega | decide) (by first | assumption | omega | decide) (by first | assumption | omega | decide) (by first | assumption | omega | decide) (by first | assumption | omega | decide) (by first | assumption | omega | decide) (by first | assumption | omega | decide) (by first | assumption | omega | decide)) (my_cwV hts ok_X1_tell w_428 rfl rfl ⟨Nat.le_of_ble_eq_true rfl, Nat.le_of_ble_eq_true rfl⟩) ⟨bP.blind, va_recv hG.1 hP (ci := 1) (q0 := 1) rfl (wl_at (by decide) hctc), fun U hU hW => ⟨rfl, by rw [hU]; exact hP, kG.warm hW hG⟩⟩ rfl rfl hl.1 rfl (lv_room (Nat.le_of_ble_eq_true rfl)) dX1_truths_51 ⟨Nat.le_of_ble_eq_true rfl, Nat.le_of_ble_eq_true rfl⟩) hS (fun v2 f_2 H locs hq9 hP hS => ?_)
          obtain ⟨vv93, rfl, hq_2_0, o_2⟩ := hq9
          have hvl : f_2 15 = eJ G 50 vv93 := hq_2_0
          refine lv_lconst (v := 0) hx hb dX1_truths_54 (by decide) ?_
          refine W.lcmp hx hb dX1_truths_55 ?_
          refine lv_if_eq (tgt := 68) hx hb dX1_truths_56 (by decide) (fun c_56 => ?_) (fun c_56 => ?_)
          · refine lv_iinc (v := nI (i + 1)) (lv' := [(6, .int (nI (i + 1))), (0, .ref (g 1)), (1, .ref (g k)), (3, .int q), (4, .int w), (5, .int u)]) hx hb dX1_truths_68 hl (k := 5) rfl (nI_add i 1) (by decide) rfl (fun ls hl => ?_)
            refine lv_goto (tgt := 21) hx hb dX1_truths_71 (by decide) ?_
            replace hZ : ∀ i, i < 10 → okZ G g f_2 (2 * i + 16) (sw i) := fun z hz => okZ_fr (hZ z hz) (o_2 _ (by omega)) (o_2 _ (by omega))
            replace hctc := ((o_2 1 (by first | decide | omega))).trans hctc
            replace hhs := ((o_2 12 (by first | decide | omega))).trans hhs
            replace hbk := ((o_2 36 (by first | decide | omega))).trans hbk
            replace htr := ((o_2 45 (by first | decide | omega))).trans htr
            replace hct := ((o_2 46 (by first | decide | omega))).trans hct
            replace hpr := ((o_2 37 (by first | decide | omega))).trans hpr
            replace hpd := ((o_2 38 (by first | decide | omega))).trans hpd
            replace htx : f_2 k = eO 7 [.ref (g (k + 1)), .ref (g (k + 2)), .int (nI ln), .int (nI sc)] := ((o_2 k (by omega))).trans htx
            replace hpx : f_2 (k + 2) = eI G 50 sp := ((o_2 (k + 2) (by omega))).trans hpx
            exact ih_1 (i + 1) u vv93 f_2 _ _ _ (by omega) (by rw [hu, sO_n (q := (fun p => bt w p && decide (¬ (ev (ltk (fun i c => dp (4 * i + c)) (satN (fun t c => ct (70 * t + c)) sw q p nt) (sinV (fun t c => ct (70 * t + c)) sw q p nt) p q) zl).headD 0 = 0))) (fun z => of_decide_eq_true ((Bool.and_eq_true _ _).mp z).2 ((lg_cmp_eq _ _).mp c_56))]) (hZ) (by omega) (hctc) (hhs) (hbk) (htr) (hct) (hpr) (hpd) (htx) (hpx) (hvl) (fun j hj => ((o_2 j (by omega))).trans (o_1 j (by omega))) hP hS (lv_sub hl [1, 2, 3, 4, 5, 0] rfl)
          · refine lv_iload hx hb dX1_truths_59 (lv_at hl 4 rfl) ?_
            refine lv_iconst (v := 1) hx hb dX1_truths_61 (by decide) ?_
            refine lv_iload hx hb dX1_truths_62 (lv_at hl 5 rfl) ?_
            refine lv_ishl hx hb dX1_truths_64 ?_
            refine lv_ior hx hb dX1_truths_65 ?_
            refine lv_istore (lv' := [(5, .int (u ||| (1 <<< ((nI i) &&& 31)))), (0, .ref (g 1)), (1, .ref (g k)), (3, .int q), (4, .int w), (6, .int (nI i))]) hx hb dX1_truths_66 hl (by decide) rfl (fun ls hl => ?_)
            refine lv_iinc (v := nI (i + 1)) (lv' := [(6, .int (nI (i + 1))), (5, .int (u ||| (1 <<< ((nI i) &&& 31)))), (0, .ref (g 1)), (1, .ref (g k)), (3, .int q), (4, .int w)]) hx hb dX1_truths_68 hl (k := 5) rfl (nI_add i 1) (by decide) rfl (fun ls hl => ?_)
            refine lv_goto (tgt := 21) hx hb dX1_truths_71 (by decide) ?_
            replace hZ : ∀ i, i < 10 → okZ G g f_2 (2 * i + 16) (sw i) := fun z hz => okZ_fr (hZ z hz) (o_2 _ (by omega)) (o_2 _ (by omega))
            replace hctc := ((o_2 1 (by first | decide | omega))).trans hctc
            replace hhs := ((o_2 12 (by first | decide | omega))).trans hhs
            replace hbk := ((o_2 36 (by first | decide | omega))).trans hbk
            replace htr := ((o_2 45 (by first | decide | omega))).trans htr
            replace hct := ((o_2 46 (by first | decide | omega))).trans hct
            replace hpr := ((o_2 37 (by first | decide | omega))).trans hpr
            replace hpd := ((o_2 38 (by first | decide | omega))).trans hpd
            replace htx : f_2 k = eO 7 [.ref (g (k + 1)), .ref (g (k + 2)), .int (nI ln), .int (nI sc)] := ((o_2 k (by omega))).trans htx
            replace hpx : f_2 (k + 2) = eI G 50 sp := ((o_2 (k + 2) (by omega))).trans hpx
            exact ih_1 (i + 1) (u ||| (1 <<< ((nI i) &&& 31))) vv93 f_2 _ _ _ (by omega) (by rw [hu, sO_y (q := (fun p => bt w p && decide (¬ (ev (ltk (fun i c => dp (4 * i + c)) (satN (fun t c => ct (70 * t + c)) sw q p nt) (sinV (fun t c => ct (70 * t + c)) sw q p nt) p q) zl).headD 0 = 0))) ((Bool.and_eq_true _ _).mpr ⟨by rw [← hbt_bt (by omega)]; exact c_43, decide_eq_true (fun z => c_56 ((lg_cmp_eq _ _).mpr z))⟩)]; rfl) (hZ) (by omega) (hctc) (hhs) (hbk) (htr) (hct) (hpr) (hpd) (htx) (hpx) (hvl) (fun j hj => ((o_2 j (by omega))).trans (o_1 j (by omega))) hP hS (lv_sub hl [2, 3, 4, 5, 1, 0] rfl)
  exact key1 (np + 1) 0 0 vv f _ _ _ (Nat.zero_le _) (rfl) (hZ) (by omega) (hctc) (hhs) (hbk) (htr) (hct) (hpr) (hpd) (htx) (hpx) (hvl) (fun j _ => rfl) hP hS (lv_sub hl [2, 3, 5, 6, 1, 0] rfl)


theorem ok_X1_truths : okV yX1_truths cX1_truths 7 (some .int) 4 := ⟨⟨w_427, w_14, ⟨by decide +kernel, by decide +kernel, by decide +kernel⟩⟩, trivial, w_425, w_426⟩
theorem ok_X1_hear : okV yX1_hear cX1_hear 11 none 4 := ⟨⟨w_406, w_14, ⟨by decide +kernel, by decide +kernel, by decide +kernel⟩⟩, trivial, w_404, w_405⟩
theorem ok_X1_settle : okV yX1_settle cX1_settle 3 none 0 := ⟨⟨w_387, w_14, ⟨by decide +kernel, by decide +kernel, by decide +kernel⟩⟩, trivial, w_385, w_386⟩
set_option maxHeartbeats 4000000 in
set_option maxRecDepth 100000 in
theorem u_truthsN (l : Launch) (G : gW) (g : Nat → Nat) (hg : gOK g) (f : Nat → va_E) (n : Int32) (q : Int32) (w : Int32)   : Met l yX1_truths (wsT yX1_truths cX1_truths 7 (some .int)) ({ frames := 0, cells := 0, slots := 0, locals := 0 }) (bP G g f [.ref (g 1), .null, .int n, .int q, .int w]) (rQi (fun z9 => True)) 0 0 fr0 := by
  refine Met.ofW (cc := cX1_truths) (maxL := 7) (ret := (some .int)) (by decide) rfl ?_
  intro p e s m args below meth c s₁ B hml hv
  obtain ⟨rfl, hP, hG⟩ := hv
  have hx := B.exec
  have hb := B.bytes
  have hr := B.returns
  have hts := my_hts (atoms_spec (ws := wsT yX1_truths cX1_truths 7 (some .int)) B.pre)
  have hown : s.vm.findClass RX1 = some m.cls := findClass_of_methodNamed B.named
  have hlocks := B.notSynchronized
  have hl := lv_entry ([.ref (g 1), .null, .int n, .int q, .int w]) (n := 7) (Nat.le_of_ble_eq_true rfl)
  rw [lg_entry_eq]
  generalize (lg_sl ([.ref (g 1), .null, .int n, .int q, .int w]) ++ List.replicate (7 - (lg_sl ([.ref (g 1), .null, .int n, .int q, .int w])).length) Slot.unset).toArray = ls at hl ⊢
  have hl : lv_has ls 7 [(0, .ref (g 1)), (1, .null), (2, .int n), (3, .int q), (4, .int w)] := hl
  refine lv_aload_nN hx hb dX1_truths_0 rfl (lv_at hl 1 rfl) ?_
  refine lv_ifnonnullN hx hb dX1_truths_1 ?_
  refine lv_iload_n hx hb dX1_truths_4 rfl (lv_at hl 2 rfl) ?_
  refine lv_if_ne (tgt := 13) hx hb dX1_truths_5 (by decide) (fun c_5 => ?_) (fun c_5 => ?_)
  · refine lv_iconst (v := 0) hx hb dX1_truths_13 (by decide) ?_
    exact W.iret (v := 0) hx hb hr (fun t ht hW => ⟨_, rfl, (trivial), ht⟩) (fun _ h => absurd h List.not_mem_nil) dX1_truths_14
  · refine lv_iload hx hb dX1_truths_8 (lv_at hl 4 rfl) ?_
    refine lv_goto (tgt := 14) hx hb dX1_truths_10 (by decide) ?_
    exact W.iret (v := w) hx hb hr (fun t ht hW => ⟨_, rfl, (trivial), ht⟩) (fun _ h => absurd h List.not_mem_nil) dX1_truths_14
set_option maxHeartbeats 4000000 in
set_option maxRecDepth 100000 in
theorem u_truthsT (l : Launch) (G : gW) (g : Nat → Nat) (hg : gOK g) (f : Nat → va_E) (se : Nat) (hf : Nat → Option Nat) (pay : Int32) (fine : Int32) (nt : Nat) (ct : Nat → Int32) (np : Nat) (dp : Nat → Int32) (k : Nat) (ln : Nat) (sc : Nat) (sp : Nat → Int32) (vv : Nat → Int64) (n : Int32) (q : Int32) (w : Int32) (hctc : f 1 = eO 1 [.ref (g 36), .ref (g 12), .ref (g 13), .ref (g 15), .int (nI se)]) (hhs : f 12 = eA G 4 10 hf) (hbk : f 36 = eO 0 [.ref (g 37), .ref (g 39), .ref (g 41), .ref (g 43), .ref (g 45), .ref (g 47), .ref (g 112), .int pay, .int fine]) (htr : f 45 = eO 5 [.int (nI 10), .int (nI 70), .ref (g 46), .int (nI nt)]) (hct : f 46 = eI G (10 * 70) ct) (hpr : f 37 = eO 5 [.int (nI 30), .int (nI 4), .ref (g 38), .int (nI np)]) (hpd : f 38 = eI G (30 * 4) dp) (htx : f k = eO 7 [.ref (g (k + 1)), .ref (g (k + 2)), .int (nI ln), .int (nI sc)]) (hpx : f (k + 2) = eI G 50 sp) (hvl : f 15 = eJ G 50 vv) (hse : se ≤ 10) (hhf : ∀ i, i < 10 → hf i = some (g (2 * i + 16))) (hnt : nt ≤ 10) (hnp : np ≤ 30) (hk3 : k + 2 < 333) (hln : ln ≤ 50) (hsc : sc ≤ 50) (hkt : 36 ≤ k) (hH : ∀ i, i < 10 → okH G g f (2 * i + 16)) : Met l yX1_truths (wsT yX1_truths cX1_truths 7 (some .int)) ({ frames := 4, cells := 0, slots := 0, locals := 98 }) (bP G g f [.ref (g 1), .ref (g k), .int n, .int q, .int w]) (bQi G g (fun (z9 : Int32) (f' : Nat → va_E) => ∃ vv9 : Nat → Int64, f' 15 = eJ G 50 vv9 ∧ ∀ j, j ≠ 15 → f' j = f j)) 0 0 (gA g) := by
  refine Met.ofW (cc := cX1_truths) (maxL := 7) (ret := (some .int)) (by decide) rfl ?_
  intro p e s m args below meth c s₁ B hml hv
  obtain ⟨rfl, hP, hG⟩ := hv
  have hx := B.exec
  have hb := B.bytes
  have hr := B.returns
  have hts := my_hts (atoms_spec (ws := wsT yX1_truths cX1_truths 7 (some .int)) B.pre)
  have hown : s.vm.findClass RX1 = some m.cls := findClass_of_methodNamed B.named
  have hlocks := B.notSynchronized
  have hS : va_S (gA g) s.heap s.heap [] := va_S.rf
  have hl := lv_entry ([.ref (g 1), .ref (g k), .int n, .int q, .int w]) (n := 7) (Nat.le_of_ble_eq_true rfl)
  rw [lg_entry_eq]
  generalize (lg_sl ([.ref (g 1), .ref (g k), .int n, .int q, .int w]) ++ List.replicate (7 - (lg_sl ([.ref (g 1), .ref (g k), .int n, .int q, .int w])).length) Slot.unset).toArray = ls at hl ⊢
  have hl : lv_has ls 7 [(0, .ref (g 1)), (1, .ref (g k)), (2, .int n), (3, .int q), (4, .int w)] := hl
  refine lv_aload_n hx hb dX1_truths_0 rfl (lv_at hl 1 rfl) ?_
  refine lv_ifnonnull (tgt := 15) hx hb dX1_truths_1 (by decide) ?_
  refine lv_iconst (v := 0) hx hb dX1_truths_15 (by decide) ?_
  refine lv_istore (lv' := [(5, .int 0), (0, .ref (g 1)), (1, .ref (g k)), (2, .int n), (3, .int q), (4, .int w)]) hx hb dX1_truths_16 hl (by decide) rfl (fun ls hl => ?_)
  refine lv_iconst (v := 0) hx hb dX1_truths_18 (by decide) ?_
  refine lv_istore (lv' := [(6, .int 0), (5, .int 0), (0, .ref (g 1)), (1, .ref (g k)), (2, .int n), (3, .int q), (4, .int w)]) hx hb dX1_truths_19 hl (by decide) rfl (fun ls hl => ?_)
  have key1 : ∀ (n9_1 : Nat) (u : Int32) (vv1 : Nat → Int64) (i : Nat) (f_1 : Nat → va_E) (H : Heap) (locs : List Loc) (ls : Array Slot), (i ≤ np) → (∀ i, i < 10 → okH G g f_1 (2 * i + 16)) → np - i < n9_1 → f_1 1 = eO 1 [.ref (g 36), .ref (g 12), .ref (g 13), .ref (g 15), .int (nI se)] → f_1 12 = eA G 4 10 hf → f_1 36 = eO 0 [.ref (g 37), .ref (g 39), .ref (g 41), .ref (g 43), .ref (g 45), .ref (g 47), .ref (g 112), .int pay, .int fine] → f_1 45 = eO 5 [.int (nI 10), .int (nI 70), .ref (g 46), .int (nI nt)] → f_1 46 = eI G (10 * 70) ct → f_1 37 = eO 5 [.int (nI 30), .int (nI 4), .ref (g 38), .int (nI np)] → f_1 38 = eI G (30 * 4) dp → f_1 k = eO 7 [.ref (g (k + 1)), .ref (g (k + 2)), .int (nI ln), .int (nI sc)] → f_1 (k + 2) = eI G 50 sp → f_1 15 = eJ G 50 vv1 → (∀ j, j ≠ 15 → f_1 j = f j) → va_P G.1 vwCl (wl g f_1) H → va_S (gA g) s.heap H locs → lv_has ls 7 [(0, .ref (g 1)), (1, .ref (g k)), (2, .int n), (3, .int q), (4, .int w), (5, .int u), (6, .int (nI i))] → W p l e (headSpec (wsT yX1_truths cX1_truths 7 (some .int)) ({ frames := 4, cells := 0, slots := 0, locals := 98 })).room s m ([.ref (g 1), .ref (g k), .int n, .int q, .int w] : List Value).toArray below meth c H locs 0 0 (MQ below (bQi G g (fun (z9 : Int32) (f' : Nat → va_E) => ∃ vv9 : Nat → Int64, f' 15 = eJ G 50 vv9 ∧ ∀ j, j ≠ 15 → f' j = f j)) ([.ref (g 1), .ref (g k), .int n, .int q, .int w] : List Value).toArray s 0 0 (gA g)) (F0 m 21 ls []) := by
    intro n9_1
    induction n9_1 with
    | zero => intro u vv1 i f_1 H locs ls hi hH hn9_1; exact absurd hn9_1 (Nat.not_lt_zero _)
    | succ n9_1 ih_1 =>
      intro u vv1 i f_1 H locs ls hi hH hn9_1 hctc hhs hbk htr hct hpr hpd htx hpx hvl o_1 hP hS hl
      refine lv_iload hx hb dX1_truths_21 (lv_at hl 6 rfl) ?_
      refine lv_aload_n hx hb dX1_truths_23 rfl (lv_at hl 0 rfl) ?_
      refine va_get (D := G.1) (ci := 1) (v := .ref (g 36)) (C := RX1) (T := TX1) (N := 5) hx hb hts inlX1 hown hG.1 hP 1 (wl_at (by decide) hctc) rfl 0 (by decide) (hts (.fieldLink RX1 12 "SwornLists$Court" "book" "LSwornLists$Book;") w_40) (fun _ h9 => h9) rfl dX1_truths_24 ?_
      refine va_getN (D := G.1) (ci := 0) (v := .ref (g 37)) (C := RX0) (T := TX0) (N := 9) (host := RX10) hx hb hts inlX0 hown hG.1 hP 36 (wl_at (by decide) hbk) rfl 0 (by decide) (va_Nw.use rfl (hG.2.1 (.fieldLinkNest RX1 110 RX0 "people" "LSwornLists$Rows;" RX10) (List.mem_of_getElem? (i := 1) rfl))) (fun _ h9 => h9) rfl dX1_truths_27 ?_
      refine rd_calli (va_runV (As := []) (rest := [.int (nI i)]) ⟨hx, hb, hml, hown, hts⟩ (r_size l G g hg f_1 37 30 4 np hpr (by first | assumption | omega | decide) (by first | assumption | omega | decide) (by first | assumption | omega | decide) (by first | assumption | omega | decide)) (my_cwV hts ok_X5_size w_388 rfl rfl ⟨Nat.le_of_ble_eq_true rfl, Nat.le_of_ble_eq_true rfl⟩) ⟨bP.blind, va_recv hG.1 hP (ci := 5) (q0 := 37) rfl (wl_at (by decide) hpr), fun U hU hW => ⟨rfl, by rw [hU]; exact hP, kG.warm hW hG⟩⟩ rfl rfl hl.1 rfl (lv_room (Nat.le_of_ble_eq_true rfl)) dX1_truths_30 ⟨Nat.le_of_ble_eq_true rfl, Nat.le_of_ble_eq_true rfl⟩) (fun r hr9 => ?_)
      subst hr9
      refine lv_icmp_ge (tgt := 74) hx hb dX1_truths_33 (by decide) (fun c_33 => ?_) (fun c_33 => ?_)
      · refine lv_iload hx hb dX1_truths_74 (lv_at hl 5 rfl) ?_
        exact W.iret (v := u) hx hb hr (fun t ht hW => ⟨⟨_, f_1, rfl, (⟨vv1, hvl, fun j hj => (o_1 j (by omega))⟩), by rw [ht]; exact hP⟩, hS.F ht⟩) hS.2.2 dX1_truths_76
      · have hi9 : i < np := Nat.not_le.mp (fun z => c_33 (nI_le z (by omega)))
        refine lv_iload hx hb dX1_truths_36 (lv_at hl 4 rfl) ?_
        refine lv_iload hx hb dX1_truths_38 (lv_at hl 6 rfl) ?_
        refine rd_calli (va_runSN (As := [.int w, .int (nI i)]) (rest := []) ⟨hx, hb, hml, hown, hts⟩ (s_hasBit l G g hg f_1 w (nI i)  ) (⟨my_cn hts ok_X10_hasBit.1 (hG.2.1 (.methodLinkNest RX1 113 yX10_hasBit RX10) (List.mem_of_getElem? (i := 31) rfl)) rfl rfl ⟨Nat.le_of_ble_eq_true rfl, Nat.le_of_ble_eq_true rfl⟩, hts _ ok_X10_hasBit.2.2.1, trivial⟩) ⟨bP.blind, fun U hU hW => ⟨rfl, by rw [hU]; exact hP, kG.warm hW hG⟩⟩ rfl rfl hl.1 rfl (lv_room (Nat.le_of_ble_eq_true rfl)) dX1_truths_40 ⟨Nat.le_of_ble_eq_true rfl, Nat.le_of_ble_eq_true rfl⟩) (fun r hr9 => ?_)
        subst hr9
        refine my_ifeq (tgt := 68) hx hb dX1_truths_43 (by decide) (fun c_43 => ?_) (fun c_43 => ?_)
        · refine lv_iinc (v := nI (i + 1)) (lv' := [(6, .int (nI (i + 1))), (0, .ref (g 1)), (1, .ref (g k)), (2, .int n), (3, .int q), (4, .int w), (5, .int u)]) hx hb dX1_truths_68 hl (k := 6) rfl (nI_1 i) (by decide) rfl (fun ls hl => ?_)
          refine lv_goto (tgt := 21) hx hb dX1_truths_71 (by decide) ?_
          exact ih_1 u vv1 (i + 1) f_1 _ _ _ (hi9) (hH) (by omega) (hctc) (hhs) (hbk) (htr) (hct) (hpr) (hpd) (htx) (hpx) (hvl) (fun j hj => (o_1 j (by omega))) hP hS (lv_sub hl [1, 2, 3, 4, 5, 6, 0] rfl)
        · refine lv_aload_n hx hb dX1_truths_46 rfl (lv_at hl 0 rfl) ?_
          refine lv_aload_n hx hb dX1_truths_47 rfl (lv_at hl 1 rfl) ?_
          refine lv_iload hx hb dX1_truths_48 (lv_at hl 6 rfl) ?_
          refine lv_iload_n hx hb dX1_truths_50 rfl (lv_at hl 3 rfl) ?_
          refine b_calll (va_runV (As := [.ref (g k), .int (nI i), .int q]) (rest := []) ⟨hx, hb, hml, hown, hts⟩ (u_tell l G g hg f_1 se hf pay fine nt ct np dp k ln sc sp vv1 (nI i) q hctc hhs hbk htr hct hpr hpd htx hpx hvl (by first | assumption | omega | decide) (by first | assumption | omega | decide) (by first | assumption | omega | decide) (by first | assumption | omega | decide) (by first | assumption | omega | decide) (by first | assumption | omega | decide) (by first | assumption | omega | decide) (by first | assumption | omega | decide) (by first | assumption | omega | decide)) (my_cwV hts ok_X1_tell w_428 rfl rfl ⟨Nat.le_of_ble_eq_true rfl, Nat.le_of_ble_eq_true rfl⟩) ⟨bP.blind, va_recv hG.1 hP (ci := 1) (q0 := 1) rfl (wl_at (by decide) hctc), fun U hU hW => ⟨rfl, by rw [hU]; exact hP, kG.warm hW hG⟩⟩ rfl rfl hl.1 rfl (lv_room (Nat.le_of_ble_eq_true rfl)) dX1_truths_51 ⟨Nat.le_of_ble_eq_true rfl, Nat.le_of_ble_eq_true rfl⟩) hS (fun v2 f_2 H locs hq9 hP hS => ?_)
          obtain ⟨vv93, hq_2_0, o_2⟩ := hq9
          replace hctc := (o_2 1 (by first | decide | omega)).trans hctc
          replace hhs := (o_2 12 (by first | decide | omega)).trans hhs
          replace hbk := (o_2 36 (by first | decide | omega)).trans hbk
          replace htr := (o_2 45 (by first | decide | omega)).trans htr
          replace hct := (o_2 46 (by first | decide | omega)).trans hct
          replace hpr := (o_2 37 (by first | decide | omega)).trans hpr
          replace hpd := (o_2 38 (by first | decide | omega)).trans hpd
          replace htx : f_2 k = eO 7 [.ref (g (k + 1)), .ref (g (k + 2)), .int (nI ln), .int (nI sc)] := (o_2 k (by omega)).trans htx
          replace hpx : f_2 (k + 2) = eI G 50 sp := (o_2 (k + 2) (by omega)).trans hpx
          have hvl : f_2 15 = eJ G 50 vv93 := hq_2_0
          have hH : ∀ i, i < 10 → okH G g f_2 (2 * i + 16) := fun z hz => okH_fr (hH z hz) (o_2 _ (by omega)) (o_2 _ (by omega))
          refine lv_lconst (v := 0) hx hb dX1_truths_54 (by decide) ?_
          refine W.lcmp hx hb dX1_truths_55 ?_
          refine lv_if_eq (tgt := 68) hx hb dX1_truths_56 (by decide) (fun c_56 => ?_) (fun c_56 => ?_)
          · refine lv_iinc (v := nI (i + 1)) (lv' := [(6, .int (nI (i + 1))), (0, .ref (g 1)), (1, .ref (g k)), (2, .int n), (3, .int q), (4, .int w), (5, .int u)]) hx hb dX1_truths_68 hl (k := 6) rfl (nI_1 i) (by decide) rfl (fun ls hl => ?_)
            refine lv_goto (tgt := 21) hx hb dX1_truths_71 (by decide) ?_
            exact ih_1 u vv93 (i + 1) f_2 _ _ _ (hi9) (hH) (by omega) (hctc) (hhs) (hbk) (htr) (hct) (hpr) (hpd) (htx) (hpx) (hvl) (fun j hj => ((o_2 j (by omega))).trans (o_1 j (by omega))) hP hS (lv_sub hl [1, 2, 3, 4, 5, 6, 0] rfl)
          · refine lv_iload hx hb dX1_truths_59 (lv_at hl 5 rfl) ?_
            refine lv_iconst (v := 1) hx hb dX1_truths_61 (by decide) ?_
            refine lv_iload hx hb dX1_truths_62 (lv_at hl 6 rfl) ?_
            refine lv_ishl hx hb dX1_truths_64 ?_
            refine lv_ior hx hb dX1_truths_65 ?_
            refine lv_istore (lv' := [(5, .int (u ||| (1 <<< ((nI i) &&& 31)))), (0, .ref (g 1)), (1, .ref (g k)), (2, .int n), (3, .int q), (4, .int w), (6, .int (nI i))]) hx hb dX1_truths_66 hl (by decide) rfl (fun ls hl => ?_)
            refine lv_iinc (v := nI (i + 1)) (lv' := [(6, .int (nI (i + 1))), (5, .int (u ||| (1 <<< ((nI i) &&& 31)))), (0, .ref (g 1)), (1, .ref (g k)), (2, .int n), (3, .int q), (4, .int w)]) hx hb dX1_truths_68 hl (k := 6) rfl (nI_1 i) (by decide) rfl (fun ls hl => ?_)
            refine lv_goto (tgt := 21) hx hb dX1_truths_71 (by decide) ?_
            exact ih_1 (u ||| (1 <<< ((nI i) &&& 31))) vv93 (i + 1) f_2 _ _ _ (hi9) (hH) (by omega) (hctc) (hhs) (hbk) (htr) (hct) (hpr) (hpd) (htx) (hpx) (hvl) (fun j hj => ((o_2 j (by omega))).trans (o_1 j (by omega))) hP hS (lv_sub hl [2, 3, 4, 5, 6, 1, 0] rfl)
  exact key1 (np + 1) 0 vv 0 f _ _ _ (Nat.zero_le _) (hH) (by omega) (hctc) (hhs) (hbk) (htr) (hct) (hpr) (hpd) (htx) (hpx) (hvl) (fun j _ => rfl) hP hS (lv_sub hl [2, 3, 4, 5, 6, 1, 0] rfl)
set_option maxHeartbeats 4000000 in
set_option maxRecDepth 100000 in
theorem u_hear00 (l : Launch) (G : gW) (g : Nat → Nat) (hg : gOK g) (f : Nat → va_E) (se : Nat) (hf : Nat → Option Nat) (pay : Int32) (fine : Int32) (nt : Nat) (ct : Nat → Int32) (np : Nat) (dp : Nat → Int32) (nf : Nat) (df : Nat → Int32) (nr : Nat) (dr : Nat → Int32) (k : Nat) (sl : Nat) (lo : Int32) (ib : Int32) (ca : Int32) (mi : Int32) (s0 : Int32) (s1 : Int32) (sw : Int32) (od : Nat → Int32) (vv : Nat → Int64) (w : Nat) (hctc : f 1 = eO 1 [.ref (g 36), .ref (g 12), .ref (g 13), .ref (g 15), .int (nI se)]) (hhs : f 12 = eA G 4 10 hf) (hbk : f 36 = eO 0 [.ref (g 37), .ref (g 39), .ref (g 41), .ref (g 43), .ref (g 45), .ref (g 47), .ref (g 112), .int pay, .int fine]) (htr : f 45 = eO 5 [.int (nI 10), .int (nI 70), .ref (g 46), .int (nI nt)]) (hct : f 46 = eI G (10 * 70) ct) (hpr : f 37 = eO 5 [.int (nI 30), .int (nI 4), .ref (g 38), .int (nI np)]) (hpd : f 38 = eI G (30 * 4) dp) (hfr : f 39 = eO 5 [.int (nI 40), .int (nI 3), .ref (g 40), .int (nI nf)]) (hfd : f 40 = eI G (40 * 3) df) (hor : f 41 = eO 5 [.int (nI 4), .int (nI 3), .ref (g 42), .int (nI nr)]) (hod : f 42 = eI G (4 * 3) dr) (hvl : f 15 = eJ G 50 vv) (hhe : f k = eO 3 [.ref (g (k + 1)), .int (nI sl), .int lo, .int ib, .int ca, .int mi, .int s0, .int s1, .int sw]) (hod9 : f (k + 1) = eI G 24 od) (hse : se ≤ 10) (hhf : ∀ i, i < 10 → hf i = some (g (2 * i + 16))) (hnt : nt ≤ 10) (hnp : np ≤ 30) (hnf : nf ≤ 40) (hnr : nr ≤ 4) (hk3 : k + 1 < 36) (hk13 : 13 ≤ k) (hk15 : k ≠ 14 ∧ k ≠ 15) (hsl : sl ≤ 24) (hw : w < 10) (hH : ∀ i, i < 10 → okH G g f (2 * i + 16)) : Met l yX1_hear (wsT yX1_hear cX1_hear 11 none) ({ frames := 4, cells := 0, slots := 0, locals := 89 }) (bP G g f [.ref (g 1), .int (nI w), .ref (g k), .null, .null]) (bQv G g (fun (f' : Nat → va_E) => ∃ vv9 : Nat → Int64, f' 15 = eJ G 50 vv9 ∧ (okH G g f' k) ∧ ∀ j, (j ≠ 15 ∧ j ≠ k ∧ j ≠ k + 1) → f' j = f j)) 0 0 (gA g) := by
  refine Met.ofW (cc := cX1_hear) (maxL := 11) (ret := none) (by decide) rfl ?_
  intro p e s m args below meth c s₁ B hml hv
  obtain ⟨rfl, hP, hG⟩ := hv
  have hx := B.exec
  have hb := B.bytes
  have hr := B.returns
  have hts := my_hts (atoms_spec (ws := wsT yX1_hear cX1_hear 11 none) B.pre)
  have hown : s.vm.findClass RX1 = some m.cls := findClass_of_methodNamed B.named
  have hlocks := B.notSynchronized
  have hS : va_S (gA g) s.heap s.heap [] := va_S.rf
  have hl := lv_entry ([.ref (g 1), .int (nI w), .ref (g k), .null, .null]) (n := 11) (Nat.le_of_ble_eq_true rfl)
  rw [lg_entry_eq]
  generalize (lg_sl ([.ref (g 1), .int (nI w), .ref (g k), .null, .null]) ++ List.replicate (11 - (lg_sl ([.ref (g 1), .int (nI w), .ref (g k), .null, .null])).length) Slot.unset).toArray = ls at hl ⊢
  have hl : lv_has ls 11 [(0, .ref (g 1)), (1, .int (nI w)), (2, .ref (g k)), (3, .null), (4, .null)] := hl
  refine lv_aload_n hx hb dX1_hear_0 rfl (lv_at hl 0 rfl) ?_
  refine va_get (D := G.1) (ci := 1) (v := .ref (g 36)) (C := RX1) (T := TX1) (N := 5) hx hb hts inlX1 hown hG.1 hP 1 (wl_at (by decide) hctc) rfl 0 (by decide) (hts (.fieldLink RX1 12 "SwornLists$Court" "book" "LSwornLists$Book;") w_40) (fun _ h9 => h9) rfl dX1_hear_1 ?_
  refine va_getN (D := G.1) (ci := 0) (v := .ref (g 45)) (C := RX0) (T := TX0) (N := 9) (host := RX10) hx hb hts inlX0 hown hG.1 hP 36 (wl_at (by decide) hbk) rfl 4 (by decide) (va_Nw.use rfl (hG.2.1 (.fieldLinkNest RX1 43 RX0 "trials" "LSwornLists$Rows;" RX10) (List.mem_of_getElem? (i := 6) rfl))) (fun _ h9 => h9) rfl dX1_hear_4 ?_
  refine lv_astore (lv' := [(5, .ref (g 45)), (0, .ref (g 1)), (1, .int (nI w)), (2, .ref (g k)), (3, .null), (4, .null)]) hx hb dX1_hear_7 hl (by decide) rfl (fun ls hl => ?_)
  refine lv_aload hx hb dX1_hear_9 (lv_at hl 0 rfl) ?_
  refine lv_iload_n hx hb dX1_hear_11 rfl (lv_at hl 2 rfl) ?_
  refine lv_iconst (v := 0) hx hb dX1_hear_12 (by decide) ?_
  refine rd_calli (va_runV (As := [.int (nI w), .int 0]) (rest := []) ⟨hx, hb, hml, hown, hts⟩ (r_at l G g hg f 45 10 70 nt ct (nI w) 0 htr hct (by first | assumption | omega | decide) (by first | assumption | omega | decide) (by first | assumption | omega | decide) (by first | assumption | omega | decide)) (my_cwV hts ok_X5_at w_389 rfl rfl ⟨Nat.le_of_ble_eq_true rfl, Nat.le_of_ble_eq_true rfl⟩) ⟨bP.blind, va_recv hG.1 hP (ci := 5) (q0 := 45) rfl (wl_at (by decide) htr), fun U hU hW => ⟨rfl, by rw [hU]; exact hP, kG.warm hW hG⟩⟩ rfl rfl hl.1 rfl (lv_room (Nat.le_of_ble_eq_true rfl)) dX1_hear_13 ⟨Nat.le_of_ble_eq_true rfl, Nat.le_of_ble_eq_true rfl⟩) (fun r hr9 => ?_)
  subst hr9
  refine lv_istore (lv' := [(6, .int (atv ct nt 70 (nI w) 0)), (5, .ref (g 45)), (0, .ref (g 1)), (1, .int (nI w)), (2, .ref (g k)), (3, .null), (4, .null)]) hx hb dX1_hear_16 hl (by decide) rfl (fun ls hl => ?_)
  refine lv_aload_n hx hb dX1_hear_18 rfl (lv_at hl 2 rfl) ?_
  refine va_get (D := G.1) (ci := 1) (v := .ref (g 36)) (C := RX1) (T := TX1) (N := 5) hx hb hts inlX1 hown hG.1 hP 1 (wl_at (by decide) hctc) rfl 0 (by decide) (hts (.fieldLink RX1 12 "SwornLists$Court" "book" "LSwornLists$Book;") w_40) (fun _ h9 => h9) rfl dX1_hear_19 ?_
  refine rd_calli (va_runV (As := []) (rest := []) ⟨hx, hb, hml, hown, hts⟩ (k_everyone l G g hg f pay fine np dp hbk hpr hpd (by first | assumption | omega | decide)) (my_cwV hts ok_X0_everyone w_407 rfl rfl ⟨Nat.le_of_ble_eq_true rfl, Nat.le_of_ble_eq_true rfl⟩) ⟨bP.blind, va_recv hG.1 hP (ci := 0) (q0 := 36) rfl (wl_at (by decide) hbk), fun U hU hW => ⟨rfl, by rw [hU]; exact hP, kG.warm hW hG⟩⟩ rfl rfl hl.1 rfl (lv_room (Nat.le_of_ble_eq_true rfl)) dX1_hear_22 ⟨Nat.le_of_ble_eq_true rfl, Nat.le_of_ble_eq_true rfl⟩) (fun v1 _ => ?_)
  refine lv_aload_n hx hb dX1_hear_25 rfl (lv_at hl 2 rfl) ?_
  refine va_get (D := G.1) (ci := 1) (v := .ref (g 36)) (C := RX1) (T := TX1) (N := 5) hx hb hts inlX1 hown hG.1 hP 1 (wl_at (by decide) hctc) rfl 0 (by decide) (hts (.fieldLink RX1 12 "SwornLists$Court" "book" "LSwornLists$Book;") w_40) (fun _ h9 => h9) rfl dX1_hear_26 ?_
  refine lv_iload_n hx hb dX1_hear_29 rfl (lv_at hl 3 rfl) ?_
  refine lv_iload hx hb dX1_hear_30 (lv_at hl 0 rfl) ?_
  refine rd_calli (va_runV (As := [.int (nI w), .int (atv ct nt 70 (nI w) 0)]) (rest := [.int v1]) ⟨hx, hb, hml, hown, hts⟩ (k_kinOfSides l G g hg f pay fine nf df nt ct (nI w) (atv ct nt 70 (nI w) 0) hbk hfr hfd htr hct (by first | assumption | omega | decide) (by first | assumption | omega | decide)) (my_cwV hts ok_X0_kinOfSides w_408 rfl rfl ⟨Nat.le_of_ble_eq_true rfl, Nat.le_of_ble_eq_true rfl⟩) ⟨bP.blind, va_recv hG.1 hP (ci := 0) (q0 := 36) rfl (wl_at (by decide) hbk), fun U hU hW => ⟨rfl, by rw [hU]; exact hP, kG.warm hW hG⟩⟩ rfl rfl hl.1 rfl (lv_room (Nat.le_of_ble_eq_true rfl)) dX1_hear_32 ⟨Nat.le_of_ble_eq_true rfl, Nat.le_of_ble_eq_true rfl⟩) (fun v2 _ => ?_)
  refine lv_iconst (v := (-1)) hx hb dX1_hear_35 (by decide) ?_
  refine lv_ixor hx hb dX1_hear_36 ?_
  refine lv_iand hx hb dX1_hear_37 ?_
  refine lv_aload_n hx hb dX1_hear_38 rfl (lv_at hl 2 rfl) ?_
  refine lv_iload_n hx hb dX1_hear_39 rfl (lv_at hl 3 rfl) ?_
  refine rd_calli (va_runV (As := [.int (nI w)]) (rest := [.int (v1 &&& (v2 ^^^ (-1)))]) ⟨hx, hb, hml, hown, hts⟩ (u_busy l G g hg f se hf pay fine nt ct w hctc hhs hbk htr hct (by first | assumption | omega | decide) (by first | assumption | omega | decide) (by first | assumption | omega | decide) (by first | assumption | omega | decide) (by first | assumption | omega | decide)) (my_cwV hts ok_X1_busy w_412 rfl rfl ⟨Nat.le_of_ble_eq_true rfl, Nat.le_of_ble_eq_true rfl⟩) ⟨bP.blind, va_recv hG.1 hP (ci := 1) (q0 := 1) rfl (wl_at (by decide) hctc), fun U hU hW => ⟨rfl, by rw [hU]; exact hP, kG.warm hW hG⟩⟩ rfl rfl hl.1 rfl (lv_room (Nat.le_of_ble_eq_true rfl)) dX1_hear_40 ⟨Nat.le_of_ble_eq_true rfl, Nat.le_of_ble_eq_true rfl⟩) (fun v3 _ => ?_)
  refine lv_iconst (v := (-1)) hx hb dX1_hear_43 (by decide) ?_
  refine lv_ixor hx hb dX1_hear_44 ?_
  refine lv_iand hx hb dX1_hear_45 ?_
  refine lv_istore (lv' := [(7, .int ((v1 &&& (v2 ^^^ (-1))) &&& (v3 ^^^ (-1)))), (6, .int (atv ct nt 70 (nI w) 0)), (5, .ref (g 45)), (0, .ref (g 1)), (1, .int (nI w)), (2, .ref (g k)), (3, .null), (4, .null)]) hx hb dX1_hear_46 hl (by decide) rfl (fun ls hl => ?_)
  refine lv_aload_n hx hb dX1_hear_48 rfl (lv_at hl 3 rfl) ?_
  refine lv_aload_nN hx hb dX1_hear_49 rfl (lv_at hl 6 rfl) ?_
  refine lv_iconst (v := 0) hx hb dX1_hear_50 (by decide) ?_
  refine lv_iload hx hb dX1_hear_51 (lv_at hl 1 rfl) ?_
  refine lv_iload hx hb dX1_hear_53 (lv_at hl 0 rfl) ?_
  refine rd_calli (va_runV (As := [.null, .int 0, .int (atv ct nt 70 (nI w) 0), .int ((v1 &&& (v2 ^^^ (-1))) &&& (v3 ^^^ (-1)))]) (rest := []) ⟨hx, hb, hml, hown, hts⟩ (u_truthsN l G g hg f 0 (atv ct nt 70 (nI w) 0) ((v1 &&& (v2 ^^^ (-1))) &&& (v3 ^^^ (-1)))  ) (my_cwV hts ok_X1_truths w_424 rfl rfl ⟨Nat.le_of_ble_eq_true rfl, Nat.le_of_ble_eq_true rfl⟩) ⟨bP.blind, va_recv hG.1 hP (ci := 1) (q0 := 1) rfl (wl_at (by decide) hctc), fun U hU hW => ⟨rfl, by rw [hU]; exact hP, kG.warm hW hG⟩⟩ rfl rfl hl.1 rfl (lv_room (Nat.le_of_ble_eq_true rfl)) dX1_hear_55 ⟨Nat.le_of_ble_eq_true rfl, Nat.le_of_ble_eq_true rfl⟩) (fun v4 _ => ?_)
  refine lv_istore (lv' := [(8, .int v4), (7, .int ((v1 &&& (v2 ^^^ (-1))) &&& (v3 ^^^ (-1)))), (6, .int (atv ct nt 70 (nI w) 0)), (5, .ref (g 45)), (0, .ref (g 1)), (1, .int (nI w)), (2, .ref (g k)), (3, .null), (4, .null)]) hx hb dX1_hear_58 hl (by decide) rfl (fun ls hl => ?_)
  refine lv_iload hx hb dX1_hear_60 (lv_at hl 0 rfl) ?_
  refine lv_aload_n hx hb dX1_hear_62 rfl (lv_at hl 4 rfl) ?_
  refine va_get (D := G.1) (ci := 1) (v := .ref (g 36)) (C := RX1) (T := TX1) (N := 5) hx hb hts inlX1 hown hG.1 hP 1 (wl_at (by decide) hctc) rfl 0 (by decide) (hts (.fieldLink RX1 12 "SwornLists$Court" "book" "LSwornLists$Book;") w_40) (fun _ h9 => h9) rfl dX1_hear_63 ?_
  refine lv_iload hx hb dX1_hear_66 (lv_at hl 2 rfl) ?_
  refine rd_calli (va_runV (As := [.int (atv ct nt 70 (nI w) 0)]) (rest := [.int v4]) ⟨hx, hb, hml, hown, hts⟩ (k_listedOn l G g hg f pay fine np dp nr dr (atv ct nt 70 (nI w) 0) hbk hpr hpd hor hod (by first | assumption | omega | decide) (by first | assumption | omega | decide)) (my_cwV hts ok_X0_listedOn w_464 rfl rfl ⟨Nat.le_of_ble_eq_true rfl, Nat.le_of_ble_eq_true rfl⟩) ⟨bP.blind, va_recv hG.1 hP (ci := 0) (q0 := 36) rfl (wl_at (by decide) hbk), fun U hU hW => ⟨rfl, by rw [hU]; exact hP, kG.warm hW hG⟩⟩ rfl rfl hl.1 rfl (lv_room (Nat.le_of_ble_eq_true rfl)) dX1_hear_68 ⟨Nat.le_of_ble_eq_true rfl, Nat.le_of_ble_eq_true rfl⟩) (fun v5 _ => ?_)
  refine lv_iand hx hb dX1_hear_71 ?_
  refine lv_aload_n hx hb dX1_hear_72 rfl (lv_at hl 4 rfl) ?_
  refine va_get (D := G.1) (ci := 1) (v := .ref (g 36)) (C := RX1) (T := TX1) (N := 5) hx hb hts inlX1 hown hG.1 hP 1 (wl_at (by decide) hctc) rfl 0 (by decide) (hts (.fieldLink RX1 12 "SwornLists$Court" "book" "LSwornLists$Book;") w_40) (fun _ h9 => h9) rfl dX1_hear_73 ?_
  refine lv_iload_n hx hb dX1_hear_76 rfl (lv_at hl 5 rfl) ?_
  refine rd_calli (va_runV (As := [.int (nI w)]) (rest := [.int (v4 &&& v5)]) ⟨hx, hb, hml, hown, hts⟩ (k_ofTradeWanted l G g hg f pay fine np dp nt ct (nI w) hbk hpr hpd htr hct (by first | assumption | omega | decide) (by first | assumption | omega | decide)) (my_cwV hts ok_X0_ofTradeWanted w_465 rfl rfl ⟨Nat.le_of_ble_eq_true rfl, Nat.le_of_ble_eq_true rfl⟩) ⟨bP.blind, va_recv hG.1 hP (ci := 0) (q0 := 36) rfl (wl_at (by decide) hbk), fun U hU hW => ⟨rfl, by rw [hU]; exact hP, kG.warm hW hG⟩⟩ rfl rfl hl.1 rfl (lv_room (Nat.le_of_ble_eq_true rfl)) dX1_hear_77 ⟨Nat.le_of_ble_eq_true rfl, Nat.le_of_ble_eq_true rfl⟩) (fun v6 _ => ?_)
  refine lv_iand hx hb dX1_hear_80 ?_
  refine lv_istore (lv' := [(9, .int ((v4 &&& v5) &&& v6)), (8, .int v4), (7, .int ((v1 &&& (v2 ^^^ (-1))) &&& (v3 ^^^ (-1)))), (6, .int (atv ct nt 70 (nI w) 0)), (5, .ref (g 45)), (0, .ref (g 1)), (1, .int (nI w)), (2, .ref (g k)), (3, .null), (4, .null)]) hx hb dX1_hear_81 hl (by decide) rfl (fun ls hl => ?_)
  refine lv_aload_n hx hb dX1_hear_83 rfl (lv_at hl 5 rfl) ?_
  refine lv_aloadN hx hb dX1_hear_84 (lv_at hl 9 rfl) ?_
  refine lv_iconst (v := 1) hx hb dX1_hear_86 (by decide) ?_
  refine lv_iload hx hb dX1_hear_87 (lv_at hl 3 rfl) ?_
  refine lv_iload hx hb dX1_hear_89 (lv_at hl 0 rfl) ?_
  refine rd_calli (va_runV (As := [.null, .int 1, .int (atv ct nt 70 (nI w) 0), .int ((v4 &&& v5) &&& v6)]) (rest := []) ⟨hx, hb, hml, hown, hts⟩ (u_truthsN l G g hg f 1 (atv ct nt 70 (nI w) 0) ((v4 &&& v5) &&& v6)  ) (my_cwV hts ok_X1_truths w_424 rfl rfl ⟨Nat.le_of_ble_eq_true rfl, Nat.le_of_ble_eq_true rfl⟩) ⟨bP.blind, va_recv hG.1 hP (ci := 1) (q0 := 1) rfl (wl_at (by decide) hctc), fun U hU hW => ⟨rfl, by rw [hU]; exact hP, kG.warm hW hG⟩⟩ rfl rfl hl.1 rfl (lv_room (Nat.le_of_ble_eq_true rfl)) dX1_hear_91 ⟨Nat.le_of_ble_eq_true rfl, Nat.le_of_ble_eq_true rfl⟩) (fun v7 _ => ?_)
  refine lv_istore (lv' := [(10, .int v7), (9, .int ((v4 &&& v5) &&& v6)), (8, .int v4), (7, .int ((v1 &&& (v2 ^^^ (-1))) &&& (v3 ^^^ (-1)))), (6, .int (atv ct nt 70 (nI w) 0)), (5, .ref (g 45)), (0, .ref (g 1)), (1, .int (nI w)), (2, .ref (g k)), (3, .null), (4, .null)]) hx hb dX1_hear_94 hl (by decide) rfl (fun ls hl => ?_)
  refine lv_aload_n hx hb dX1_hear_96 rfl (lv_at hl 8 rfl) ?_
  refine lv_iload hx hb dX1_hear_97 (lv_at hl 1 rfl) ?_
  refine lv_iload hx hb dX1_hear_99 (lv_at hl 0 rfl) ?_
  refine lv_iconst (v := (-1)) hx hb dX1_hear_101 (by decide) ?_
  refine lv_ixor hx hb dX1_hear_102 ?_
  refine lv_iand hx hb dX1_hear_103 ?_
  refine lv_aload hx hb dX1_hear_104 (lv_at hl 5 rfl) ?_
  refine lv_iload_n hx hb dX1_hear_106 rfl (lv_at hl 7 rfl) ?_
  refine lv_bipush (v := 7) hx hb dX1_hear_107 (by decide) ?_
  refine rd_calli (va_runV (As := [.int (nI w), .int 7]) (rest := [.int (((v4 &&& v5) &&& v6) &&& (v7 ^^^ (-1))), .ref (g k)]) ⟨hx, hb, hml, hown, hts⟩ (r_at l G g hg f 45 10 70 nt ct (nI w) 7 htr hct (by first | assumption | omega | decide) (by first | assumption | omega | decide) (by first | assumption | omega | decide) (by first | assumption | omega | decide)) (my_cwV hts ok_X5_at w_389 rfl rfl ⟨Nat.le_of_ble_eq_true rfl, Nat.le_of_ble_eq_true rfl⟩) ⟨bP.blind, va_recv hG.1 hP (ci := 5) (q0 := 45) rfl (wl_at (by decide) htr), fun U hU hW => ⟨rfl, by rw [hU]; exact hP, kG.warm hW hG⟩⟩ rfl rfl hl.1 rfl (lv_room (Nat.le_of_ble_eq_true rfl)) dX1_hear_109 ⟨Nat.le_of_ble_eq_true rfl, Nat.le_of_ble_eq_true rfl⟩) (fun r hr9 => ?_)
  subst hr9
  refine lv_aload hx hb dX1_hear_112 (lv_at hl 5 rfl) ?_
  refine lv_iload_n hx hb dX1_hear_114 rfl (lv_at hl 7 rfl) ?_
  refine lv_bipush (v := 8) hx hb dX1_hear_115 (by decide) ?_
  refine rd_calli (va_runV (As := [.int (nI w), .int 8]) (rest := [.int (atv ct nt 70 (nI w) 7), .int (((v4 &&& v5) &&& v6) &&& (v7 ^^^ (-1))), .ref (g k)]) ⟨hx, hb, hml, hown, hts⟩ (r_at l G g hg f 45 10 70 nt ct (nI w) 8 htr hct (by first | assumption | omega | decide) (by first | assumption | omega | decide) (by first | assumption | omega | decide) (by first | assumption | omega | decide)) (my_cwV hts ok_X5_at w_389 rfl rfl ⟨Nat.le_of_ble_eq_true rfl, Nat.le_of_ble_eq_true rfl⟩) ⟨bP.blind, va_recv hG.1 hP (ci := 5) (q0 := 45) rfl (wl_at (by decide) htr), fun U hU hW => ⟨rfl, by rw [hU]; exact hP, kG.warm hW hG⟩⟩ rfl rfl hl.1 rfl (lv_room (Nat.le_of_ble_eq_true rfl)) dX1_hear_117 ⟨Nat.le_of_ble_eq_true rfl, Nat.le_of_ble_eq_true rfl⟩) (fun r hr9 => ?_)
  subst hr9
  refine b_callv (va_runV (As := [.int (((v4 &&& v5) &&& v6) &&& (v7 ^^^ (-1))), .int (atv ct nt 70 (nI w) 7), .int (atv ct nt 70 (nI w) 8)]) (rest := []) ⟨hx, hb, hml, hown, hts⟩ (h_draw l G g hg f k sl lo ib ca mi s0 s1 sw od (((v4 &&& v5) &&& v6) &&& (v7 ^^^ (-1))) (atv ct nt 70 (nI w) 7) (atv ct nt 70 (nI w) 8) hhe hod9 (by first | assumption | omega | decide) (by first | assumption | omega | decide)) (my_cwV hts ok_X3_draw w_473 rfl rfl ⟨Nat.le_of_ble_eq_true rfl, Nat.le_of_ble_eq_true rfl⟩) ⟨bP.blind, va_recv hG.1 hP (ci := 3) (q0 := k) rfl (wl_at (by omega) hhe), fun U hU hW => ⟨rfl, by rw [hU]; exact hP, kG.warm hW hG⟩⟩ rfl rfl hl.1 rfl (lv_room (Nat.le_of_ble_eq_true rfl)) dX1_hear_120 ⟨Nat.le_of_ble_eq_true rfl, Nat.le_of_ble_eq_true rfl⟩) hS (fun f_1 H locs hq9 hP hS => ?_)
  obtain ⟨sl98, lo99, ib910, ca911, mi912, s0913, s1914, sw915, od916, hq_1_0, hq_1_1, hx_1_0, o_1⟩ := hq9
  replace hctc := (o_1 1 (by first | decide | omega)).trans hctc
  replace hhs := (o_1 12 (by first | decide | omega)).trans hhs
  replace hbk := (o_1 36 (by first | decide | omega)).trans hbk
  replace htr := (o_1 45 (by first | decide | omega)).trans htr
  replace hct := (o_1 46 (by first | decide | omega)).trans hct
  replace hpr := (o_1 37 (by first | decide | omega)).trans hpr
  replace hpd := (o_1 38 (by first | decide | omega)).trans hpd
  replace hfr := (o_1 39 (by first | decide | omega)).trans hfr
  replace hfd := (o_1 40 (by first | decide | omega)).trans hfd
  replace hor := (o_1 41 (by first | decide | omega)).trans hor
  replace hod := (o_1 42 (by first | decide | omega)).trans hod
  replace hvl := (o_1 15 (by first | decide | omega)).trans hvl
  have hhe : f_1 k = eO 3 [.ref (g (k + 1)), .int (nI sl98), .int lo99, .int ib910, .int ca911, .int mi912, .int s0913, .int s1914, .int sw915] := hq_1_0
  have hod9 : f_1 (k + 1) = eI G 24 od916 := hq_1_1
  refine lv_aload_n hx hb dX1_hear_123 rfl (lv_at hl 8 rfl) ?_
  refine lv_aload hx hb dX1_hear_124 (lv_at hl 5 rfl) ?_
  refine lv_iload_n hx hb dX1_hear_126 rfl (lv_at hl 7 rfl) ?_
  refine b_callv (va_runV (As := [.ref (g 45), .int (nI w)]) (rest := []) ⟨hx, hb, hml, hown, hts⟩ (h_strike l G g hg f_1 k sl98 lo99 ib910 ca911 mi912 s0913 s1914 sw915 od916 nt ct (nI w) hhe hod9 htr hct (by first | assumption | omega | decide) (by first | assumption | omega | decide) (by first | assumption | omega | decide)) (my_cwV hts ok_X3_strike w_493 rfl rfl ⟨Nat.le_of_ble_eq_true rfl, Nat.le_of_ble_eq_true rfl⟩) ⟨bP.blind, va_recv hG.1 hP (ci := 3) (q0 := k) rfl (wl_at (by omega) hhe), fun U hU hW => ⟨rfl, by rw [hU]; exact hP, kG.warm hW hG⟩⟩ rfl rfl hl.1 rfl (lv_room (Nat.le_of_ble_eq_true rfl)) dX1_hear_127 ⟨Nat.le_of_ble_eq_true rfl, Nat.le_of_ble_eq_true rfl⟩) hS (fun f_2 H locs hq9 hP hS => ?_)
  obtain ⟨sl917, lo918, ib919, ca920, mi921, s0922, s1923, sw924, od925, hq_2_0, hq_2_1, hx_2_0, o_2⟩ := hq9
  replace hctc := (o_2 1 (by first | decide | omega)).trans hctc
  replace hhs := (o_2 12 (by first | decide | omega)).trans hhs
  replace hbk := (o_2 36 (by first | decide | omega)).trans hbk
  replace htr := (o_2 45 (by first | decide | omega)).trans htr
  replace hct := (o_2 46 (by first | decide | omega)).trans hct
  replace hpr := (o_2 37 (by first | decide | omega)).trans hpr
  replace hpd := (o_2 38 (by first | decide | omega)).trans hpd
  replace hfr := (o_2 39 (by first | decide | omega)).trans hfr
  replace hfd := (o_2 40 (by first | decide | omega)).trans hfd
  replace hor := (o_2 41 (by first | decide | omega)).trans hor
  replace hod := (o_2 42 (by first | decide | omega)).trans hod
  replace hvl := (o_2 15 (by first | decide | omega)).trans hvl
  have hhe : f_2 k = eO 3 [.ref (g (k + 1)), .int (nI sl917), .int lo918, .int ib919, .int ca920, .int mi921, .int s0922, .int s1923, .int sw924] := hq_2_0
  have hod9 : f_2 (k + 1) = eI G 24 od925 := hq_2_1
  refine lv_aload_n hx hb dX1_hear_130 rfl (lv_at hl 8 rfl) ?_
  refine lv_aload hx hb dX1_hear_131 (lv_at hl 5 rfl) ?_
  refine lv_iload_n hx hb dX1_hear_133 rfl (lv_at hl 7 rfl) ?_
  refine lv_iconst (v := 2) hx hb dX1_hear_134 (by decide) ?_
  refine rd_calli (va_runV (As := [.int (nI w), .int 2]) (rest := [.ref (g k)]) ⟨hx, hb, hml, hown, hts⟩ (r_at l G g hg f_2 45 10 70 nt ct (nI w) 2 htr hct (by first | assumption | omega | decide) (by first | assumption | omega | decide) (by first | assumption | omega | decide) (by first | assumption | omega | decide)) (my_cwV hts ok_X5_at w_389 rfl rfl ⟨Nat.le_of_ble_eq_true rfl, Nat.le_of_ble_eq_true rfl⟩) ⟨bP.blind, va_recv hG.1 hP (ci := 5) (q0 := 45) rfl (wl_at (by decide) htr), fun U hU hW => ⟨rfl, by rw [hU]; exact hP, kG.warm hW hG⟩⟩ rfl rfl hl.1 rfl (lv_room (Nat.le_of_ble_eq_true rfl)) dX1_hear_135 ⟨Nat.le_of_ble_eq_true rfl, Nat.le_of_ble_eq_true rfl⟩) (fun r hr9 => ?_)
  subst hr9
  refine lv_iload hx hb dX1_hear_138 (lv_at hl 2 rfl) ?_
  refine lv_aload_n hx hb dX1_hear_140 rfl (lv_at hl 8 rfl) ?_
  refine va_getN (D := G.1) (ci := 3) (v := .int ib919) (C := RX3) (T := TX3) (N := 9) (host := RX10) hx hb hts inlX3 hown hG.1 hP k (wl_at (by omega) hhe) rfl 3 (by decide) (va_Nw.use rfl (hG.2.1 (.fieldLinkNest RX1 96 RX3 "inBox" "I" RX10) (List.mem_of_getElem? (i := 12) rfl))) (fun _ h9 => h9) rfl dX1_hear_141 ?_
  refine lv_iconst (v := (-1)) hx hb dX1_hear_144 (by decide) ?_
  refine lv_ixor hx hb dX1_hear_145 ?_
  refine lv_iand hx hb dX1_hear_146 ?_
  refine b_callv (va_runV (As := [.int (atv ct nt 70 (nI w) 2), .int (v4 &&& (ib919 ^^^ (-1)))]) (rest := []) ⟨hx, hb, hml, hown, hts⟩ (h_seat l G g hg f_2 k sl917 lo918 ib919 ca920 mi921 s0922 s1923 sw924 od925 (atv ct nt 70 (nI w) 2) (v4 &&& (ib919 ^^^ (-1))) hhe hod9 (by first | assumption | omega | decide) (by first | assumption | omega | decide)) (my_cwV hts ok_X3_seat w_511 rfl rfl ⟨Nat.le_of_ble_eq_true rfl, Nat.le_of_ble_eq_true rfl⟩) ⟨bP.blind, va_recv hG.1 hP (ci := 3) (q0 := k) rfl (wl_at (by omega) hhe), fun U hU hW => ⟨rfl, by rw [hU]; exact hP, kG.warm hW hG⟩⟩ rfl rfl hl.1 rfl (lv_room (Nat.le_of_ble_eq_true rfl)) dX1_hear_147 ⟨Nat.le_of_ble_eq_true rfl, Nat.le_of_ble_eq_true rfl⟩) hS (fun f_3 H locs hq9 hP hS => ?_)
  obtain ⟨sl926, lo927, ib928, ca929, mi930, s0931, s1932, sw933, od934, hq_3_0, hq_3_1, hx_3_0, o_3⟩ := hq9
  replace hctc := (o_3 1 (by first | decide | omega)).trans hctc
  replace hhs := (o_3 12 (by first | decide | omega)).trans hhs
  replace hbk := (o_3 36 (by first | decide | omega)).trans hbk
  replace htr := (o_3 45 (by first | decide | omega)).trans htr
  replace hct := (o_3 46 (by first | decide | omega)).trans hct
  replace hpr := (o_3 37 (by first | decide | omega)).trans hpr
  replace hpd := (o_3 38 (by first | decide | omega)).trans hpd
  replace hfr := (o_3 39 (by first | decide | omega)).trans hfr
  replace hfd := (o_3 40 (by first | decide | omega)).trans hfd
  replace hor := (o_3 41 (by first | decide | omega)).trans hor
  replace hod := (o_3 42 (by first | decide | omega)).trans hod
  replace hvl := (o_3 15 (by first | decide | omega)).trans hvl
  have hhe : f_3 k = eO 3 [.ref (g (k + 1)), .int (nI sl926), .int lo927, .int ib928, .int ca929, .int mi930, .int s0931, .int s1932, .int sw933] := hq_3_0
  have hod9 : f_3 (k + 1) = eI G 24 od934 := hq_3_1
  exact W.vret hx hb hr (fun t ht hW => ⟨⟨f_3, rfl, (⟨vv, hvl, ⟨sl926, lo927, ib928, ca929, mi930, s0931, s1932, sw933, od934, hhe, hod9, by omega⟩, fun j hj => (((o_3 j (by omega))).trans (o_2 j (by omega))).trans (o_1 j (by omega))⟩), by rw [ht]; exact hP⟩, hS.F ht⟩) hS.2.2 dX1_hear_150
set_option maxHeartbeats 4000000 in
set_option maxRecDepth 100000 in
theorem u_hear01 (l : Launch) (G : gW) (g : Nat → Nat) (hg : gOK g) (f : Nat → va_E) (se : Nat) (hf : Nat → Option Nat) (pay : Int32) (fine : Int32) (nt : Nat) (ct : Nat → Int32) (np : Nat) (dp : Nat → Int32) (nf : Nat) (df : Nat → Int32) (nr : Nat) (dr : Nat → Int32) (k : Nat) (sl : Nat) (lo : Int32) (ib : Int32) (ca : Int32) (mi : Int32) (s0 : Int32) (s1 : Int32) (sw : Int32) (od : Nat → Int32) (vv : Nat → Int64) (w : Nat) (k2 : Nat) (ln2 : Nat) (sc2 : Nat) (sp2 : Nat → Int32) (hctc : f 1 = eO 1 [.ref (g 36), .ref (g 12), .ref (g 13), .ref (g 15), .int (nI se)]) (hhs : f 12 = eA G 4 10 hf) (hbk : f 36 = eO 0 [.ref (g 37), .ref (g 39), .ref (g 41), .ref (g 43), .ref (g 45), .ref (g 47), .ref (g 112), .int pay, .int fine]) (htr : f 45 = eO 5 [.int (nI 10), .int (nI 70), .ref (g 46), .int (nI nt)]) (hct : f 46 = eI G (10 * 70) ct) (hpr : f 37 = eO 5 [.int (nI 30), .int (nI 4), .ref (g 38), .int (nI np)]) (hpd : f 38 = eI G (30 * 4) dp) (hfr : f 39 = eO 5 [.int (nI 40), .int (nI 3), .ref (g 40), .int (nI nf)]) (hfd : f 40 = eI G (40 * 3) df) (hor : f 41 = eO 5 [.int (nI 4), .int (nI 3), .ref (g 42), .int (nI nr)]) (hod : f 42 = eI G (4 * 3) dr) (hvl : f 15 = eJ G 50 vv) (hhe : f k = eO 3 [.ref (g (k + 1)), .int (nI sl), .int lo, .int ib, .int ca, .int mi, .int s0, .int s1, .int sw]) (hod9 : f (k + 1) = eI G 24 od) (htx2 : f k2 = eO 7 [.ref (g (k2 + 1)), .ref (g (k2 + 2)), .int (nI ln2), .int (nI sc2)]) (hpx2 : f (k2 + 2) = eI G 50 sp2) (hse : se ≤ 10) (hhf : ∀ i, i < 10 → hf i = some (g (2 * i + 16))) (hnt : nt ≤ 10) (hnp : np ≤ 30) (hnf : nf ≤ 40) (hnr : nr ≤ 4) (hk3 : k + 1 < 36) (hk13 : 13 ≤ k) (hk15 : k ≠ 14 ∧ k ≠ 15) (hsl : sl ≤ 24) (hw : w < 10) (hk32 : k2 + 2 < 333) (hkt2 : 36 ≤ k2) (hln2 : ln2 ≤ 50) (hsc2 : sc2 ≤ 50) (hH : ∀ i, i < 10 → okH G g f (2 * i + 16)) : Met l yX1_hear (wsT yX1_hear cX1_hear 11 none) ({ frames := 5, cells := 0, slots := 0, locals := 124 }) (bP G g f [.ref (g 1), .int (nI w), .ref (g k), .null, .ref (g k2)]) (bQv G g (fun (f' : Nat → va_E) => ∃ vv9 : Nat → Int64, f' 15 = eJ G 50 vv9 ∧ (okH G g f' k) ∧ ∀ j, (j ≠ 15 ∧ j ≠ k ∧ j ≠ k + 1) → f' j = f j)) 0 0 (gA g) := by
  refine Met.ofW (cc := cX1_hear) (maxL := 11) (ret := none) (by decide) rfl ?_
  intro p e s m args below meth c s₁ B hml hv
  obtain ⟨rfl, hP, hG⟩ := hv
  have hx := B.exec
  have hb := B.bytes
  have hr := B.returns
  have hts := my_hts (atoms_spec (ws := wsT yX1_hear cX1_hear 11 none) B.pre)
  have hown : s.vm.findClass RX1 = some m.cls := findClass_of_methodNamed B.named
  have hlocks := B.notSynchronized
  have hS : va_S (gA g) s.heap s.heap [] := va_S.rf
  have hl := lv_entry ([.ref (g 1), .int (nI w), .ref (g k), .null, .ref (g k2)]) (n := 11) (Nat.le_of_ble_eq_true rfl)
  rw [lg_entry_eq]
  generalize (lg_sl ([.ref (g 1), .int (nI w), .ref (g k), .null, .ref (g k2)]) ++ List.replicate (11 - (lg_sl ([.ref (g 1), .int (nI w), .ref (g k), .null, .ref (g k2)])).length) Slot.unset).toArray = ls at hl ⊢
  have hl : lv_has ls 11 [(0, .ref (g 1)), (1, .int (nI w)), (2, .ref (g k)), (3, .null), (4, .ref (g k2))] := hl
  refine lv_aload_n hx hb dX1_hear_0 rfl (lv_at hl 0 rfl) ?_
  refine va_get (D := G.1) (ci := 1) (v := .ref (g 36)) (C := RX1) (T := TX1) (N := 5) hx hb hts inlX1 hown hG.1 hP 1 (wl_at (by decide) hctc) rfl 0 (by decide) (hts (.fieldLink RX1 12 "SwornLists$Court" "book" "LSwornLists$Book;") w_40) (fun _ h9 => h9) rfl dX1_hear_1 ?_
  refine va_getN (D := G.1) (ci := 0) (v := .ref (g 45)) (C := RX0) (T := TX0) (N := 9) (host := RX10) hx hb hts inlX0 hown hG.1 hP 36 (wl_at (by decide) hbk) rfl 4 (by decide) (va_Nw.use rfl (hG.2.1 (.fieldLinkNest RX1 43 RX0 "trials" "LSwornLists$Rows;" RX10) (List.mem_of_getElem? (i := 6) rfl))) (fun _ h9 => h9) rfl dX1_hear_4 ?_
  refine lv_astore (lv' := [(5, .ref (g 45)), (0, .ref (g 1)), (1, .int (nI w)), (2, .ref (g k)), (3, .null), (4, .ref (g k2))]) hx hb dX1_hear_7 hl (by decide) rfl (fun ls hl => ?_)
  refine lv_aload hx hb dX1_hear_9 (lv_at hl 0 rfl) ?_
  refine lv_iload_n hx hb dX1_hear_11 rfl (lv_at hl 2 rfl) ?_
  refine lv_iconst (v := 0) hx hb dX1_hear_12 (by decide) ?_
  refine rd_calli (va_runV (As := [.int (nI w), .int 0]) (rest := []) ⟨hx, hb, hml, hown, hts⟩ (r_at l G g hg f 45 10 70 nt ct (nI w) 0 htr hct (by first | assumption | omega | decide) (by first | assumption | omega | decide) (by first | assumption | omega | decide) (by first | assumption | omega | decide)) (my_cwV hts ok_X5_at w_389 rfl rfl ⟨Nat.le_of_ble_eq_true rfl, Nat.le_of_ble_eq_true rfl⟩) ⟨bP.blind, va_recv hG.1 hP (ci := 5) (q0 := 45) rfl (wl_at (by decide) htr), fun U hU hW => ⟨rfl, by rw [hU]; exact hP, kG.warm hW hG⟩⟩ rfl rfl hl.1 rfl (lv_room (Nat.le_of_ble_eq_true rfl)) dX1_hear_13 ⟨Nat.le_of_ble_eq_true rfl, Nat.le_of_ble_eq_true rfl⟩) (fun r hr9 => ?_)
  subst hr9
  refine lv_istore (lv' := [(6, .int (atv ct nt 70 (nI w) 0)), (5, .ref (g 45)), (0, .ref (g 1)), (1, .int (nI w)), (2, .ref (g k)), (3, .null), (4, .ref (g k2))]) hx hb dX1_hear_16 hl (by decide) rfl (fun ls hl => ?_)
  refine lv_aload_n hx hb dX1_hear_18 rfl (lv_at hl 2 rfl) ?_
  refine va_get (D := G.1) (ci := 1) (v := .ref (g 36)) (C := RX1) (T := TX1) (N := 5) hx hb hts inlX1 hown hG.1 hP 1 (wl_at (by decide) hctc) rfl 0 (by decide) (hts (.fieldLink RX1 12 "SwornLists$Court" "book" "LSwornLists$Book;") w_40) (fun _ h9 => h9) rfl dX1_hear_19 ?_
  refine rd_calli (va_runV (As := []) (rest := []) ⟨hx, hb, hml, hown, hts⟩ (k_everyone l G g hg f pay fine np dp hbk hpr hpd (by first | assumption | omega | decide)) (my_cwV hts ok_X0_everyone w_407 rfl rfl ⟨Nat.le_of_ble_eq_true rfl, Nat.le_of_ble_eq_true rfl⟩) ⟨bP.blind, va_recv hG.1 hP (ci := 0) (q0 := 36) rfl (wl_at (by decide) hbk), fun U hU hW => ⟨rfl, by rw [hU]; exact hP, kG.warm hW hG⟩⟩ rfl rfl hl.1 rfl (lv_room (Nat.le_of_ble_eq_true rfl)) dX1_hear_22 ⟨Nat.le_of_ble_eq_true rfl, Nat.le_of_ble_eq_true rfl⟩) (fun v1 _ => ?_)
  refine lv_aload_n hx hb dX1_hear_25 rfl (lv_at hl 2 rfl) ?_
  refine va_get (D := G.1) (ci := 1) (v := .ref (g 36)) (C := RX1) (T := TX1) (N := 5) hx hb hts inlX1 hown hG.1 hP 1 (wl_at (by decide) hctc) rfl 0 (by decide) (hts (.fieldLink RX1 12 "SwornLists$Court" "book" "LSwornLists$Book;") w_40) (fun _ h9 => h9) rfl dX1_hear_26 ?_
  refine lv_iload_n hx hb dX1_hear_29 rfl (lv_at hl 3 rfl) ?_
  refine lv_iload hx hb dX1_hear_30 (lv_at hl 0 rfl) ?_
  refine rd_calli (va_runV (As := [.int (nI w), .int (atv ct nt 70 (nI w) 0)]) (rest := [.int v1]) ⟨hx, hb, hml, hown, hts⟩ (k_kinOfSides l G g hg f pay fine nf df nt ct (nI w) (atv ct nt 70 (nI w) 0) hbk hfr hfd htr hct (by first | assumption | omega | decide) (by first | assumption | omega | decide)) (my_cwV hts ok_X0_kinOfSides w_408 rfl rfl ⟨Nat.le_of_ble_eq_true rfl, Nat.le_of_ble_eq_true rfl⟩) ⟨bP.blind, va_recv hG.1 hP (ci := 0) (q0 := 36) rfl (wl_at (by decide) hbk), fun U hU hW => ⟨rfl, by rw [hU]; exact hP, kG.warm hW hG⟩⟩ rfl rfl hl.1 rfl (lv_room (Nat.le_of_ble_eq_true rfl)) dX1_hear_32 ⟨Nat.le_of_ble_eq_true rfl, Nat.le_of_ble_eq_true rfl⟩) (fun v2 _ => ?_)
  refine lv_iconst (v := (-1)) hx hb dX1_hear_35 (by decide) ?_
  refine lv_ixor hx hb dX1_hear_36 ?_
  refine lv_iand hx hb dX1_hear_37 ?_
  refine lv_aload_n hx hb dX1_hear_38 rfl (lv_at hl 2 rfl) ?_
  refine lv_iload_n hx hb dX1_hear_39 rfl (lv_at hl 3 rfl) ?_
  refine rd_calli (va_runV (As := [.int (nI w)]) (rest := [.int (v1 &&& (v2 ^^^ (-1)))]) ⟨hx, hb, hml, hown, hts⟩ (u_busy l G g hg f se hf pay fine nt ct w hctc hhs hbk htr hct (by first | assumption | omega | decide) (by first | assumption | omega | decide) (by first | assumption | omega | decide) (by first | assumption | omega | decide) (by first | assumption | omega | decide)) (my_cwV hts ok_X1_busy w_412 rfl rfl ⟨Nat.le_of_ble_eq_true rfl, Nat.le_of_ble_eq_true rfl⟩) ⟨bP.blind, va_recv hG.1 hP (ci := 1) (q0 := 1) rfl (wl_at (by decide) hctc), fun U hU hW => ⟨rfl, by rw [hU]; exact hP, kG.warm hW hG⟩⟩ rfl rfl hl.1 rfl (lv_room (Nat.le_of_ble_eq_true rfl)) dX1_hear_40 ⟨Nat.le_of_ble_eq_true rfl, Nat.le_of_ble_eq_true rfl⟩) (fun v3 _ => ?_)
  refine lv_iconst (v := (-1)) hx hb dX1_hear_43 (by decide) ?_
  refine lv_ixor hx hb dX1_hear_44 ?_
  refine lv_iand hx hb dX1_hear_45 ?_
  refine lv_istore (lv' := [(7, .int ((v1 &&& (v2 ^^^ (-1))) &&& (v3 ^^^ (-1)))), (6, .int (atv ct nt 70 (nI w) 0)), (5, .ref (g 45)), (0, .ref (g 1)), (1, .int (nI w)), (2, .ref (g k)), (3, .null), (4, .ref (g k2))]) hx hb dX1_hear_46 hl (by decide) rfl (fun ls hl => ?_)
  refine lv_aload_n hx hb dX1_hear_48 rfl (lv_at hl 3 rfl) ?_
  refine lv_aload_nN hx hb dX1_hear_49 rfl (lv_at hl 6 rfl) ?_
  refine lv_iconst (v := 0) hx hb dX1_hear_50 (by decide) ?_
  refine lv_iload hx hb dX1_hear_51 (lv_at hl 1 rfl) ?_
  refine lv_iload hx hb dX1_hear_53 (lv_at hl 0 rfl) ?_
  refine rd_calli (va_runV (As := [.null, .int 0, .int (atv ct nt 70 (nI w) 0), .int ((v1 &&& (v2 ^^^ (-1))) &&& (v3 ^^^ (-1)))]) (rest := []) ⟨hx, hb, hml, hown, hts⟩ (u_truthsN l G g hg f 0 (atv ct nt 70 (nI w) 0) ((v1 &&& (v2 ^^^ (-1))) &&& (v3 ^^^ (-1)))  ) (my_cwV hts ok_X1_truths w_424 rfl rfl ⟨Nat.le_of_ble_eq_true rfl, Nat.le_of_ble_eq_true rfl⟩) ⟨bP.blind, va_recv hG.1 hP (ci := 1) (q0 := 1) rfl (wl_at (by decide) hctc), fun U hU hW => ⟨rfl, by rw [hU]; exact hP, kG.warm hW hG⟩⟩ rfl rfl hl.1 rfl (lv_room (Nat.le_of_ble_eq_true rfl)) dX1_hear_55 ⟨Nat.le_of_ble_eq_true rfl, Nat.le_of_ble_eq_true rfl⟩) (fun v4 _ => ?_)
  refine lv_istore (lv' := [(8, .int v4), (7, .int ((v1 &&& (v2 ^^^ (-1))) &&& (v3 ^^^ (-1)))), (6, .int (atv ct nt 70 (nI w) 0)), (5, .ref (g 45)), (0, .ref (g 1)), (1, .int (nI w)), (2, .ref (g k)), (3, .null), (4, .ref (g k2))]) hx hb dX1_hear_58 hl (by decide) rfl (fun ls hl => ?_)
  refine lv_iload hx hb dX1_hear_60 (lv_at hl 0 rfl) ?_
  refine lv_aload_n hx hb dX1_hear_62 rfl (lv_at hl 4 rfl) ?_
  refine va_get (D := G.1) (ci := 1) (v := .ref (g 36)) (C := RX1) (T := TX1) (N := 5) hx hb hts inlX1 hown hG.1 hP 1 (wl_at (by decide) hctc) rfl 0 (by decide) (hts (.fieldLink RX1 12 "SwornLists$Court" "book" "LSwornLists$Book;") w_40) (fun _ h9 => h9) rfl dX1_hear_63 ?_
  refine lv_iload hx hb dX1_hear_66 (lv_at hl 2 rfl) ?_
  refine rd_calli (va_runV (As := [.int (atv ct nt 70 (nI w) 0)]) (rest := [.int v4]) ⟨hx, hb, hml, hown, hts⟩ (k_listedOn l G g hg f pay fine np dp nr dr (atv ct nt 70 (nI w) 0) hbk hpr hpd hor hod (by first | assumption | omega | decide) (by first | assumption | omega | decide)) (my_cwV hts ok_X0_listedOn w_464 rfl rfl ⟨Nat.le_of_ble_eq_true rfl, Nat.le_of_ble_eq_true rfl⟩) ⟨bP.blind, va_recv hG.1 hP (ci := 0) (q0 := 36) rfl (wl_at (by decide) hbk), fun U hU hW => ⟨rfl, by rw [hU]; exact hP, kG.warm hW hG⟩⟩ rfl rfl hl.1 rfl (lv_room (Nat.le_of_ble_eq_true rfl)) dX1_hear_68 ⟨Nat.le_of_ble_eq_true rfl, Nat.le_of_ble_eq_true rfl⟩) (fun v5 _ => ?_)
  refine lv_iand hx hb dX1_hear_71 ?_
  refine lv_aload_n hx hb dX1_hear_72 rfl (lv_at hl 4 rfl) ?_
  refine va_get (D := G.1) (ci := 1) (v := .ref (g 36)) (C := RX1) (T := TX1) (N := 5) hx hb hts inlX1 hown hG.1 hP 1 (wl_at (by decide) hctc) rfl 0 (by decide) (hts (.fieldLink RX1 12 "SwornLists$Court" "book" "LSwornLists$Book;") w_40) (fun _ h9 => h9) rfl dX1_hear_73 ?_
  refine lv_iload_n hx hb dX1_hear_76 rfl (lv_at hl 5 rfl) ?_
  refine rd_calli (va_runV (As := [.int (nI w)]) (rest := [.int (v4 &&& v5)]) ⟨hx, hb, hml, hown, hts⟩ (k_ofTradeWanted l G g hg f pay fine np dp nt ct (nI w) hbk hpr hpd htr hct (by first | assumption | omega | decide) (by first | assumption | omega | decide)) (my_cwV hts ok_X0_ofTradeWanted w_465 rfl rfl ⟨Nat.le_of_ble_eq_true rfl, Nat.le_of_ble_eq_true rfl⟩) ⟨bP.blind, va_recv hG.1 hP (ci := 0) (q0 := 36) rfl (wl_at (by decide) hbk), fun U hU hW => ⟨rfl, by rw [hU]; exact hP, kG.warm hW hG⟩⟩ rfl rfl hl.1 rfl (lv_room (Nat.le_of_ble_eq_true rfl)) dX1_hear_77 ⟨Nat.le_of_ble_eq_true rfl, Nat.le_of_ble_eq_true rfl⟩) (fun v6 _ => ?_)
  refine lv_iand hx hb dX1_hear_80 ?_
  refine lv_istore (lv' := [(9, .int ((v4 &&& v5) &&& v6)), (8, .int v4), (7, .int ((v1 &&& (v2 ^^^ (-1))) &&& (v3 ^^^ (-1)))), (6, .int (atv ct nt 70 (nI w) 0)), (5, .ref (g 45)), (0, .ref (g 1)), (1, .int (nI w)), (2, .ref (g k)), (3, .null), (4, .ref (g k2))]) hx hb dX1_hear_81 hl (by decide) rfl (fun ls hl => ?_)
  refine lv_aload_n hx hb dX1_hear_83 rfl (lv_at hl 5 rfl) ?_
  refine lv_aload hx hb dX1_hear_84 (lv_at hl 9 rfl) ?_
  refine lv_iconst (v := 1) hx hb dX1_hear_86 (by decide) ?_
  refine lv_iload hx hb dX1_hear_87 (lv_at hl 3 rfl) ?_
  refine lv_iload hx hb dX1_hear_89 (lv_at hl 0 rfl) ?_
  refine b_calli (va_runV (As := [.ref (g k2), .int 1, .int (atv ct nt 70 (nI w) 0), .int ((v4 &&& v5) &&& v6)]) (rest := []) ⟨hx, hb, hml, hown, hts⟩ (u_truthsT l G g hg f se hf pay fine nt ct np dp k2 ln2 sc2 sp2 vv 1 (atv ct nt 70 (nI w) 0) ((v4 &&& v5) &&& v6) hctc hhs hbk htr hct hpr hpd htx2 hpx2 hvl (by first | assumption | omega | decide) (by first | assumption | omega | decide) (by first | assumption | omega | decide) (by first | assumption | omega | decide) (by first | assumption | omega | decide) (by first | assumption | omega | decide) (by first | assumption | omega | decide) (by first | assumption | omega | decide) (by first | assumption | omega | decide)) (my_cwV hts ok_X1_truths w_424 rfl rfl ⟨Nat.le_of_ble_eq_true rfl, Nat.le_of_ble_eq_true rfl⟩) ⟨bP.blind, va_recv hG.1 hP (ci := 1) (q0 := 1) rfl (wl_at (by decide) hctc), fun U hU hW => ⟨rfl, by rw [hU]; exact hP, kG.warm hW hG⟩⟩ rfl rfl hl.1 rfl (lv_room (Nat.le_of_ble_eq_true rfl)) dX1_hear_91 ⟨Nat.le_of_ble_eq_true rfl, Nat.le_of_ble_eq_true rfl⟩) hS (fun v7 f_1 H locs hq9 hP hS => ?_)
  obtain ⟨vv98, hq_1_0, o_1⟩ := hq9
  replace hctc := (o_1 1 (by first | decide | omega)).trans hctc
  replace hhs := (o_1 12 (by first | decide | omega)).trans hhs
  replace hbk := (o_1 36 (by first | decide | omega)).trans hbk
  replace htr := (o_1 45 (by first | decide | omega)).trans htr
  replace hct := (o_1 46 (by first | decide | omega)).trans hct
  replace hpr := (o_1 37 (by first | decide | omega)).trans hpr
  replace hpd := (o_1 38 (by first | decide | omega)).trans hpd
  replace hfr := (o_1 39 (by first | decide | omega)).trans hfr
  replace hfd := (o_1 40 (by first | decide | omega)).trans hfd
  replace hor := (o_1 41 (by first | decide | omega)).trans hor
  replace hod := (o_1 42 (by first | decide | omega)).trans hod
  replace hhe : f_1 k = eO 3 [.ref (g (k + 1)), .int (nI sl), .int lo, .int ib, .int ca, .int mi, .int s0, .int s1, .int sw] := (o_1 k (by omega)).trans hhe
  replace hod9 : f_1 (k + 1) = eI G 24 od := (o_1 (k + 1) (by omega)).trans hod9
  replace htx2 : f_1 k2 = eO 7 [.ref (g (k2 + 1)), .ref (g (k2 + 2)), .int (nI ln2), .int (nI sc2)] := (o_1 k2 (by omega)).trans htx2
  replace hpx2 : f_1 (k2 + 2) = eI G 50 sp2 := (o_1 (k2 + 2) (by omega)).trans hpx2
  have hvl : f_1 15 = eJ G 50 vv98 := hq_1_0
  have hH : ∀ i, i < 10 → okH G g f_1 (2 * i + 16) := fun z hz => okH_fr (hH z hz) (o_1 _ (by omega)) (o_1 _ (by omega))
  refine lv_istore (lv' := [(10, .int v7), (9, .int ((v4 &&& v5) &&& v6)), (8, .int v4), (7, .int ((v1 &&& (v2 ^^^ (-1))) &&& (v3 ^^^ (-1)))), (6, .int (atv ct nt 70 (nI w) 0)), (5, .ref (g 45)), (0, .ref (g 1)), (1, .int (nI w)), (2, .ref (g k)), (3, .null), (4, .ref (g k2))]) hx hb dX1_hear_94 hl (by decide) rfl (fun ls hl => ?_)
  refine lv_aload_n hx hb dX1_hear_96 rfl (lv_at hl 8 rfl) ?_
  refine lv_iload hx hb dX1_hear_97 (lv_at hl 1 rfl) ?_
  refine lv_iload hx hb dX1_hear_99 (lv_at hl 0 rfl) ?_
  refine lv_iconst (v := (-1)) hx hb dX1_hear_101 (by decide) ?_
  refine lv_ixor hx hb dX1_hear_102 ?_
  refine lv_iand hx hb dX1_hear_103 ?_
  refine lv_aload hx hb dX1_hear_104 (lv_at hl 5 rfl) ?_
  refine lv_iload_n hx hb dX1_hear_106 rfl (lv_at hl 7 rfl) ?_
  refine lv_bipush (v := 7) hx hb dX1_hear_107 (by decide) ?_
  refine rd_calli (va_runV (As := [.int (nI w), .int 7]) (rest := [.int (((v4 &&& v5) &&& v6) &&& (v7 ^^^ (-1))), .ref (g k)]) ⟨hx, hb, hml, hown, hts⟩ (r_at l G g hg f_1 45 10 70 nt ct (nI w) 7 htr hct (by first | assumption | omega | decide) (by first | assumption | omega | decide) (by first | assumption | omega | decide) (by first | assumption | omega | decide)) (my_cwV hts ok_X5_at w_389 rfl rfl ⟨Nat.le_of_ble_eq_true rfl, Nat.le_of_ble_eq_true rfl⟩) ⟨bP.blind, va_recv hG.1 hP (ci := 5) (q0 := 45) rfl (wl_at (by decide) htr), fun U hU hW => ⟨rfl, by rw [hU]; exact hP, kG.warm hW hG⟩⟩ rfl rfl hl.1 rfl (lv_room (Nat.le_of_ble_eq_true rfl)) dX1_hear_109 ⟨Nat.le_of_ble_eq_true rfl, Nat.le_of_ble_eq_true rfl⟩) (fun r hr9 => ?_)
  subst hr9
  refine lv_aload hx hb dX1_hear_112 (lv_at hl 5 rfl) ?_
  refine lv_iload_n hx hb dX1_hear_114 rfl (lv_at hl 7 rfl) ?_
  refine lv_bipush (v := 8) hx hb dX1_hear_115 (by decide) ?_
  refine rd_calli (va_runV (As := [.int (nI w), .int 8]) (rest := [.int (atv ct nt 70 (nI w) 7), .int (((v4 &&& v5) &&& v6) &&& (v7 ^^^ (-1))), .ref (g k)]) ⟨hx, hb, hml, hown, hts⟩ (r_at l G g hg f_1 45 10 70 nt ct (nI w) 8 htr hct (by first | assumption | omega | decide) (by first | assumption | omega | decide) (by first | assumption | omega | decide) (by first | assumption | omega | decide)) (my_cwV hts ok_X5_at w_389 rfl rfl ⟨Nat.le_of_ble_eq_true rfl, Nat.le_of_ble_eq_true rfl⟩) ⟨bP.blind, va_recv hG.1 hP (ci := 5) (q0 := 45) rfl (wl_at (by decide) htr), fun U hU hW => ⟨rfl, by rw [hU]; exact hP, kG.warm hW hG⟩⟩ rfl rfl hl.1 rfl (lv_room (Nat.le_of_ble_eq_true rfl)) dX1_hear_117 ⟨Nat.le_of_ble_eq_true rfl, Nat.le_of_ble_eq_true rfl⟩) (fun r hr9 => ?_)
  subst hr9
  refine b_callv (va_runV (As := [.int (((v4 &&& v5) &&& v6) &&& (v7 ^^^ (-1))), .int (atv ct nt 70 (nI w) 7), .int (atv ct nt 70 (nI w) 8)]) (rest := []) ⟨hx, hb, hml, hown, hts⟩ (h_draw l G g hg f_1 k sl lo ib ca mi s0 s1 sw od (((v4 &&& v5) &&& v6) &&& (v7 ^^^ (-1))) (atv ct nt 70 (nI w) 7) (atv ct nt 70 (nI w) 8) hhe hod9 (by first | assumption | omega | decide) (by first | assumption | omega | decide)) (my_cwV hts ok_X3_draw w_473 rfl rfl ⟨Nat.le_of_ble_eq_true rfl, Nat.le_of_ble_eq_true rfl⟩) ⟨bP.blind, va_recv hG.1 hP (ci := 3) (q0 := k) rfl (wl_at (by omega) hhe), fun U hU hW => ⟨rfl, by rw [hU]; exact hP, kG.warm hW hG⟩⟩ rfl rfl hl.1 rfl (lv_room (Nat.le_of_ble_eq_true rfl)) dX1_hear_120 ⟨Nat.le_of_ble_eq_true rfl, Nat.le_of_ble_eq_true rfl⟩) hS (fun f_2 H locs hq9 hP hS => ?_)
  obtain ⟨sl99, lo910, ib911, ca912, mi913, s0914, s1915, sw916, od917, hq_2_0, hq_2_1, hx_2_0, o_2⟩ := hq9
  replace hctc := (o_2 1 (by first | decide | omega)).trans hctc
  replace hhs := (o_2 12 (by first | decide | omega)).trans hhs
  replace hbk := (o_2 36 (by first | decide | omega)).trans hbk
  replace htr := (o_2 45 (by first | decide | omega)).trans htr
  replace hct := (o_2 46 (by first | decide | omega)).trans hct
  replace hpr := (o_2 37 (by first | decide | omega)).trans hpr
  replace hpd := (o_2 38 (by first | decide | omega)).trans hpd
  replace hfr := (o_2 39 (by first | decide | omega)).trans hfr
  replace hfd := (o_2 40 (by first | decide | omega)).trans hfd
  replace hor := (o_2 41 (by first | decide | omega)).trans hor
  replace hod := (o_2 42 (by first | decide | omega)).trans hod
  replace hvl := (o_2 15 (by first | decide | omega)).trans hvl
  replace htx2 : f_2 k2 = eO 7 [.ref (g (k2 + 1)), .ref (g (k2 + 2)), .int (nI ln2), .int (nI sc2)] := (o_2 k2 (by omega)).trans htx2
  replace hpx2 : f_2 (k2 + 2) = eI G 50 sp2 := (o_2 (k2 + 2) (by omega)).trans hpx2
  have hhe : f_2 k = eO 3 [.ref (g (k + 1)), .int (nI sl99), .int lo910, .int ib911, .int ca912, .int mi913, .int s0914, .int s1915, .int sw916] := hq_2_0
  have hod9 : f_2 (k + 1) = eI G 24 od917 := hq_2_1
  refine lv_aload_n hx hb dX1_hear_123 rfl (lv_at hl 8 rfl) ?_
  refine lv_aload hx hb dX1_hear_124 (lv_at hl 5 rfl) ?_
  refine lv_iload_n hx hb dX1_hear_126 rfl (lv_at hl 7 rfl) ?_
  refine b_callv (va_runV (As := [.ref (g 45), .int (nI w)]) (rest := []) ⟨hx, hb, hml, hown, hts⟩ (h_strike l G g hg f_2 k sl99 lo910 ib911 ca912 mi913 s0914 s1915 sw916 od917 nt ct (nI w) hhe hod9 htr hct (by first | assumption | omega | decide) (by first | assumption | omega | decide) (by first | assumption | omega | decide)) (my_cwV hts ok_X3_strike w_493 rfl rfl ⟨Nat.le_of_ble_eq_true rfl, Nat.le_of_ble_eq_true rfl⟩) ⟨bP.blind, va_recv hG.1 hP (ci := 3) (q0 := k) rfl (wl_at (by omega) hhe), fun U hU hW => ⟨rfl, by rw [hU]; exact hP, kG.warm hW hG⟩⟩ rfl rfl hl.1 rfl (lv_room (Nat.le_of_ble_eq_true rfl)) dX1_hear_127 ⟨Nat.le_of_ble_eq_true rfl, Nat.le_of_ble_eq_true rfl⟩) hS (fun f_3 H locs hq9 hP hS => ?_)
  obtain ⟨sl918, lo919, ib920, ca921, mi922, s0923, s1924, sw925, od926, hq_3_0, hq_3_1, hx_3_0, o_3⟩ := hq9
  replace hctc := (o_3 1 (by first | decide | omega)).trans hctc
  replace hhs := (o_3 12 (by first | decide | omega)).trans hhs
  replace hbk := (o_3 36 (by first | decide | omega)).trans hbk
  replace htr := (o_3 45 (by first | decide | omega)).trans htr
  replace hct := (o_3 46 (by first | decide | omega)).trans hct
  replace hpr := (o_3 37 (by first | decide | omega)).trans hpr
  replace hpd := (o_3 38 (by first | decide | omega)).trans hpd
  replace hfr := (o_3 39 (by first | decide | omega)).trans hfr
  replace hfd := (o_3 40 (by first | decide | omega)).trans hfd
  replace hor := (o_3 41 (by first | decide | omega)).trans hor
  replace hod := (o_3 42 (by first | decide | omega)).trans hod
  replace hvl := (o_3 15 (by first | decide | omega)).trans hvl
  replace htx2 : f_3 k2 = eO 7 [.ref (g (k2 + 1)), .ref (g (k2 + 2)), .int (nI ln2), .int (nI sc2)] := (o_3 k2 (by omega)).trans htx2
  replace hpx2 : f_3 (k2 + 2) = eI G 50 sp2 := (o_3 (k2 + 2) (by omega)).trans hpx2
  have hhe : f_3 k = eO 3 [.ref (g (k + 1)), .int (nI sl918), .int lo919, .int ib920, .int ca921, .int mi922, .int s0923, .int s1924, .int sw925] := hq_3_0
  have hod9 : f_3 (k + 1) = eI G 24 od926 := hq_3_1
  refine lv_aload_n hx hb dX1_hear_130 rfl (lv_at hl 8 rfl) ?_
  refine lv_aload hx hb dX1_hear_131 (lv_at hl 5 rfl) ?_
  refine lv_iload_n hx hb dX1_hear_133 rfl (lv_at hl 7 rfl) ?_
  refine lv_iconst (v := 2) hx hb dX1_hear_134 (by decide) ?_
  refine rd_calli (va_runV (As := [.int (nI w), .int 2]) (rest := [.ref (g k)]) ⟨hx, hb, hml, hown, hts⟩ (r_at l G g hg f_3 45 10 70 nt ct (nI w) 2 htr hct (by first | assumption | omega | decide) (by first | assumption | omega | decide) (by first | assumption | omega | decide) (by first | assumption | omega | decide)) (my_cwV hts ok_X5_at w_389 rfl rfl ⟨Nat.le_of_ble_eq_true rfl, Nat.le_of_ble_eq_true rfl⟩) ⟨bP.blind, va_recv hG.1 hP (ci := 5) (q0 := 45) rfl (wl_at (by decide) htr), fun U hU hW => ⟨rfl, by rw [hU]; exact hP, kG.warm hW hG⟩⟩ rfl rfl hl.1 rfl (lv_room (Nat.le_of_ble_eq_true rfl)) dX1_hear_135 ⟨Nat.le_of_ble_eq_true rfl, Nat.le_of_ble_eq_true rfl⟩) (fun r hr9 => ?_)
  subst hr9
  refine lv_iload hx hb dX1_hear_138 (lv_at hl 2 rfl) ?_
  refine lv_aload_n hx hb dX1_hear_140 rfl (lv_at hl 8 rfl) ?_
  refine va_getN (D := G.1) (ci := 3) (v := .int ib920) (C := RX3) (T := TX3) (N := 9) (host := RX10) hx hb hts inlX3 hown hG.1 hP k (wl_at (by omega) hhe) rfl 3 (by decide) (va_Nw.use rfl (hG.2.1 (.fieldLinkNest RX1 96 RX3 "inBox" "I" RX10) (List.mem_of_getElem? (i := 12) rfl))) (fun _ h9 => h9) rfl dX1_hear_141 ?_
  refine lv_iconst (v := (-1)) hx hb dX1_hear_144 (by decide) ?_
  refine lv_ixor hx hb dX1_hear_145 ?_
  refine lv_iand hx hb dX1_hear_146 ?_
  refine b_callv (va_runV (As := [.int (atv ct nt 70 (nI w) 2), .int (v4 &&& (ib920 ^^^ (-1)))]) (rest := []) ⟨hx, hb, hml, hown, hts⟩ (h_seat l G g hg f_3 k sl918 lo919 ib920 ca921 mi922 s0923 s1924 sw925 od926 (atv ct nt 70 (nI w) 2) (v4 &&& (ib920 ^^^ (-1))) hhe hod9 (by first | assumption | omega | decide) (by first | assumption | omega | decide)) (my_cwV hts ok_X3_seat w_511 rfl rfl ⟨Nat.le_of_ble_eq_true rfl, Nat.le_of_ble_eq_true rfl⟩) ⟨bP.blind, va_recv hG.1 hP (ci := 3) (q0 := k) rfl (wl_at (by omega) hhe), fun U hU hW => ⟨rfl, by rw [hU]; exact hP, kG.warm hW hG⟩⟩ rfl rfl hl.1 rfl (lv_room (Nat.le_of_ble_eq_true rfl)) dX1_hear_147 ⟨Nat.le_of_ble_eq_true rfl, Nat.le_of_ble_eq_true rfl⟩) hS (fun f_4 H locs hq9 hP hS => ?_)
  obtain ⟨sl927, lo928, ib929, ca930, mi931, s0932, s1933, sw934, od935, hq_4_0, hq_4_1, hx_4_0, o_4⟩ := hq9
  replace hctc := (o_4 1 (by first | decide | omega)).trans hctc
  replace hhs := (o_4 12 (by first | decide | omega)).trans hhs
  replace hbk := (o_4 36 (by first | decide | omega)).trans hbk
  replace htr := (o_4 45 (by first | decide | omega)).trans htr
  replace hct := (o_4 46 (by first | decide | omega)).trans hct
  replace hpr := (o_4 37 (by first | decide | omega)).trans hpr
  replace hpd := (o_4 38 (by first | decide | omega)).trans hpd
  replace hfr := (o_4 39 (by first | decide | omega)).trans hfr
  replace hfd := (o_4 40 (by first | decide | omega)).trans hfd
  replace hor := (o_4 41 (by first | decide | omega)).trans hor
  replace hod := (o_4 42 (by first | decide | omega)).trans hod
  replace hvl := (o_4 15 (by first | decide | omega)).trans hvl
  replace htx2 : f_4 k2 = eO 7 [.ref (g (k2 + 1)), .ref (g (k2 + 2)), .int (nI ln2), .int (nI sc2)] := (o_4 k2 (by omega)).trans htx2
  replace hpx2 : f_4 (k2 + 2) = eI G 50 sp2 := (o_4 (k2 + 2) (by omega)).trans hpx2
  have hhe : f_4 k = eO 3 [.ref (g (k + 1)), .int (nI sl927), .int lo928, .int ib929, .int ca930, .int mi931, .int s0932, .int s1933, .int sw934] := hq_4_0
  have hod9 : f_4 (k + 1) = eI G 24 od935 := hq_4_1
  exact W.vret hx hb hr (fun t ht hW => ⟨⟨f_4, rfl, (⟨vv98, hvl, ⟨sl927, lo928, ib929, ca930, mi931, s0932, s1933, sw934, od935, hhe, hod9, by omega⟩, fun j hj => ((((o_4 j (by omega))).trans (o_3 j (by omega))).trans (o_2 j (by omega))).trans (o_1 j (by omega))⟩), by rw [ht]; exact hP⟩, hS.F ht⟩) hS.2.2 dX1_hear_150
set_option maxHeartbeats 4000000 in
set_option maxRecDepth 100000 in
theorem u_hear10 (l : Launch) (G : gW) (g : Nat → Nat) (hg : gOK g) (f : Nat → va_E) (se : Nat) (hf : Nat → Option Nat) (pay : Int32) (fine : Int32) (nt : Nat) (ct : Nat → Int32) (np : Nat) (dp : Nat → Int32) (nf : Nat) (df : Nat → Int32) (nr : Nat) (dr : Nat → Int32) (k : Nat) (sl : Nat) (lo : Int32) (ib : Int32) (ca : Int32) (mi : Int32) (s0 : Int32) (s1 : Int32) (sw : Int32) (od : Nat → Int32) (vv : Nat → Int64) (w : Nat) (k1 : Nat) (ln1 : Nat) (sc1 : Nat) (sp1 : Nat → Int32) (hctc : f 1 = eO 1 [.ref (g 36), .ref (g 12), .ref (g 13), .ref (g 15), .int (nI se)]) (hhs : f 12 = eA G 4 10 hf) (hbk : f 36 = eO 0 [.ref (g 37), .ref (g 39), .ref (g 41), .ref (g 43), .ref (g 45), .ref (g 47), .ref (g 112), .int pay, .int fine]) (htr : f 45 = eO 5 [.int (nI 10), .int (nI 70), .ref (g 46), .int (nI nt)]) (hct : f 46 = eI G (10 * 70) ct) (hpr : f 37 = eO 5 [.int (nI 30), .int (nI 4), .ref (g 38), .int (nI np)]) (hpd : f 38 = eI G (30 * 4) dp) (hfr : f 39 = eO 5 [.int (nI 40), .int (nI 3), .ref (g 40), .int (nI nf)]) (hfd : f 40 = eI G (40 * 3) df) (hor : f 41 = eO 5 [.int (nI 4), .int (nI 3), .ref (g 42), .int (nI nr)]) (hod : f 42 = eI G (4 * 3) dr) (hvl : f 15 = eJ G 50 vv) (hhe : f k = eO 3 [.ref (g (k + 1)), .int (nI sl), .int lo, .int ib, .int ca, .int mi, .int s0, .int s1, .int sw]) (hod9 : f (k + 1) = eI G 24 od) (htx1 : f k1 = eO 7 [.ref (g (k1 + 1)), .ref (g (k1 + 2)), .int (nI ln1), .int (nI sc1)]) (hpx1 : f (k1 + 2) = eI G 50 sp1) (hse : se ≤ 10) (hhf : ∀ i, i < 10 → hf i = some (g (2 * i + 16))) (hnt : nt ≤ 10) (hnp : np ≤ 30) (hnf : nf ≤ 40) (hnr : nr ≤ 4) (hk3 : k + 1 < 36) (hk13 : 13 ≤ k) (hk15 : k ≠ 14 ∧ k ≠ 15) (hsl : sl ≤ 24) (hw : w < 10) (hk31 : k1 + 2 < 333) (hkt1 : 36 ≤ k1) (hln1 : ln1 ≤ 50) (hsc1 : sc1 ≤ 50) (hH : ∀ i, i < 10 → okH G g f (2 * i + 16)) : Met l yX1_hear (wsT yX1_hear cX1_hear 11 none) ({ frames := 5, cells := 0, slots := 0, locals := 124 }) (bP G g f [.ref (g 1), .int (nI w), .ref (g k), .ref (g k1), .null]) (bQv G g (fun (f' : Nat → va_E) => ∃ vv9 : Nat → Int64, f' 15 = eJ G 50 vv9 ∧ (okH G g f' k) ∧ ∀ j, (j ≠ 15 ∧ j ≠ k ∧ j ≠ k + 1) → f' j = f j)) 0 0 (gA g) := by
  refine Met.ofW (cc := cX1_hear) (maxL := 11) (ret := none) (by decide) rfl ?_
  intro p e s m args below meth c s₁ B hml hv
  obtain ⟨rfl, hP, hG⟩ := hv
  have hx := B.exec
  have hb := B.bytes
  have hr := B.returns
  have hts := my_hts (atoms_spec (ws := wsT yX1_hear cX1_hear 11 none) B.pre)
  have hown : s.vm.findClass RX1 = some m.cls := findClass_of_methodNamed B.named
  have hlocks := B.notSynchronized
  have hS : va_S (gA g) s.heap s.heap [] := va_S.rf
  have hl := lv_entry ([.ref (g 1), .int (nI w), .ref (g k), .ref (g k1), .null]) (n := 11) (Nat.le_of_ble_eq_true rfl)
  rw [lg_entry_eq]
  generalize (lg_sl ([.ref (g 1), .int (nI w), .ref (g k), .ref (g k1), .null]) ++ List.replicate (11 - (lg_sl ([.ref (g 1), .int (nI w), .ref (g k), .ref (g k1), .null])).length) Slot.unset).toArray = ls at hl ⊢
  have hl : lv_has ls 11 [(0, .ref (g 1)), (1, .int (nI w)), (2, .ref (g k)), (3, .ref (g k1)), (4, .null)] := hl
  refine lv_aload_n hx hb dX1_hear_0 rfl (lv_at hl 0 rfl) ?_
  refine va_get (D := G.1) (ci := 1) (v := .ref (g 36)) (C := RX1) (T := TX1) (N := 5) hx hb hts inlX1 hown hG.1 hP 1 (wl_at (by decide) hctc) rfl 0 (by decide) (hts (.fieldLink RX1 12 "SwornLists$Court" "book" "LSwornLists$Book;") w_40) (fun _ h9 => h9) rfl dX1_hear_1 ?_
  refine va_getN (D := G.1) (ci := 0) (v := .ref (g 45)) (C := RX0) (T := TX0) (N := 9) (host := RX10) hx hb hts inlX0 hown hG.1 hP 36 (wl_at (by decide) hbk) rfl 4 (by decide) (va_Nw.use rfl (hG.2.1 (.fieldLinkNest RX1 43 RX0 "trials" "LSwornLists$Rows;" RX10) (List.mem_of_getElem? (i := 6) rfl))) (fun _ h9 => h9) rfl dX1_hear_4 ?_
  refine lv_astore (lv' := [(5, .ref (g 45)), (0, .ref (g 1)), (1, .int (nI w)), (2, .ref (g k)), (3, .ref (g k1)), (4, .null)]) hx hb dX1_hear_7 hl (by decide) rfl (fun ls hl => ?_)
  refine lv_aload hx hb dX1_hear_9 (lv_at hl 0 rfl) ?_
  refine lv_iload_n hx hb dX1_hear_11 rfl (lv_at hl 2 rfl) ?_
  refine lv_iconst (v := 0) hx hb dX1_hear_12 (by decide) ?_
  refine rd_calli (va_runV (As := [.int (nI w), .int 0]) (rest := []) ⟨hx, hb, hml, hown, hts⟩ (r_at l G g hg f 45 10 70 nt ct (nI w) 0 htr hct (by first | assumption | omega | decide) (by first | assumption | omega | decide) (by first | assumption | omega | decide) (by first | assumption | omega | decide)) (my_cwV hts ok_X5_at w_389 rfl rfl ⟨Nat.le_of_ble_eq_true rfl, Nat.le_of_ble_eq_true rfl⟩) ⟨bP.blind, va_recv hG.1 hP (ci := 5) (q0 := 45) rfl (wl_at (by decide) htr), fun U hU hW => ⟨rfl, by rw [hU]; exact hP, kG.warm hW hG⟩⟩ rfl rfl hl.1 rfl (lv_room (Nat.le_of_ble_eq_true rfl)) dX1_hear_13 ⟨Nat.le_of_ble_eq_true rfl, Nat.le_of_ble_eq_true rfl⟩) (fun r hr9 => ?_)
  subst hr9
  refine lv_istore (lv' := [(6, .int (atv ct nt 70 (nI w) 0)), (5, .ref (g 45)), (0, .ref (g 1)), (1, .int (nI w)), (2, .ref (g k)), (3, .ref (g k1)), (4, .null)]) hx hb dX1_hear_16 hl (by decide) rfl (fun ls hl => ?_)
  refine lv_aload_n hx hb dX1_hear_18 rfl (lv_at hl 2 rfl) ?_
  refine va_get (D := G.1) (ci := 1) (v := .ref (g 36)) (C := RX1) (T := TX1) (N := 5) hx hb hts inlX1 hown hG.1 hP 1 (wl_at (by decide) hctc) rfl 0 (by decide) (hts (.fieldLink RX1 12 "SwornLists$Court" "book" "LSwornLists$Book;") w_40) (fun _ h9 => h9) rfl dX1_hear_19 ?_
  refine rd_calli (va_runV (As := []) (rest := []) ⟨hx, hb, hml, hown, hts⟩ (k_everyone l G g hg f pay fine np dp hbk hpr hpd (by first | assumption | omega | decide)) (my_cwV hts ok_X0_everyone w_407 rfl rfl ⟨Nat.le_of_ble_eq_true rfl, Nat.le_of_ble_eq_true rfl⟩) ⟨bP.blind, va_recv hG.1 hP (ci := 0) (q0 := 36) rfl (wl_at (by decide) hbk), fun U hU hW => ⟨rfl, by rw [hU]; exact hP, kG.warm hW hG⟩⟩ rfl rfl hl.1 rfl (lv_room (Nat.le_of_ble_eq_true rfl)) dX1_hear_22 ⟨Nat.le_of_ble_eq_true rfl, Nat.le_of_ble_eq_true rfl⟩) (fun v1 _ => ?_)
  refine lv_aload_n hx hb dX1_hear_25 rfl (lv_at hl 2 rfl) ?_
  refine va_get (D := G.1) (ci := 1) (v := .ref (g 36)) (C := RX1) (T := TX1) (N := 5) hx hb hts inlX1 hown hG.1 hP 1 (wl_at (by decide) hctc) rfl 0 (by decide) (hts (.fieldLink RX1 12 "SwornLists$Court" "book" "LSwornLists$Book;") w_40) (fun _ h9 => h9) rfl dX1_hear_26 ?_
  refine lv_iload_n hx hb dX1_hear_29 rfl (lv_at hl 3 rfl) ?_
  refine lv_iload hx hb dX1_hear_30 (lv_at hl 0 rfl) ?_
  refine rd_calli (va_runV (As := [.int (nI w), .int (atv ct nt 70 (nI w) 0)]) (rest := [.int v1]) ⟨hx, hb, hml, hown, hts⟩ (k_kinOfSides l G g hg f pay fine nf df nt ct (nI w) (atv ct nt 70 (nI w) 0) hbk hfr hfd htr hct (by first | assumption | omega | decide) (by first | assumption | omega | decide)) (my_cwV hts ok_X0_kinOfSides w_408 rfl rfl ⟨Nat.le_of_ble_eq_true rfl, Nat.le_of_ble_eq_true rfl⟩) ⟨bP.blind, va_recv hG.1 hP (ci := 0) (q0 := 36) rfl (wl_at (by decide) hbk), fun U hU hW => ⟨rfl, by rw [hU]; exact hP, kG.warm hW hG⟩⟩ rfl rfl hl.1 rfl (lv_room (Nat.le_of_ble_eq_true rfl)) dX1_hear_32 ⟨Nat.le_of_ble_eq_true rfl, Nat.le_of_ble_eq_true rfl⟩) (fun v2 _ => ?_)
  refine lv_iconst (v := (-1)) hx hb dX1_hear_35 (by decide) ?_
  refine lv_ixor hx hb dX1_hear_36 ?_
  refine lv_iand hx hb dX1_hear_37 ?_
  refine lv_aload_n hx hb dX1_hear_38 rfl (lv_at hl 2 rfl) ?_
  refine lv_iload_n hx hb dX1_hear_39 rfl (lv_at hl 3 rfl) ?_
  refine rd_calli (va_runV (As := [.int (nI w)]) (rest := [.int (v1 &&& (v2 ^^^ (-1)))]) ⟨hx, hb, hml, hown, hts⟩ (u_busy l G g hg f se hf pay fine nt ct w hctc hhs hbk htr hct (by first | assumption | omega | decide) (by first | assumption | omega | decide) (by first | assumption | omega | decide) (by first | assumption | omega | decide) (by first | assumption | omega | decide)) (my_cwV hts ok_X1_busy w_412 rfl rfl ⟨Nat.le_of_ble_eq_true rfl, Nat.le_of_ble_eq_true rfl⟩) ⟨bP.blind, va_recv hG.1 hP (ci := 1) (q0 := 1) rfl (wl_at (by decide) hctc), fun U hU hW => ⟨rfl, by rw [hU]; exact hP, kG.warm hW hG⟩⟩ rfl rfl hl.1 rfl (lv_room (Nat.le_of_ble_eq_true rfl)) dX1_hear_40 ⟨Nat.le_of_ble_eq_true rfl, Nat.le_of_ble_eq_true rfl⟩) (fun v3 _ => ?_)
  refine lv_iconst (v := (-1)) hx hb dX1_hear_43 (by decide) ?_
  refine lv_ixor hx hb dX1_hear_44 ?_
  refine lv_iand hx hb dX1_hear_45 ?_
  refine lv_istore (lv' := [(7, .int ((v1 &&& (v2 ^^^ (-1))) &&& (v3 ^^^ (-1)))), (6, .int (atv ct nt 70 (nI w) 0)), (5, .ref (g 45)), (0, .ref (g 1)), (1, .int (nI w)), (2, .ref (g k)), (3, .ref (g k1)), (4, .null)]) hx hb dX1_hear_46 hl (by decide) rfl (fun ls hl => ?_)
  refine lv_aload_n hx hb dX1_hear_48 rfl (lv_at hl 3 rfl) ?_
  refine lv_aload_n hx hb dX1_hear_49 rfl (lv_at hl 6 rfl) ?_
  refine lv_iconst (v := 0) hx hb dX1_hear_50 (by decide) ?_
  refine lv_iload hx hb dX1_hear_51 (lv_at hl 1 rfl) ?_
  refine lv_iload hx hb dX1_hear_53 (lv_at hl 0 rfl) ?_
  refine b_calli (va_runV (As := [.ref (g k1), .int 0, .int (atv ct nt 70 (nI w) 0), .int ((v1 &&& (v2 ^^^ (-1))) &&& (v3 ^^^ (-1)))]) (rest := []) ⟨hx, hb, hml, hown, hts⟩ (u_truthsT l G g hg f se hf pay fine nt ct np dp k1 ln1 sc1 sp1 vv 0 (atv ct nt 70 (nI w) 0) ((v1 &&& (v2 ^^^ (-1))) &&& (v3 ^^^ (-1))) hctc hhs hbk htr hct hpr hpd htx1 hpx1 hvl (by first | assumption | omega | decide) (by first | assumption | omega | decide) (by first | assumption | omega | decide) (by first | assumption | omega | decide) (by first | assumption | omega | decide) (by first | assumption | omega | decide) (by first | assumption | omega | decide) (by first | assumption | omega | decide) (by first | assumption | omega | decide)) (my_cwV hts ok_X1_truths w_424 rfl rfl ⟨Nat.le_of_ble_eq_true rfl, Nat.le_of_ble_eq_true rfl⟩) ⟨bP.blind, va_recv hG.1 hP (ci := 1) (q0 := 1) rfl (wl_at (by decide) hctc), fun U hU hW => ⟨rfl, by rw [hU]; exact hP, kG.warm hW hG⟩⟩ rfl rfl hl.1 rfl (lv_room (Nat.le_of_ble_eq_true rfl)) dX1_hear_55 ⟨Nat.le_of_ble_eq_true rfl, Nat.le_of_ble_eq_true rfl⟩) hS (fun v4 f_1 H locs hq9 hP hS => ?_)
  obtain ⟨vv95, hq_1_0, o_1⟩ := hq9
  replace hctc := (o_1 1 (by first | decide | omega)).trans hctc
  replace hhs := (o_1 12 (by first | decide | omega)).trans hhs
  replace hbk := (o_1 36 (by first | decide | omega)).trans hbk
  replace htr := (o_1 45 (by first | decide | omega)).trans htr
  replace hct := (o_1 46 (by first | decide | omega)).trans hct
  replace hpr := (o_1 37 (by first | decide | omega)).trans hpr
  replace hpd := (o_1 38 (by first | decide | omega)).trans hpd
  replace hfr := (o_1 39 (by first | decide | omega)).trans hfr
  replace hfd := (o_1 40 (by first | decide | omega)).trans hfd
  replace hor := (o_1 41 (by first | decide | omega)).trans hor
  replace hod := (o_1 42 (by first | decide | omega)).trans hod
  replace hhe : f_1 k = eO 3 [.ref (g (k + 1)), .int (nI sl), .int lo, .int ib, .int ca, .int mi, .int s0, .int s1, .int sw] := (o_1 k (by omega)).trans hhe
  replace hod9 : f_1 (k + 1) = eI G 24 od := (o_1 (k + 1) (by omega)).trans hod9
  replace htx1 : f_1 k1 = eO 7 [.ref (g (k1 + 1)), .ref (g (k1 + 2)), .int (nI ln1), .int (nI sc1)] := (o_1 k1 (by omega)).trans htx1
  replace hpx1 : f_1 (k1 + 2) = eI G 50 sp1 := (o_1 (k1 + 2) (by omega)).trans hpx1
  have hvl : f_1 15 = eJ G 50 vv95 := hq_1_0
  have hH : ∀ i, i < 10 → okH G g f_1 (2 * i + 16) := fun z hz => okH_fr (hH z hz) (o_1 _ (by omega)) (o_1 _ (by omega))
  refine lv_istore (lv' := [(8, .int v4), (7, .int ((v1 &&& (v2 ^^^ (-1))) &&& (v3 ^^^ (-1)))), (6, .int (atv ct nt 70 (nI w) 0)), (5, .ref (g 45)), (0, .ref (g 1)), (1, .int (nI w)), (2, .ref (g k)), (3, .ref (g k1)), (4, .null)]) hx hb dX1_hear_58 hl (by decide) rfl (fun ls hl => ?_)
  refine lv_iload hx hb dX1_hear_60 (lv_at hl 0 rfl) ?_
  refine lv_aload_n hx hb dX1_hear_62 rfl (lv_at hl 4 rfl) ?_
  refine va_get (D := G.1) (ci := 1) (v := .ref (g 36)) (C := RX1) (T := TX1) (N := 5) hx hb hts inlX1 hown hG.1 hP 1 (wl_at (by decide) hctc) rfl 0 (by decide) (hts (.fieldLink RX1 12 "SwornLists$Court" "book" "LSwornLists$Book;") w_40) (fun _ h9 => h9) rfl dX1_hear_63 ?_
  refine lv_iload hx hb dX1_hear_66 (lv_at hl 2 rfl) ?_
  refine rd_calli (va_runV (As := [.int (atv ct nt 70 (nI w) 0)]) (rest := [.int v4]) ⟨hx, hb, hml, hown, hts⟩ (k_listedOn l G g hg f_1 pay fine np dp nr dr (atv ct nt 70 (nI w) 0) hbk hpr hpd hor hod (by first | assumption | omega | decide) (by first | assumption | omega | decide)) (my_cwV hts ok_X0_listedOn w_464 rfl rfl ⟨Nat.le_of_ble_eq_true rfl, Nat.le_of_ble_eq_true rfl⟩) ⟨bP.blind, va_recv hG.1 hP (ci := 0) (q0 := 36) rfl (wl_at (by decide) hbk), fun U hU hW => ⟨rfl, by rw [hU]; exact hP, kG.warm hW hG⟩⟩ rfl rfl hl.1 rfl (lv_room (Nat.le_of_ble_eq_true rfl)) dX1_hear_68 ⟨Nat.le_of_ble_eq_true rfl, Nat.le_of_ble_eq_true rfl⟩) (fun v6 _ => ?_)
  refine lv_iand hx hb dX1_hear_71 ?_
  refine lv_aload_n hx hb dX1_hear_72 rfl (lv_at hl 4 rfl) ?_
  refine va_get (D := G.1) (ci := 1) (v := .ref (g 36)) (C := RX1) (T := TX1) (N := 5) hx hb hts inlX1 hown hG.1 hP 1 (wl_at (by decide) hctc) rfl 0 (by decide) (hts (.fieldLink RX1 12 "SwornLists$Court" "book" "LSwornLists$Book;") w_40) (fun _ h9 => h9) rfl dX1_hear_73 ?_
  refine lv_iload_n hx hb dX1_hear_76 rfl (lv_at hl 5 rfl) ?_
  refine rd_calli (va_runV (As := [.int (nI w)]) (rest := [.int (v4 &&& v6)]) ⟨hx, hb, hml, hown, hts⟩ (k_ofTradeWanted l G g hg f_1 pay fine np dp nt ct (nI w) hbk hpr hpd htr hct (by first | assumption | omega | decide) (by first | assumption | omega | decide)) (my_cwV hts ok_X0_ofTradeWanted w_465 rfl rfl ⟨Nat.le_of_ble_eq_true rfl, Nat.le_of_ble_eq_true rfl⟩) ⟨bP.blind, va_recv hG.1 hP (ci := 0) (q0 := 36) rfl (wl_at (by decide) hbk), fun U hU hW => ⟨rfl, by rw [hU]; exact hP, kG.warm hW hG⟩⟩ rfl rfl hl.1 rfl (lv_room (Nat.le_of_ble_eq_true rfl)) dX1_hear_77 ⟨Nat.le_of_ble_eq_true rfl, Nat.le_of_ble_eq_true rfl⟩) (fun v7 _ => ?_)
  refine lv_iand hx hb dX1_hear_80 ?_
  refine lv_istore (lv' := [(9, .int ((v4 &&& v6) &&& v7)), (8, .int v4), (7, .int ((v1 &&& (v2 ^^^ (-1))) &&& (v3 ^^^ (-1)))), (6, .int (atv ct nt 70 (nI w) 0)), (5, .ref (g 45)), (0, .ref (g 1)), (1, .int (nI w)), (2, .ref (g k)), (3, .ref (g k1)), (4, .null)]) hx hb dX1_hear_81 hl (by decide) rfl (fun ls hl => ?_)
  refine lv_aload_n hx hb dX1_hear_83 rfl (lv_at hl 5 rfl) ?_
  refine lv_aloadN hx hb dX1_hear_84 (lv_at hl 9 rfl) ?_
  refine lv_iconst (v := 1) hx hb dX1_hear_86 (by decide) ?_
  refine lv_iload hx hb dX1_hear_87 (lv_at hl 3 rfl) ?_
  refine lv_iload hx hb dX1_hear_89 (lv_at hl 0 rfl) ?_
  refine rd_calli (va_runV (As := [.null, .int 1, .int (atv ct nt 70 (nI w) 0), .int ((v4 &&& v6) &&& v7)]) (rest := []) ⟨hx, hb, hml, hown, hts⟩ (u_truthsN l G g hg f_1 1 (atv ct nt 70 (nI w) 0) ((v4 &&& v6) &&& v7)  ) (my_cwV hts ok_X1_truths w_424 rfl rfl ⟨Nat.le_of_ble_eq_true rfl, Nat.le_of_ble_eq_true rfl⟩) ⟨bP.blind, va_recv hG.1 hP (ci := 1) (q0 := 1) rfl (wl_at (by decide) hctc), fun U hU hW => ⟨rfl, by rw [hU]; exact hP, kG.warm hW hG⟩⟩ rfl rfl hl.1 rfl (lv_room (Nat.le_of_ble_eq_true rfl)) dX1_hear_91 ⟨Nat.le_of_ble_eq_true rfl, Nat.le_of_ble_eq_true rfl⟩) (fun v8 _ => ?_)
  refine lv_istore (lv' := [(10, .int v8), (9, .int ((v4 &&& v6) &&& v7)), (8, .int v4), (7, .int ((v1 &&& (v2 ^^^ (-1))) &&& (v3 ^^^ (-1)))), (6, .int (atv ct nt 70 (nI w) 0)), (5, .ref (g 45)), (0, .ref (g 1)), (1, .int (nI w)), (2, .ref (g k)), (3, .ref (g k1)), (4, .null)]) hx hb dX1_hear_94 hl (by decide) rfl (fun ls hl => ?_)
  refine lv_aload_n hx hb dX1_hear_96 rfl (lv_at hl 8 rfl) ?_
  refine lv_iload hx hb dX1_hear_97 (lv_at hl 1 rfl) ?_
  refine lv_iload hx hb dX1_hear_99 (lv_at hl 0 rfl) ?_
  refine lv_iconst (v := (-1)) hx hb dX1_hear_101 (by decide) ?_
  refine lv_ixor hx hb dX1_hear_102 ?_
  refine lv_iand hx hb dX1_hear_103 ?_
  refine lv_aload hx hb dX1_hear_104 (lv_at hl 5 rfl) ?_
  refine lv_iload_n hx hb dX1_hear_106 rfl (lv_at hl 7 rfl) ?_
  refine lv_bipush (v := 7) hx hb dX1_hear_107 (by decide) ?_
  refine rd_calli (va_runV (As := [.int (nI w), .int 7]) (rest := [.int (((v4 &&& v6) &&& v7) &&& (v8 ^^^ (-1))), .ref (g k)]) ⟨hx, hb, hml, hown, hts⟩ (r_at l G g hg f_1 45 10 70 nt ct (nI w) 7 htr hct (by first | assumption | omega | decide) (by first | assumption | omega | decide) (by first | assumption | omega | decide) (by first | assumption | omega | decide)) (my_cwV hts ok_X5_at w_389 rfl rfl ⟨Nat.le_of_ble_eq_true rfl, Nat.le_of_ble_eq_true rfl⟩) ⟨bP.blind, va_recv hG.1 hP (ci := 5) (q0 := 45) rfl (wl_at (by decide) htr), fun U hU hW => ⟨rfl, by rw [hU]; exact hP, kG.warm hW hG⟩⟩ rfl rfl hl.1 rfl (lv_room (Nat.le_of_ble_eq_true rfl)) dX1_hear_109 ⟨Nat.le_of_ble_eq_true rfl, Nat.le_of_ble_eq_true rfl⟩) (fun r hr9 => ?_)
  subst hr9
  refine lv_aload hx hb dX1_hear_112 (lv_at hl 5 rfl) ?_
  refine lv_iload_n hx hb dX1_hear_114 rfl (lv_at hl 7 rfl) ?_
  refine lv_bipush (v := 8) hx hb dX1_hear_115 (by decide) ?_
  refine rd_calli (va_runV (As := [.int (nI w), .int 8]) (rest := [.int (atv ct nt 70 (nI w) 7), .int (((v4 &&& v6) &&& v7) &&& (v8 ^^^ (-1))), .ref (g k)]) ⟨hx, hb, hml, hown, hts⟩ (r_at l G g hg f_1 45 10 70 nt ct (nI w) 8 htr hct (by first | assumption | omega | decide) (by first | assumption | omega | decide) (by first | assumption | omega | decide) (by first | assumption | omega | decide)) (my_cwV hts ok_X5_at w_389 rfl rfl ⟨Nat.le_of_ble_eq_true rfl, Nat.le_of_ble_eq_true rfl⟩) ⟨bP.blind, va_recv hG.1 hP (ci := 5) (q0 := 45) rfl (wl_at (by decide) htr), fun U hU hW => ⟨rfl, by rw [hU]; exact hP, kG.warm hW hG⟩⟩ rfl rfl hl.1 rfl (lv_room (Nat.le_of_ble_eq_true rfl)) dX1_hear_117 ⟨Nat.le_of_ble_eq_true rfl, Nat.le_of_ble_eq_true rfl⟩) (fun r hr9 => ?_)
  subst hr9
  refine b_callv (va_runV (As := [.int (((v4 &&& v6) &&& v7) &&& (v8 ^^^ (-1))), .int (atv ct nt 70 (nI w) 7), .int (atv ct nt 70 (nI w) 8)]) (rest := []) ⟨hx, hb, hml, hown, hts⟩ (h_draw l G g hg f_1 k sl lo ib ca mi s0 s1 sw od (((v4 &&& v6) &&& v7) &&& (v8 ^^^ (-1))) (atv ct nt 70 (nI w) 7) (atv ct nt 70 (nI w) 8) hhe hod9 (by first | assumption | omega | decide) (by first | assumption | omega | decide)) (my_cwV hts ok_X3_draw w_473 rfl rfl ⟨Nat.le_of_ble_eq_true rfl, Nat.le_of_ble_eq_true rfl⟩) ⟨bP.blind, va_recv hG.1 hP (ci := 3) (q0 := k) rfl (wl_at (by omega) hhe), fun U hU hW => ⟨rfl, by rw [hU]; exact hP, kG.warm hW hG⟩⟩ rfl rfl hl.1 rfl (lv_room (Nat.le_of_ble_eq_true rfl)) dX1_hear_120 ⟨Nat.le_of_ble_eq_true rfl, Nat.le_of_ble_eq_true rfl⟩) hS (fun f_2 H locs hq9 hP hS => ?_)
  obtain ⟨sl99, lo910, ib911, ca912, mi913, s0914, s1915, sw916, od917, hq_2_0, hq_2_1, hx_2_0, o_2⟩ := hq9
  replace hctc := (o_2 1 (by first | decide | omega)).trans hctc
  replace hhs := (o_2 12 (by first | decide | omega)).trans hhs
  replace hbk := (o_2 36 (by first | decide | omega)).trans hbk
  replace htr := (o_2 45 (by first | decide | omega)).trans htr
  replace hct := (o_2 46 (by first | decide | omega)).trans hct
  replace hpr := (o_2 37 (by first | decide | omega)).trans hpr
  replace hpd := (o_2 38 (by first | decide | omega)).trans hpd
  replace hfr := (o_2 39 (by first | decide | omega)).trans hfr
  replace hfd := (o_2 40 (by first | decide | omega)).trans hfd
  replace hor := (o_2 41 (by first | decide | omega)).trans hor
  replace hod := (o_2 42 (by first | decide | omega)).trans hod
  replace hvl := (o_2 15 (by first | decide | omega)).trans hvl
  replace htx1 : f_2 k1 = eO 7 [.ref (g (k1 + 1)), .ref (g (k1 + 2)), .int (nI ln1), .int (nI sc1)] := (o_2 k1 (by omega)).trans htx1
  replace hpx1 : f_2 (k1 + 2) = eI G 50 sp1 := (o_2 (k1 + 2) (by omega)).trans hpx1
  have hhe : f_2 k = eO 3 [.ref (g (k + 1)), .int (nI sl99), .int lo910, .int ib911, .int ca912, .int mi913, .int s0914, .int s1915, .int sw916] := hq_2_0
  have hod9 : f_2 (k + 1) = eI G 24 od917 := hq_2_1
  refine lv_aload_n hx hb dX1_hear_123 rfl (lv_at hl 8 rfl) ?_
  refine lv_aload hx hb dX1_hear_124 (lv_at hl 5 rfl) ?_
  refine lv_iload_n hx hb dX1_hear_126 rfl (lv_at hl 7 rfl) ?_
  refine b_callv (va_runV (As := [.ref (g 45), .int (nI w)]) (rest := []) ⟨hx, hb, hml, hown, hts⟩ (h_strike l G g hg f_2 k sl99 lo910 ib911 ca912 mi913 s0914 s1915 sw916 od917 nt ct (nI w) hhe hod9 htr hct (by first | assumption | omega | decide) (by first | assumption | omega | decide) (by first | assumption | omega | decide)) (my_cwV hts ok_X3_strike w_493 rfl rfl ⟨Nat.le_of_ble_eq_true rfl, Nat.le_of_ble_eq_true rfl⟩) ⟨bP.blind, va_recv hG.1 hP (ci := 3) (q0 := k) rfl (wl_at (by omega) hhe), fun U hU hW => ⟨rfl, by rw [hU]; exact hP, kG.warm hW hG⟩⟩ rfl rfl hl.1 rfl (lv_room (Nat.le_of_ble_eq_true rfl)) dX1_hear_127 ⟨Nat.le_of_ble_eq_true rfl, Nat.le_of_ble_eq_true rfl⟩) hS (fun f_3 H locs hq9 hP hS => ?_)
  obtain ⟨sl918, lo919, ib920, ca921, mi922, s0923, s1924, sw925, od926, hq_3_0, hq_3_1, hx_3_0, o_3⟩ := hq9
  replace hctc := (o_3 1 (by first | decide | omega)).trans hctc
  replace hhs := (o_3 12 (by first | decide | omega)).trans hhs
  replace hbk := (o_3 36 (by first | decide | omega)).trans hbk
  replace htr := (o_3 45 (by first | decide | omega)).trans htr
  replace hct := (o_3 46 (by first | decide | omega)).trans hct
  replace hpr := (o_3 37 (by first | decide | omega)).trans hpr
  replace hpd := (o_3 38 (by first | decide | omega)).trans hpd
  replace hfr := (o_3 39 (by first | decide | omega)).trans hfr
  replace hfd := (o_3 40 (by first | decide | omega)).trans hfd
  replace hor := (o_3 41 (by first | decide | omega)).trans hor
  replace hod := (o_3 42 (by first | decide | omega)).trans hod
  replace hvl := (o_3 15 (by first | decide | omega)).trans hvl
  replace htx1 : f_3 k1 = eO 7 [.ref (g (k1 + 1)), .ref (g (k1 + 2)), .int (nI ln1), .int (nI sc1)] := (o_3 k1 (by omega)).trans htx1
  replace hpx1 : f_3 (k1 + 2) = eI G 50 sp1 := (o_3 (k1 + 2) (by omega)).trans hpx1
  have hhe : f_3 k = eO 3 [.ref (g (k + 1)), .int (nI sl918), .int lo919, .int ib920, .int ca921, .int mi922, .int s0923, .int s1924, .int sw925] := hq_3_0
  have hod9 : f_3 (k + 1) = eI G 24 od926 := hq_3_1
  refine lv_aload_n hx hb dX1_hear_130 rfl (lv_at hl 8 rfl) ?_
  refine lv_aload hx hb dX1_hear_131 (lv_at hl 5 rfl) ?_
  refine lv_iload_n hx hb dX1_hear_133 rfl (lv_at hl 7 rfl) ?_
  refine lv_iconst (v := 2) hx hb dX1_hear_134 (by decide) ?_
  refine rd_calli (va_runV (As := [.int (nI w), .int 2]) (rest := [.ref (g k)]) ⟨hx, hb, hml, hown, hts⟩ (r_at l G g hg f_3 45 10 70 nt ct (nI w) 2 htr hct (by first | assumption | omega | decide) (by first | assumption | omega | decide) (by first | assumption | omega | decide) (by first | assumption | omega | decide)) (my_cwV hts ok_X5_at w_389 rfl rfl ⟨Nat.le_of_ble_eq_true rfl, Nat.le_of_ble_eq_true rfl⟩) ⟨bP.blind, va_recv hG.1 hP (ci := 5) (q0 := 45) rfl (wl_at (by decide) htr), fun U hU hW => ⟨rfl, by rw [hU]; exact hP, kG.warm hW hG⟩⟩ rfl rfl hl.1 rfl (lv_room (Nat.le_of_ble_eq_true rfl)) dX1_hear_135 ⟨Nat.le_of_ble_eq_true rfl, Nat.le_of_ble_eq_true rfl⟩) (fun r hr9 => ?_)
  subst hr9
  refine lv_iload hx hb dX1_hear_138 (lv_at hl 2 rfl) ?_
  refine lv_aload_n hx hb dX1_hear_140 rfl (lv_at hl 8 rfl) ?_
  refine va_getN (D := G.1) (ci := 3) (v := .int ib920) (C := RX3) (T := TX3) (N := 9) (host := RX10) hx hb hts inlX3 hown hG.1 hP k (wl_at (by omega) hhe) rfl 3 (by decide) (va_Nw.use rfl (hG.2.1 (.fieldLinkNest RX1 96 RX3 "inBox" "I" RX10) (List.mem_of_getElem? (i := 12) rfl))) (fun _ h9 => h9) rfl dX1_hear_141 ?_
  refine lv_iconst (v := (-1)) hx hb dX1_hear_144 (by decide) ?_
  refine lv_ixor hx hb dX1_hear_145 ?_
  refine lv_iand hx hb dX1_hear_146 ?_
  refine b_callv (va_runV (As := [.int (atv ct nt 70 (nI w) 2), .int (v4 &&& (ib920 ^^^ (-1)))]) (rest := []) ⟨hx, hb, hml, hown, hts⟩ (h_seat l G g hg f_3 k sl918 lo919 ib920 ca921 mi922 s0923 s1924 sw925 od926 (atv ct nt 70 (nI w) 2) (v4 &&& (ib920 ^^^ (-1))) hhe hod9 (by first | assumption | omega | decide) (by first | assumption | omega | decide)) (my_cwV hts ok_X3_seat w_511 rfl rfl ⟨Nat.le_of_ble_eq_true rfl, Nat.le_of_ble_eq_true rfl⟩) ⟨bP.blind, va_recv hG.1 hP (ci := 3) (q0 := k) rfl (wl_at (by omega) hhe), fun U hU hW => ⟨rfl, by rw [hU]; exact hP, kG.warm hW hG⟩⟩ rfl rfl hl.1 rfl (lv_room (Nat.le_of_ble_eq_true rfl)) dX1_hear_147 ⟨Nat.le_of_ble_eq_true rfl, Nat.le_of_ble_eq_true rfl⟩) hS (fun f_4 H locs hq9 hP hS => ?_)
  obtain ⟨sl927, lo928, ib929, ca930, mi931, s0932, s1933, sw934, od935, hq_4_0, hq_4_1, hx_4_0, o_4⟩ := hq9
  replace hctc := (o_4 1 (by first | decide | omega)).trans hctc
  replace hhs := (o_4 12 (by first | decide | omega)).trans hhs
  replace hbk := (o_4 36 (by first | decide | omega)).trans hbk
  replace htr := (o_4 45 (by first | decide | omega)).trans htr
  replace hct := (o_4 46 (by first | decide | omega)).trans hct
  replace hpr := (o_4 37 (by first | decide | omega)).trans hpr
  replace hpd := (o_4 38 (by first | decide | omega)).trans hpd
  replace hfr := (o_4 39 (by first | decide | omega)).trans hfr
  replace hfd := (o_4 40 (by first | decide | omega)).trans hfd
  replace hor := (o_4 41 (by first | decide | omega)).trans hor
  replace hod := (o_4 42 (by first | decide | omega)).trans hod
  replace hvl := (o_4 15 (by first | decide | omega)).trans hvl
  replace htx1 : f_4 k1 = eO 7 [.ref (g (k1 + 1)), .ref (g (k1 + 2)), .int (nI ln1), .int (nI sc1)] := (o_4 k1 (by omega)).trans htx1
  replace hpx1 : f_4 (k1 + 2) = eI G 50 sp1 := (o_4 (k1 + 2) (by omega)).trans hpx1
  have hhe : f_4 k = eO 3 [.ref (g (k + 1)), .int (nI sl927), .int lo928, .int ib929, .int ca930, .int mi931, .int s0932, .int s1933, .int sw934] := hq_4_0
  have hod9 : f_4 (k + 1) = eI G 24 od935 := hq_4_1
  exact W.vret hx hb hr (fun t ht hW => ⟨⟨f_4, rfl, (⟨vv95, hvl, ⟨sl927, lo928, ib929, ca930, mi931, s0932, s1933, sw934, od935, hhe, hod9, by omega⟩, fun j hj => ((((o_4 j (by omega))).trans (o_3 j (by omega))).trans (o_2 j (by omega))).trans (o_1 j (by omega))⟩), by rw [ht]; exact hP⟩, hS.F ht⟩) hS.2.2 dX1_hear_150
set_option maxHeartbeats 4000000 in
set_option maxRecDepth 100000 in
theorem u_hear11 (l : Launch) (G : gW) (g : Nat → Nat) (hg : gOK g) (f : Nat → va_E) (se : Nat) (hf : Nat → Option Nat) (pay : Int32) (fine : Int32) (nt : Nat) (ct : Nat → Int32) (np : Nat) (dp : Nat → Int32) (nf : Nat) (df : Nat → Int32) (nr : Nat) (dr : Nat → Int32) (k : Nat) (sl : Nat) (lo : Int32) (ib : Int32) (ca : Int32) (mi : Int32) (s0 : Int32) (s1 : Int32) (sw : Int32) (od : Nat → Int32) (vv : Nat → Int64) (w : Nat) (k1 : Nat) (ln1 : Nat) (sc1 : Nat) (sp1 : Nat → Int32) (k2 : Nat) (ln2 : Nat) (sc2 : Nat) (sp2 : Nat → Int32) (hctc : f 1 = eO 1 [.ref (g 36), .ref (g 12), .ref (g 13), .ref (g 15), .int (nI se)]) (hhs : f 12 = eA G 4 10 hf) (hbk : f 36 = eO 0 [.ref (g 37), .ref (g 39), .ref (g 41), .ref (g 43), .ref (g 45), .ref (g 47), .ref (g 112), .int pay, .int fine]) (htr : f 45 = eO 5 [.int (nI 10), .int (nI 70), .ref (g 46), .int (nI nt)]) (hct : f 46 = eI G (10 * 70) ct) (hpr : f 37 = eO 5 [.int (nI 30), .int (nI 4), .ref (g 38), .int (nI np)]) (hpd : f 38 = eI G (30 * 4) dp) (hfr : f 39 = eO 5 [.int (nI 40), .int (nI 3), .ref (g 40), .int (nI nf)]) (hfd : f 40 = eI G (40 * 3) df) (hor : f 41 = eO 5 [.int (nI 4), .int (nI 3), .ref (g 42), .int (nI nr)]) (hod : f 42 = eI G (4 * 3) dr) (hvl : f 15 = eJ G 50 vv) (hhe : f k = eO 3 [.ref (g (k + 1)), .int (nI sl), .int lo, .int ib, .int ca, .int mi, .int s0, .int s1, .int sw]) (hod9 : f (k + 1) = eI G 24 od) (htx1 : f k1 = eO 7 [.ref (g (k1 + 1)), .ref (g (k1 + 2)), .int (nI ln1), .int (nI sc1)]) (hpx1 : f (k1 + 2) = eI G 50 sp1) (htx2 : f k2 = eO 7 [.ref (g (k2 + 1)), .ref (g (k2 + 2)), .int (nI ln2), .int (nI sc2)]) (hpx2 : f (k2 + 2) = eI G 50 sp2) (hse : se ≤ 10) (hhf : ∀ i, i < 10 → hf i = some (g (2 * i + 16))) (hnt : nt ≤ 10) (hnp : np ≤ 30) (hnf : nf ≤ 40) (hnr : nr ≤ 4) (hk3 : k + 1 < 36) (hk13 : 13 ≤ k) (hk15 : k ≠ 14 ∧ k ≠ 15) (hsl : sl ≤ 24) (hw : w < 10) (hk31 : k1 + 2 < 333) (hkt1 : 36 ≤ k1) (hln1 : ln1 ≤ 50) (hsc1 : sc1 ≤ 50) (hk32 : k2 + 2 < 333) (hkt2 : 36 ≤ k2) (hln2 : ln2 ≤ 50) (hsc2 : sc2 ≤ 50) (hH : ∀ i, i < 10 → okH G g f (2 * i + 16)) : Met l yX1_hear (wsT yX1_hear cX1_hear 11 none) ({ frames := 5, cells := 0, slots := 0, locals := 124 }) (bP G g f [.ref (g 1), .int (nI w), .ref (g k), .ref (g k1), .ref (g k2)]) (bQv G g (fun (f' : Nat → va_E) => ∃ vv9 : Nat → Int64, f' 15 = eJ G 50 vv9 ∧ (okH G g f' k) ∧ ∀ j, (j ≠ 15 ∧ j ≠ k ∧ j ≠ k + 1) → f' j = f j)) 0 0 (gA g) := by
  refine Met.ofW (cc := cX1_hear) (maxL := 11) (ret := none) (by decide) rfl ?_
  intro p e s m args below meth c s₁ B hml hv
  obtain ⟨rfl, hP, hG⟩ := hv
  have hx := B.exec
  have hb := B.bytes
  have hr := B.returns
  have hts := my_hts (atoms_spec (ws := wsT yX1_hear cX1_hear 11 none) B.pre)
  have hown : s.vm.findClass RX1 = some m.cls := findClass_of_methodNamed B.named
  have hlocks := B.notSynchronized
  have hS : va_S (gA g) s.heap s.heap [] := va_S.rf
  have hl := lv_entry ([.ref (g 1), .int (nI w), .ref (g k), .ref (g k1), .ref (g k2)]) (n := 11) (Nat.le_of_ble_eq_true rfl)
  rw [lg_entry_eq]
  generalize (lg_sl ([.ref (g 1), .int (nI w), .ref (g k), .ref (g k1), .ref (g k2)]) ++ List.replicate (11 - (lg_sl ([.ref (g 1), .int (nI w), .ref (g k), .ref (g k1), .ref (g k2)])).length) Slot.unset).toArray = ls at hl ⊢
  have hl : lv_has ls 11 [(0, .ref (g 1)), (1, .int (nI w)), (2, .ref (g k)), (3, .ref (g k1)), (4, .ref (g k2))] := hl
  refine lv_aload_n hx hb dX1_hear_0 rfl (lv_at hl 0 rfl) ?_
  refine va_get (D := G.1) (ci := 1) (v := .ref (g 36)) (C := RX1) (T := TX1) (N := 5) hx hb hts inlX1 hown hG.1 hP 1 (wl_at (by decide) hctc) rfl 0 (by decide) (hts (.fieldLink RX1 12 "SwornLists$Court" "book" "LSwornLists$Book;") w_40) (fun _ h9 => h9) rfl dX1_hear_1 ?_
  refine va_getN (D := G.1) (ci := 0) (v := .ref (g 45)) (C := RX0) (T := TX0) (N := 9) (host := RX10) hx hb hts inlX0 hown hG.1 hP 36 (wl_at (by decide) hbk) rfl 4 (by decide) (va_Nw.use rfl (hG.2.1 (.fieldLinkNest RX1 43 RX0 "trials" "LSwornLists$Rows;" RX10) (List.mem_of_getElem? (i := 6) rfl))) (fun _ h9 => h9) rfl dX1_hear_4 ?_
  refine lv_astore (lv' := [(5, .ref (g 45)), (0, .ref (g 1)), (1, .int (nI w)), (2, .ref (g k)), (3, .ref (g k1)), (4, .ref (g k2))]) hx hb dX1_hear_7 hl (by decide) rfl (fun ls hl => ?_)
  refine lv_aload hx hb dX1_hear_9 (lv_at hl 0 rfl) ?_
  refine lv_iload_n hx hb dX1_hear_11 rfl (lv_at hl 2 rfl) ?_
  refine lv_iconst (v := 0) hx hb dX1_hear_12 (by decide) ?_
  refine rd_calli (va_runV (As := [.int (nI w), .int 0]) (rest := []) ⟨hx, hb, hml, hown, hts⟩ (r_at l G g hg f 45 10 70 nt ct (nI w) 0 htr hct (by first | assumption | omega | decide) (by first | assumption | omega | decide) (by first | assumption | omega | decide) (by first | assumption | omega | decide)) (my_cwV hts ok_X5_at w_389 rfl rfl ⟨Nat.le_of_ble_eq_true rfl, Nat.le_of_ble_eq_true rfl⟩) ⟨bP.blind, va_recv hG.1 hP (ci := 5) (q0 := 45) rfl (wl_at (by decide) htr), fun U hU hW => ⟨rfl, by rw [hU]; exact hP, kG.warm hW hG⟩⟩ rfl rfl hl.1 rfl (lv_room (Nat.le_of_ble_eq_true rfl)) dX1_hear_13 ⟨Nat.le_of_ble_eq_true rfl, Nat.le_of_ble_eq_true rfl⟩) (fun r hr9 => ?_)
  subst hr9
  refine lv_istore (lv' := [(6, .int (atv ct nt 70 (nI w) 0)), (5, .ref (g 45)), (0, .ref (g 1)), (1, .int (nI w)), (2, .ref (g k)), (3, .ref (g k1)), (4, .ref (g k2))]) hx hb dX1_hear_16 hl (by decide) rfl (fun ls hl => ?_)
  refine lv_aload_n hx hb dX1_hear_18 rfl (lv_at hl 2 rfl) ?_
  refine va_get (D := G.1) (ci := 1) (v := .ref (g 36)) (C := RX1) (T := TX1) (N := 5) hx hb hts inlX1 hown hG.1 hP 1 (wl_at (by decide) hctc) rfl 0 (by decide) (hts (.fieldLink RX1 12 "SwornLists$Court" "book" "LSwornLists$Book;") w_40) (fun _ h9 => h9) rfl dX1_hear_19 ?_
  refine rd_calli (va_runV (As := []) (rest := []) ⟨hx, hb, hml, hown, hts⟩ (k_everyone l G g hg f pay fine np dp hbk hpr hpd (by first | assumption | omega | decide)) (my_cwV hts ok_X0_everyone w_407 rfl rfl ⟨Nat.le_of_ble_eq_true rfl, Nat.le_of_ble_eq_true rfl⟩) ⟨bP.blind, va_recv hG.1 hP (ci := 0) (q0 := 36) rfl (wl_at (by decide) hbk), fun U hU hW => ⟨rfl, by rw [hU]; exact hP, kG.warm hW hG⟩⟩ rfl rfl hl.1 rfl (lv_room (Nat.le_of_ble_eq_true rfl)) dX1_hear_22 ⟨Nat.le_of_ble_eq_true rfl, Nat.le_of_ble_eq_true rfl⟩) (fun v1 _ => ?_)
  refine lv_aload_n hx hb dX1_hear_25 rfl (lv_at hl 2 rfl) ?_
  refine va_get (D := G.1) (ci := 1) (v := .ref (g 36)) (C := RX1) (T := TX1) (N := 5) hx hb hts inlX1 hown hG.1 hP 1 (wl_at (by decide) hctc) rfl 0 (by decide) (hts (.fieldLink RX1 12 "SwornLists$Court" "book" "LSwornLists$Book;") w_40) (fun _ h9 => h9) rfl dX1_hear_26 ?_
  refine lv_iload_n hx hb dX1_hear_29 rfl (lv_at hl 3 rfl) ?_
  refine lv_iload hx hb dX1_hear_30 (lv_at hl 0 rfl) ?_
  refine rd_calli (va_runV (As := [.int (nI w), .int (atv ct nt 70 (nI w) 0)]) (rest := [.int v1]) ⟨hx, hb, hml, hown, hts⟩ (k_kinOfSides l G g hg f pay fine nf df nt ct (nI w) (atv ct nt 70 (nI w) 0) hbk hfr hfd htr hct (by first | assumption | omega | decide) (by first | assumption | omega | decide)) (my_cwV hts ok_X0_kinOfSides w_408 rfl rfl ⟨Nat.le_of_ble_eq_true rfl, Nat.le_of_ble_eq_true rfl⟩) ⟨bP.blind, va_recv hG.1 hP (ci := 0) (q0 := 36) rfl (wl_at (by decide) hbk), fun U hU hW => ⟨rfl, by rw [hU]; exact hP, kG.warm hW hG⟩⟩ rfl rfl hl.1 rfl (lv_room (Nat.le_of_ble_eq_true rfl)) dX1_hear_32 ⟨Nat.le_of_ble_eq_true rfl, Nat.le_of_ble_eq_true rfl⟩) (fun v2 _ => ?_)
  refine lv_iconst (v := (-1)) hx hb dX1_hear_35 (by decide) ?_
  refine lv_ixor hx hb dX1_hear_36 ?_
  refine lv_iand hx hb dX1_hear_37 ?_
  refine lv_aload_n hx hb dX1_hear_38 rfl (lv_at hl 2 rfl) ?_
  refine lv_iload_n hx hb dX1_hear_39 rfl (lv_at hl 3 rfl) ?_
  refine rd_calli (va_runV (As := [.int (nI w)]) (rest := [.int (v1 &&& (v2 ^^^ (-1)))]) ⟨hx, hb, hml, hown, hts⟩ (u_busy l G g hg f se hf pay fine nt ct w hctc hhs hbk htr hct (by first | assumption | omega | decide) (by first | assumption | omega | decide) (by first | assumption | omega | decide) (by first | assumption | omega | decide) (by first | assumption | omega | decide)) (my_cwV hts ok_X1_busy w_412 rfl rfl ⟨Nat.le_of_ble_eq_true rfl, Nat.le_of_ble_eq_true rfl⟩) ⟨bP.blind, va_recv hG.1 hP (ci := 1) (q0 := 1) rfl (wl_at (by decide) hctc), fun U hU hW => ⟨rfl, by rw [hU]; exact hP, kG.warm hW hG⟩⟩ rfl rfl hl.1 rfl (lv_room (Nat.le_of_ble_eq_true rfl)) dX1_hear_40 ⟨Nat.le_of_ble_eq_true rfl, Nat.le_of_ble_eq_true rfl⟩) (fun v3 _ => ?_)
  refine lv_iconst (v := (-1)) hx hb dX1_hear_43 (by decide) ?_
  refine lv_ixor hx hb dX1_hear_44 ?_
  refine lv_iand hx hb dX1_hear_45 ?_
  refine lv_istore (lv' := [(7, .int ((v1 &&& (v2 ^^^ (-1))) &&& (v3 ^^^ (-1)))), (6, .int (atv ct nt 70 (nI w) 0)), (5, .ref (g 45)), (0, .ref (g 1)), (1, .int (nI w)), (2, .ref (g k)), (3, .ref (g k1)), (4, .ref (g k2))]) hx hb dX1_hear_46 hl (by decide) rfl (fun ls hl => ?_)
  refine lv_aload_n hx hb dX1_hear_48 rfl (lv_at hl 3 rfl) ?_
  refine lv_aload_n hx hb dX1_hear_49 rfl (lv_at hl 6 rfl) ?_
  refine lv_iconst (v := 0) hx hb dX1_hear_50 (by decide) ?_
  refine lv_iload hx hb dX1_hear_51 (lv_at hl 1 rfl) ?_
  refine lv_iload hx hb dX1_hear_53 (lv_at hl 0 rfl) ?_
  refine b_calli (va_runV (As := [.ref (g k1), .int 0, .int (atv ct nt 70 (nI w) 0), .int ((v1 &&& (v2 ^^^ (-1))) &&& (v3 ^^^ (-1)))]) (rest := []) ⟨hx, hb, hml, hown, hts⟩ (u_truthsT l G g hg f se hf pay fine nt ct np dp k1 ln1 sc1 sp1 vv 0 (atv ct nt 70 (nI w) 0) ((v1 &&& (v2 ^^^ (-1))) &&& (v3 ^^^ (-1))) hctc hhs hbk htr hct hpr hpd htx1 hpx1 hvl (by first | assumption | omega | decide) (by first | assumption | omega | decide) (by first | assumption | omega | decide) (by first | assumption | omega | decide) (by first | assumption | omega | decide) (by first | assumption | omega | decide) (by first | assumption | omega | decide) (by first | assumption | omega | decide) (by first | assumption | omega | decide)) (my_cwV hts ok_X1_truths w_424 rfl rfl ⟨Nat.le_of_ble_eq_true rfl, Nat.le_of_ble_eq_true rfl⟩) ⟨bP.blind, va_recv hG.1 hP (ci := 1) (q0 := 1) rfl (wl_at (by decide) hctc), fun U hU hW => ⟨rfl, by rw [hU]; exact hP, kG.warm hW hG⟩⟩ rfl rfl hl.1 rfl (lv_room (Nat.le_of_ble_eq_true rfl)) dX1_hear_55 ⟨Nat.le_of_ble_eq_true rfl, Nat.le_of_ble_eq_true rfl⟩) hS (fun v4 f_1 H locs hq9 hP hS => ?_)
  obtain ⟨vv95, hq_1_0, o_1⟩ := hq9
  replace hctc := (o_1 1 (by first | decide | omega)).trans hctc
  replace hhs := (o_1 12 (by first | decide | omega)).trans hhs
  replace hbk := (o_1 36 (by first | decide | omega)).trans hbk
  replace htr := (o_1 45 (by first | decide | omega)).trans htr
  replace hct := (o_1 46 (by first | decide | omega)).trans hct
  replace hpr := (o_1 37 (by first | decide | omega)).trans hpr
  replace hpd := (o_1 38 (by first | decide | omega)).trans hpd
  replace hfr := (o_1 39 (by first | decide | omega)).trans hfr
  replace hfd := (o_1 40 (by first | decide | omega)).trans hfd
  replace hor := (o_1 41 (by first | decide | omega)).trans hor
  replace hod := (o_1 42 (by first | decide | omega)).trans hod
  replace hhe : f_1 k = eO 3 [.ref (g (k + 1)), .int (nI sl), .int lo, .int ib, .int ca, .int mi, .int s0, .int s1, .int sw] := (o_1 k (by omega)).trans hhe
  replace hod9 : f_1 (k + 1) = eI G 24 od := (o_1 (k + 1) (by omega)).trans hod9
  replace htx1 : f_1 k1 = eO 7 [.ref (g (k1 + 1)), .ref (g (k1 + 2)), .int (nI ln1), .int (nI sc1)] := (o_1 k1 (by omega)).trans htx1
  replace hpx1 : f_1 (k1 + 2) = eI G 50 sp1 := (o_1 (k1 + 2) (by omega)).trans hpx1
  replace htx2 : f_1 k2 = eO 7 [.ref (g (k2 + 1)), .ref (g (k2 + 2)), .int (nI ln2), .int (nI sc2)] := (o_1 k2 (by omega)).trans htx2
  replace hpx2 : f_1 (k2 + 2) = eI G 50 sp2 := (o_1 (k2 + 2) (by omega)).trans hpx2
  have hvl : f_1 15 = eJ G 50 vv95 := hq_1_0
  have hH : ∀ i, i < 10 → okH G g f_1 (2 * i + 16) := fun z hz => okH_fr (hH z hz) (o_1 _ (by omega)) (o_1 _ (by omega))
  refine lv_istore (lv' := [(8, .int v4), (7, .int ((v1 &&& (v2 ^^^ (-1))) &&& (v3 ^^^ (-1)))), (6, .int (atv ct nt 70 (nI w) 0)), (5, .ref (g 45)), (0, .ref (g 1)), (1, .int (nI w)), (2, .ref (g k)), (3, .ref (g k1)), (4, .ref (g k2))]) hx hb dX1_hear_58 hl (by decide) rfl (fun ls hl => ?_)
  refine lv_iload hx hb dX1_hear_60 (lv_at hl 0 rfl) ?_
  refine lv_aload_n hx hb dX1_hear_62 rfl (lv_at hl 4 rfl) ?_
  refine va_get (D := G.1) (ci := 1) (v := .ref (g 36)) (C := RX1) (T := TX1) (N := 5) hx hb hts inlX1 hown hG.1 hP 1 (wl_at (by decide) hctc) rfl 0 (by decide) (hts (.fieldLink RX1 12 "SwornLists$Court" "book" "LSwornLists$Book;") w_40) (fun _ h9 => h9) rfl dX1_hear_63 ?_
  refine lv_iload hx hb dX1_hear_66 (lv_at hl 2 rfl) ?_
  refine rd_calli (va_runV (As := [.int (atv ct nt 70 (nI w) 0)]) (rest := [.int v4]) ⟨hx, hb, hml, hown, hts⟩ (k_listedOn l G g hg f_1 pay fine np dp nr dr (atv ct nt 70 (nI w) 0) hbk hpr hpd hor hod (by first | assumption | omega | decide) (by first | assumption | omega | decide)) (my_cwV hts ok_X0_listedOn w_464 rfl rfl ⟨Nat.le_of_ble_eq_true rfl, Nat.le_of_ble_eq_true rfl⟩) ⟨bP.blind, va_recv hG.1 hP (ci := 0) (q0 := 36) rfl (wl_at (by decide) hbk), fun U hU hW => ⟨rfl, by rw [hU]; exact hP, kG.warm hW hG⟩⟩ rfl rfl hl.1 rfl (lv_room (Nat.le_of_ble_eq_true rfl)) dX1_hear_68 ⟨Nat.le_of_ble_eq_true rfl, Nat.le_of_ble_eq_true rfl⟩) (fun v6 _ => ?_)
  refine lv_iand hx hb dX1_hear_71 ?_
  refine lv_aload_n hx hb dX1_hear_72 rfl (lv_at hl 4 rfl) ?_
  refine va_get (D := G.1) (ci := 1) (v := .ref (g 36)) (C := RX1) (T := TX1) (N := 5) hx hb hts inlX1 hown hG.1 hP 1 (wl_at (by decide) hctc) rfl 0 (by decide) (hts (.fieldLink RX1 12 "SwornLists$Court" "book" "LSwornLists$Book;") w_40) (fun _ h9 => h9) rfl dX1_hear_73 ?_
  refine lv_iload_n hx hb dX1_hear_76 rfl (lv_at hl 5 rfl) ?_
  refine rd_calli (va_runV (As := [.int (nI w)]) (rest := [.int (v4 &&& v6)]) ⟨hx, hb, hml, hown, hts⟩ (k_ofTradeWanted l G g hg f_1 pay fine np dp nt ct (nI w) hbk hpr hpd htr hct (by first | assumption | omega | decide) (by first | assumption | omega | decide)) (my_cwV hts ok_X0_ofTradeWanted w_465 rfl rfl ⟨Nat.le_of_ble_eq_true rfl, Nat.le_of_ble_eq_true rfl⟩) ⟨bP.blind, va_recv hG.1 hP (ci := 0) (q0 := 36) rfl (wl_at (by decide) hbk), fun U hU hW => ⟨rfl, by rw [hU]; exact hP, kG.warm hW hG⟩⟩ rfl rfl hl.1 rfl (lv_room (Nat.le_of_ble_eq_true rfl)) dX1_hear_77 ⟨Nat.le_of_ble_eq_true rfl, Nat.le_of_ble_eq_true rfl⟩) (fun v7 _ => ?_)
  refine lv_iand hx hb dX1_hear_80 ?_
  refine lv_istore (lv' := [(9, .int ((v4 &&& v6) &&& v7)), (8, .int v4), (7, .int ((v1 &&& (v2 ^^^ (-1))) &&& (v3 ^^^ (-1)))), (6, .int (atv ct nt 70 (nI w) 0)), (5, .ref (g 45)), (0, .ref (g 1)), (1, .int (nI w)), (2, .ref (g k)), (3, .ref (g k1)), (4, .ref (g k2))]) hx hb dX1_hear_81 hl (by decide) rfl (fun ls hl => ?_)
  refine lv_aload_n hx hb dX1_hear_83 rfl (lv_at hl 5 rfl) ?_
  refine lv_aload hx hb dX1_hear_84 (lv_at hl 9 rfl) ?_
  refine lv_iconst (v := 1) hx hb dX1_hear_86 (by decide) ?_
  refine lv_iload hx hb dX1_hear_87 (lv_at hl 3 rfl) ?_
  refine lv_iload hx hb dX1_hear_89 (lv_at hl 0 rfl) ?_
  refine b_calli (va_runV (As := [.ref (g k2), .int 1, .int (atv ct nt 70 (nI w) 0), .int ((v4 &&& v6) &&& v7)]) (rest := []) ⟨hx, hb, hml, hown, hts⟩ (u_truthsT l G g hg f_1 se hf pay fine nt ct np dp k2 ln2 sc2 sp2 vv95 1 (atv ct nt 70 (nI w) 0) ((v4 &&& v6) &&& v7) hctc hhs hbk htr hct hpr hpd htx2 hpx2 hvl (by first | assumption | omega | decide) (by first | assumption | omega | decide) (by first | assumption | omega | decide) (by first | assumption | omega | decide) (by first | assumption | omega | decide) (by first | assumption | omega | decide) (by first | assumption | omega | decide) (by first | assumption | omega | decide) (by first | assumption | omega | decide)) (my_cwV hts ok_X1_truths w_424 rfl rfl ⟨Nat.le_of_ble_eq_true rfl, Nat.le_of_ble_eq_true rfl⟩) ⟨bP.blind, va_recv hG.1 hP (ci := 1) (q0 := 1) rfl (wl_at (by decide) hctc), fun U hU hW => ⟨rfl, by rw [hU]; exact hP, kG.warm hW hG⟩⟩ rfl rfl hl.1 rfl (lv_room (Nat.le_of_ble_eq_true rfl)) dX1_hear_91 ⟨Nat.le_of_ble_eq_true rfl, Nat.le_of_ble_eq_true rfl⟩) hS (fun v8 f_2 H locs hq9 hP hS => ?_)
  obtain ⟨vv99, hq_2_0, o_2⟩ := hq9
  replace hctc := (o_2 1 (by first | decide | omega)).trans hctc
  replace hhs := (o_2 12 (by first | decide | omega)).trans hhs
  replace hbk := (o_2 36 (by first | decide | omega)).trans hbk
  replace htr := (o_2 45 (by first | decide | omega)).trans htr
  replace hct := (o_2 46 (by first | decide | omega)).trans hct
  replace hpr := (o_2 37 (by first | decide | omega)).trans hpr
  replace hpd := (o_2 38 (by first | decide | omega)).trans hpd
  replace hfr := (o_2 39 (by first | decide | omega)).trans hfr
  replace hfd := (o_2 40 (by first | decide | omega)).trans hfd
  replace hor := (o_2 41 (by first | decide | omega)).trans hor
  replace hod := (o_2 42 (by first | decide | omega)).trans hod
  replace hhe : f_2 k = eO 3 [.ref (g (k + 1)), .int (nI sl), .int lo, .int ib, .int ca, .int mi, .int s0, .int s1, .int sw] := (o_2 k (by omega)).trans hhe
  replace hod9 : f_2 (k + 1) = eI G 24 od := (o_2 (k + 1) (by omega)).trans hod9
  replace htx1 : f_2 k1 = eO 7 [.ref (g (k1 + 1)), .ref (g (k1 + 2)), .int (nI ln1), .int (nI sc1)] := (o_2 k1 (by omega)).trans htx1
  replace hpx1 : f_2 (k1 + 2) = eI G 50 sp1 := (o_2 (k1 + 2) (by omega)).trans hpx1
  replace htx2 : f_2 k2 = eO 7 [.ref (g (k2 + 1)), .ref (g (k2 + 2)), .int (nI ln2), .int (nI sc2)] := (o_2 k2 (by omega)).trans htx2
  replace hpx2 : f_2 (k2 + 2) = eI G 50 sp2 := (o_2 (k2 + 2) (by omega)).trans hpx2
  have hvl : f_2 15 = eJ G 50 vv99 := hq_2_0
  have hH : ∀ i, i < 10 → okH G g f_2 (2 * i + 16) := fun z hz => okH_fr (hH z hz) (o_2 _ (by omega)) (o_2 _ (by omega))
  refine lv_istore (lv' := [(10, .int v8), (9, .int ((v4 &&& v6) &&& v7)), (8, .int v4), (7, .int ((v1 &&& (v2 ^^^ (-1))) &&& (v3 ^^^ (-1)))), (6, .int (atv ct nt 70 (nI w) 0)), (5, .ref (g 45)), (0, .ref (g 1)), (1, .int (nI w)), (2, .ref (g k)), (3, .ref (g k1)), (4, .ref (g k2))]) hx hb dX1_hear_94 hl (by decide) rfl (fun ls hl => ?_)
  refine lv_aload_n hx hb dX1_hear_96 rfl (lv_at hl 8 rfl) ?_
  refine lv_iload hx hb dX1_hear_97 (lv_at hl 1 rfl) ?_
  refine lv_iload hx hb dX1_hear_99 (lv_at hl 0 rfl) ?_
  refine lv_iconst (v := (-1)) hx hb dX1_hear_101 (by decide) ?_
  refine lv_ixor hx hb dX1_hear_102 ?_
  refine lv_iand hx hb dX1_hear_103 ?_
  refine lv_aload hx hb dX1_hear_104 (lv_at hl 5 rfl) ?_
  refine lv_iload_n hx hb dX1_hear_106 rfl (lv_at hl 7 rfl) ?_
  refine lv_bipush (v := 7) hx hb dX1_hear_107 (by decide) ?_
  refine rd_calli (va_runV (As := [.int (nI w), .int 7]) (rest := [.int (((v4 &&& v6) &&& v7) &&& (v8 ^^^ (-1))), .ref (g k)]) ⟨hx, hb, hml, hown, hts⟩ (r_at l G g hg f_2 45 10 70 nt ct (nI w) 7 htr hct (by first | assumption | omega | decide) (by first | assumption | omega | decide) (by first | assumption | omega | decide) (by first | assumption | omega | decide)) (my_cwV hts ok_X5_at w_389 rfl rfl ⟨Nat.le_of_ble_eq_true rfl, Nat.le_of_ble_eq_true rfl⟩) ⟨bP.blind, va_recv hG.1 hP (ci := 5) (q0 := 45) rfl (wl_at (by decide) htr), fun U hU hW => ⟨rfl, by rw [hU]; exact hP, kG.warm hW hG⟩⟩ rfl rfl hl.1 rfl (lv_room (Nat.le_of_ble_eq_true rfl)) dX1_hear_109 ⟨Nat.le_of_ble_eq_true rfl, Nat.le_of_ble_eq_true rfl⟩) (fun r hr9 => ?_)
  subst hr9
  refine lv_aload hx hb dX1_hear_112 (lv_at hl 5 rfl) ?_
  refine lv_iload_n hx hb dX1_hear_114 rfl (lv_at hl 7 rfl) ?_
  refine lv_bipush (v := 8) hx hb dX1_hear_115 (by decide) ?_
  refine rd_calli (va_runV (As := [.int (nI w), .int 8]) (rest := [.int (atv ct nt 70 (nI w) 7), .int (((v4 &&& v6) &&& v7) &&& (v8 ^^^ (-1))), .ref (g k)]) ⟨hx, hb, hml, hown, hts⟩ (r_at l G g hg f_2 45 10 70 nt ct (nI w) 8 htr hct (by first | assumption | omega | decide) (by first | assumption | omega | decide) (by first | assumption | omega | decide) (by first | assumption | omega | decide)) (my_cwV hts ok_X5_at w_389 rfl rfl ⟨Nat.le_of_ble_eq_true rfl, Nat.le_of_ble_eq_true rfl⟩) ⟨bP.blind, va_recv hG.1 hP (ci := 5) (q0 := 45) rfl (wl_at (by decide) htr), fun U hU hW => ⟨rfl, by rw [hU]; exact hP, kG.warm hW hG⟩⟩ rfl rfl hl.1 rfl (lv_room (Nat.le_of_ble_eq_true rfl)) dX1_hear_117 ⟨Nat.le_of_ble_eq_true rfl, Nat.le_of_ble_eq_true rfl⟩) (fun r hr9 => ?_)
  subst hr9
  refine b_callv (va_runV (As := [.int (((v4 &&& v6) &&& v7) &&& (v8 ^^^ (-1))), .int (atv ct nt 70 (nI w) 7), .int (atv ct nt 70 (nI w) 8)]) (rest := []) ⟨hx, hb, hml, hown, hts⟩ (h_draw l G g hg f_2 k sl lo ib ca mi s0 s1 sw od (((v4 &&& v6) &&& v7) &&& (v8 ^^^ (-1))) (atv ct nt 70 (nI w) 7) (atv ct nt 70 (nI w) 8) hhe hod9 (by first | assumption | omega | decide) (by first | assumption | omega | decide)) (my_cwV hts ok_X3_draw w_473 rfl rfl ⟨Nat.le_of_ble_eq_true rfl, Nat.le_of_ble_eq_true rfl⟩) ⟨bP.blind, va_recv hG.1 hP (ci := 3) (q0 := k) rfl (wl_at (by omega) hhe), fun U hU hW => ⟨rfl, by rw [hU]; exact hP, kG.warm hW hG⟩⟩ rfl rfl hl.1 rfl (lv_room (Nat.le_of_ble_eq_true rfl)) dX1_hear_120 ⟨Nat.le_of_ble_eq_true rfl, Nat.le_of_ble_eq_true rfl⟩) hS (fun f_3 H locs hq9 hP hS => ?_)
  obtain ⟨sl910, lo911, ib912, ca913, mi914, s0915, s1916, sw917, od918, hq_3_0, hq_3_1, hx_3_0, o_3⟩ := hq9
  replace hctc := (o_3 1 (by first | decide | omega)).trans hctc
  replace hhs := (o_3 12 (by first | decide | omega)).trans hhs
  replace hbk := (o_3 36 (by first | decide | omega)).trans hbk
  replace htr := (o_3 45 (by first | decide | omega)).trans htr
  replace hct := (o_3 46 (by first | decide | omega)).trans hct
  replace hpr := (o_3 37 (by first | decide | omega)).trans hpr
  replace hpd := (o_3 38 (by first | decide | omega)).trans hpd
  replace hfr := (o_3 39 (by first | decide | omega)).trans hfr
  replace hfd := (o_3 40 (by first | decide | omega)).trans hfd
  replace hor := (o_3 41 (by first | decide | omega)).trans hor
  replace hod := (o_3 42 (by first | decide | omega)).trans hod
  replace hvl := (o_3 15 (by first | decide | omega)).trans hvl
  replace htx1 : f_3 k1 = eO 7 [.ref (g (k1 + 1)), .ref (g (k1 + 2)), .int (nI ln1), .int (nI sc1)] := (o_3 k1 (by omega)).trans htx1
  replace hpx1 : f_3 (k1 + 2) = eI G 50 sp1 := (o_3 (k1 + 2) (by omega)).trans hpx1
  replace htx2 : f_3 k2 = eO 7 [.ref (g (k2 + 1)), .ref (g (k2 + 2)), .int (nI ln2), .int (nI sc2)] := (o_3 k2 (by omega)).trans htx2
  replace hpx2 : f_3 (k2 + 2) = eI G 50 sp2 := (o_3 (k2 + 2) (by omega)).trans hpx2
  have hhe : f_3 k = eO 3 [.ref (g (k + 1)), .int (nI sl910), .int lo911, .int ib912, .int ca913, .int mi914, .int s0915, .int s1916, .int sw917] := hq_3_0
  have hod9 : f_3 (k + 1) = eI G 24 od918 := hq_3_1
  refine lv_aload_n hx hb dX1_hear_123 rfl (lv_at hl 8 rfl) ?_
  refine lv_aload hx hb dX1_hear_124 (lv_at hl 5 rfl) ?_
  refine lv_iload_n hx hb dX1_hear_126 rfl (lv_at hl 7 rfl) ?_
  refine b_callv (va_runV (As := [.ref (g 45), .int (nI w)]) (rest := []) ⟨hx, hb, hml, hown, hts⟩ (h_strike l G g hg f_3 k sl910 lo911 ib912 ca913 mi914 s0915 s1916 sw917 od918 nt ct (nI w) hhe hod9 htr hct (by first | assumption | omega | decide) (by first | assumption | omega | decide) (by first | assumption | omega | decide)) (my_cwV hts ok_X3_strike w_493 rfl rfl ⟨Nat.le_of_ble_eq_true rfl, Nat.le_of_ble_eq_true rfl⟩) ⟨bP.blind, va_recv hG.1 hP (ci := 3) (q0 := k) rfl (wl_at (by omega) hhe), fun U hU hW => ⟨rfl, by rw [hU]; exact hP, kG.warm hW hG⟩⟩ rfl rfl hl.1 rfl (lv_room (Nat.le_of_ble_eq_true rfl)) dX1_hear_127 ⟨Nat.le_of_ble_eq_true rfl, Nat.le_of_ble_eq_true rfl⟩) hS (fun f_4 H locs hq9 hP hS => ?_)
  obtain ⟨sl919, lo920, ib921, ca922, mi923, s0924, s1925, sw926, od927, hq_4_0, hq_4_1, hx_4_0, o_4⟩ := hq9
  replace hctc := (o_4 1 (by first | decide | omega)).trans hctc
  replace hhs := (o_4 12 (by first | decide | omega)).trans hhs
  replace hbk := (o_4 36 (by first | decide | omega)).trans hbk
  replace htr := (o_4 45 (by first | decide | omega)).trans htr
  replace hct := (o_4 46 (by first | decide | omega)).trans hct
  replace hpr := (o_4 37 (by first | decide | omega)).trans hpr
  replace hpd := (o_4 38 (by first | decide | omega)).trans hpd
  replace hfr := (o_4 39 (by first | decide | omega)).trans hfr
  replace hfd := (o_4 40 (by first | decide | omega)).trans hfd
  replace hor := (o_4 41 (by first | decide | omega)).trans hor
  replace hod := (o_4 42 (by first | decide | omega)).trans hod
  replace hvl := (o_4 15 (by first | decide | omega)).trans hvl
  replace htx1 : f_4 k1 = eO 7 [.ref (g (k1 + 1)), .ref (g (k1 + 2)), .int (nI ln1), .int (nI sc1)] := (o_4 k1 (by omega)).trans htx1
  replace hpx1 : f_4 (k1 + 2) = eI G 50 sp1 := (o_4 (k1 + 2) (by omega)).trans hpx1
  replace htx2 : f_4 k2 = eO 7 [.ref (g (k2 + 1)), .ref (g (k2 + 2)), .int (nI ln2), .int (nI sc2)] := (o_4 k2 (by omega)).trans htx2
  replace hpx2 : f_4 (k2 + 2) = eI G 50 sp2 := (o_4 (k2 + 2) (by omega)).trans hpx2
  have hhe : f_4 k = eO 3 [.ref (g (k + 1)), .int (nI sl919), .int lo920, .int ib921, .int ca922, .int mi923, .int s0924, .int s1925, .int sw926] := hq_4_0
  have hod9 : f_4 (k + 1) = eI G 24 od927 := hq_4_1
  refine lv_aload_n hx hb dX1_hear_130 rfl (lv_at hl 8 rfl) ?_
  refine lv_aload hx hb dX1_hear_131 (lv_at hl 5 rfl) ?_
  refine lv_iload_n hx hb dX1_hear_133 rfl (lv_at hl 7 rfl) ?_
  refine lv_iconst (v := 2) hx hb dX1_hear_134 (by decide) ?_
  refine rd_calli (va_runV (As := [.int (nI w), .int 2]) (rest := [.ref (g k)]) ⟨hx, hb, hml, hown, hts⟩ (r_at l G g hg f_4 45 10 70 nt ct (nI w) 2 htr hct (by first | assumption | omega | decide) (by first | assumption | omega | decide) (by first | assumption | omega | decide) (by first | assumption | omega | decide)) (my_cwV hts ok_X5_at w_389 rfl rfl ⟨Nat.le_of_ble_eq_true rfl, Nat.le_of_ble_eq_true rfl⟩) ⟨bP.blind, va_recv hG.1 hP (ci := 5) (q0 := 45) rfl (wl_at (by decide) htr), fun U hU hW => ⟨rfl, by rw [hU]; exact hP, kG.warm hW hG⟩⟩ rfl rfl hl.1 rfl (lv_room (Nat.le_of_ble_eq_true rfl)) dX1_hear_135 ⟨Nat.le_of_ble_eq_true rfl, Nat.le_of_ble_eq_true rfl⟩) (fun r hr9 => ?_)
  subst hr9
  refine lv_iload hx hb dX1_hear_138 (lv_at hl 2 rfl) ?_
  refine lv_aload_n hx hb dX1_hear_140 rfl (lv_at hl 8 rfl) ?_
  refine va_getN (D := G.1) (ci := 3) (v := .int ib921) (C := RX3) (T := TX3) (N := 9) (host := RX10) hx hb hts inlX3 hown hG.1 hP k (wl_at (by omega) hhe) rfl 3 (by decide) (va_Nw.use rfl (hG.2.1 (.fieldLinkNest RX1 96 RX3 "inBox" "I" RX10) (List.mem_of_getElem? (i := 12) rfl))) (fun _ h9 => h9) rfl dX1_hear_141 ?_
  refine lv_iconst (v := (-1)) hx hb dX1_hear_144 (by decide) ?_
  refine lv_ixor hx hb dX1_hear_145 ?_
  refine lv_iand hx hb dX1_hear_146 ?_
  refine b_callv (va_runV (As := [.int (atv ct nt 70 (nI w) 2), .int (v4 &&& (ib921 ^^^ (-1)))]) (rest := []) ⟨hx, hb, hml, hown, hts⟩ (h_seat l G g hg f_4 k sl919 lo920 ib921 ca922 mi923 s0924 s1925 sw926 od927 (atv ct nt 70 (nI w) 2) (v4 &&& (ib921 ^^^ (-1))) hhe hod9 (by first | assumption | omega | decide) (by first | assumption | omega | decide)) (my_cwV hts ok_X3_seat w_511 rfl rfl ⟨Nat.le_of_ble_eq_true rfl, Nat.le_of_ble_eq_true rfl⟩) ⟨bP.blind, va_recv hG.1 hP (ci := 3) (q0 := k) rfl (wl_at (by omega) hhe), fun U hU hW => ⟨rfl, by rw [hU]; exact hP, kG.warm hW hG⟩⟩ rfl rfl hl.1 rfl (lv_room (Nat.le_of_ble_eq_true rfl)) dX1_hear_147 ⟨Nat.le_of_ble_eq_true rfl, Nat.le_of_ble_eq_true rfl⟩) hS (fun f_5 H locs hq9 hP hS => ?_)
  obtain ⟨sl928, lo929, ib930, ca931, mi932, s0933, s1934, sw935, od936, hq_5_0, hq_5_1, hx_5_0, o_5⟩ := hq9
  replace hctc := (o_5 1 (by first | decide | omega)).trans hctc
  replace hhs := (o_5 12 (by first | decide | omega)).trans hhs
  replace hbk := (o_5 36 (by first | decide | omega)).trans hbk
  replace htr := (o_5 45 (by first | decide | omega)).trans htr
  replace hct := (o_5 46 (by first | decide | omega)).trans hct
  replace hpr := (o_5 37 (by first | decide | omega)).trans hpr
  replace hpd := (o_5 38 (by first | decide | omega)).trans hpd
  replace hfr := (o_5 39 (by first | decide | omega)).trans hfr
  replace hfd := (o_5 40 (by first | decide | omega)).trans hfd
  replace hor := (o_5 41 (by first | decide | omega)).trans hor
  replace hod := (o_5 42 (by first | decide | omega)).trans hod
  replace hvl := (o_5 15 (by first | decide | omega)).trans hvl
  replace htx1 : f_5 k1 = eO 7 [.ref (g (k1 + 1)), .ref (g (k1 + 2)), .int (nI ln1), .int (nI sc1)] := (o_5 k1 (by omega)).trans htx1
  replace hpx1 : f_5 (k1 + 2) = eI G 50 sp1 := (o_5 (k1 + 2) (by omega)).trans hpx1
  replace htx2 : f_5 k2 = eO 7 [.ref (g (k2 + 1)), .ref (g (k2 + 2)), .int (nI ln2), .int (nI sc2)] := (o_5 k2 (by omega)).trans htx2
  replace hpx2 : f_5 (k2 + 2) = eI G 50 sp2 := (o_5 (k2 + 2) (by omega)).trans hpx2
  have hhe : f_5 k = eO 3 [.ref (g (k + 1)), .int (nI sl928), .int lo929, .int ib930, .int ca931, .int mi932, .int s0933, .int s1934, .int sw935] := hq_5_0
  have hod9 : f_5 (k + 1) = eI G 24 od936 := hq_5_1
  exact W.vret hx hb hr (fun t ht hW => ⟨⟨f_5, rfl, (⟨vv99, hvl, ⟨sl928, lo929, ib930, ca931, mi932, s0933, s1934, sw935, od936, hhe, hod9, by omega⟩, fun j hj => (((((o_5 j (by omega))).trans (o_4 j (by omega))).trans (o_3 j (by omega))).trans (o_2 j (by omega))).trans (o_1 j (by omega))⟩), by rw [ht]; exact hP⟩, hS.F ht⟩) hS.2.2 dX1_hear_150

theorem min_2 {a b : Nat} (ha : a < 2 ^ 31) (hb : b < 2 ^ 31) : (if nI b < nI a then nI b else nI a) = nI (min a b) := by
  by_cases q : b < a
  · rw [if_pos (nI_lt q ha), show min a b = b by omega]
  · rw [if_neg (fun z => q ((nI_ltI hb ha).mp z)), show min a b = a by omega]
def okH (G : gW) (g : Nat → Nat) (f : Nat → va_E) (k : Nat) : Prop := ∃ (sl : Nat) (lo ib ca mi s0 s1 sw : Int32) (od : Nat → Int32), f k = eO 3 [.ref (g (k + 1)), .int (nI sl), .int lo, .int ib, .int ca, .int mi, .int s0, .int s1, .int sw] ∧ f (k + 1) = eI G 24 od ∧ sl ≤ 24
def okT (G : gW) (g : Nat → Nat) (f : Nat → va_E) (k : Nat) : Prop := ∃ (ln sc : Nat) (sg sp : Nat → Int32), f k = eO 7 [.ref (g (k + 1)), .ref (g (k + 2)), .int (nI ln), .int (nI sc)] ∧ f (k + 1) = eI G 50 sg ∧ f (k + 2) = eI G 50 sp ∧ ln ≤ 50 ∧ sc ≤ 50
def fo : Option Nat → Int32
  | none => -1
  | some i => nI i
theorem ok_X1_hearing : okV yX1_hearing cX1_hearing 2 (some (.object "SwornLists$Hearing")) 1 := ⟨⟨w_393, w_14, ⟨by decide +kernel, by decide +kernel, by decide +kernel⟩⟩, trivial, w_391, w_392⟩
theorem ok_X1_unsettle : okV yX1_unsettle cX1_unsettle 2 none 1 := ⟨⟨w_149, w_14, ⟨by decide +kernel, by decide +kernel, by decide +kernel⟩⟩, trivial, w_147, w_148⟩
theorem ok_X1_timesSat : okV yX1_timesSat cX1_timesSat 5 (some .int) 2 := ⟨⟨w_450, w_14, ⟨by decide +kernel, by decide +kernel, by decide +kernel⟩⟩, trivial, w_448, w_449⟩
theorem ok_X1_yearsSince : okV yX1_yearsSince cX1_yearsSince 6 (some .int) 2 := ⟨⟨w_454, w_14, ⟨by decide +kernel, by decide +kernel, by decide +kernel⟩⟩, trivial, w_452, w_453⟩
theorem ok_X1_sworn : okV yX1_sworn cX1_sworn 3 (some .int) 0 := ⟨⟨w_933, w_14, ⟨by decide +kernel, by decide +kernel, by decide +kernel⟩⟩, trivial, w_931, w_932⟩
theorem ok_X0_inForce : okV yX0_inForce cX0_inForce 7 (some .int) 2 := ⟨⟨w_401, w_34, ⟨by decide +kernel, by decide +kernel, by decide +kernel⟩⟩, trivial, w_399, w_400⟩
set_option maxHeartbeats 4000000 in
set_option maxRecDepth 100000 in
theorem u_hearing (l : Launch) (G : gW) (g : Nat → Nat) (hg : gOK g) (f : Nat → va_E) (se : Nat) (hf : Nat → Option Nat) (i : Nat) (hctc : f 1 = eO 1 [.ref (g 36), .ref (g 12), .ref (g 13), .ref (g 15), .int (nI se)]) (hhs : f 12 = eA G 4 10 hf) (hse : se ≤ 10) (hhf : ∀ i, i < 10 → hf i = some (g (2 * i + 16))) (hi10 : i < 10) : Met l yX1_hearing (wsT yX1_hearing cX1_hearing 2 (some (.object "SwornLists$Hearing"))) ({ frames := 0, cells := 0, slots := 0, locals := 0 }) (bP G g f [.ref (g 1), .int (nI i)]) (rQa (fun z9 => z9 = .ref (g (2 * i + 16)))) 0 0 fr0 := by
  refine Met.ofW (cc := cX1_hearing) (maxL := 2) (ret := (some (.object "SwornLists$Hearing"))) (by decide) rfl ?_
  intro p e s m args below meth c s₁ B hml hv
  obtain ⟨rfl, hP, hG⟩ := hv
  have hx := B.exec
  have hb := B.bytes
  have hr := B.returns
  have hts := my_hts (atoms_spec (ws := wsT yX1_hearing cX1_hearing 2 (some (.object "SwornLists$Hearing"))) B.pre)
  have hown : s.vm.findClass RX1 = some m.cls := findClass_of_methodNamed B.named
  have hlocks := B.notSynchronized
  have hl := lv_entry ([.ref (g 1), .int (nI i)]) (n := 2) (Nat.le_of_ble_eq_true rfl)
  rw [lg_entry_eq]
  generalize (lg_sl ([.ref (g 1), .int (nI i)]) ++ List.replicate (2 - (lg_sl ([.ref (g 1), .int (nI i)])).length) Slot.unset).toArray = ls at hl ⊢
  have hl : lv_has ls 2 [(0, .ref (g 1)), (1, .int (nI i))] := hl
  refine lv_iload_n hx hb dX1_hearing_0 rfl (lv_at hl 1 rfl) ?_
  refine lv_if_lt (tgt := 19) hx hb dX1_hearing_1 (by decide) (fun c_1 => absurd c_1 (nI_pos (by omega))) (fun c_1 => ?_)
  refine lv_iload_n hx hb dX1_hearing_4 rfl (lv_at hl 1 rfl) ?_
  refine lv_bipush (v := 10) hx hb dX1_hearing_5 (by decide) ?_
  refine lv_icmp_ge (tgt := 19) hx hb dX1_hearing_7 (by decide) (fun c_7 => absurd c_7 (fun z => absurd ((nI_leI (a := 10) (by decide) (by omega)).mp z) (by omega))) (fun c_7 => ?_)
  refine lv_aload_n hx hb dX1_hearing_10 rfl (lv_at hl 0 rfl) ?_
  refine va_get (D := G.1) (ci := 1) (v := .ref (g 12)) (C := RX1) (T := TX1) (N := 5) hx hb hts inlX1 hown hG.1 hP 1 (wl_at (by decide) hctc) rfl 1 (by decide) (hts (.fieldLink RX1 20 "SwornLists$Court" "hearings" "[LSwornLists$Hearing;") w_42) (fun _ h9 => h9) rfl dX1_hearing_11 ?_
  refine lv_iload_n hx hb dX1_hearing_14 rfl (lv_at hl 1 rfl) ?_
  refine va_aldq hx hb hG.1 hP 12 4 (wl_at (by decide) hhs) rfl (vp_in_nI hi10 (by decide)) dX1_hearing_15 ?_
  refine my_bea (v := .ref (g (2 * i + 16))) (by rw [nI_clamp (by omega), hhf i hi10]; rfl) ?_
  refine lv_goto (tgt := 23) hx hb dX1_hearing_16 (by decide) ?_
  exact W.aret (v := .ref (g (2 * i + 16))) hx hb hr (Or.inl ⟨_, rfl⟩) (Or.inr ⟨_, rfl⟩) (fun t ht hW => ⟨_, rfl, (rfl), ht⟩) (fun _ h => absurd h List.not_mem_nil) dX1_hearing_23
set_option maxHeartbeats 4000000 in
set_option maxRecDepth 100000 in
theorem u_unsettle (l : Launch) (G : gW) (g : Nat → Nat) (hg : gOK g) (f : Nat → va_E) (se : Nat) (i : Nat) (hctc : f 1 = eO 1 [.ref (g 36), .ref (g 12), .ref (g 13), .ref (g 15), .int (nI se)]) (hse : se ≤ 10) (hi10 : i ≤ 10) : Met l yX1_unsettle (wsT yX1_unsettle cX1_unsettle 2 none) ({ frames := 1, cells := 0, slots := 0, locals := 14 }) (bP G g f [.ref (g 1), .int (nI i)]) (bQv G g (fun (f' : Nat → va_E) => f' 1 = eO 1 [.ref (g 36), .ref (g 12), .ref (g 13), .ref (g 15), .int (nI (min se i))] ∧ ∀ j, j ≠ 1 → f' j = f j)) 0 0 (gA g) := by
  refine Met.ofW (cc := cX1_unsettle) (maxL := 2) (ret := none) (by decide) rfl ?_
  intro p e s m args below meth c s₁ B hml hv
  obtain ⟨rfl, hP, hG⟩ := hv
  have hx := B.exec
  have hb := B.bytes
  have hr := B.returns
  have hts := my_hts (atoms_spec (ws := wsT yX1_unsettle cX1_unsettle 2 none) B.pre)
  have hown : s.vm.findClass RX1 = some m.cls := findClass_of_methodNamed B.named
  have hlocks := B.notSynchronized
  have hS : va_S (gA g) s.heap s.heap [] := va_S.rf
  have hl := lv_entry ([.ref (g 1), .int (nI i)]) (n := 2) (Nat.le_of_ble_eq_true rfl)
  rw [lg_entry_eq]
  generalize (lg_sl ([.ref (g 1), .int (nI i)]) ++ List.replicate (2 - (lg_sl ([.ref (g 1), .int (nI i)])).length) Slot.unset).toArray = ls at hl ⊢
  have hl : lv_has ls 2 [(0, .ref (g 1)), (1, .int (nI i))] := hl
  refine lv_aload_n hx hb dX1_unsettle_0 rfl (lv_at hl 0 rfl) ?_
  refine lv_aload_n hx hb dX1_unsettle_1 rfl (lv_at hl 0 rfl) ?_
  refine va_get (D := G.1) (ci := 1) (v := .int (nI se)) (C := RX1) (T := TX1) (N := 5) hx hb hts inlX1 hown hG.1 hP 1 (wl_at (by decide) hctc) rfl 4 (by decide) (hts (.fieldLink RX1 33 "SwornLists$Court" "settled" "I") w_150) (fun _ h9 => h9) rfl dX1_unsettle_2 ?_
  refine lv_iload_n hx hb dX1_unsettle_5 rfl (lv_at hl 1 rfl) ?_
  refine va_mmin hx hb (by rw [hml]; exact hl.1.symm) hown (hts (.methodLink RX1 37 Lib.Math.min.name) w_151) (hts (.static Lib.Math.min.name) w_152) (hts (.initialized "java/lang/Math") w_153) (hts (.code Lib.Math.min.name Lib.Math.min.code 2 (some .int)) w_154) (Nat.le_of_ble_eq_true rfl) (Nat.le_of_ble_eq_true rfl) (Nat.le_of_ble_eq_true rfl) (Nat.le_of_ble_eq_true rfl) dX1_unsettle_6 ?_
  refine my_bei (v := nI (min se i)) (min_2 (by omega) (by omega)) ?_
  refine va_put (D := G.1) (ci := 1) (v := .int (nI (min se i))) (ty := .int) (C := RX1) (T := TX1) (N := 5) hx hb hts inlX1 tyX1 tyX1_ok nmX1 hown hG.1 hP (wl_D hg f) hS 1 (wl_at (by decide) hctc) rfl 4 (by decide) (hts (.fieldLink RX1 33 "SwornLists$Court" "settled" "I") w_150) (fun _ h9 => h9) rfl (by decide +kernel) rfl rfl (Nat.le_of_ble_eq_true rfl) dX1_unsettle_9 (fun H locs hP _ hS => ?_)
  obtain ⟨f_1, hP, e_1, o_1⟩ := b_put (by decide) hP
  have hctc : f_1 1 = eO 1 [.ref (g 36), .ref (g 12), .ref (g 13), .ref (g 15), .int (nI (min se i))] := e_1
  exact W.vret hx hb hr (fun t ht hW => ⟨⟨f_1, rfl, (⟨hctc, fun j hj => (o_1 j (by omega))⟩), by rw [ht]; exact hP⟩, hS.F ht⟩) hS.2.2 dX1_unsettle_12
set_option maxHeartbeats 4000000 in
set_option maxRecDepth 100000 in
theorem u_sworn (l : Launch) (G : gW) (g : Nat → Nat) (hg : gOK g) (f : Nat → va_E) (se : Nat) (hf : Nat → Option Nat) (pay : Int32) (fine : Int32) (nt : Nat) (ct : Nat → Int32) (hctc : f 1 = eO 1 [.ref (g 36), .ref (g 12), .ref (g 13), .ref (g 15), .int (nI se)]) (hhs : f 12 = eA G 4 10 hf) (hbk : f 36 = eO 0 [.ref (g 37), .ref (g 39), .ref (g 41), .ref (g 43), .ref (g 45), .ref (g 47), .ref (g 112), .int pay, .int fine]) (htr : f 45 = eO 5 [.int (nI 10), .int (nI 70), .ref (g 46), .int (nI nt)]) (hct : f 46 = eI G (10 * 70) ct) (hse : se ≤ 10) (hhf : ∀ i, i < 10 → hf i = some (g (2 * i + 16))) (hH : ∀ i, i < 10 → okH G g f (2 * i + 16)) (hnt : nt ≤ 10) : Met l yX1_sworn (wsT yX1_sworn cX1_sworn 3 (some .int)) ({ frames := 1, cells := 0, slots := 0, locals := 21 }) (bP G g f [.ref (g 1)]) (rQi (fun z9 => True)) 0 0 fr0 := by
  refine Met.ofW (cc := cX1_sworn) (maxL := 3) (ret := (some .int)) (by decide) rfl ?_
  intro p e s m args below meth c s₁ B hml hv
  obtain ⟨rfl, hP, hG⟩ := hv
  have hx := B.exec
  have hb := B.bytes
  have hr := B.returns
  have hts := my_hts (atoms_spec (ws := wsT yX1_sworn cX1_sworn 3 (some .int)) B.pre)
  have hown : s.vm.findClass RX1 = some m.cls := findClass_of_methodNamed B.named
  have hlocks := B.notSynchronized
  have hl := lv_entry ([.ref (g 1)]) (n := 3) (Nat.le_of_ble_eq_true rfl)
  rw [lg_entry_eq]
  generalize (lg_sl ([.ref (g 1)]) ++ List.replicate (3 - (lg_sl ([.ref (g 1)])).length) Slot.unset).toArray = ls at hl ⊢
  have hl : lv_has ls 3 [(0, .ref (g 1))] := hl
  refine lv_iconst (v := 0) hx hb dX1_sworn_0 (by decide) ?_
  refine lv_istore_n (lv' := [(1, .int 0), (0, .ref (g 1))]) hx hb dX1_sworn_1 rfl hl (by decide) rfl (fun ls hl => ?_)
  refine lv_iconst (v := 0) hx hb dX1_sworn_2 (by decide) ?_
  refine lv_istore_n (lv' := [(2, .int 0), (1, .int 0), (0, .ref (g 1))]) hx hb dX1_sworn_3 rfl hl (by decide) rfl (fun ls hl => ?_)
  have key1 : ∀ (n9 : Nat) (u : Int32) (i : Nat) (ls : Array Slot), (i ≤ nt) → nt - i < n9 → lv_has ls 3 [(0, .ref (g 1)), (1, .int u), (2, .int (nI i))] → W p l e (headSpec (wsT yX1_sworn cX1_sworn 3 (some .int)) ({ frames := 1, cells := 0, slots := 0, locals := 21 })).room s m ([.ref (g 1)] : List Value).toArray below meth c s.heap [] 0 0 (MQ below (rQi (fun z9 => True)) ([.ref (g 1)] : List Value).toArray s 0 0 fr0) (F0 m 4 ls []) := by
    intro n9
    induction n9 with
    | zero => intro u i ls hi hn9; exact absurd hn9 (Nat.not_lt_zero _)
    | succ n9 ih =>
      intro u i ls hi hn9 hl
      refine lv_iload_n hx hb dX1_sworn_4 rfl (lv_at hl 2 rfl) ?_
      refine lv_aload_n hx hb dX1_sworn_5 rfl (lv_at hl 0 rfl) ?_
      refine va_get (D := G.1) (ci := 1) (v := .ref (g 36)) (C := RX1) (T := TX1) (N := 5) hx hb hts inlX1 hown hG.1 hP 1 (wl_at (by decide) hctc) rfl 0 (by decide) (hts (.fieldLink RX1 12 "SwornLists$Court" "book" "LSwornLists$Book;") w_40) (fun _ h9 => h9) rfl dX1_sworn_6 ?_
      refine va_getN (D := G.1) (ci := 0) (v := .ref (g 45)) (C := RX0) (T := TX0) (N := 9) (host := RX10) hx hb hts inlX0 hown hG.1 hP 36 (wl_at (by decide) hbk) rfl 4 (by decide) (va_Nw.use rfl (hG.2.1 (.fieldLinkNest RX1 43 RX0 "trials" "LSwornLists$Rows;" RX10) (List.mem_of_getElem? (i := 6) rfl))) (fun _ h9 => h9) rfl dX1_sworn_9 ?_
      refine rd_calli (va_runV (As := []) (rest := [.int (nI i)]) ⟨hx, hb, hml, hown, hts⟩ (r_size l G g hg f 45 10 70 nt htr (by first | assumption | omega | decide) (by first | assumption | omega | decide) (by first | assumption | omega | decide) (by first | assumption | omega | decide)) (my_cwV hts ok_X5_size w_388 rfl rfl ⟨Nat.le_of_ble_eq_true rfl, Nat.le_of_ble_eq_true rfl⟩) ⟨bP.blind, va_recv hG.1 hP (ci := 5) (q0 := 45) rfl (wl_at (by decide) htr), fun U hU hW => ⟨rfl, by rw [hU]; exact hP, kG.warm hW hG⟩⟩ rfl rfl hl.1 rfl (lv_room (Nat.le_of_ble_eq_true rfl)) dX1_sworn_12 ⟨Nat.le_of_ble_eq_true rfl, Nat.le_of_ble_eq_true rfl⟩) (fun r hr9 => ?_)
      subst hr9
      refine lv_icmp_ge (tgt := 38) hx hb dX1_sworn_15 (by decide) (fun c_15 => ?_) (fun c_15 => ?_)
      · refine lv_iload_n hx hb dX1_sworn_38 rfl (lv_at hl 1 rfl) ?_
        exact W.iret (v := u) hx hb hr (fun t ht hW => ⟨_, rfl, (trivial), ht⟩) (fun _ h => absurd h List.not_mem_nil) dX1_sworn_39
      · have hi9 : i < nt := Nat.not_le.mp (fun z => c_15 (nI_le z (by omega)))
        obtain ⟨sl7, lo7, ib7, ca7, mi7, s07, s17, sw7, od7, hh7, ho7, hs7⟩ := hH i (by omega)
        refine lv_aload_n hx hb dX1_sworn_18 rfl (lv_at hl 0 rfl) ?_
        refine lv_iload_n hx hb dX1_sworn_19 rfl (lv_at hl 2 rfl) ?_
        refine rd_calla (va_runV (As := [.int (nI i)]) (rest := []) ⟨hx, hb, hml, hown, hts⟩ (u_hearing l G g hg f se hf i hctc hhs (by first | assumption | omega | decide) (by first | assumption | omega | decide) (by first | assumption | omega | decide)) (my_cwV hts ok_X1_hearing w_390 rfl rfl ⟨Nat.le_of_ble_eq_true rfl, Nat.le_of_ble_eq_true rfl⟩) ⟨bP.blind, va_recv hG.1 hP (ci := 1) (q0 := 1) rfl (wl_at (by decide) hctc), fun U hU hW => ⟨rfl, by rw [hU]; exact hP, kG.warm hW hG⟩⟩ rfl rfl hl.1 rfl (lv_room (Nat.le_of_ble_eq_true rfl)) dX1_sworn_20 ⟨Nat.le_of_ble_eq_true rfl, Nat.le_of_ble_eq_true rfl⟩) (fun r hr9 => ?_)
        subst hr9
        refine va_getN (D := G.1) (ci := 3) (v := .int sw7) (C := RX3) (T := TX3) (N := 9) (host := RX10) hx hb hts inlX3 hown hG.1 hP (2 * i + 16) (wl_at (by omega) hh7) rfl 8 (by decide) (va_Nw.use rfl (hG.2.1 (.fieldLinkNest RX1 107 RX3 "sworn" "I" RX10) (List.mem_of_getElem? (i := 15) rfl))) (fun _ h9 => h9) rfl dX1_sworn_23 ?_
        refine lv_if_eq (tgt := 32) hx hb dX1_sworn_26 (by decide) (fun c_26 => ?_) (fun c_26 => ?_)
        · refine lv_iinc (v := nI (i + 1)) (lv' := [(2, .int (nI (i + 1))), (0, .ref (g 1)), (1, .int u)]) hx hb dX1_sworn_32 hl (k := 2) rfl (nI_1 i) (by decide) rfl (fun ls hl => ?_)
          refine lv_goto (tgt := 4) hx hb dX1_sworn_35 (by decide) ?_
          exact ih u (i + 1) _ (hi9) (by omega) (lv_sub hl [1, 2, 0] rfl)
        · refine lv_iinc (v := u + 1) (lv' := [(1, .int (u + 1)), (0, .ref (g 1)), (2, .int (nI i))]) hx hb dX1_sworn_29 hl (k := 1) rfl (rfl) (by decide) rfl (fun ls hl => ?_)
          refine lv_iinc (v := nI (i + 1)) (lv' := [(2, .int (nI (i + 1))), (1, .int (u + 1)), (0, .ref (g 1))]) hx hb dX1_sworn_32 hl (k := 2) rfl (nI_1 i) (by decide) rfl (fun ls hl => ?_)
          refine lv_goto (tgt := 4) hx hb dX1_sworn_35 (by decide) ?_
          exact ih (u + 1) (i + 1) _ (hi9) (by omega) (lv_sub hl [2, 1, 0] rfl)
  exact key1 (nt + 1) 0 0 _ (Nat.zero_le _) (by omega) (lv_sub hl [2, 1, 0] rfl)


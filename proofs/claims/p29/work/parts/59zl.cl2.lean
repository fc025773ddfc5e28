set_option maxHeartbeats 4000000 in
set_option maxRecDepth 100000 in
theorem v_gatherE (l : Launch) (G : gW) (g : Nat → Nat) (hg : gOK g) (f : Nat → va_E) (mn : Nat) (le : Int32) (wt : Nat → Int32) (ww : Nat → Int32) (wb : Nat → Int32) (wf : Nat → Int32) (pay : Int32) (fine : Int32) (nt : Nat) (ct : Nat → Int32) (n : Int32) (hwt : f 7 = eO 8 [.ref (g 8), .ref (g 9), .ref (g 10), .ref (g 11), .int (nI mn), .int le]) (hw8 : f 8 = eI G 6 wt) (hw9 : f 9 = eI G 6 ww) (hw10 : f 10 = eI G 6 wb) (hw11 : f 11 = eI G 6 wf) (hbk : f 36 = eO 0 [.ref (g 37), .ref (g 39), .ref (g 41), .ref (g 43), .ref (g 45), .ref (g 47), .ref (g 112), .int pay, .int fine]) (htr : f 45 = eO 5 [.int (nI 10), .int (nI 70), .ref (g 46), .int (nI nt)]) (hct : f 46 = eI G (10 * 70) ct) (hnt : nt ≤ 10) (hc6 : cnt n nt ≤ 6) : Met l yX9_gather (wsT yX9_gather cX9_gather 5 none) ({ frames := 2, cells := 0, slots := 0, locals := 48 }) (bP G g f [.ref (g 7), .ref (g 36), .int n]) (bQv G g (fun (f' : Nat → va_E) => ∃ mn9 : Nat, ∃ wt9 : Nat → Int32, ∃ wf9 : Nat → Int32, f' 7 = eO 8 [.ref (g 8), .ref (g 9), .ref (g 10), .ref (g 11), .int (nI mn9), .int le] ∧ f' 8 = eI G 6 wt9 ∧ f' 11 = eI G 6 wf9 ∧ (mn9 = cnt n nt) ∧ (mn9 ≤ 6) ∧ (∀ k, k < mn9 → wt9 k = nI (whT n nt k) ∧ whT n nt k < nt) ∧ (foV (fun i k => mtB (fun t c => ct (70 * t + c)) (whT n nt i) (whT n nt k)) mn9 mn9 0 wf9) ∧ ∀ j, (j ≠ 7 ∧ j ≠ 8 ∧ j ≠ 11) → f' j = f j)) 0 0 (gA g) := by
  refine Met.ofW (cc := cX9_gather) (maxL := 5) (ret := none) (by decide) rfl ?_
  intro p e s m args below meth c s₁ B hml hv
  obtain ⟨rfl, hP, hG⟩ := hv
  have hx := B.exec
  have hb := B.bytes
  have hr := B.returns
  have hts := my_hts (atoms_spec (ws := wsT yX9_gather cX9_gather 5 none) B.pre)
  have hown : s.vm.findClass RX9 = some m.cls := findClass_of_methodNamed B.named
  have hlocks := B.notSynchronized
  have hS : va_S (gA g) s.heap s.heap [] := va_S.rf
  have hl := lv_entry ([.ref (g 7), .ref (g 36), .int n]) (n := 5) (Nat.le_of_ble_eq_true rfl)
  rw [lg_entry_eq]
  generalize (lg_sl ([.ref (g 7), .ref (g 36), .int n]) ++ List.replicate (5 - (lg_sl ([.ref (g 7), .ref (g 36), .int n])).length) Slot.unset).toArray = ls at hl ⊢
  have hl : lv_has ls 5 [(0, .ref (g 7)), (1, .ref (g 36)), (2, .int n)] := hl
  refine lv_aload_n hx hb dX9_gather_0 rfl (lv_at hl 0 rfl) ?_
  refine lv_iconst (v := 0) hx hb dX9_gather_1 (by decide) ?_
  refine va_put (D := G.1) (ci := 8) (v := .int 0) (ty := .int) (C := RX9) (T := TX9) (N := 6) hx hb hts inlX9 tyX9 tyX9_ok nmX9 hown hG.1 hP (wl_D hg f) hS 7 (wl_at (by decide) hwt) rfl 4 (by decide) (hts (.fieldLink RX9 24 "SwornLists$Waits" "many" "I") w_824) (fun _ h9 => h9) rfl (by decide +kernel) rfl rfl (Nat.le_of_ble_eq_true rfl) dX9_gather_2 (fun H locs hP _ hS => ?_)
  obtain ⟨f_1, hP, e_1, o_1⟩ := b_put (by decide) hP
  have hwt : f_1 7 = eO 8 [.ref (g 8), .ref (g 9), .ref (g 10), .ref (g 11), .int 0, .int le] := e_1
  refine lv_iconst (v := 0) hx hb dX9_gather_5 (by decide) ?_
  refine lv_istore_n (lv' := [(3, .int 0), (0, .ref (g 7)), (1, .ref (g 36)), (2, .int n)]) hx hb dX9_gather_6 rfl hl (by decide) rfl (fun ls hl => ?_)
  have hw8 : f_1 8 = eI G 6 wt := ((o_1 8 (by decide))).trans hw8
  have hw9 : f_1 9 = eI G 6 ww := ((o_1 9 (by decide))).trans hw9
  have hw10 : f_1 10 = eI G 6 wb := ((o_1 10 (by decide))).trans hw10
  have hw11 : f_1 11 = eI G 6 wf := ((o_1 11 (by decide))).trans hw11
  have hbk : f_1 36 = eO 0 [.ref (g 37), .ref (g 39), .ref (g 41), .ref (g 43), .ref (g 45), .ref (g 47), .ref (g 112), .int pay, .int fine] := ((o_1 36 (by decide))).trans hbk
  have htr : f_1 45 = eO 5 [.int (nI 10), .int (nI 70), .ref (g 46), .int (nI nt)] := ((o_1 45 (by decide))).trans htr
  have hct : f_1 46 = eI G (10 * 70) ct := ((o_1 46 (by decide))).trans hct
  have key1 : ∀ (n9_1 : Nat) (i : Nat) (m1 : Nat) (t1 : Nat → Int32) (o1 : Nat → Int32) (f_2 : Nat → va_E) (H : Heap) (locs : List Loc) (ls : Array Slot), (i ≤ nt) → (m1 = cnt n i) → (m1 ≤ 6) → (isL t1 (lsB n i)) → (∀ k, k < m1 → o1 k = 0) → nt - i < n9_1 → f_2 7 = eO 8 [.ref (g 8), .ref (g 9), .ref (g 10), .ref (g 11), .int (nI m1), .int le] → f_2 8 = eI G 6 t1 → f_2 9 = eI G 6 ww → f_2 10 = eI G 6 wb → f_2 11 = eI G 6 o1 → f_2 36 = eO 0 [.ref (g 37), .ref (g 39), .ref (g 41), .ref (g 43), .ref (g 45), .ref (g 47), .ref (g 112), .int pay, .int fine] → f_2 45 = eO 5 [.int (nI 10), .int (nI 70), .ref (g 46), .int (nI nt)] → f_2 46 = eI G (10 * 70) ct → (∀ j, (j ≠ 7 ∧ j ≠ 8 ∧ j ≠ 11) → f_2 j = f_1 j) → va_P G.1 vwCl (wl g f_2) H → va_S (gA g) s.heap H locs → lv_has ls 5 [(0, .ref (g 7)), (1, .ref (g 36)), (2, .int n), (3, .int (nI i))] → W p l e (headSpec (wsT yX9_gather cX9_gather 5 none) ({ frames := 2, cells := 0, slots := 0, locals := 48 })).room s m ([.ref (g 7), .ref (g 36), .int n] : List Value).toArray below meth c H locs 0 0 (MQ below (bQv G g (fun (f' : Nat → va_E) => ∃ mn9 : Nat, ∃ wt9 : Nat → Int32, ∃ wf9 : Nat → Int32, f' 7 = eO 8 [.ref (g 8), .ref (g 9), .ref (g 10), .ref (g 11), .int (nI mn9), .int le] ∧ f' 8 = eI G 6 wt9 ∧ f' 11 = eI G 6 wf9 ∧ (mn9 = cnt n nt) ∧ (mn9 ≤ 6) ∧ (∀ k, k < mn9 → wt9 k = nI (whT n nt k) ∧ whT n nt k < nt) ∧ (foV (fun i k => mtB (fun t c => ct (70 * t + c)) (whT n nt i) (whT n nt k)) mn9 mn9 0 wf9) ∧ ∀ j, (j ≠ 7 ∧ j ≠ 8 ∧ j ≠ 11) → f' j = f j)) ([.ref (g 7), .ref (g 36), .int n] : List Value).toArray s 0 0 (gA g)) (F0 m 7 ls []) := by
    intro n9_1
    induction n9_1 with
    | zero => intro i m1 t1 o1 f_2 H locs ls hi hm1 hm6 hwt1 ho1 hn9_1; exact absurd hn9_1 (Nat.not_lt_zero _)
    | succ n9_1 ih_1 =>
      intro i m1 t1 o1 f_2 H locs ls hi hm1 hm6 hwt1 ho1 hn9_1 hwt hw8 hw9 hw10 hw11 hbk htr hct o_2 hP hS hl
      refine lv_iload_n hx hb dX9_gather_7 rfl (lv_at hl 3 rfl) ?_
      refine lv_aload_n hx hb dX9_gather_8 rfl (lv_at hl 1 rfl) ?_
      refine va_getN (D := G.1) (ci := 0) (v := .ref (g 45)) (C := RX0) (T := TX0) (N := 9) (host := RX10) hx hb hts inlX0 hown hG.1 hP 36 (wl_at (by decide) hbk) rfl 4 (by decide) (va_Nw.use rfl (hG.2.1 (.fieldLinkNest RX9 53 RX0 "trials" "LSwornLists$Rows;" RX10) (List.mem_of_getElem? (i := 5) rfl))) (fun _ h9 => h9) rfl dX9_gather_9 ?_
      refine rd_calli (va_runV (As := []) (rest := [.int (nI i)]) ⟨hx, hb, hml, hown, hts⟩ (r_size l G g hg f_2 45 10 70 nt htr (by first | assumption | omega | decide) (by first | assumption | omega | decide) (by first | assumption | omega | decide) (by first | assumption | omega | decide)) (my_cwV hts ok_X5_size w_832 rfl rfl ⟨Nat.le_of_ble_eq_true rfl, Nat.le_of_ble_eq_true rfl⟩) ⟨bP.blind, va_recv hG.1 hP (ci := 5) (q0 := 45) rfl (wl_at (by decide) htr), fun U hU hW => ⟨rfl, by rw [hU]; exact hP, kG.warm hW hG⟩⟩ rfl rfl hl.1 rfl (lv_room (Nat.le_of_ble_eq_true rfl)) dX9_gather_12 ⟨Nat.le_of_ble_eq_true rfl, Nat.le_of_ble_eq_true rfl⟩) (fun r hr9 => ?_)
      subst hr9
      refine lv_icmp_ge (tgt := 71) hx hb dX9_gather_15 (by decide) (fun c_15 => ?_) (fun c_15 => ?_)
      · have k_15 : nt ≤ i := (nI_leI (a := nt) (b := i) (by omega) (by omega)).mp c_15
        have hfin : m1 = cnt n nt ∧ isL t1 (lsB n nt) := by
          have hin : i = nt := by omega
          rw [← hin]
          exact ⟨hm1, hwt1⟩
        refine lv_iconst (v := 0) hx hb dX9_gather_71 (by decide) ?_
        refine lv_istore_n (lv' := [(3, .int 0), (0, .ref (g 7)), (1, .ref (g 36)), (2, .int n)]) hx hb dX9_gather_72 rfl hl (by decide) rfl (fun ls hl => ?_)
        have key2 : ∀ (n9_2 : Nat) (i2 : Nat) (o2 : Nat → Int32) (f_3 : Nat → va_E) (H : Heap) (locs : List Loc) (ls : Array Slot), (i2 ≤ m1) → (foV (fun i k => mtB (fun t c => ct (70 * t + c)) (whT n nt i) (whT n nt k)) m1 i2 0 o2) → m1 - i2 < n9_2 → f_3 7 = eO 8 [.ref (g 8), .ref (g 9), .ref (g 10), .ref (g 11), .int (nI m1), .int le] → f_3 8 = eI G 6 t1 → f_3 9 = eI G 6 ww → f_3 10 = eI G 6 wb → f_3 11 = eI G 6 o2 → f_3 36 = eO 0 [.ref (g 37), .ref (g 39), .ref (g 41), .ref (g 43), .ref (g 45), .ref (g 47), .ref (g 112), .int pay, .int fine] → f_3 45 = eO 5 [.int (nI 10), .int (nI 70), .ref (g 46), .int (nI nt)] → f_3 46 = eI G (10 * 70) ct → (∀ j, j ≠ 11 → f_3 j = f_2 j) → va_P G.1 vwCl (wl g f_3) H → va_S (gA g) s.heap H locs → lv_has ls 5 [(0, .ref (g 7)), (1, .ref (g 36)), (2, .int n), (3, .int (nI i2))] → W p l e (headSpec (wsT yX9_gather cX9_gather 5 none) ({ frames := 2, cells := 0, slots := 0, locals := 48 })).room s m ([.ref (g 7), .ref (g 36), .int n] : List Value).toArray below meth c H locs 0 0 (MQ below (bQv G g (fun (f' : Nat → va_E) => ∃ mn9 : Nat, ∃ wt9 : Nat → Int32, ∃ wf9 : Nat → Int32, f' 7 = eO 8 [.ref (g 8), .ref (g 9), .ref (g 10), .ref (g 11), .int (nI mn9), .int le] ∧ f' 8 = eI G 6 wt9 ∧ f' 11 = eI G 6 wf9 ∧ (mn9 = cnt n nt) ∧ (mn9 ≤ 6) ∧ (∀ k, k < mn9 → wt9 k = nI (whT n nt k) ∧ whT n nt k < nt) ∧ (foV (fun i k => mtB (fun t c => ct (70 * t + c)) (whT n nt i) (whT n nt k)) mn9 mn9 0 wf9) ∧ ∀ j, (j ≠ 7 ∧ j ≠ 8 ∧ j ≠ 11) → f' j = f j)) ([.ref (g 7), .ref (g 36), .int n] : List Value).toArray s 0 0 (gA g)) (F0 m 73 ls []) := by
          intro n9_2
          induction n9_2 with
          | zero => intro i2 o2 f_3 H locs ls hi2 hfo hn9_2; exact absurd hn9_2 (Nat.not_lt_zero _)
          | succ n9_2 ih_2 =>
            intro i2 o2 f_3 H locs ls hi2 hfo hn9_2 hwt hw8 hw9 hw10 hw11 hbk htr hct o_3 hP hS hl
            refine lv_iload_n hx hb dX9_gather_73 rfl (lv_at hl 3 rfl) ?_
            refine lv_aload_n hx hb dX9_gather_74 rfl (lv_at hl 0 rfl) ?_
            refine va_get (D := G.1) (ci := 8) (v := .int (nI m1)) (C := RX9) (T := TX9) (N := 6) hx hb hts inlX9 hown hG.1 hP 7 (wl_at (by decide) hwt) rfl 4 (by decide) (hts (.fieldLink RX9 24 "SwornLists$Waits" "many" "I") w_824) (fun _ h9 => h9) rfl dX9_gather_75 ?_
            refine lv_icmp_ge (tgt := 168) hx hb dX9_gather_78 (by decide) (fun c_78 => ?_) (fun c_78 => ?_)
            · have k_78 : m1 ≤ i2 := (nI_leI (a := m1) (b := i2) (by omega) (by omega)).mp c_78
              exact W.vret hx hb hr (fun _ hT9 _ => ⟨⟨f_3, rfl, (⟨m1, t1, o2, hwt, hw8, hw11, by rw [← hfin.1], by omega, fun k hk => ⟨hfin.2 k (by rw [lsB_len]; omega), (whT_lt (by omega)).1⟩, (by rw [show i2 = m1 by omega] at hfo; exact hfo), fun j hj => (((o_3 j (by omega))).trans (o_2 j (by omega))).trans (o_1 j (by omega))⟩), by rw [hT9]; exact hP⟩, hS.F hT9⟩) hS.2.2 dX9_gather_168
            · have k_78 : ¬ m1 ≤ i2 := fun z9 => c_78 ((nI_leI (a := m1) (b := i2) (by omega) (by omega)).mpr z9)
              have hi29 : i2 < m1 := by omega
              refine lv_iconst (v := 0) hx hb dX9_gather_81 (by decide) ?_
              refine lv_istore (lv' := [(4, .int 0), (0, .ref (g 7)), (1, .ref (g 36)), (2, .int n), (3, .int (nI i2))]) hx hb dX9_gather_82 hl (by decide) rfl (fun ls hl => ?_)
              have key3 : ∀ (n9_3 : Nat) (i3 : Nat) (o3 : Nat → Int32) (f_4 : Nat → va_E) (H : Heap) (locs : List Loc) (ls : Array Slot), (i3 ≤ i2) → (foV (fun i k => mtB (fun t c => ct (70 * t + c)) (whT n nt i) (whT n nt k)) m1 i2 i3 o3) → i2 - i3 < n9_3 → f_4 7 = eO 8 [.ref (g 8), .ref (g 9), .ref (g 10), .ref (g 11), .int (nI m1), .int le] → f_4 8 = eI G 6 t1 → f_4 9 = eI G 6 ww → f_4 10 = eI G 6 wb → f_4 11 = eI G 6 o3 → f_4 36 = eO 0 [.ref (g 37), .ref (g 39), .ref (g 41), .ref (g 43), .ref (g 45), .ref (g 47), .ref (g 112), .int pay, .int fine] → f_4 45 = eO 5 [.int (nI 10), .int (nI 70), .ref (g 46), .int (nI nt)] → f_4 46 = eI G (10 * 70) ct → (∀ j, j ≠ 11 → f_4 j = f_3 j) → va_P G.1 vwCl (wl g f_4) H → va_S (gA g) s.heap H locs → lv_has ls 5 [(0, .ref (g 7)), (1, .ref (g 36)), (2, .int n), (3, .int (nI i2)), (4, .int (nI i3))] → W p l e (headSpec (wsT yX9_gather cX9_gather 5 none) ({ frames := 2, cells := 0, slots := 0, locals := 48 })).room s m ([.ref (g 7), .ref (g 36), .int n] : List Value).toArray below meth c H locs 0 0 (MQ below (bQv G g (fun (f' : Nat → va_E) => ∃ mn9 : Nat, ∃ wt9 : Nat → Int32, ∃ wf9 : Nat → Int32, f' 7 = eO 8 [.ref (g 8), .ref (g 9), .ref (g 10), .ref (g 11), .int (nI mn9), .int le] ∧ f' 8 = eI G 6 wt9 ∧ f' 11 = eI G 6 wf9 ∧ (mn9 = cnt n nt) ∧ (mn9 ≤ 6) ∧ (∀ k, k < mn9 → wt9 k = nI (whT n nt k) ∧ whT n nt k < nt) ∧ (foV (fun i k => mtB (fun t c => ct (70 * t + c)) (whT n nt i) (whT n nt k)) mn9 mn9 0 wf9) ∧ ∀ j, (j ≠ 7 ∧ j ≠ 8 ∧ j ≠ 11) → f' j = f j)) ([.ref (g 7), .ref (g 36), .int n] : List Value).toArray s 0 0 (gA g)) (F0 m 84 ls []) := by
                intro n9_3
                induction n9_3 with
                | zero => intro i3 o3 f_4 H locs ls hi3 hfo3 hn9_3; exact absurd hn9_3 (Nat.not_lt_zero _)
                | succ n9_3 ih_3 =>
                  intro i3 o3 f_4 H locs ls hi3 hfo3 hn9_3 hwt hw8 hw9 hw10 hw11 hbk htr hct o_4 hP hS hl
                  refine lv_iload hx hb dX9_gather_84 (lv_at hl 4 rfl) ?_
                  refine lv_iload_n hx hb dX9_gather_86 rfl (lv_at hl 3 rfl) ?_
                  refine lv_icmp_ge (tgt := 162) hx hb dX9_gather_87 (by decide) (fun c_87 => ?_) (fun c_87 => ?_)
                  · have k_87 : i2 ≤ i3 := (nI_leI (a := i2) (b := i3) (by omega) (by omega)).mp c_87
                    refine lv_iinc (v := nI (i2 + 1)) (lv' := [(3, .int (nI (i2 + 1))), (0, .ref (g 7)), (1, .ref (g 36)), (2, .int n), (4, .int (nI i3))]) hx hb dX9_gather_162 hl (k := 3) rfl (nI_add i2 1) (by decide) rfl (fun ls hl => ?_)
                    refine lv_goto (tgt := 73) hx hb dX9_gather_165 (by decide) ?_
                    exact ih_2 (i2 + 1) o3 f_4 _ _ _ (by omega) (foV_s (by rw [show i3 = i2 by omega] at hfo3; exact hfo3)) (by omega) (hwt) (hw8) (hw9) (hw10) (hw11) (hbk) (htr) (hct) (fun j hj => ((o_4 j (by omega))).trans (o_3 j (by omega))) hP hS (lv_sub hl [1, 2, 3, 0] rfl)
                  · have k_87 : ¬ i2 ≤ i3 := fun z9 => c_87 ((nI_leI (a := i2) (b := i3) (by omega) (by omega)).mpr z9)
                    have hi39 : i3 < i2 := by omega
                    refine lv_aload_n hx hb dX9_gather_90 rfl (lv_at hl 1 rfl) ?_
                    refine lv_aload_n hx hb dX9_gather_91 rfl (lv_at hl 0 rfl) ?_
                    refine va_get (D := G.1) (ci := 8) (v := .ref (g 8)) (C := RX9) (T := TX9) (N := 6) hx hb hts inlX9 hown hG.1 hP 7 (wl_at (by decide) hwt) rfl 0 (by decide) (hts (.fieldLink RX9 11 "SwornLists$Waits" "trials" "[I") w_104) (fun _ h9 => h9) rfl dX9_gather_92 ?_
                    refine lv_iload_n hx hb dX9_gather_95 rfl (lv_at hl 3 rfl) ?_
                    refine va_iald hx hb hG.1 hP 8 0 (wl_at (by decide) hw8) rfl (vp_in_nI (by omega) (by decide)) dX9_gather_96 ?_
                    refine my_bei (v := t1 i2) (congrArg t1 (nI_clamp (n := i2) (by omega))) ?_
                    refine my_bei (v := nI (whT n nt i2)) (hfin.2 i2 (by rw [lsB_len]; omega)) ?_
                    refine lv_aload_n hx hb dX9_gather_97 rfl (lv_at hl 0 rfl) ?_
                    refine va_get (D := G.1) (ci := 8) (v := .ref (g 8)) (C := RX9) (T := TX9) (N := 6) hx hb hts inlX9 hown hG.1 hP 7 (wl_at (by decide) hwt) rfl 0 (by decide) (hts (.fieldLink RX9 11 "SwornLists$Waits" "trials" "[I") w_104) (fun _ h9 => h9) rfl dX9_gather_98 ?_
                    refine lv_iload hx hb dX9_gather_101 (lv_at hl 4 rfl) ?_
                    refine va_iald hx hb hG.1 hP 8 0 (wl_at (by decide) hw8) rfl (vp_in_nI (by omega) (by decide)) dX9_gather_103 ?_
                    refine my_bei (v := t1 i3) (congrArg t1 (nI_clamp (n := i3) (by omega))) ?_
                    refine my_bei (v := nI (whT n nt i3)) (hfin.2 i3 (by rw [lsB_len]; omega)) ?_
                    refine rd_calli (va_runV (As := [.int (nI (whT n nt i2)), .int (nI (whT n nt i3))]) (rest := []) ⟨hx, hb, hml, hown, hts⟩ (k_shareFamilyE l G g hg f_4 pay fine nt ct (whT n nt i2) (whT n nt i3) hbk htr hct (by first | assumption | omega | decide) ((whT_lt (by omega)).1) ((whT_lt (by omega)).1)) (my_cwV hts ok_X0_shareFamily w_833 rfl rfl ⟨Nat.le_of_ble_eq_true rfl, Nat.le_of_ble_eq_true rfl⟩) ⟨bP.blind, va_recv hG.1 hP (ci := 0) (q0 := 36) rfl (wl_at (by decide) hbk), fun U hU hW => ⟨rfl, by rw [hU]; exact hP, kG.warm hW hG⟩⟩ rfl rfl hl.1 rfl (lv_room (Nat.le_of_ble_eq_true rfl)) dX9_gather_104 ⟨Nat.le_of_ble_eq_true rfl, Nat.le_of_ble_eq_true rfl⟩) (fun r hr9 => ?_)
                    subst hr9
                    refine my_ifne (tgt := 130) hx hb dX9_gather_107 (by decide) (fun c_107 => ?_) (fun c_107 => ?_)
                    · refine lv_aload_n hx hb dX9_gather_130 rfl (lv_at hl 0 rfl) ?_
                      refine va_get (D := G.1) (ci := 8) (v := .ref (g 11)) (C := RX9) (T := TX9) (N := 6) hx hb hts inlX9 hown hG.1 hP 7 (wl_at (by decide) hwt) rfl 3 (by decide) (hts (.fieldLink RX9 21 "SwornLists$Waits" "foes" "[I") w_107) (fun _ h9 => h9) rfl dX9_gather_131 ?_
                      refine lv_iload_n hx hb dX9_gather_134 rfl (lv_at hl 3 rfl) ?_
                      refine lv_dup2_11 hx hb dX9_gather_135 rfl rfl ?_
                      refine va_iald hx hb hG.1 hP 11 0 (wl_at (by decide) hw11) rfl (vp_in_nI (by omega) (by decide)) dX9_gather_136 ?_
                      refine my_bei (v := o3 i2) (congrArg o3 (nI_clamp (n := i2) (by omega))) ?_
                      refine lv_iconst (v := 1) hx hb dX9_gather_137 (by decide) ?_
                      refine lv_iload hx hb dX9_gather_138 (lv_at hl 4 rfl) ?_
                      refine lv_ishl hx hb dX9_gather_140 ?_
                      refine lv_ior hx hb dX9_gather_141 ?_
                      refine va_iast hx hb hG.1 hP (wl_D hg f_4) hS 11 0 (wl_at (by decide) hw11) rfl (vp_in_nI (by omega) (by decide)) dX9_gather_142 (fun H locs hP _ hS => ?_)
                      have hP := (congrArg (fun z9 => va_P G.1 vwCl ((wl g f_4).set 11 (g 11, eI G 6 ((upd o3 z9 ((o3 i2) ||| (1 <<< ((nI i3) &&& 31))))))) H) (show Int32.toNatClampNeg (nI i2) = i2 from nI_clamp (by omega))).mp hP
                      obtain ⟨f_5, hP, e_5, o_5⟩ := b_put (by decide) hP
                      have hw11 : f_5 11 = eI G 6 (upd o3 i2 ((o3 i2) ||| (1 <<< ((nI i3) &&& 31)))) := e_5
                      refine lv_aload_n hx hb dX9_gather_143 rfl (lv_at hl 0 rfl) ?_
                      have hwt : f_5 7 = eO 8 [.ref (g 8), .ref (g 9), .ref (g 10), .ref (g 11), .int (nI m1), .int le] := ((o_5 7 (by decide))).trans hwt
                      refine va_get (D := G.1) (ci := 8) (v := .ref (g 11)) (C := RX9) (T := TX9) (N := 6) hx hb hts inlX9 hown hG.1 hP 7 (wl_at (by decide) hwt) rfl 3 (by decide) (hts (.fieldLink RX9 21 "SwornLists$Waits" "foes" "[I") w_107) (fun _ h9 => h9) rfl dX9_gather_144 ?_
                      refine lv_iload hx hb dX9_gather_147 (lv_at hl 4 rfl) ?_
                      refine lv_dup2_11 hx hb dX9_gather_149 rfl rfl ?_
                      refine va_iald hx hb hG.1 hP 11 0 (wl_at (by decide) hw11) rfl (vp_in_nI (by omega) (by decide)) dX9_gather_150 ?_
                      refine my_bei (v := (upd o3 i2 ((o3 i2) ||| (1 <<< ((nI i3) &&& 31)))) i3) (congrArg (upd o3 i2 ((o3 i2) ||| (1 <<< ((nI i3) &&& 31)))) (nI_clamp (n := i3) (by omega))) ?_
                      refine my_bei (v := o3 i3) (pk_un (by first | decide | omega)) ?_
                      refine lv_iconst (v := 1) hx hb dX9_gather_151 (by decide) ?_
                      refine lv_iload_n hx hb dX9_gather_152 rfl (lv_at hl 3 rfl) ?_
                      refine lv_ishl hx hb dX9_gather_153 ?_
                      refine lv_ior hx hb dX9_gather_154 ?_
                      refine va_iast hx hb hG.1 hP (wl_D hg f_5) hS 11 0 (wl_at (by decide) hw11) rfl (vp_in_nI (by omega) (by decide)) dX9_gather_155 (fun H locs hP _ hS => ?_)
                      have hP := (congrArg (fun z9 => va_P G.1 vwCl ((wl g f_5).set 11 (g 11, eI G 6 ((upd (upd o3 i2 ((o3 i2) ||| (1 <<< ((nI i3) &&& 31)))) z9 ((o3 i3) ||| (1 <<< ((nI i2) &&& 31))))))) H) (show Int32.toNatClampNeg (nI i3) = i3 from nI_clamp (by omega))).mp hP
                      obtain ⟨f_6, hP, e_6, o_6⟩ := b_put (by decide) hP
                      have hw11 : f_6 11 = eI G 6 (upd (upd o3 i2 ((o3 i2) ||| (1 <<< ((nI i3) &&& 31)))) i3 ((o3 i3) ||| (1 <<< ((nI i2) &&& 31)))) := e_6
                      refine lv_iinc (v := nI (i3 + 1)) (lv' := [(4, .int (nI (i3 + 1))), (0, .ref (g 7)), (1, .ref (g 36)), (2, .int n), (3, .int (nI i2))]) hx hb dX9_gather_156 hl (k := 4) rfl (nI_add i3 1) (by decide) rfl (fun ls hl => ?_)
                      refine lv_goto (tgt := 84) hx hb dX9_gather_159 (by decide) ?_
                      have hwt : f_6 7 = eO 8 [.ref (g 8), .ref (g 9), .ref (g 10), .ref (g 11), .int (nI m1), .int le] := ((o_6 7 (by decide))).trans hwt
                      have hw8 : f_6 8 = eI G 6 t1 := ((o_6 8 (by decide)).trans ((o_5 8 (by decide)))).trans hw8
                      have hw9 : f_6 9 = eI G 6 ww := ((o_6 9 (by decide)).trans ((o_5 9 (by decide)))).trans hw9
                      have hw10 : f_6 10 = eI G 6 wb := ((o_6 10 (by decide)).trans ((o_5 10 (by decide)))).trans hw10
                      have hbk : f_6 36 = eO 0 [.ref (g 37), .ref (g 39), .ref (g 41), .ref (g 43), .ref (g 45), .ref (g 47), .ref (g 112), .int pay, .int fine] := ((o_6 36 (by decide)).trans ((o_5 36 (by decide)))).trans hbk
                      have htr : f_6 45 = eO 5 [.int (nI 10), .int (nI 70), .ref (g 46), .int (nI nt)] := ((o_6 45 (by decide)).trans ((o_5 45 (by decide)))).trans htr
                      have hct : f_6 46 = eI G (10 * 70) ct := ((o_6 46 (by decide)).trans ((o_5 46 (by decide)))).trans hct
                      exact ih_3 (i3 + 1) (upd (upd o3 i2 ((o3 i2) ||| (1 <<< ((nI i3) &&& 31)))) i3 ((o3 i3) ||| (1 <<< ((nI i2) &&& 31)))) f_6 _ _ _ (by omega) (foV_y hfo3 (by omega) (by omega) (by omega) ((Bool.or_eq_true _ _).mpr (Or.inl c_107))) (by omega) (hwt) (hw8) (hw9) (hw10) (hw11) (hbk) (htr) (hct) (fun j hj => (((o_6 j (by omega))).trans (o_5 j (by omega))).trans (o_4 j (by omega))) hP hS (lv_sub hl [1, 2, 3, 4, 0] rfl)
                    · refine lv_aload_n hx hb dX9_gather_110 rfl (lv_at hl 1 rfl) ?_
                      refine lv_aload_n hx hb dX9_gather_111 rfl (lv_at hl 0 rfl) ?_
                      refine va_get (D := G.1) (ci := 8) (v := .ref (g 8)) (C := RX9) (T := TX9) (N := 6) hx hb hts inlX9 hown hG.1 hP 7 (wl_at (by decide) hwt) rfl 0 (by decide) (hts (.fieldLink RX9 11 "SwornLists$Waits" "trials" "[I") w_104) (fun _ h9 => h9) rfl dX9_gather_112 ?_
                      refine lv_iload_n hx hb dX9_gather_115 rfl (lv_at hl 3 rfl) ?_
                      refine va_iald hx hb hG.1 hP 8 0 (wl_at (by decide) hw8) rfl (vp_in_nI (by omega) (by decide)) dX9_gather_116 ?_
                      refine my_bei (v := t1 i2) (congrArg t1 (nI_clamp (n := i2) (by omega))) ?_
                      refine my_bei (v := nI (whT n nt i2)) (hfin.2 i2 (by rw [lsB_len]; omega)) ?_
                      refine lv_aload_n hx hb dX9_gather_117 rfl (lv_at hl 0 rfl) ?_
                      refine va_get (D := G.1) (ci := 8) (v := .ref (g 8)) (C := RX9) (T := TX9) (N := 6) hx hb hts inlX9 hown hG.1 hP 7 (wl_at (by decide) hwt) rfl 0 (by decide) (hts (.fieldLink RX9 11 "SwornLists$Waits" "trials" "[I") w_104) (fun _ h9 => h9) rfl dX9_gather_118 ?_
                      refine lv_iload hx hb dX9_gather_121 (lv_at hl 4 rfl) ?_
                      refine va_iald hx hb hG.1 hP 8 0 (wl_at (by decide) hw8) rfl (vp_in_nI (by omega) (by decide)) dX9_gather_123 ?_
                      refine my_bei (v := t1 i3) (congrArg t1 (nI_clamp (n := i3) (by omega))) ?_
                      refine my_bei (v := nI (whT n nt i3)) (hfin.2 i3 (by rw [lsB_len]; omega)) ?_
                      refine rd_calli (va_runV (As := [.int (nI (whT n nt i2)), .int (nI (whT n nt i3))]) (rest := []) ⟨hx, hb, hml, hown, hts⟩ (k_shareTradeE l G g hg f_4 pay fine nt ct (whT n nt i2) (whT n nt i3) hbk htr hct (by first | assumption | omega | decide) ((whT_lt (by omega)).1) ((whT_lt (by omega)).1)) (my_cwV hts ok_X0_shareTrade w_837 rfl rfl ⟨Nat.le_of_ble_eq_true rfl, Nat.le_of_ble_eq_true rfl⟩) ⟨bP.blind, va_recv hG.1 hP (ci := 0) (q0 := 36) rfl (wl_at (by decide) hbk), fun U hU hW => ⟨rfl, by rw [hU]; exact hP, kG.warm hW hG⟩⟩ rfl rfl hl.1 rfl (lv_room (Nat.le_of_ble_eq_true rfl)) dX9_gather_124 ⟨Nat.le_of_ble_eq_true rfl, Nat.le_of_ble_eq_true rfl⟩) (fun r hr9 => ?_)
                      subst hr9
                      refine my_ifeq (tgt := 156) hx hb dX9_gather_127 (by decide) (fun c_127 => ?_) (fun c_127 => ?_)
                      · refine lv_iinc (v := nI (i3 + 1)) (lv' := [(4, .int (nI (i3 + 1))), (0, .ref (g 7)), (1, .ref (g 36)), (2, .int n), (3, .int (nI i2))]) hx hb dX9_gather_156 hl (k := 4) rfl (nI_add i3 1) (by decide) rfl (fun ls hl => ?_)
                        refine lv_goto (tgt := 84) hx hb dX9_gather_159 (by decide) ?_
                        exact ih_3 (i3 + 1) o3 f_4 _ _ _ (by omega) (foV_n hfo3 (by omega) (fun z => ((Bool.or_eq_true _ _).mp z).elim c_107 c_127)) (by omega) (hwt) (hw8) (hw9) (hw10) (hw11) (hbk) (htr) (hct) (fun j hj => (o_4 j (by omega))) hP hS (lv_sub hl [1, 2, 3, 4, 0] rfl)
                      · refine lv_aload_n hx hb dX9_gather_130 rfl (lv_at hl 0 rfl) ?_
                        refine va_get (D := G.1) (ci := 8) (v := .ref (g 11)) (C := RX9) (T := TX9) (N := 6) hx hb hts inlX9 hown hG.1 hP 7 (wl_at (by decide) hwt) rfl 3 (by decide) (hts (.fieldLink RX9 21 "SwornLists$Waits" "foes" "[I") w_107) (fun _ h9 => h9) rfl dX9_gather_131 ?_
                        refine lv_iload_n hx hb dX9_gather_134 rfl (lv_at hl 3 rfl) ?_
                        refine lv_dup2_11 hx hb dX9_gather_135 rfl rfl ?_
                        refine va_iald hx hb hG.1 hP 11 0 (wl_at (by decide) hw11) rfl (vp_in_nI (by omega) (by decide)) dX9_gather_136 ?_
                        refine my_bei (v := o3 i2) (congrArg o3 (nI_clamp (n := i2) (by omega))) ?_
                        refine lv_iconst (v := 1) hx hb dX9_gather_137 (by decide) ?_
                        refine lv_iload hx hb dX9_gather_138 (lv_at hl 4 rfl) ?_
                        refine lv_ishl hx hb dX9_gather_140 ?_
                        refine lv_ior hx hb dX9_gather_141 ?_
                        refine va_iast hx hb hG.1 hP (wl_D hg f_4) hS 11 0 (wl_at (by decide) hw11) rfl (vp_in_nI (by omega) (by decide)) dX9_gather_142 (fun H locs hP _ hS => ?_)
                        have hP := (congrArg (fun z9 => va_P G.1 vwCl ((wl g f_4).set 11 (g 11, eI G 6 ((upd o3 z9 ((o3 i2) ||| (1 <<< ((nI i3) &&& 31))))))) H) (show Int32.toNatClampNeg (nI i2) = i2 from nI_clamp (by omega))).mp hP
                        obtain ⟨f_7, hP, e_7, o_7⟩ := b_put (by decide) hP
                        have hw11 : f_7 11 = eI G 6 (upd o3 i2 ((o3 i2) ||| (1 <<< ((nI i3) &&& 31)))) := e_7
                        refine lv_aload_n hx hb dX9_gather_143 rfl (lv_at hl 0 rfl) ?_
                        have hwt : f_7 7 = eO 8 [.ref (g 8), .ref (g 9), .ref (g 10), .ref (g 11), .int (nI m1), .int le] := ((o_7 7 (by decide))).trans hwt
                        refine va_get (D := G.1) (ci := 8) (v := .ref (g 11)) (C := RX9) (T := TX9) (N := 6) hx hb hts inlX9 hown hG.1 hP 7 (wl_at (by decide) hwt) rfl 3 (by decide) (hts (.fieldLink RX9 21 "SwornLists$Waits" "foes" "[I") w_107) (fun _ h9 => h9) rfl dX9_gather_144 ?_
                        refine lv_iload hx hb dX9_gather_147 (lv_at hl 4 rfl) ?_
                        refine lv_dup2_11 hx hb dX9_gather_149 rfl rfl ?_
                        refine va_iald hx hb hG.1 hP 11 0 (wl_at (by decide) hw11) rfl (vp_in_nI (by omega) (by decide)) dX9_gather_150 ?_
                        refine my_bei (v := (upd o3 i2 ((o3 i2) ||| (1 <<< ((nI i3) &&& 31)))) i3) (congrArg (upd o3 i2 ((o3 i2) ||| (1 <<< ((nI i3) &&& 31)))) (nI_clamp (n := i3) (by omega))) ?_
                        refine my_bei (v := o3 i3) (pk_un (by first | decide | omega)) ?_
                        refine lv_iconst (v := 1) hx hb dX9_gather_151 (by decide) ?_
                        refine lv_iload_n hx hb dX9_gather_152 rfl (lv_at hl 3 rfl) ?_
                        refine lv_ishl hx hb dX9_gather_153 ?_
                        refine lv_ior hx hb dX9_gather_154 ?_
                        refine va_iast hx hb hG.1 hP (wl_D hg f_7) hS 11 0 (wl_at (by decide) hw11) rfl (vp_in_nI (by omega) (by decide)) dX9_gather_155 (fun H locs hP _ hS => ?_)
                        have hP := (congrArg (fun z9 => va_P G.1 vwCl ((wl g f_7).set 11 (g 11, eI G 6 ((upd (upd o3 i2 ((o3 i2) ||| (1 <<< ((nI i3) &&& 31)))) z9 ((o3 i3) ||| (1 <<< ((nI i2) &&& 31))))))) H) (show Int32.toNatClampNeg (nI i3) = i3 from nI_clamp (by omega))).mp hP
                        obtain ⟨f_8, hP, e_8, o_8⟩ := b_put (by decide) hP
                        have hw11 : f_8 11 = eI G 6 (upd (upd o3 i2 ((o3 i2) ||| (1 <<< ((nI i3) &&& 31)))) i3 ((o3 i3) ||| (1 <<< ((nI i2) &&& 31)))) := e_8
                        refine lv_iinc (v := nI (i3 + 1)) (lv' := [(4, .int (nI (i3 + 1))), (0, .ref (g 7)), (1, .ref (g 36)), (2, .int n), (3, .int (nI i2))]) hx hb dX9_gather_156 hl (k := 4) rfl (nI_add i3 1) (by decide) rfl (fun ls hl => ?_)
                        refine lv_goto (tgt := 84) hx hb dX9_gather_159 (by decide) ?_
                        have hwt : f_8 7 = eO 8 [.ref (g 8), .ref (g 9), .ref (g 10), .ref (g 11), .int (nI m1), .int le] := ((o_8 7 (by decide))).trans hwt
                        have hw8 : f_8 8 = eI G 6 t1 := ((o_8 8 (by decide)).trans ((o_7 8 (by decide)))).trans hw8
                        have hw9 : f_8 9 = eI G 6 ww := ((o_8 9 (by decide)).trans ((o_7 9 (by decide)))).trans hw9
                        have hw10 : f_8 10 = eI G 6 wb := ((o_8 10 (by decide)).trans ((o_7 10 (by decide)))).trans hw10
                        have hbk : f_8 36 = eO 0 [.ref (g 37), .ref (g 39), .ref (g 41), .ref (g 43), .ref (g 45), .ref (g 47), .ref (g 112), .int pay, .int fine] := ((o_8 36 (by decide)).trans ((o_7 36 (by decide)))).trans hbk
                        have htr : f_8 45 = eO 5 [.int (nI 10), .int (nI 70), .ref (g 46), .int (nI nt)] := ((o_8 45 (by decide)).trans ((o_7 45 (by decide)))).trans htr
                        have hct : f_8 46 = eI G (10 * 70) ct := ((o_8 46 (by decide)).trans ((o_7 46 (by decide)))).trans hct
                        exact ih_3 (i3 + 1) (upd (upd o3 i2 ((o3 i2) ||| (1 <<< ((nI i3) &&& 31)))) i3 ((o3 i3) ||| (1 <<< ((nI i2) &&& 31)))) f_8 _ _ _ (by omega) (foV_y hfo3 (by omega) (by omega) (by omega) ((Bool.or_eq_true _ _).mpr (Or.inr c_127))) (by omega) (hwt) (hw8) (hw9) (hw10) (hw11) (hbk) (htr) (hct) (fun j hj => (((o_8 j (by omega))).trans (o_7 j (by omega))).trans (o_4 j (by omega))) hP hS (lv_sub hl [1, 2, 3, 4, 0] rfl)
              exact key3 (i2 + 1) 0 o2 f_3 _ _ _ (Nat.zero_le _) (hfo) (by omega) (hwt) (hw8) (hw9) (hw10) (hw11) (hbk) (htr) (hct) (fun j _ => rfl) hP hS (lv_sub hl [1, 2, 3, 4, 0] rfl)
        exact key2 (m1 + 1) 0 o1 f_2 _ _ _ (Nat.zero_le _) (foV_0 ho1) (by omega) (hwt) (hw8) (hw9) (hw10) (hw11) (hbk) (htr) (hct) (fun j _ => rfl) hP hS (lv_sub hl [1, 2, 3, 0] rfl)
      · have k_15 : ¬ nt ≤ i := fun z9 => c_15 ((nI_leI (a := nt) (b := i) (by omega) (by omega)).mpr z9)
        have hi9 : i < nt := by omega
        refine lv_aload_n hx hb dX9_gather_18 rfl (lv_at hl 0 rfl) ?_
        refine va_get (D := G.1) (ci := 8) (v := .int (nI m1)) (C := RX9) (T := TX9) (N := 6) hx hb hts inlX9 hown hG.1 hP 7 (wl_at (by decide) hwt) rfl 4 (by decide) (hts (.fieldLink RX9 24 "SwornLists$Waits" "many" "I") w_824) (fun _ h9 => h9) rfl dX9_gather_19 ?_
        refine lv_bipush (v := 6) hx hb dX9_gather_22 (by decide) ?_
        refine lv_icmp_ge (tgt := 71) hx hb dX9_gather_24 (by decide) (fun c_24 => ?_) (fun c_24 => ?_)
        · have k_24 : 6 ≤ m1 := (nI_leI (a := 6) (b := m1) (by omega) (by omega)).mp c_24
          have hfin : m1 = cnt n nt ∧ isL t1 (lsB n nt) := by
            have h8 := cnt_mono (x := n) (i := i) (nt - i)
            have h9 := cnt_st (x := n) (i := i) (nt - i)
            rw [show i + (nt - i) = nt by omega] at h8 h9
            exact ⟨by omega, by rw [h9 (by omega)]; exact hwt1⟩
          refine lv_iconst (v := 0) hx hb dX9_gather_71 (by decide) ?_
          refine lv_istore_n (lv' := [(3, .int 0), (0, .ref (g 7)), (1, .ref (g 36)), (2, .int n)]) hx hb dX9_gather_72 rfl hl (by decide) rfl (fun ls hl => ?_)
          have key4 : ∀ (n9_4 : Nat) (i2 : Nat) (o2 : Nat → Int32) (f_9 : Nat → va_E) (H : Heap) (locs : List Loc) (ls : Array Slot), (i2 ≤ m1) → (foV (fun i k => mtB (fun t c => ct (70 * t + c)) (whT n nt i) (whT n nt k)) m1 i2 0 o2) → m1 - i2 < n9_4 → f_9 7 = eO 8 [.ref (g 8), .ref (g 9), .ref (g 10), .ref (g 11), .int (nI m1), .int le] → f_9 8 = eI G 6 t1 → f_9 9 = eI G 6 ww → f_9 10 = eI G 6 wb → f_9 11 = eI G 6 o2 → f_9 36 = eO 0 [.ref (g 37), .ref (g 39), .ref (g 41), .ref (g 43), .ref (g 45), .ref (g 47), .ref (g 112), .int pay, .int fine] → f_9 45 = eO 5 [.int (nI 10), .int (nI 70), .ref (g 46), .int (nI nt)] → f_9 46 = eI G (10 * 70) ct → (∀ j, j ≠ 11 → f_9 j = f_2 j) → va_P G.1 vwCl (wl g f_9) H → va_S (gA g) s.heap H locs → lv_has ls 5 [(0, .ref (g 7)), (1, .ref (g 36)), (2, .int n), (3, .int (nI i2))] → W p l e (headSpec (wsT yX9_gather cX9_gather 5 none) ({ frames := 2, cells := 0, slots := 0, locals := 48 })).room s m ([.ref (g 7), .ref (g 36), .int n] : List Value).toArray below meth c H locs 0 0 (MQ below (bQv G g (fun (f' : Nat → va_E) => ∃ mn9 : Nat, ∃ wt9 : Nat → Int32, ∃ wf9 : Nat → Int32, f' 7 = eO 8 [.ref (g 8), .ref (g 9), .ref (g 10), .ref (g 11), .int (nI mn9), .int le] ∧ f' 8 = eI G 6 wt9 ∧ f' 11 = eI G 6 wf9 ∧ (mn9 = cnt n nt) ∧ (mn9 ≤ 6) ∧ (∀ k, k < mn9 → wt9 k = nI (whT n nt k) ∧ whT n nt k < nt) ∧ (foV (fun i k => mtB (fun t c => ct (70 * t + c)) (whT n nt i) (whT n nt k)) mn9 mn9 0 wf9) ∧ ∀ j, (j ≠ 7 ∧ j ≠ 8 ∧ j ≠ 11) → f' j = f j)) ([.ref (g 7), .ref (g 36), .int n] : List Value).toArray s 0 0 (gA g)) (F0 m 73 ls []) := by
            intro n9_4
            induction n9_4 with
            | zero => intro i2 o2 f_9 H locs ls hi2 hfo hn9_4; exact absurd hn9_4 (Nat.not_lt_zero _)
            | succ n9_4 ih_4 =>
              intro i2 o2 f_9 H locs ls hi2 hfo hn9_4 hwt hw8 hw9 hw10 hw11 hbk htr hct o_9 hP hS hl
              refine lv_iload_n hx hb dX9_gather_73 rfl (lv_at hl 3 rfl) ?_
              refine lv_aload_n hx hb dX9_gather_74 rfl (lv_at hl 0 rfl) ?_
              refine va_get (D := G.1) (ci := 8) (v := .int (nI m1)) (C := RX9) (T := TX9) (N := 6) hx hb hts inlX9 hown hG.1 hP 7 (wl_at (by decide) hwt) rfl 4 (by decide) (hts (.fieldLink RX9 24 "SwornLists$Waits" "many" "I") w_824) (fun _ h9 => h9) rfl dX9_gather_75 ?_
              refine lv_icmp_ge (tgt := 168) hx hb dX9_gather_78 (by decide) (fun c_78 => ?_) (fun c_78 => ?_)
              · have k_78 : m1 ≤ i2 := (nI_leI (a := m1) (b := i2) (by omega) (by omega)).mp c_78
                exact W.vret hx hb hr (fun _ hT9 _ => ⟨⟨f_9, rfl, (⟨m1, t1, o2, hwt, hw8, hw11, by rw [← hfin.1], by omega, fun k hk => ⟨hfin.2 k (by rw [lsB_len]; omega), (whT_lt (by omega)).1⟩, (by rw [show i2 = m1 by omega] at hfo; exact hfo), fun j hj => (((o_9 j (by omega))).trans (o_2 j (by omega))).trans (o_1 j (by omega))⟩), by rw [hT9]; exact hP⟩, hS.F hT9⟩) hS.2.2 dX9_gather_168
              · have k_78 : ¬ m1 ≤ i2 := fun z9 => c_78 ((nI_leI (a := m1) (b := i2) (by omega) (by omega)).mpr z9)
                have hi29 : i2 < m1 := by omega
                refine lv_iconst (v := 0) hx hb dX9_gather_81 (by decide) ?_
                refine lv_istore (lv' := [(4, .int 0), (0, .ref (g 7)), (1, .ref (g 36)), (2, .int n), (3, .int (nI i2))]) hx hb dX9_gather_82 hl (by decide) rfl (fun ls hl => ?_)
                have key5 : ∀ (n9_5 : Nat) (i3 : Nat) (o3 : Nat → Int32) (f_10 : Nat → va_E) (H : Heap) (locs : List Loc) (ls : Array Slot), (i3 ≤ i2) → (foV (fun i k => mtB (fun t c => ct (70 * t + c)) (whT n nt i) (whT n nt k)) m1 i2 i3 o3) → i2 - i3 < n9_5 → f_10 7 = eO 8 [.ref (g 8), .ref (g 9), .ref (g 10), .ref (g 11), .int (nI m1), .int le] → f_10 8 = eI G 6 t1 → f_10 9 = eI G 6 ww → f_10 10 = eI G 6 wb → f_10 11 = eI G 6 o3 → f_10 36 = eO 0 [.ref (g 37), .ref (g 39), .ref (g 41), .ref (g 43), .ref (g 45), .ref (g 47), .ref (g 112), .int pay, .int fine] → f_10 45 = eO 5 [.int (nI 10), .int (nI 70), .ref (g 46), .int (nI nt)] → f_10 46 = eI G (10 * 70) ct → (∀ j, j ≠ 11 → f_10 j = f_9 j) → va_P G.1 vwCl (wl g f_10) H → va_S (gA g) s.heap H locs → lv_has ls 5 [(0, .ref (g 7)), (1, .ref (g 36)), (2, .int n), (3, .int (nI i2)), (4, .int (nI i3))] → W p l e (headSpec (wsT yX9_gather cX9_gather 5 none) ({ frames := 2, cells := 0, slots := 0, locals := 48 })).room s m ([.ref (g 7), .ref (g 36), .int n] : List Value).toArray below meth c H locs 0 0 (MQ below (bQv G g (fun (f' : Nat → va_E) => ∃ mn9 : Nat, ∃ wt9 : Nat → Int32, ∃ wf9 : Nat → Int32, f' 7 = eO 8 [.ref (g 8), .ref (g 9), .ref (g 10), .ref (g 11), .int (nI mn9), .int le] ∧ f' 8 = eI G 6 wt9 ∧ f' 11 = eI G 6 wf9 ∧ (mn9 = cnt n nt) ∧ (mn9 ≤ 6) ∧ (∀ k, k < mn9 → wt9 k = nI (whT n nt k) ∧ whT n nt k < nt) ∧ (foV (fun i k => mtB (fun t c => ct (70 * t + c)) (whT n nt i) (whT n nt k)) mn9 mn9 0 wf9) ∧ ∀ j, (j ≠ 7 ∧ j ≠ 8 ∧ j ≠ 11) → f' j = f j)) ([.ref (g 7), .ref (g 36), .int n] : List Value).toArray s 0 0 (gA g)) (F0 m 84 ls []) := by
                  intro n9_5
                  induction n9_5 with
                  | zero => intro i3 o3 f_10 H locs ls hi3 hfo3 hn9_5; exact absurd hn9_5 (Nat.not_lt_zero _)
                  | succ n9_5 ih_5 =>
                    intro i3 o3 f_10 H locs ls hi3 hfo3 hn9_5 hwt hw8 hw9 hw10 hw11 hbk htr hct o_10 hP hS hl
                    refine lv_iload hx hb dX9_gather_84 (lv_at hl 4 rfl) ?_
                    refine lv_iload_n hx hb dX9_gather_86 rfl (lv_at hl 3 rfl) ?_
                    refine lv_icmp_ge (tgt := 162) hx hb dX9_gather_87 (by decide) (fun c_87 => ?_) (fun c_87 => ?_)
                    · have k_87 : i2 ≤ i3 := (nI_leI (a := i2) (b := i3) (by omega) (by omega)).mp c_87
                      refine lv_iinc (v := nI (i2 + 1)) (lv' := [(3, .int (nI (i2 + 1))), (0, .ref (g 7)), (1, .ref (g 36)), (2, .int n), (4, .int (nI i3))]) hx hb dX9_gather_162 hl (k := 3) rfl (nI_add i2 1) (by decide) rfl (fun ls hl => ?_)
                      refine lv_goto (tgt := 73) hx hb dX9_gather_165 (by decide) ?_
                      exact ih_4 (i2 + 1) o3 f_10 _ _ _ (by omega) (foV_s (by rw [show i3 = i2 by omega] at hfo3; exact hfo3)) (by omega) (hwt) (hw8) (hw9) (hw10) (hw11) (hbk) (htr) (hct) (fun j hj => ((o_10 j (by omega))).trans (o_9 j (by omega))) hP hS (lv_sub hl [1, 2, 3, 0] rfl)
                    · have k_87 : ¬ i2 ≤ i3 := fun z9 => c_87 ((nI_leI (a := i2) (b := i3) (by omega) (by omega)).mpr z9)
                      have hi39 : i3 < i2 := by omega
                      refine lv_aload_n hx hb dX9_gather_90 rfl (lv_at hl 1 rfl) ?_
                      refine lv_aload_n hx hb dX9_gather_91 rfl (lv_at hl 0 rfl) ?_
                      refine va_get (D := G.1) (ci := 8) (v := .ref (g 8)) (C := RX9) (T := TX9) (N := 6) hx hb hts inlX9 hown hG.1 hP 7 (wl_at (by decide) hwt) rfl 0 (by decide) (hts (.fieldLink RX9 11 "SwornLists$Waits" "trials" "[I") w_104) (fun _ h9 => h9) rfl dX9_gather_92 ?_
                      refine lv_iload_n hx hb dX9_gather_95 rfl (lv_at hl 3 rfl) ?_
                      refine va_iald hx hb hG.1 hP 8 0 (wl_at (by decide) hw8) rfl (vp_in_nI (by omega) (by decide)) dX9_gather_96 ?_
                      refine my_bei (v := t1 i2) (congrArg t1 (nI_clamp (n := i2) (by omega))) ?_
                      refine my_bei (v := nI (whT n nt i2)) (hfin.2 i2 (by rw [lsB_len]; omega)) ?_
                      refine lv_aload_n hx hb dX9_gather_97 rfl (lv_at hl 0 rfl) ?_
                      refine va_get (D := G.1) (ci := 8) (v := .ref (g 8)) (C := RX9) (T := TX9) (N := 6) hx hb hts inlX9 hown hG.1 hP 7 (wl_at (by decide) hwt) rfl 0 (by decide) (hts (.fieldLink RX9 11 "SwornLists$Waits" "trials" "[I") w_104) (fun _ h9 => h9) rfl dX9_gather_98 ?_
                      refine lv_iload hx hb dX9_gather_101 (lv_at hl 4 rfl) ?_
                      refine va_iald hx hb hG.1 hP 8 0 (wl_at (by decide) hw8) rfl (vp_in_nI (by omega) (by decide)) dX9_gather_103 ?_
                      refine my_bei (v := t1 i3) (congrArg t1 (nI_clamp (n := i3) (by omega))) ?_
                      refine my_bei (v := nI (whT n nt i3)) (hfin.2 i3 (by rw [lsB_len]; omega)) ?_
                      refine rd_calli (va_runV (As := [.int (nI (whT n nt i2)), .int (nI (whT n nt i3))]) (rest := []) ⟨hx, hb, hml, hown, hts⟩ (k_shareFamilyE l G g hg f_10 pay fine nt ct (whT n nt i2) (whT n nt i3) hbk htr hct (by first | assumption | omega | decide) ((whT_lt (by omega)).1) ((whT_lt (by omega)).1)) (my_cwV hts ok_X0_shareFamily w_833 rfl rfl ⟨Nat.le_of_ble_eq_true rfl, Nat.le_of_ble_eq_true rfl⟩) ⟨bP.blind, va_recv hG.1 hP (ci := 0) (q0 := 36) rfl (wl_at (by decide) hbk), fun U hU hW => ⟨rfl, by rw [hU]; exact hP, kG.warm hW hG⟩⟩ rfl rfl hl.1 rfl (lv_room (Nat.le_of_ble_eq_true rfl)) dX9_gather_104 ⟨Nat.le_of_ble_eq_true rfl, Nat.le_of_ble_eq_true rfl⟩) (fun r hr9 => ?_)
                      subst hr9
                      refine my_ifne (tgt := 130) hx hb dX9_gather_107 (by decide) (fun c_107 => ?_) (fun c_107 => ?_)
                      · refine lv_aload_n hx hb dX9_gather_130 rfl (lv_at hl 0 rfl) ?_
                        refine va_get (D := G.1) (ci := 8) (v := .ref (g 11)) (C := RX9) (T := TX9) (N := 6) hx hb hts inlX9 hown hG.1 hP 7 (wl_at (by decide) hwt) rfl 3 (by decide) (hts (.fieldLink RX9 21 "SwornLists$Waits" "foes" "[I") w_107) (fun _ h9 => h9) rfl dX9_gather_131 ?_
                        refine lv_iload_n hx hb dX9_gather_134 rfl (lv_at hl 3 rfl) ?_
                        refine lv_dup2_11 hx hb dX9_gather_135 rfl rfl ?_
                        refine va_iald hx hb hG.1 hP 11 0 (wl_at (by decide) hw11) rfl (vp_in_nI (by omega) (by decide)) dX9_gather_136 ?_
                        refine my_bei (v := o3 i2) (congrArg o3 (nI_clamp (n := i2) (by omega))) ?_
                        refine lv_iconst (v := 1) hx hb dX9_gather_137 (by decide) ?_
                        refine lv_iload hx hb dX9_gather_138 (lv_at hl 4 rfl) ?_
                        refine lv_ishl hx hb dX9_gather_140 ?_
                        refine lv_ior hx hb dX9_gather_141 ?_
                        refine va_iast hx hb hG.1 hP (wl_D hg f_10) hS 11 0 (wl_at (by decide) hw11) rfl (vp_in_nI (by omega) (by decide)) dX9_gather_142 (fun H locs hP _ hS => ?_)
                        have hP := (congrArg (fun z9 => va_P G.1 vwCl ((wl g f_10).set 11 (g 11, eI G 6 ((upd o3 z9 ((o3 i2) ||| (1 <<< ((nI i3) &&& 31))))))) H) (show Int32.toNatClampNeg (nI i2) = i2 from nI_clamp (by omega))).mp hP
                        obtain ⟨f_11, hP, e_11, o_11⟩ := b_put (by decide) hP
                        have hw11 : f_11 11 = eI G 6 (upd o3 i2 ((o3 i2) ||| (1 <<< ((nI i3) &&& 31)))) := e_11
                        refine lv_aload_n hx hb dX9_gather_143 rfl (lv_at hl 0 rfl) ?_
                        have hwt : f_11 7 = eO 8 [.ref (g 8), .ref (g 9), .ref (g 10), .ref (g 11), .int (nI m1), .int le] := ((o_11 7 (by decide))).trans hwt
                        refine va_get (D := G.1) (ci := 8) (v := .ref (g 11)) (C := RX9) (T := TX9) (N := 6) hx hb hts inlX9 hown hG.1 hP 7 (wl_at (by decide) hwt) rfl 3 (by decide) (hts (.fieldLink RX9 21 "SwornLists$Waits" "foes" "[I") w_107) (fun _ h9 => h9) rfl dX9_gather_144 ?_
                        refine lv_iload hx hb dX9_gather_147 (lv_at hl 4 rfl) ?_
                        refine lv_dup2_11 hx hb dX9_gather_149 rfl rfl ?_
                        refine va_iald hx hb hG.1 hP 11 0 (wl_at (by decide) hw11) rfl (vp_in_nI (by omega) (by decide)) dX9_gather_150 ?_
                        refine my_bei (v := (upd o3 i2 ((o3 i2) ||| (1 <<< ((nI i3) &&& 31)))) i3) (congrArg (upd o3 i2 ((o3 i2) ||| (1 <<< ((nI i3) &&& 31)))) (nI_clamp (n := i3) (by omega))) ?_
                        refine my_bei (v := o3 i3) (pk_un (by first | decide | omega)) ?_
                        refine lv_iconst (v := 1) hx hb dX9_gather_151 (by decide) ?_
                        refine lv_iload_n hx hb dX9_gather_152 rfl (lv_at hl 3 rfl) ?_
                        refine lv_ishl hx hb dX9_gather_153 ?_
                        refine lv_ior hx hb dX9_gather_154 ?_
                        refine va_iast hx hb hG.1 hP (wl_D hg f_11) hS 11 0 (wl_at (by decide) hw11) rfl (vp_in_nI (by omega) (by decide)) dX9_gather_155 (fun H locs hP _ hS => ?_)
                        have hP := (congrArg (fun z9 => va_P G.1 vwCl ((wl g f_11).set 11 (g 11, eI G 6 ((upd (upd o3 i2 ((o3 i2) ||| (1 <<< ((nI i3) &&& 31)))) z9 ((o3 i3) ||| (1 <<< ((nI i2) &&& 31))))))) H) (show Int32.toNatClampNeg (nI i3) = i3 from nI_clamp (by omega))).mp hP
                        obtain ⟨f_12, hP, e_12, o_12⟩ := b_put (by decide) hP
                        have hw11 : f_12 11 = eI G 6 (upd (upd o3 i2 ((o3 i2) ||| (1 <<< ((nI i3) &&& 31)))) i3 ((o3 i3) ||| (1 <<< ((nI i2) &&& 31)))) := e_12
                        refine lv_iinc (v := nI (i3 + 1)) (lv' := [(4, .int (nI (i3 + 1))), (0, .ref (g 7)), (1, .ref (g 36)), (2, .int n), (3, .int (nI i2))]) hx hb dX9_gather_156 hl (k := 4) rfl (nI_add i3 1) (by decide) rfl (fun ls hl => ?_)
                        refine lv_goto (tgt := 84) hx hb dX9_gather_159 (by decide) ?_
                        have hwt : f_12 7 = eO 8 [.ref (g 8), .ref (g 9), .ref (g 10), .ref (g 11), .int (nI m1), .int le] := ((o_12 7 (by decide))).trans hwt
                        have hw8 : f_12 8 = eI G 6 t1 := ((o_12 8 (by decide)).trans ((o_11 8 (by decide)))).trans hw8
                        have hw9 : f_12 9 = eI G 6 ww := ((o_12 9 (by decide)).trans ((o_11 9 (by decide)))).trans hw9
                        have hw10 : f_12 10 = eI G 6 wb := ((o_12 10 (by decide)).trans ((o_11 10 (by decide)))).trans hw10
                        have hbk : f_12 36 = eO 0 [.ref (g 37), .ref (g 39), .ref (g 41), .ref (g 43), .ref (g 45), .ref (g 47), .ref (g 112), .int pay, .int fine] := ((o_12 36 (by decide)).trans ((o_11 36 (by decide)))).trans hbk
                        have htr : f_12 45 = eO 5 [.int (nI 10), .int (nI 70), .ref (g 46), .int (nI nt)] := ((o_12 45 (by decide)).trans ((o_11 45 (by decide)))).trans htr
                        have hct : f_12 46 = eI G (10 * 70) ct := ((o_12 46 (by decide)).trans ((o_11 46 (by decide)))).trans hct
                        exact ih_5 (i3 + 1) (upd (upd o3 i2 ((o3 i2) ||| (1 <<< ((nI i3) &&& 31)))) i3 ((o3 i3) ||| (1 <<< ((nI i2) &&& 31)))) f_12 _ _ _ (by omega) (foV_y hfo3 (by omega) (by omega) (by omega) ((Bool.or_eq_true _ _).mpr (Or.inl c_107))) (by omega) (hwt) (hw8) (hw9) (hw10) (hw11) (hbk) (htr) (hct) (fun j hj => (((o_12 j (by omega))).trans (o_11 j (by omega))).trans (o_10 j (by omega))) hP hS (lv_sub hl [1, 2, 3, 4, 0] rfl)
                      · refine lv_aload_n hx hb dX9_gather_110 rfl (lv_at hl 1 rfl) ?_
                        refine lv_aload_n hx hb dX9_gather_111 rfl (lv_at hl 0 rfl) ?_
                        refine va_get (D := G.1) (ci := 8) (v := .ref (g 8)) (C := RX9) (T := TX9) (N := 6) hx hb hts inlX9 hown hG.1 hP 7 (wl_at (by decide) hwt) rfl 0 (by decide) (hts (.fieldLink RX9 11 "SwornLists$Waits" "trials" "[I") w_104) (fun _ h9 => h9) rfl dX9_gather_112 ?_
                        refine lv_iload_n hx hb dX9_gather_115 rfl (lv_at hl 3 rfl) ?_
                        refine va_iald hx hb hG.1 hP 8 0 (wl_at (by decide) hw8) rfl (vp_in_nI (by omega) (by decide)) dX9_gather_116 ?_
                        refine my_bei (v := t1 i2) (congrArg t1 (nI_clamp (n := i2) (by omega))) ?_
                        refine my_bei (v := nI (whT n nt i2)) (hfin.2 i2 (by rw [lsB_len]; omega)) ?_
                        refine lv_aload_n hx hb dX9_gather_117 rfl (lv_at hl 0 rfl) ?_
                        refine va_get (D := G.1) (ci := 8) (v := .ref (g 8)) (C := RX9) (T := TX9) (N := 6) hx hb hts inlX9 hown hG.1 hP 7 (wl_at (by decide) hwt) rfl 0 (by decide) (hts (.fieldLink RX9 11 "SwornLists$Waits" "trials" "[I") w_104) (fun _ h9 => h9) rfl dX9_gather_118 ?_
                        refine lv_iload hx hb dX9_gather_121 (lv_at hl 4 rfl) ?_
                        refine va_iald hx hb hG.1 hP 8 0 (wl_at (by decide) hw8) rfl (vp_in_nI (by omega) (by decide)) dX9_gather_123 ?_
                        refine my_bei (v := t1 i3) (congrArg t1 (nI_clamp (n := i3) (by omega))) ?_
                        refine my_bei (v := nI (whT n nt i3)) (hfin.2 i3 (by rw [lsB_len]; omega)) ?_
                        refine rd_calli (va_runV (As := [.int (nI (whT n nt i2)), .int (nI (whT n nt i3))]) (rest := []) ⟨hx, hb, hml, hown, hts⟩ (k_shareTradeE l G g hg f_10 pay fine nt ct (whT n nt i2) (whT n nt i3) hbk htr hct (by first | assumption | omega | decide) ((whT_lt (by omega)).1) ((whT_lt (by omega)).1)) (my_cwV hts ok_X0_shareTrade w_837 rfl rfl ⟨Nat.le_of_ble_eq_true rfl, Nat.le_of_ble_eq_true rfl⟩) ⟨bP.blind, va_recv hG.1 hP (ci := 0) (q0 := 36) rfl (wl_at (by decide) hbk), fun U hU hW => ⟨rfl, by rw [hU]; exact hP, kG.warm hW hG⟩⟩ rfl rfl hl.1 rfl (lv_room (Nat.le_of_ble_eq_true rfl)) dX9_gather_124 ⟨Nat.le_of_ble_eq_true rfl, Nat.le_of_ble_eq_true rfl⟩) (fun r hr9 => ?_)
                        subst hr9
                        refine my_ifeq (tgt := 156) hx hb dX9_gather_127 (by decide) (fun c_127 => ?_) (fun c_127 => ?_)
                        · refine lv_iinc (v := nI (i3 + 1)) (lv' := [(4, .int (nI (i3 + 1))), (0, .ref (g 7)), (1, .ref (g 36)), (2, .int n), (3, .int (nI i2))]) hx hb dX9_gather_156 hl (k := 4) rfl (nI_add i3 1) (by decide) rfl (fun ls hl => ?_)
                          refine lv_goto (tgt := 84) hx hb dX9_gather_159 (by decide) ?_
                          exact ih_5 (i3 + 1) o3 f_10 _ _ _ (by omega) (foV_n hfo3 (by omega) (fun z => ((Bool.or_eq_true _ _).mp z).elim c_107 c_127)) (by omega) (hwt) (hw8) (hw9) (hw10) (hw11) (hbk) (htr) (hct) (fun j hj => (o_10 j (by omega))) hP hS (lv_sub hl [1, 2, 3, 4, 0] rfl)
                        · refine lv_aload_n hx hb dX9_gather_130 rfl (lv_at hl 0 rfl) ?_
                          refine va_get (D := G.1) (ci := 8) (v := .ref (g 11)) (C := RX9) (T := TX9) (N := 6) hx hb hts inlX9 hown hG.1 hP 7 (wl_at (by decide) hwt) rfl 3 (by decide) (hts (.fieldLink RX9 21 "SwornLists$Waits" "foes" "[I") w_107) (fun _ h9 => h9) rfl dX9_gather_131 ?_
                          refine lv_iload_n hx hb dX9_gather_134 rfl (lv_at hl 3 rfl) ?_
                          refine lv_dup2_11 hx hb dX9_gather_135 rfl rfl ?_
                          refine va_iald hx hb hG.1 hP 11 0 (wl_at (by decide) hw11) rfl (vp_in_nI (by omega) (by decide)) dX9_gather_136 ?_
                          refine my_bei (v := o3 i2) (congrArg o3 (nI_clamp (n := i2) (by omega))) ?_
                          refine lv_iconst (v := 1) hx hb dX9_gather_137 (by decide) ?_
                          refine lv_iload hx hb dX9_gather_138 (lv_at hl 4 rfl) ?_
                          refine lv_ishl hx hb dX9_gather_140 ?_
                          refine lv_ior hx hb dX9_gather_141 ?_
                          refine va_iast hx hb hG.1 hP (wl_D hg f_10) hS 11 0 (wl_at (by decide) hw11) rfl (vp_in_nI (by omega) (by decide)) dX9_gather_142 (fun H locs hP _ hS => ?_)
                          have hP := (congrArg (fun z9 => va_P G.1 vwCl ((wl g f_10).set 11 (g 11, eI G 6 ((upd o3 z9 ((o3 i2) ||| (1 <<< ((nI i3) &&& 31))))))) H) (show Int32.toNatClampNeg (nI i2) = i2 from nI_clamp (by omega))).mp hP
                          obtain ⟨f_13, hP, e_13, o_13⟩ := b_put (by decide) hP
                          have hw11 : f_13 11 = eI G 6 (upd o3 i2 ((o3 i2) ||| (1 <<< ((nI i3) &&& 31)))) := e_13
                          refine lv_aload_n hx hb dX9_gather_143 rfl (lv_at hl 0 rfl) ?_
                          have hwt : f_13 7 = eO 8 [.ref (g 8), .ref (g 9), .ref (g 10), .ref (g 11), .int (nI m1), .int le] := ((o_13 7 (by decide))).trans hwt
                          refine va_get (D := G.1) (ci := 8) (v := .ref (g 11)) (C := RX9) (T := TX9) (N := 6) hx hb hts inlX9 hown hG.1 hP 7 (wl_at (by decide) hwt) rfl 3 (by decide) (hts (.fieldLink RX9 21 "SwornLists$Waits" "foes" "[I") w_107) (fun _ h9 => h9) rfl dX9_gather_144 ?_
                          refine lv_iload hx hb dX9_gather_147 (lv_at hl 4 rfl) ?_
                          refine lv_dup2_11 hx hb dX9_gather_149 rfl rfl ?_
                          refine va_iald hx hb hG.1 hP 11 0 (wl_at (by decide) hw11) rfl (vp_in_nI (by omega) (by decide)) dX9_gather_150 ?_
                          refine my_bei (v := (upd o3 i2 ((o3 i2) ||| (1 <<< ((nI i3) &&& 31)))) i3) (congrArg (upd o3 i2 ((o3 i2) ||| (1 <<< ((nI i3) &&& 31)))) (nI_clamp (n := i3) (by omega))) ?_
                          refine my_bei (v := o3 i3) (pk_un (by first | decide | omega)) ?_
                          refine lv_iconst (v := 1) hx hb dX9_gather_151 (by decide) ?_
                          refine lv_iload_n hx hb dX9_gather_152 rfl (lv_at hl 3 rfl) ?_
                          refine lv_ishl hx hb dX9_gather_153 ?_
                          refine lv_ior hx hb dX9_gather_154 ?_
                          refine va_iast hx hb hG.1 hP (wl_D hg f_13) hS 11 0 (wl_at (by decide) hw11) rfl (vp_in_nI (by omega) (by decide)) dX9_gather_155 (fun H locs hP _ hS => ?_)
                          have hP := (congrArg (fun z9 => va_P G.1 vwCl ((wl g f_13).set 11 (g 11, eI G 6 ((upd (upd o3 i2 ((o3 i2) ||| (1 <<< ((nI i3) &&& 31)))) z9 ((o3 i3) ||| (1 <<< ((nI i2) &&& 31))))))) H) (show Int32.toNatClampNeg (nI i3) = i3 from nI_clamp (by omega))).mp hP
                          obtain ⟨f_14, hP, e_14, o_14⟩ := b_put (by decide) hP
                          have hw11 : f_14 11 = eI G 6 (upd (upd o3 i2 ((o3 i2) ||| (1 <<< ((nI i3) &&& 31)))) i3 ((o3 i3) ||| (1 <<< ((nI i2) &&& 31)))) := e_14
                          refine lv_iinc (v := nI (i3 + 1)) (lv' := [(4, .int (nI (i3 + 1))), (0, .ref (g 7)), (1, .ref (g 36)), (2, .int n), (3, .int (nI i2))]) hx hb dX9_gather_156 hl (k := 4) rfl (nI_add i3 1) (by decide) rfl (fun ls hl => ?_)
                          refine lv_goto (tgt := 84) hx hb dX9_gather_159 (by decide) ?_
                          have hwt : f_14 7 = eO 8 [.ref (g 8), .ref (g 9), .ref (g 10), .ref (g 11), .int (nI m1), .int le] := ((o_14 7 (by decide))).trans hwt
                          have hw8 : f_14 8 = eI G 6 t1 := ((o_14 8 (by decide)).trans ((o_13 8 (by decide)))).trans hw8
                          have hw9 : f_14 9 = eI G 6 ww := ((o_14 9 (by decide)).trans ((o_13 9 (by decide)))).trans hw9
                          have hw10 : f_14 10 = eI G 6 wb := ((o_14 10 (by decide)).trans ((o_13 10 (by decide)))).trans hw10
                          have hbk : f_14 36 = eO 0 [.ref (g 37), .ref (g 39), .ref (g 41), .ref (g 43), .ref (g 45), .ref (g 47), .ref (g 112), .int pay, .int fine] := ((o_14 36 (by decide)).trans ((o_13 36 (by decide)))).trans hbk
                          have htr : f_14 45 = eO 5 [.int (nI 10), .int (nI 70), .ref (g 46), .int (nI nt)] := ((o_14 45 (by decide)).trans ((o_13 45 (by decide)))).trans htr
                          have hct : f_14 46 = eI G (10 * 70) ct := ((o_14 46 (by decide)).trans ((o_13 46 (by decide)))).trans hct
                          exact ih_5 (i3 + 1) (upd (upd o3 i2 ((o3 i2) ||| (1 <<< ((nI i3) &&& 31)))) i3 ((o3 i3) ||| (1 <<< ((nI i2) &&& 31)))) f_14 _ _ _ (by omega) (foV_y hfo3 (by omega) (by omega) (by omega) ((Bool.or_eq_true _ _).mpr (Or.inr c_127))) (by omega) (hwt) (hw8) (hw9) (hw10) (hw11) (hbk) (htr) (hct) (fun j hj => (((o_14 j (by omega))).trans (o_13 j (by omega))).trans (o_10 j (by omega))) hP hS (lv_sub hl [1, 2, 3, 4, 0] rfl)
                exact key5 (i2 + 1) 0 o2 f_9 _ _ _ (Nat.zero_le _) (hfo) (by omega) (hwt) (hw8) (hw9) (hw10) (hw11) (hbk) (htr) (hct) (fun j _ => rfl) hP hS (lv_sub hl [1, 2, 3, 4, 0] rfl)
          exact key4 (m1 + 1) 0 o1 f_2 _ _ _ (Nat.zero_le _) (foV_0 ho1) (by omega) (hwt) (hw8) (hw9) (hw10) (hw11) (hbk) (htr) (hct) (fun j _ => rfl) hP hS (lv_sub hl [1, 2, 3, 0] rfl)
        · have k_24 : ¬ 6 ≤ m1 := fun z9 => c_24 ((nI_leI (a := 6) (b := m1) (by omega) (by omega)).mpr z9)
          refine lv_iload_n hx hb dX9_gather_27 rfl (lv_at hl 2 rfl) ?_
          refine lv_iload_n hx hb dX9_gather_28 rfl (lv_at hl 3 rfl) ?_
          refine rd_calli (va_runSN (As := [.int n, .int (nI i)]) (rest := []) ⟨hx, hb, hml, hown, hts⟩ (s_hasBit l G g hg f_2 n (nI i)  ) (⟨my_cn hts ok_X10_hasBit.1 (hG.2.1 (.methodLinkNest RX9 64 yX10_hasBit RX10) (List.mem_of_getElem? (i := 35) rfl)) rfl rfl ⟨Nat.le_of_ble_eq_true rfl, Nat.le_of_ble_eq_true rfl⟩, hts _ ok_X10_hasBit.2.2.1, trivial⟩) ⟨bP.blind, fun U hU hW => ⟨rfl, by rw [hU]; exact hP, kG.warm hW hG⟩⟩ rfl rfl hl.1 rfl (lv_room (Nat.le_of_ble_eq_true rfl)) dX9_gather_29 ⟨Nat.le_of_ble_eq_true rfl, Nat.le_of_ble_eq_true rfl⟩) (fun r hr9 => ?_)
          subst hr9
          refine my_ifeq (tgt := 65) hx hb dX9_gather_32 (by decide) (fun c_32 => ?_) (fun c_32 => ?_)
          · refine lv_iinc (v := nI (i + 1)) (lv' := [(3, .int (nI (i + 1))), (0, .ref (g 7)), (1, .ref (g 36)), (2, .int n)]) hx hb dX9_gather_65 hl (k := 3) rfl (nI_add i 1) (by decide) rfl (fun ls hl => ?_)
            refine lv_goto (tgt := 7) hx hb dX9_gather_68 (by decide) ?_
            exact ih_1 (i + 1) m1 t1 o1 f_2 _ _ _ (by omega) (by rw [hm1, cnt_n (fun z => c_32 (by rw [hbt_bt (by omega)]; exact z))]) (by omega) (ls_keep hwt1 (fun z => c_32 (by rw [hbt_bt (by omega)]; exact z))) (ho1) (by omega) (hwt) (hw8) (hw9) (hw10) (hw11) (hbk) (htr) (hct) (fun j hj => (o_2 j (by omega))) hP hS (lv_sub hl [1, 2, 3, 0] rfl)
          · refine lv_aload_n hx hb dX9_gather_35 rfl (lv_at hl 0 rfl) ?_
            refine va_get (D := G.1) (ci := 8) (v := .ref (g 8)) (C := RX9) (T := TX9) (N := 6) hx hb hts inlX9 hown hG.1 hP 7 (wl_at (by decide) hwt) rfl 0 (by decide) (hts (.fieldLink RX9 11 "SwornLists$Waits" "trials" "[I") w_104) (fun _ h9 => h9) rfl dX9_gather_36 ?_
            refine lv_aload_n hx hb dX9_gather_39 rfl (lv_at hl 0 rfl) ?_
            refine va_get (D := G.1) (ci := 8) (v := .int (nI m1)) (C := RX9) (T := TX9) (N := 6) hx hb hts inlX9 hown hG.1 hP 7 (wl_at (by decide) hwt) rfl 4 (by decide) (hts (.fieldLink RX9 24 "SwornLists$Waits" "many" "I") w_824) (fun _ h9 => h9) rfl dX9_gather_40 ?_
            refine lv_iload_n hx hb dX9_gather_43 rfl (lv_at hl 3 rfl) ?_
            refine va_iast hx hb hG.1 hP (wl_D hg f_2) hS 8 0 (wl_at (by decide) hw8) rfl (vp_in_nI (by omega) (by decide)) dX9_gather_44 (fun H locs hP _ hS => ?_)
            have hP := (congrArg (fun z9 => va_P G.1 vwCl ((wl g f_2).set 8 (g 8, eI G 6 ((upd t1 z9 (nI i))))) H) (show Int32.toNatClampNeg (nI m1) = m1 from nI_clamp (by omega))).mp hP
            obtain ⟨f_15, hP, e_15, o_15⟩ := b_put (by decide) hP
            have hw8 : f_15 8 = eI G 6 (upd t1 m1 (nI i)) := e_15
            refine lv_aload_n hx hb dX9_gather_45 rfl (lv_at hl 0 rfl) ?_
            have hwt : f_15 7 = eO 8 [.ref (g 8), .ref (g 9), .ref (g 10), .ref (g 11), .int (nI m1), .int le] := ((o_15 7 (by decide))).trans hwt
            refine va_get (D := G.1) (ci := 8) (v := .ref (g 11)) (C := RX9) (T := TX9) (N := 6) hx hb hts inlX9 hown hG.1 hP 7 (wl_at (by decide) hwt) rfl 3 (by decide) (hts (.fieldLink RX9 21 "SwornLists$Waits" "foes" "[I") w_107) (fun _ h9 => h9) rfl dX9_gather_46 ?_
            refine lv_aload_n hx hb dX9_gather_49 rfl (lv_at hl 0 rfl) ?_
            refine va_get (D := G.1) (ci := 8) (v := .int (nI m1)) (C := RX9) (T := TX9) (N := 6) hx hb hts inlX9 hown hG.1 hP 7 (wl_at (by decide) hwt) rfl 4 (by decide) (hts (.fieldLink RX9 24 "SwornLists$Waits" "many" "I") w_824) (fun _ h9 => h9) rfl dX9_gather_50 ?_
            refine lv_iconst (v := 0) hx hb dX9_gather_53 (by decide) ?_
            have hw11 : f_15 11 = eI G 6 o1 := ((o_15 11 (by decide))).trans hw11
            refine va_iast hx hb hG.1 hP (wl_D hg f_15) hS 11 0 (wl_at (by decide) hw11) rfl (vp_in_nI (by omega) (by decide)) dX9_gather_54 (fun H locs hP _ hS => ?_)
            have hP := (congrArg (fun z9 => va_P G.1 vwCl ((wl g f_15).set 11 (g 11, eI G 6 ((upd o1 z9 0)))) H) (show Int32.toNatClampNeg (nI m1) = m1 from nI_clamp (by omega))).mp hP
            obtain ⟨f_16, hP, e_16, o_16⟩ := b_put (by decide) hP
            have hw11 : f_16 11 = eI G 6 (upd o1 m1 0) := e_16
            refine lv_aload_n hx hb dX9_gather_55 rfl (lv_at hl 0 rfl) ?_
            refine lv_dup hx hb dX9_gather_56 rfl ?_
            have hwt : f_16 7 = eO 8 [.ref (g 8), .ref (g 9), .ref (g 10), .ref (g 11), .int (nI m1), .int le] := ((o_16 7 (by decide))).trans hwt
            refine va_get (D := G.1) (ci := 8) (v := .int (nI m1)) (C := RX9) (T := TX9) (N := 6) hx hb hts inlX9 hown hG.1 hP 7 (wl_at (by decide) hwt) rfl 4 (by decide) (hts (.fieldLink RX9 24 "SwornLists$Waits" "many" "I") w_824) (fun _ h9 => h9) rfl dX9_gather_57 ?_
            refine lv_iconst (v := 1) hx hb dX9_gather_60 (by decide) ?_
            refine lv_iadd hx hb dX9_gather_61 ?_
            refine my_bei (v := nI (m1 + 1)) (nI_add m1 1) ?_
            refine va_put (D := G.1) (ci := 8) (v := .int (nI (m1 + 1))) (ty := .int) (C := RX9) (T := TX9) (N := 6) hx hb hts inlX9 tyX9 tyX9_ok nmX9 hown hG.1 hP (wl_D hg f_16) hS 7 (wl_at (by decide) hwt) rfl 4 (by decide) (hts (.fieldLink RX9 24 "SwornLists$Waits" "many" "I") w_824) (fun _ h9 => h9) rfl (by decide +kernel) rfl rfl (Nat.le_of_ble_eq_true rfl) dX9_gather_62 (fun H locs hP _ hS => ?_)
            obtain ⟨f_17, hP, e_17, o_17⟩ := b_put (by decide) hP
            have hwt : f_17 7 = eO 8 [.ref (g 8), .ref (g 9), .ref (g 10), .ref (g 11), .int (nI (m1 + 1)), .int le] := e_17
            refine lv_iinc (v := nI (i + 1)) (lv' := [(3, .int (nI (i + 1))), (0, .ref (g 7)), (1, .ref (g 36)), (2, .int n)]) hx hb dX9_gather_65 hl (k := 3) rfl (nI_add i 1) (by decide) rfl (fun ls hl => ?_)
            refine lv_goto (tgt := 7) hx hb dX9_gather_68 (by decide) ?_
            have hw8 : f_17 8 = eI G 6 (upd t1 m1 (nI i)) := ((o_17 8 (by decide)).trans ((o_16 8 (by decide)))).trans hw8
            have hw9 : f_17 9 = eI G 6 ww := ((o_17 9 (by decide)).trans ((o_16 9 (by decide)).trans ((o_15 9 (by decide))))).trans hw9
            have hw10 : f_17 10 = eI G 6 wb := ((o_17 10 (by decide)).trans ((o_16 10 (by decide)).trans ((o_15 10 (by decide))))).trans hw10
            have hw11 : f_17 11 = eI G 6 (upd o1 m1 0) := ((o_17 11 (by decide))).trans hw11
            have hbk : f_17 36 = eO 0 [.ref (g 37), .ref (g 39), .ref (g 41), .ref (g 43), .ref (g 45), .ref (g 47), .ref (g 112), .int pay, .int fine] := ((o_17 36 (by decide)).trans ((o_16 36 (by decide)).trans ((o_15 36 (by decide))))).trans hbk
            have htr : f_17 45 = eO 5 [.int (nI 10), .int (nI 70), .ref (g 46), .int (nI nt)] := ((o_17 45 (by decide)).trans ((o_16 45 (by decide)).trans ((o_15 45 (by decide))))).trans htr
            have hct : f_17 46 = eI G (10 * 70) ct := ((o_17 46 (by decide)).trans ((o_16 46 (by decide)).trans ((o_15 46 (by decide))))).trans hct
            exact ih_1 (i + 1) (m1 + 1) (upd t1 m1 (nI i)) (upd o1 m1 0) f_17 _ _ _ (by omega) (by rw [hm1, cnt_y (show bt n i = true by rw [← hbt_bt (by omega)]; exact c_32)]) (by omega) ((by have h9 := ls_push hwt1 (show bt n i = true by rw [← hbt_bt (by omega)]; exact c_32); rw [← hm1] at h9; exact h9)) (fun k hk => if e9 : k = m1 then (by rw [e9, pk_us]) else (pk_un e9).trans (ho1 k (by omega))) (by omega) (hwt) (hw8) (hw9) (hw10) (hw11) (hbk) (htr) (hct) (fun j hj => ((((o_17 j (by omega))).trans (o_16 j (by omega))).trans (o_15 j (by omega))).trans (o_2 j (by omega))) hP hS (lv_sub hl [1, 2, 3, 0] rfl)
  exact key1 (nt + 1) 0 0 wt wf f_1 _ _ _ (Nat.zero_le _) (rfl) (Nat.zero_le _) (fun k hk => absurd hk (Nat.not_lt_zero _)) (fun k hk => absurd hk (Nat.not_lt_zero _)) (by omega) (hwt) (hw8) (hw9) (hw10) (hw11) (hbk) (htr) (hct) (fun j _ => rfl) hP hS (lv_sub hl [1, 2, 3, 0] rfl)
set_option maxHeartbeats 4000000 in
set_option maxRecDepth 100000 in
theorem v_seekE (l : Launch) (G : gW) (g : Nat → Nat) (hg : gOK g) (f : Nat → va_E) (mn : Nat) (le : Int32) (wt : Nat → Int32) (ww : Nat → Int32) (wb : Nat → Int32) (wf : Nat → Int32) (pay : Int32) (fine : Int32) (nt : Nat) (ct : Nat → Int32) (dd : Nat → Nat) (ee : Nat → Nat) (n : Int32) (hwt : f 7 = eO 8 [.ref (g 8), .ref (g 9), .ref (g 10), .ref (g 11), .int (nI mn), .int le]) (hw8 : f 8 = eI G 6 wt) (hw9 : f 9 = eI G 6 ww) (hw10 : f 10 = eI G 6 wb) (hw11 : f 11 = eI G 6 wf) (hbk : f 36 = eO 0 [.ref (g 37), .ref (g 39), .ref (g 41), .ref (g 43), .ref (g 45), .ref (g 47), .ref (g 112), .int pay, .int fine]) (htr : f 45 = eO 5 [.int (nI 10), .int (nI 70), .ref (g 46), .int (nI nt)]) (hct : f 46 = eI G (10 * 70) ct) (hnt : nt ≤ 10) (hc6 : cnt n nt ≤ 6) (hde : ∀ z, z < nt → (ct (70 * z + 0) = nI (dd z) ∧ dd z ≤ 9999) ∧ ct (70 * z + 1) = nI (ee z) ∧ 1 ≤ ee z ∧ ee z ≤ 9) : Met l yX9_seek (wsT yX9_seek cX9_seek 6 none) ({ frames := 3, cells := 0, slots := 0, locals := 72 }) (bP G g f [.ref (g 7), .ref (g 36), .int n]) (bQv G g (fun (f' : Nat → va_E) => ∃ mn9 : Nat, ∃ le9 : Int32, ∃ wt9 : Nat → Int32, ∃ ww9 : Nat → Int32, ∃ wb9 : Nat → Int32, ∃ wf9 : Nat → Int32, f' 7 = eO 8 [.ref (g 8), .ref (g 9), .ref (g 10), .ref (g 11), .int (nI mn9), .int le9] ∧ f' 8 = eI G 6 wt9 ∧ f' 9 = eI G 6 ww9 ∧ f' 10 = eI G 6 wb9 ∧ f' 11 = eI G 6 wf9 ∧ (mn9 ≤ 6) ∧ (∃ (Lo : Option Nat) (Bo : Nat → Nat), mn9 = cnt n nt ∧ bsW (fun k => dd (whT n nt k)) (fun k => ee (whT n nt k)) (fun i k => mtB (fun t c => ct (70 * t + c)) (whT n nt i) (whT n nt k)) mn9 Lo Bo ∧ le9 = fo Lo ∧ (∀ l, Lo = some l → l ≤ 30) ∧ ∀ l, Lo = some l → ∀ k, k < mn9 → wb9 k = nI (Bo k)) ∧ ∀ j, (j < 7 ∨ 11 < j) → f' j = f j)) 0 0 (gA g) := by
  refine Met.ofW (cc := cX9_seek) (maxL := 6) (ret := none) (by decide) rfl ?_
  intro p e s m args below meth c s₁ B hml hv
  obtain ⟨rfl, hP, hG⟩ := hv
  have hx := B.exec
  have hb := B.bytes
  have hr := B.returns
  have hts := my_hts (atoms_spec (ws := wsT yX9_seek cX9_seek 6 none) B.pre)
  have hown : s.vm.findClass RX9 = some m.cls := findClass_of_methodNamed B.named
  have hlocks := B.notSynchronized
  have hS : va_S (gA g) s.heap s.heap [] := va_S.rf
  have hl := lv_entry ([.ref (g 7), .ref (g 36), .int n]) (n := 6) (Nat.le_of_ble_eq_true rfl)
  rw [lg_entry_eq]
  generalize (lg_sl ([.ref (g 7), .ref (g 36), .int n]) ++ List.replicate (6 - (lg_sl ([.ref (g 7), .ref (g 36), .int n])).length) Slot.unset).toArray = ls at hl ⊢
  have hl : lv_has ls 6 [(0, .ref (g 7)), (1, .ref (g 36)), (2, .int n)] := hl
  refine lv_aload_n hx hb dX9_seek_0 rfl (lv_at hl 0 rfl) ?_
  refine lv_aload_n hx hb dX9_seek_1 rfl (lv_at hl 1 rfl) ?_
  refine lv_iload_n hx hb dX9_seek_2 rfl (lv_at hl 2 rfl) ?_
  refine b_callv (va_runV (As := [.ref (g 36), .int n]) (rest := []) ⟨hx, hb, hml, hown, hts⟩ (v_gatherE l G g hg f mn le wt ww wb wf pay fine nt ct n hwt hw8 hw9 hw10 hw11 hbk htr hct (by first | assumption | omega | decide) (by first | assumption | omega | decide)) (my_cwV hts ok_X9_gather w_828 rfl rfl ⟨Nat.le_of_ble_eq_true rfl, Nat.le_of_ble_eq_true rfl⟩) ⟨bP.blind, va_recv hG.1 hP (ci := 8) (q0 := 7) rfl (wl_at (by decide) hwt), fun U hU hW => ⟨rfl, by rw [hU]; exact hP, kG.warm hW hG⟩⟩ rfl rfl hl.1 rfl (lv_room (Nat.le_of_ble_eq_true rfl)) dX9_seek_3 ⟨Nat.le_of_ble_eq_true rfl, Nat.le_of_ble_eq_true rfl⟩) hS (fun f_1 H locs hq9 hP hS => ?_)
  obtain ⟨mn91, wt92, wf93, hq_1_0, hq_1_1, hq_1_2, hx_1_0, hx_1_1, hx_1_2, hx_1_3, o_1⟩ := hq9
  have hwt : f_1 7 = eO 8 [.ref (g 8), .ref (g 9), .ref (g 10), .ref (g 11), .int (nI mn91), .int le] := hq_1_0
  have hw8 : f_1 8 = eI G 6 wt92 := hq_1_1
  have hw11 : f_1 11 = eI G 6 wf93 := hq_1_2
  have hgm := hx_1_0
  have hg6 := hx_1_1
  have hgw := hx_1_2
  have hgo := hx_1_3
  refine lv_aload_n hx hb dX9_seek_6 rfl (lv_at hl 0 rfl) ?_
  refine lv_aload_n hx hb dX9_seek_7 rfl (lv_at hl 0 rfl) ?_
  refine va_get (D := G.1) (ci := 8) (v := .int (nI mn91)) (C := RX9) (T := TX9) (N := 6) hx hb hts inlX9 hown hG.1 hP 7 (wl_at (by decide) hwt) rfl 4 (by decide) (hts (.fieldLink RX9 24 "SwornLists$Waits" "many" "I") w_824) (fun _ h9 => h9) rfl dX9_seek_8 ?_
  refine lv_if_ne (tgt := 18) hx hb dX9_seek_11 (by decide) (fun c_11 => ?_) (fun c_11 => ?_)
  · have k_11 : ¬ mn91 = 0 := fun z9 => c_11 ((nI_eq (a := mn91) (b := 0) (by omega) (by omega)).mpr z9)
    refine lv_iconst (v := (-1)) hx hb dX9_seek_18 (by decide) ?_
    refine my_bei (v := fo none) (rfl) ?_
    refine va_put (D := G.1) (ci := 8) (v := .int (fo none)) (ty := .int) (C := RX9) (T := TX9) (N := 6) hx hb hts inlX9 tyX9 tyX9_ok nmX9 hown hG.1 hP (wl_D hg f_1) hS 7 (wl_at (by decide) hwt) rfl 5 (by decide) (hts (.fieldLink RX9 32 "SwornLists$Waits" "leastSum" "I") w_825) (fun _ h9 => h9) rfl (by decide +kernel) rfl rfl (Nat.le_of_ble_eq_true rfl) dX9_seek_19 (fun H locs hP _ hS => ?_)
    obtain ⟨f_2, hP, e_2, o_2⟩ := b_put (by decide) hP
    have hwt : f_2 7 = eO 8 [.ref (g 8), .ref (g 9), .ref (g 10), .ref (g 11), .int (nI mn91), .int (fo none)] := e_2
    refine lv_iconst (v := 0) hx hb dX9_seek_22 (by decide) ?_
    refine my_bei (v := nI 1 - 1) (by decide) ?_
    refine lv_istore_n (lv' := [(3, .int (nI 1 - 1)), (0, .ref (g 7)), (1, .ref (g 36)), (2, .int n)]) hx hb dX9_seek_23 rfl hl (by decide) rfl (fun ls hl => ?_)
    refine lv_aload_n hx hb dX9_seek_24 rfl (lv_at hl 1 rfl) ?_
    refine va_get (D := G.1) (ci := 8) (v := .ref (g 9)) (C := RX9) (T := TX9) (N := 6) hx hb hts inlX9 hown hG.1 hP 7 (wl_at (by decide) hwt) rfl 1 (by decide) (hts (.fieldLink RX9 15 "SwornLists$Waits" "waits" "[I") w_105) (fun _ h9 => h9) rfl dX9_seek_25 ?_
    refine lv_iconst (v := 0) hx hb dX9_seek_28 (by decide) ?_
    refine lv_iconst (v := (-1)) hx hb dX9_seek_29 (by decide) ?_
    have hw9 : f_2 9 = eI G 6 ww := ((o_2 9 (by decide)).trans ((o_1 9 (by first | decide | omega)))).trans hw9
    refine va_iast hx hb hG.1 hP (wl_D hg f_2) hS 9 0 (wl_at (by decide) hw9) rfl (by unfold vp_in; decide) dX9_seek_30 (fun H locs hP _ hS => ?_)
    have hP := (congrArg (fun z9 => va_P G.1 vwCl ((wl g f_2).set 9 (g 9, eI G 6 ((upd ww z9 (-1))))) H) (show Int32.toNatClampNeg 0 = 0 from rfl)).mp hP
    obtain ⟨f_3, hP, e_3, o_3⟩ := b_put (by decide) hP
    have hw9 : f_3 9 = eI G 6 (upd ww 0 (-1)) := e_3
    refine lv_iconst (v := 0) hx hb dX9_seek_31 (by decide) ?_
    refine lv_istore (lv' := [(4, .int 0), (3, .int (nI 1 - 1)), (0, .ref (g 7)), (1, .ref (g 36)), (2, .int n)]) hx hb dX9_seek_32 hl (by decide) rfl (fun ls hl => ?_)
    have hwt : f_3 7 = eO 8 [.ref (g 8), .ref (g 9), .ref (g 10), .ref (g 11), .int (nI mn91), .int (fo none)] := ((o_3 7 (by decide))).trans hwt
    have hw8 : f_3 8 = eI G 6 wt92 := ((o_3 8 (by decide)).trans ((o_2 8 (by decide)))).trans hw8
    have hw10 : f_3 10 = eI G 6 wb := ((o_3 10 (by decide)).trans ((o_2 10 (by decide)).trans ((o_1 10 (by first | decide | omega))))).trans hw10
    have hw11 : f_3 11 = eI G 6 wf93 := ((o_3 11 (by decide)).trans ((o_2 11 (by decide)))).trans hw11
    have hbk : f_3 36 = eO 0 [.ref (g 37), .ref (g 39), .ref (g 41), .ref (g 43), .ref (g 45), .ref (g 47), .ref (g 112), .int pay, .int fine] := ((o_3 36 (by decide)).trans ((o_2 36 (by decide)).trans ((o_1 36 (by first | decide | omega))))).trans hbk
    have htr : f_3 45 = eO 5 [.int (nI 10), .int (nI 70), .ref (g 46), .int (nI nt)] := ((o_3 45 (by decide)).trans ((o_2 45 (by decide)).trans ((o_1 45 (by first | decide | omega))))).trans htr
    have hct : f_3 46 = eI G (10 * 70) ct := ((o_3 46 (by decide)).trans ((o_2 46 (by decide)).trans ((o_1 46 (by first | decide | omega))))).trans hct
    have key4 : ∀ (n9_4 : Nat) (i : Nat) (a1 : Nat) (v : Nat) (w : Nat → Nat) (Lo : Option Nat) (Bo : Nat → Nat) (w1 : Nat → Int32) (bb1 : Nat → Int32) (f_4 : Nat → va_E) (H : Heap) (locs : List Loc) (ls : Array Slot), (i ≤ 1000000) → (seT (fun k => dd (whT n nt k)) (fun k => ee (whT n nt k)) (fun i k => mtB (fun t c => ct (70 * t + c)) (whT n nt i) (whT n nt k)) mn91 Lo Bo a1 w v w1 i) → (∀ l, Lo = some l → l ≤ 30) → (∀ l, Lo = some l → ∀ k, k < mn91 → bb1 k = nI (Bo k)) → 1000000 - i < n9_4 → f_4 7 = eO 8 [.ref (g 8), .ref (g 9), .ref (g 10), .ref (g 11), .int (nI mn91), .int (fo Lo)] → f_4 8 = eI G 6 wt92 → f_4 9 = eI G 6 w1 → f_4 10 = eI G 6 bb1 → f_4 11 = eI G 6 wf93 → f_4 36 = eO 0 [.ref (g 37), .ref (g 39), .ref (g 41), .ref (g 43), .ref (g 45), .ref (g 47), .ref (g 112), .int pay, .int fine] → f_4 45 = eO 5 [.int (nI 10), .int (nI 70), .ref (g 46), .int (nI nt)] → f_4 46 = eI G (10 * 70) ct → (∀ j, (j ≠ 7 ∧ j ≠ 9 ∧ j ≠ 10) → f_4 j = f_3 j) → va_P G.1 vwCl (wl g f_4) H → va_S (gA g) s.heap H locs → lv_has ls 6 [(0, .ref (g 7)), (1, .ref (g 36)), (2, .int n), (3, .int (nI a1 - 1)), (4, .int (nI i))] → W p l e (headSpec (wsT yX9_seek cX9_seek 6 none) ({ frames := 3, cells := 0, slots := 0, locals := 72 })).room s m ([.ref (g 7), .ref (g 36), .int n] : List Value).toArray below meth c H locs 0 0 (MQ below (bQv G g (fun (f' : Nat → va_E) => ∃ mn9 : Nat, ∃ le9 : Int32, ∃ wt9 : Nat → Int32, ∃ ww9 : Nat → Int32, ∃ wb9 : Nat → Int32, ∃ wf9 : Nat → Int32, f' 7 = eO 8 [.ref (g 8), .ref (g 9), .ref (g 10), .ref (g 11), .int (nI mn9), .int le9] ∧ f' 8 = eI G 6 wt9 ∧ f' 9 = eI G 6 ww9 ∧ f' 10 = eI G 6 wb9 ∧ f' 11 = eI G 6 wf9 ∧ (mn9 ≤ 6) ∧ (∃ (Lo : Option Nat) (Bo : Nat → Nat), mn9 = cnt n nt ∧ bsW (fun k => dd (whT n nt k)) (fun k => ee (whT n nt k)) (fun i k => mtB (fun t c => ct (70 * t + c)) (whT n nt i) (whT n nt k)) mn9 Lo Bo ∧ le9 = fo Lo ∧ (∀ l, Lo = some l → l ≤ 30) ∧ ∀ l, Lo = some l → ∀ k, k < mn9 → wb9 k = nI (Bo k)) ∧ ∀ j, (j < 7 ∨ 11 < j) → f' j = f j)) ([.ref (g 7), .ref (g 36), .int n] : List Value).toArray s 0 0 (gA g)) (F0 m 34 ls []) := by
      intro n9_4
      induction n9_4 with
      | zero => intro i a1 v w Lo Bo w1 bb1 f_4 H locs ls hi hst hlo hbo hn9_4; exact absurd hn9_4 (Nat.not_lt_zero _)
      | succ n9_4 ih_4 =>
        intro i a1 v w Lo Bo w1 bb1 f_4 H locs ls hi hst hlo hbo hn9_4 hwt hw8 hw9 hw10 hw11 hbk htr hct o_4 hP hS hl
        refine lv_iload hx hb dX9_seek_34 (lv_at hl 4 rfl) ?_
        refine lv_ldc (v := 1000000) hx hb hown (hts (.constant RX9 35 (1000000)) w_826) dX9_seek_36 ?_
        refine lv_icmp_ge (tgt := 166) hx hb dX9_seek_38 (by decide) (fun c_38 => ?_) (fun c_38 => ?_)
        · have k_38 : 1000000 ≤ i := (nI_leI (a := 1000000) (b := i) (by omega) (by omega)).mp c_38
          have hend : bsW (fun k => dd (whT n nt k)) (fun k => ee (whT n nt k)) (fun i k => mtB (fun t c => ct (70 * t + c)) (whT n nt i) (whT n nt k)) mn91 Lo Bo := by
            rcases hst with ⟨h9, _⟩ | ⟨a, rfl, ⟨hsa, _, _, hwv, _, hv6⟩, hms⟩
            · exact h9
            · exfalso
              have h9 := ms7_b (a := a) (v := v) (w := w) (by omega) (fun j hj => Nat.le_succ_of_le (hwv j hj).1) hv6
              omega
          exact W.vret hx hb hr (fun _ hT9 _ => ⟨⟨f_4, rfl, (⟨mn91, (fo Lo), wt92, w1, bb1, wf93, hwt, hw8, hw9, hw10, hw11, hg6, ⟨Lo, Bo, hgm, hend, rfl, hlo, hbo⟩, fun j hj => ((((o_4 j (by omega))).trans (o_3 j (by omega))).trans (o_2 j (by omega))).trans (o_1 j (by omega))⟩), by rw [hT9]; exact hP⟩, hS.F hT9⟩) hS.2.2 dX9_seek_166
        · have k_38 : ¬ 1000000 ≤ i := fun z9 => c_38 ((nI_leI (a := 1000000) (b := i) (by omega) (by omega)).mpr z9)
          refine lv_iload_n hx hb dX9_seek_41 rfl (lv_at hl 3 rfl) ?_
          refine lv_if_lt (tgt := 166) hx hb dX9_seek_42 (by decide) (fun c_42 => ?_) (fun c_42 => ?_)
          · have hend : bsW (fun k => dd (whT n nt k)) (fun k => ee (whT n nt k)) (fun i k => mtB (fun t c => ct (70 * t + c)) (whT n nt i) (whT n nt k)) mn91 Lo Bo := by
              rcases hst with ⟨h9, _⟩ | ⟨a, rfl, ⟨hsa, _, _, hwv, _, hv6⟩, hms⟩
              · exact h9
              · exfalso
                rw [nI_pred] at c_42
                exact absurd c_42 (Int32.not_lt.mpr (nI_pos9 (by omega)))
            exact W.vret hx hb hr (fun _ hT9 _ => ⟨⟨f_4, rfl, (⟨mn91, (fo Lo), wt92, w1, bb1, wf93, hwt, hw8, hw9, hw10, hw11, hg6, ⟨Lo, Bo, hgm, hend, rfl, hlo, hbo⟩, fun j hj => ((((o_4 j (by omega))).trans (o_3 j (by omega))).trans (o_2 j (by omega))).trans (o_1 j (by omega))⟩), by rw [hT9]; exact hP⟩, hS.F hT9⟩) hS.2.2 dX9_seek_166
          · refine lv_iload_n hx hb dX9_seek_45 rfl (lv_at hl 3 rfl) ?_
            refine lv_aload_n hx hb dX9_seek_46 rfl (lv_at hl 0 rfl) ?_
            refine va_get (D := G.1) (ci := 8) (v := .int (nI mn91)) (C := RX9) (T := TX9) (N := 6) hx hb hts inlX9 hown hG.1 hP 7 (wl_at (by decide) hwt) rfl 4 (by decide) (hts (.fieldLink RX9 24 "SwornLists$Waits" "many" "I") w_824) (fun _ h9 => h9) rfl dX9_seek_47 ?_
            refine lv_icmp_ge (tgt := 166) hx hb dX9_seek_50 (by decide) (fun c_50 => ?_) (fun c_50 => ?_)
            · have hend : bsW (fun k => dd (whT n nt k)) (fun k => ee (whT n nt k)) (fun i k => mtB (fun t c => ct (70 * t + c)) (whT n nt i) (whT n nt k)) mn91 Lo Bo := by
                rcases hst with ⟨h9, _⟩ | ⟨a, rfl, ⟨hsa, _, _, hwv, _, hv6⟩, hms⟩
                · exact h9
                · exfalso
                  rw [nI_pred] at c_50
                  exact absurd ((nI_leI (by omega) (by omega)).mp c_50) (by omega)
              exact W.vret hx hb hr (fun _ hT9 _ => ⟨⟨f_4, rfl, (⟨mn91, (fo Lo), wt92, w1, bb1, wf93, hwt, hw8, hw9, hw10, hw11, hg6, ⟨Lo, Bo, hgm, hend, rfl, hlo, hbo⟩, fun j hj => ((((o_4 j (by omega))).trans (o_3 j (by omega))).trans (o_2 j (by omega))).trans (o_1 j (by omega))⟩), by rw [hT9]; exact hP⟩, hS.F hT9⟩) hS.2.2 dX9_seek_166
            · have hs9 : ∃ a, a1 = a + 1 ∧ seS (fun k => dd (whT n nt k)) (fun k => ee (whT n nt k)) (fun i k => mtB (fun t c => ct (70 * t + c)) (whT n nt i) (whT n nt k)) mn91 Lo Bo a w v w1 ∧ i ≤ ms7 a w v := by
                rcases hst with ⟨_, h9, h8⟩ | h9
                · exfalso
                  rcases (show a1 = 0 ∨ a1 = 1 by omega) with e9 | e9
                  · exact c_42 (by rw [e9]; decide)
                  · rcases h9 with h9 | h9
                    · omega
                    · exact c_50 (by rw [e9, h9]; decide)
                · exact h9
              obtain ⟨a, rfl, ⟨hsa, hse, hok, hwv, hwa, hv6⟩, hms⟩ := hs9
              rw [nI_pred] at hl
              have hsmb := sm_b (w := w) a (fun j hj => (hwv j hj).1)
              have hww9 : ∀ k, k ≤ a → upd w1 a (nI v) k = nI (upN w a v k) ∧ upN w a v k ≤ 6 := fun k hk => if e9 : k = a then (by rw [e9, pk_us, upN_s]; exact ⟨rfl, hv6⟩) else (by rw [pk_un e9, upN_o e9]; exact ⟨(hwv k (by omega)).2, Nat.le_succ_of_le (hwv k (by omega)).1⟩)
              refine lv_aload_n hx hb dX9_seek_53 rfl (lv_at hl 0 rfl) ?_
              refine va_get (D := G.1) (ci := 8) (v := .ref (g 9)) (C := RX9) (T := TX9) (N := 6) hx hb hts inlX9 hown hG.1 hP 7 (wl_at (by decide) hwt) rfl 1 (by decide) (hts (.fieldLink RX9 15 "SwornLists$Waits" "waits" "[I") w_105) (fun _ h9 => h9) rfl dX9_seek_54 ?_
              refine lv_iload_n hx hb dX9_seek_57 rfl (lv_at hl 3 rfl) ?_
              refine lv_dup2_11 hx hb dX9_seek_58 rfl rfl ?_
              refine va_iald hx hb hG.1 hP 9 0 (wl_at (by decide) hw9) rfl (vp_in_nI (by omega) (by decide)) dX9_seek_59 ?_
              refine my_bei (v := w1 a) (congrArg w1 (nI_clamp (n := a) (by omega))) ?_
              refine lv_iconst (v := 1) hx hb dX9_seek_60 (by decide) ?_
              refine lv_iadd hx hb dX9_seek_61 ?_
              refine my_bei (v := nI v) (by rw [hwa]; exact Int32.sub_add_cancel _ _) ?_
              refine va_iast hx hb hG.1 hP (wl_D hg f_4) hS 9 0 (wl_at (by decide) hw9) rfl (vp_in_nI (by omega) (by decide)) dX9_seek_62 (fun H locs hP _ hS => ?_)
              have hP := (congrArg (fun z9 => va_P G.1 vwCl ((wl g f_4).set 9 (g 9, eI G 6 ((upd w1 z9 (nI v))))) H) (show Int32.toNatClampNeg (nI a) = a from nI_clamp (by omega))).mp hP
              obtain ⟨f_5, hP, e_5, o_5⟩ := b_put (by decide) hP
              have hw9 : f_5 9 = eI G 6 (upd w1 a (nI v)) := e_5
              refine lv_aload_n hx hb dX9_seek_63 rfl (lv_at hl 0 rfl) ?_
              refine lv_iload_n hx hb dX9_seek_64 rfl (lv_at hl 3 rfl) ?_
              have hwt : f_5 7 = eO 8 [.ref (g 8), .ref (g 9), .ref (g 10), .ref (g 11), .int (nI mn91), .int (fo Lo)] := ((o_5 7 (by decide))).trans hwt
              refine rd_calli (va_runV (As := [.int (nI a)]) (rest := []) ⟨hx, hb, hml, hown, hts⟩ (v_sumToE l G g hg f_5 mn91 (fo Lo) (upd w1 a (nI v)) a (upN w a v) hwt hw9 (by first | assumption | omega | decide) (by first | assumption | omega | decide) (hww9)) (my_cwV hts ok_X9_sumTo w_841 rfl rfl ⟨Nat.le_of_ble_eq_true rfl, Nat.le_of_ble_eq_true rfl⟩) ⟨bP.blind, va_recv hG.1 hP (ci := 8) (q0 := 7) rfl (wl_at (by decide) hwt), fun U hU hW => ⟨rfl, by rw [hU]; exact hP, kG.warm hW hG⟩⟩ rfl rfl hl.1 rfl (lv_room (Nat.le_of_ble_eq_true rfl)) dX9_seek_65 ⟨Nat.le_of_ble_eq_true rfl, Nat.le_of_ble_eq_true rfl⟩) (fun r hr9 => ?_)
              subst hr9
              refine my_bei (v := nI (smW w a + v)) (congrArg nI sm_up) ?_
              refine lv_istore (lv' := [(5, .int (nI (smW w a + v))), (0, .ref (g 7)), (1, .ref (g 36)), (2, .int n), (3, .int (nI a)), (4, .int (nI i))]) hx hb dX9_seek_68 hl (by decide) rfl (fun ls hl => ?_)
              refine lv_aload_n hx hb dX9_seek_70 rfl (lv_at hl 1 rfl) ?_
              refine va_get (D := G.1) (ci := 8) (v := .ref (g 9)) (C := RX9) (T := TX9) (N := 6) hx hb hts inlX9 hown hG.1 hP 7 (wl_at (by decide) hwt) rfl 1 (by decide) (hts (.fieldLink RX9 15 "SwornLists$Waits" "waits" "[I") w_105) (fun _ h9 => h9) rfl dX9_seek_71 ?_
              refine lv_iload_n hx hb dX9_seek_74 rfl (lv_at hl 4 rfl) ?_
              refine va_iald hx hb hG.1 hP 9 0 (wl_at (by decide) hw9) rfl (vp_in_nI (by omega) (by decide)) dX9_seek_75 ?_
              refine my_bei (v := (upd w1 a (nI v)) a) (congrArg (upd w1 a (nI v)) (nI_clamp (n := a) (by omega))) ?_
              refine my_bei (v := nI v) (pk_us) ?_
              refine lv_aload_n hx hb dX9_seek_76 rfl (lv_at hl 1 rfl) ?_
              refine lv_iload_n hx hb dX9_seek_77 rfl (lv_at hl 4 rfl) ?_
              by_cases hfz : wf93 a = 0
              · have hw11 : f_5 11 = eI G 6 wf93 := ((o_5 11 (by decide))).trans hw11
                refine rd_calli (va_runV (As := [.int (nI a)]) (rest := [.int (nI v)]) ⟨hx, hb, hml, hown, hts⟩ (v_longest0 l G g hg f_5 mn91 (fo Lo) wf93 a hwt hw11 (by first | assumption | omega | decide) (by first | assumption | omega | decide) (by first | assumption | omega | decide)) (my_cwV hts ok_X9_longestOf w_845 rfl rfl ⟨Nat.le_of_ble_eq_true rfl, Nat.le_of_ble_eq_true rfl⟩) ⟨bP.blind, va_recv hG.1 hP (ci := 8) (q0 := 7) rfl (wl_at (by decide) hwt), fun U hU hW => ⟨rfl, by rw [hU]; exact hP, kG.warm hW hG⟩⟩ rfl rfl hl.1 rfl (lv_room (Nat.le_of_ble_eq_true rfl)) dX9_seek_78 ⟨Nat.le_of_ble_eq_true rfl, Nat.le_of_ble_eq_true rfl⟩) (fun r hr9 => ?_)
                subst hr9
                refine lv_icmp_gt (tgt := 101) hx hb dX9_seek_81 (by decide) (fun c_81 => ?_) (fun c_81 => ?_)
                · have k_81 : 0 < v := (nI_ltI (a := 0) (b := v) (by omega) (by omega)).mp c_81
                  refine lv_iinc (v := nI a - 1) (lv' := [(3, .int (nI a - 1)), (5, .int (nI (smW w a + v))), (0, .ref (g 7)), (1, .ref (g 36)), (2, .int n), (4, .int (nI i))]) hx hb dX9_seek_101 hl (k := 4) rfl (m1_sub _) (by decide) rfl (fun ls hl => ?_)
                  refine lv_goto (tgt := 160) hx hb dX9_seek_104 (by decide) ?_
                  refine lv_iinc (v := nI (i + 1)) (lv' := [(4, .int (nI (i + 1))), (3, .int (nI a - 1)), (5, .int (nI (smW w a + v))), (0, .ref (g 7)), (1, .ref (g 36)), (2, .int n)]) hx hb dX9_seek_160 hl (k := 5) rfl (nI_add i 1) (by decide) rfl (fun ls hl => ?_)
                  refine lv_goto (tgt := 34) hx hb dX9_seek_163 (by decide) ?_
                  have hw8 : f_5 8 = eI G 6 wt92 := ((o_5 8 (by decide))).trans hw8
                  have hw10 : f_5 10 = eI G 6 bb1 := ((o_5 10 (by decide))).trans hw10
                  have hbk : f_5 36 = eO 0 [.ref (g 37), .ref (g 39), .ref (g 41), .ref (g 43), .ref (g 45), .ref (g 47), .ref (g 112), .int pay, .int fine] := ((o_5 36 (by decide))).trans hbk
                  have htr : f_5 45 = eO 5 [.int (nI 10), .int (nI 70), .ref (g 46), .int (nI nt)] := ((o_5 45 (by decide))).trans htr
                  have hct : f_5 46 = eI G (10 * 70) ct := ((o_5 46 (by decide))).trans hct
                  exact ih_4 (i + 1) a (w (a - 1) + 1) w Lo Bo (upd w1 a (nI v)) bb1 f_5 _ _ _ (by omega) (seT_back hse hsa (by omega) hok (fun j hj => ⟨(hwv j hj).1, (pk_un (by omega)).trans (hwv j hj).2⟩) hv6 hms (fun x r o hx hv => hd_free hse hsa (by omega) (foV_z hgo hsa hfz) r o hx hv)) (hlo) (hbo) (by omega) (hwt) (hw8) (hw9) (hw10) (hw11) (hbk) (htr) (hct) (fun j hj => ((o_5 j (by omega))).trans (o_4 j (by omega))) hP hS (lv_sub hl [3, 4, 5, 1, 0] rfl)
                · have k_81 : ¬ 0 < v := fun z9 => c_81 ((nI_ltI (a := 0) (b := v) (by omega) (by omega)).mpr z9)
                  refine lv_aload_n hx hb dX9_seek_84 rfl (lv_at hl 1 rfl) ?_
                  refine va_get (D := G.1) (ci := 8) (v := .int (fo Lo)) (C := RX9) (T := TX9) (N := 6) hx hb hts inlX9 hown hG.1 hP 7 (wl_at (by decide) hwt) rfl 5 (by decide) (hts (.fieldLink RX9 32 "SwornLists$Waits" "leastSum" "I") w_825) (fun _ h9 => h9) rfl dX9_seek_85 ?_
                  refine lv_iconst (v := (-1)) hx hb dX9_seek_88 (by decide) ?_
                  refine lv_icmp_eq (tgt := 107) hx hb dX9_seek_89 (by decide) (fun c_89 => ?_) (fun c_89 => ?_)
                  · have hv5 : v ≤ 5 := by omega
                    refine lv_aload_n hx hb dX9_seek_107 rfl (lv_at hl 1 rfl) ?_
                    refine lv_aload_n hx hb dX9_seek_108 rfl (lv_at hl 2 rfl) ?_
                    refine lv_iload_n hx hb dX9_seek_109 rfl (lv_at hl 4 rfl) ?_
                    have hw8 : f_5 8 = eI G 6 wt92 := ((o_5 8 (by decide))).trans hw8
                    have hbk : f_5 36 = eO 0 [.ref (g 37), .ref (g 39), .ref (g 41), .ref (g 43), .ref (g 45), .ref (g 47), .ref (g 112), .int pay, .int fine] := ((o_5 36 (by decide))).trans hbk
                    have htr : f_5 45 = eO 5 [.int (nI 10), .int (nI 70), .ref (g 46), .int (nI nt)] := ((o_5 45 (by decide))).trans htr
                    have hct : f_5 46 = eI G (10 * 70) ct := ((o_5 46 (by decide))).trans hct
                    refine rd_calli (va_runV (As := [.ref (g 36), .int (nI a)]) (rest := []) ⟨hx, hb, hml, hown, hts⟩ (v_fitsE l G g hg f_5 mn91 (fo Lo) wt92 (upd w1 a (nI v)) wf93 pay fine nt ct dd ee (whT n nt) (upN w a v) a hwt hw8 hw9 hw11 hbk htr hct (by first | assumption | omega | decide) (by first | assumption | omega | decide) (by first | assumption | omega | decide) (hgw) (hww9) (hgo) (hde)) (my_cwV hts ok_X9_fits w_849 rfl rfl ⟨Nat.le_of_ble_eq_true rfl, Nat.le_of_ble_eq_true rfl⟩) ⟨bP.blind, va_recv hG.1 hP (ci := 8) (q0 := 7) rfl (wl_at (by decide) hwt), fun U hU hW => ⟨rfl, by rw [hU]; exact hP, kG.warm hW hG⟩⟩ rfl rfl hl.1 rfl (lv_room (Nat.le_of_ble_eq_true rfl)) dX9_seek_110 ⟨Nat.le_of_ble_eq_true rfl, Nat.le_of_ble_eq_true rfl⟩) (fun r hr9 => ?_)
                    obtain ⟨bz5, rfl, hx_6_0, hx_6_1⟩ := hr9
                    refine my_ifeq (tgt := 160) hx hb dX9_seek_113 (by decide) (fun c_113 => ?_) (fun c_113 => ?_)
                    · rw [← nI_pred a] at hl
                      refine lv_iinc (v := nI (i + 1)) (lv' := [(4, .int (nI (i + 1))), (5, .int (nI (smW w a + v))), (0, .ref (g 7)), (1, .ref (g 36)), (2, .int n), (3, .int (nI (a + 1) - 1))]) hx hb dX9_seek_160 hl (k := 5) rfl (nI_add i 1) (by decide) rfl (fun ls hl => ?_)
                      refine lv_goto (tgt := 34) hx hb dX9_seek_163 (by decide) ?_
                      have hw10 : f_5 10 = eI G 6 bb1 := ((o_5 10 (by decide))).trans hw10
                      exact ih_4 (i + 1) (a + 1) (v + 1) w Lo Bo (upd w1 a (nI v)) bb1 f_5 _ _ _ (by omega) (seT_unfit hse hsa hok (fun j hj => ⟨(hwv j hj).1, (pk_un (by omega)).trans (hwv j hj).2⟩) pk_us hv5 hms (hx_6_1 (eq_false_of_ne_true c_113))) (hlo) (hbo) (by omega) (hwt) (hw8) (hw9) (hw10) (hw11) (hbk) (htr) (hct) (fun j hj => ((o_5 j (by omega))).trans (o_4 j (by omega))) hP hS (lv_sub hl [2, 3, 4, 5, 0] rfl)
                    · refine lv_iload_n hx hb dX9_seek_116 rfl (lv_at hl 4 rfl) ?_
                      refine lv_aload_n hx hb dX9_seek_117 rfl (lv_at hl 1 rfl) ?_
                      refine va_get (D := G.1) (ci := 8) (v := .int (nI mn91)) (C := RX9) (T := TX9) (N := 6) hx hb hts inlX9 hown hG.1 hP 7 (wl_at (by decide) hwt) rfl 4 (by decide) (hts (.fieldLink RX9 24 "SwornLists$Waits" "many" "I") w_824) (fun _ h9 => h9) rfl dX9_seek_118 ?_
                      refine lv_iconst (v := 1) hx hb dX9_seek_121 (by decide) ?_
                      refine lv_isub hx hb dX9_seek_122 ?_
                      refine my_bei (v := nI (mn91 - 1)) (pk_sub (a := mn91) (b := 1) (by omega)) ?_
                      refine lv_icmp_ne (tgt := 150) hx hb dX9_seek_123 (by decide) (fun c_123 => ?_) (fun c_123 => ?_)
                      · have k_123 : ¬ a = mn91 - 1 := fun z9 => c_123 ((nI_eq (a := a) (b := mn91 - 1) (by omega) (by omega)).mpr z9)
                        refine lv_iinc (v := nI (a + 1)) (lv' := [(3, .int (nI (a + 1))), (5, .int (nI (smW w a + v))), (0, .ref (g 7)), (1, .ref (g 36)), (2, .int n), (4, .int (nI i))]) hx hb dX9_seek_150 hl (k := 4) rfl (nI_add a 1) (by decide) rfl (fun ls hl => ?_)
                        refine lv_aload_n hx hb dX9_seek_153 rfl (lv_at hl 2 rfl) ?_
                        refine va_get (D := G.1) (ci := 8) (v := .ref (g 9)) (C := RX9) (T := TX9) (N := 6) hx hb hts inlX9 hown hG.1 hP 7 (wl_at (by decide) hwt) rfl 1 (by decide) (hts (.fieldLink RX9 15 "SwornLists$Waits" "waits" "[I") w_105) (fun _ h9 => h9) rfl dX9_seek_154 ?_
                        refine lv_iload_n hx hb dX9_seek_157 rfl (lv_at hl 0 rfl) ?_
                        refine lv_iconst (v := (-1)) hx hb dX9_seek_158 (by decide) ?_
                        refine va_iast hx hb hG.1 hP (wl_D hg f_5) hS 9 0 (wl_at (by decide) hw9) rfl (vp_in_nI (by omega) (by decide)) dX9_seek_159 (fun H locs hP _ hS => ?_)
                        have hP := (congrArg (fun z9 => va_P G.1 vwCl ((wl g f_5).set 9 (g 9, eI G 6 ((upd (upd w1 a (nI v)) z9 (-1))))) H) (show Int32.toNatClampNeg (nI (a + 1)) = a + 1 from nI_clamp (by omega))).mp hP
                        obtain ⟨f_7, hP, e_7, o_7⟩ := b_put (by decide) hP
                        have hw9 : f_7 9 = eI G 6 (upd (upd w1 a (nI v)) (a + 1) (-1)) := e_7
                        rw [← nI_pred (a + 1)] at hl
                        refine lv_iinc (v := nI (i + 1)) (lv' := [(4, .int (nI (i + 1))), (3, .int (nI (a + 1 + 1) - 1)), (5, .int (nI (smW w a + v))), (0, .ref (g 7)), (1, .ref (g 36)), (2, .int n)]) hx hb dX9_seek_160 hl (k := 5) rfl (nI_add i 1) (by decide) rfl (fun ls hl => ?_)
                        refine lv_goto (tgt := 34) hx hb dX9_seek_163 (by decide) ?_
                        have hwt : f_7 7 = eO 8 [.ref (g 8), .ref (g 9), .ref (g 10), .ref (g 11), .int (nI mn91), .int (fo Lo)] := ((o_7 7 (by decide))).trans hwt
                        have hw8 : f_7 8 = eI G 6 wt92 := ((o_7 8 (by decide))).trans hw8
                        have hw10 : f_7 10 = eI G 6 bb1 := ((o_7 10 (by decide)).trans ((o_5 10 (by decide)))).trans hw10
                        have hw11 : f_7 11 = eI G 6 wf93 := ((o_7 11 (by decide))).trans hw11
                        have hbk : f_7 36 = eO 0 [.ref (g 37), .ref (g 39), .ref (g 41), .ref (g 43), .ref (g 45), .ref (g 47), .ref (g 112), .int pay, .int fine] := ((o_7 36 (by decide))).trans hbk
                        have htr : f_7 45 = eO 5 [.int (nI 10), .int (nI 70), .ref (g 46), .int (nI nt)] := ((o_7 45 (by decide))).trans htr
                        have hct : f_7 46 = eI G (10 * 70) ct := ((o_7 46 (by decide))).trans hct
                        exact ih_4 (i + 1) (a + 1 + 1) 0 (upN w a v) Lo Bo (upd (upd w1 a (nI v)) (a + 1) (-1)) bb1 f_7 _ _ _ (by omega) (seT_dn hse (by omega) hok (fun j hj => ⟨(hwv j hj).1, (pk_un (by omega)).trans ((pk_un (by omega)).trans (hwv j hj).2)⟩) ((pk_un (by omega)).trans pk_us) pk_us hv5 hms (hx_6_0 c_113)) (hlo) (hbo) (by omega) (hwt) (hw8) (hw9) (hw10) (hw11) (hbk) (htr) (hct) (fun j hj => (((o_7 j (by omega))).trans (o_5 j (by omega))).trans (o_4 j (by omega))) hP hS (lv_sub hl [3, 4, 5, 1, 0] rfl)
                      · have k_123 : a = mn91 - 1 := (nI_eq (a := a) (b := mn91 - 1) (by omega) (by omega)).mp c_123
                        refine lv_aload_n hx hb dX9_seek_126 rfl (lv_at hl 1 rfl) ?_
                        refine lv_iload hx hb dX9_seek_127 (lv_at hl 0 rfl) ?_
                        refine va_put (D := G.1) (ci := 8) (v := .int (nI (smW w a + v))) (ty := .int) (C := RX9) (T := TX9) (N := 6) hx hb hts inlX9 tyX9 tyX9_ok nmX9 hown hG.1 hP (wl_D hg f_5) hS 7 (wl_at (by decide) hwt) rfl 5 (by decide) (hts (.fieldLink RX9 32 "SwornLists$Waits" "leastSum" "I") w_825) (fun _ h9 => h9) rfl (by decide +kernel) rfl rfl (Nat.le_of_ble_eq_true rfl) dX9_seek_129 (fun H locs hP _ hS => ?_)
                        obtain ⟨f_8, hP, e_8, o_8⟩ := b_put (by decide) hP
                        have hwt : f_8 7 = eO 8 [.ref (g 8), .ref (g 9), .ref (g 10), .ref (g 11), .int (nI mn91), .int (nI (smW w a + v))] := e_8
                        refine lv_aload_n hx hb dX9_seek_132 rfl (lv_at hl 1 rfl) ?_
                        refine va_get (D := G.1) (ci := 8) (v := .ref (g 9)) (C := RX9) (T := TX9) (N := 6) hx hb hts inlX9 hown hG.1 hP 7 (wl_at (by decide) hwt) rfl 1 (by decide) (hts (.fieldLink RX9 15 "SwornLists$Waits" "waits" "[I") w_105) (fun _ h9 => h9) rfl dX9_seek_133 ?_
                        refine lv_iconst (v := 0) hx hb dX9_seek_136 (by decide) ?_
                        refine lv_aload_n hx hb dX9_seek_137 rfl (lv_at hl 1 rfl) ?_
                        refine va_get (D := G.1) (ci := 8) (v := .ref (g 10)) (C := RX9) (T := TX9) (N := 6) hx hb hts inlX9 hown hG.1 hP 7 (wl_at (by decide) hwt) rfl 2 (by decide) (hts (.fieldLink RX9 18 "SwornLists$Waits" "best" "[I") w_106) (fun _ h9 => h9) rfl dX9_seek_138 ?_
                        refine lv_iconst (v := 0) hx hb dX9_seek_141 (by decide) ?_
                        refine lv_bipush (v := 6) hx hb dX9_seek_142 (by decide) ?_
                        have hw9 : f_8 9 = eI G 6 (upd w1 a (nI v)) := ((o_8 9 (by decide))).trans hw9
                        have hw10 : f_8 10 = eI G 6 bb1 := ((o_8 10 (by decide)).trans ((o_5 10 (by decide)))).trans hw10
                        refine va_copyi hx hb (by rw [hml]; exact hl.1.symm) hown (hts (.methodLink RX9 47 arraycopyName) w_827) (hts (.native arraycopyName) w_599) (hts (.static arraycopyName) w_600) (hts (.initialized "java/lang/System") w_601) hG.1 hP (wl_D hg f_8) hS 9 10 0 0 (wl_at (by decide) hw9) (wl_at (by decide) hw10) rfl rfl rfl (by decide) (by decide) (by decide) (by decide) (by decide) (fun _ _ => rfl) (Nat.le_of_ble_eq_true rfl) (Nat.le_of_ble_eq_true rfl) dX9_seek_144 (fun H locs hP _ hS => ?_)
                        obtain ⟨f_9, hP, e_9, o_9⟩ := b_put (by decide) hP
                        have hw10 : f_9 10 = eI G 6 (va_cpy (upd w1 a (nI v)) bb1 (Int32.toNatClampNeg 0) (Int32.toNatClampNeg 0) (Int32.toNatClampNeg 6)) := e_9
                        refine lv_goto (tgt := 160) hx hb dX9_seek_147 (by decide) ?_
                        rw [← nI_pred a] at hl
                        refine lv_iinc (v := nI (i + 1)) (lv' := [(4, .int (nI (i + 1))), (5, .int (nI (smW w a + v))), (0, .ref (g 7)), (1, .ref (g 36)), (2, .int n), (3, .int (nI (a + 1) - 1))]) hx hb dX9_seek_160 hl (k := 5) rfl (nI_add i 1) (by decide) rfl (fun ls hl => ?_)
                        refine lv_goto (tgt := 34) hx hb dX9_seek_163 (by decide) ?_
                        have hwt : f_9 7 = eO 8 [.ref (g 8), .ref (g 9), .ref (g 10), .ref (g 11), .int (nI mn91), .int (nI (smW w a + v))] := ((o_9 7 (by decide))).trans hwt
                        have hw8 : f_9 8 = eI G 6 wt92 := ((o_9 8 (by decide)).trans ((o_8 8 (by decide)))).trans hw8
                        have hw9 : f_9 9 = eI G 6 (upd w1 a (nI v)) := ((o_9 9 (by decide))).trans hw9
                        have hw11 : f_9 11 = eI G 6 wf93 := ((o_9 11 (by decide)).trans ((o_8 11 (by decide)))).trans hw11
                        have hbk : f_9 36 = eO 0 [.ref (g 37), .ref (g 39), .ref (g 41), .ref (g 43), .ref (g 45), .ref (g 47), .ref (g 112), .int pay, .int fine] := ((o_9 36 (by decide)).trans ((o_8 36 (by decide)))).trans hbk
                        have htr : f_9 45 = eO 5 [.int (nI 10), .int (nI 70), .ref (g 46), .int (nI nt)] := ((o_9 45 (by decide)).trans ((o_8 45 (by decide)))).trans htr
                        have hct : f_9 46 = eI G (10 * 70) ct := ((o_9 46 (by decide)).trans ((o_8 46 (by decide)))).trans hct
                        exact ih_4 (i + 1) (a + 1) (v + 1) w (some (smW w a + v)) (upN w a v) (upd w1 a (nI v)) (va_cpy (upd w1 a (nI v)) bb1 (Int32.toNatClampNeg 0) (Int32.toNatClampNeg 0) (Int32.toNatClampNeg 6)) f_9 _ _ _ (by omega) (seT_new hse (by omega) hok (fun j hj => ⟨(hwv j hj).1, (pk_un (by omega)).trans (hwv j hj).2⟩) pk_us hv5 hms (hx_6_0 c_113) (fo_ltN (Or.inl c_89) hlo (by omega)) (fun _ _ => rfl)) (fun l hl => by cases hl; omega) (fun l hl k hk => (cpy_all (N := 6) (by decide) k (by omega)).trans (hww9 k (by omega)).1) (by omega) (hwt) (hw8) (hw9) (hw10) (hw11) (hbk) (htr) (hct) (fun j hj => ((((o_9 j (by omega))).trans (o_8 j (by omega))).trans (o_5 j (by omega))).trans (o_4 j (by omega))) hP hS (lv_sub hl [2, 3, 4, 5, 0] rfl)
                  · refine lv_iload hx hb dX9_seek_92 (lv_at hl 0 rfl) ?_
                    refine lv_aload_n hx hb dX9_seek_94 rfl (lv_at hl 1 rfl) ?_
                    refine va_get (D := G.1) (ci := 8) (v := .int (fo Lo)) (C := RX9) (T := TX9) (N := 6) hx hb hts inlX9 hown hG.1 hP 7 (wl_at (by decide) hwt) rfl 5 (by decide) (hts (.fieldLink RX9 32 "SwornLists$Waits" "leastSum" "I") w_825) (fun _ h9 => h9) rfl dX9_seek_95 ?_
                    refine lv_icmp_lt (tgt := 107) hx hb dX9_seek_98 (by decide) (fun c_98 => ?_) (fun c_98 => ?_)
                    · have hv5 : v ≤ 5 := by omega
                      refine lv_aload_n hx hb dX9_seek_107 rfl (lv_at hl 1 rfl) ?_
                      refine lv_aload_n hx hb dX9_seek_108 rfl (lv_at hl 2 rfl) ?_
                      refine lv_iload_n hx hb dX9_seek_109 rfl (lv_at hl 4 rfl) ?_
                      have hw8 : f_5 8 = eI G 6 wt92 := ((o_5 8 (by decide))).trans hw8
                      have hbk : f_5 36 = eO 0 [.ref (g 37), .ref (g 39), .ref (g 41), .ref (g 43), .ref (g 45), .ref (g 47), .ref (g 112), .int pay, .int fine] := ((o_5 36 (by decide))).trans hbk
                      have htr : f_5 45 = eO 5 [.int (nI 10), .int (nI 70), .ref (g 46), .int (nI nt)] := ((o_5 45 (by decide))).trans htr
                      have hct : f_5 46 = eI G (10 * 70) ct := ((o_5 46 (by decide))).trans hct
                      refine rd_calli (va_runV (As := [.ref (g 36), .int (nI a)]) (rest := []) ⟨hx, hb, hml, hown, hts⟩ (v_fitsE l G g hg f_5 mn91 (fo Lo) wt92 (upd w1 a (nI v)) wf93 pay fine nt ct dd ee (whT n nt) (upN w a v) a hwt hw8 hw9 hw11 hbk htr hct (by first | assumption | omega | decide) (by first | assumption | omega | decide) (by first | assumption | omega | decide) (hgw) (hww9) (hgo) (hde)) (my_cwV hts ok_X9_fits w_849 rfl rfl ⟨Nat.le_of_ble_eq_true rfl, Nat.le_of_ble_eq_true rfl⟩) ⟨bP.blind, va_recv hG.1 hP (ci := 8) (q0 := 7) rfl (wl_at (by decide) hwt), fun U hU hW => ⟨rfl, by rw [hU]; exact hP, kG.warm hW hG⟩⟩ rfl rfl hl.1 rfl (lv_room (Nat.le_of_ble_eq_true rfl)) dX9_seek_110 ⟨Nat.le_of_ble_eq_true rfl, Nat.le_of_ble_eq_true rfl⟩) (fun r hr9 => ?_)
                      obtain ⟨bz6, rfl, hx_10_0, hx_10_1⟩ := hr9
                      refine my_ifeq (tgt := 160) hx hb dX9_seek_113 (by decide) (fun c_113 => ?_) (fun c_113 => ?_)
                      · rw [← nI_pred a] at hl
                        refine lv_iinc (v := nI (i + 1)) (lv' := [(4, .int (nI (i + 1))), (5, .int (nI (smW w a + v))), (0, .ref (g 7)), (1, .ref (g 36)), (2, .int n), (3, .int (nI (a + 1) - 1))]) hx hb dX9_seek_160 hl (k := 5) rfl (nI_add i 1) (by decide) rfl (fun ls hl => ?_)
                        refine lv_goto (tgt := 34) hx hb dX9_seek_163 (by decide) ?_
                        have hw10 : f_5 10 = eI G 6 bb1 := ((o_5 10 (by decide))).trans hw10
                        exact ih_4 (i + 1) (a + 1) (v + 1) w Lo Bo (upd w1 a (nI v)) bb1 f_5 _ _ _ (by omega) (seT_unfit hse hsa hok (fun j hj => ⟨(hwv j hj).1, (pk_un (by omega)).trans (hwv j hj).2⟩) pk_us hv5 hms (hx_10_1 (eq_false_of_ne_true c_113))) (hlo) (hbo) (by omega) (hwt) (hw8) (hw9) (hw10) (hw11) (hbk) (htr) (hct) (fun j hj => ((o_5 j (by omega))).trans (o_4 j (by omega))) hP hS (lv_sub hl [2, 3, 4, 5, 0] rfl)
                      · refine lv_iload_n hx hb dX9_seek_116 rfl (lv_at hl 4 rfl) ?_
                        refine lv_aload_n hx hb dX9_seek_117 rfl (lv_at hl 1 rfl) ?_
                        refine va_get (D := G.1) (ci := 8) (v := .int (nI mn91)) (C := RX9) (T := TX9) (N := 6) hx hb hts inlX9 hown hG.1 hP 7 (wl_at (by decide) hwt) rfl 4 (by decide) (hts (.fieldLink RX9 24 "SwornLists$Waits" "many" "I") w_824) (fun _ h9 => h9) rfl dX9_seek_118 ?_
                        refine lv_iconst (v := 1) hx hb dX9_seek_121 (by decide) ?_
                        refine lv_isub hx hb dX9_seek_122 ?_
                        refine my_bei (v := nI (mn91 - 1)) (pk_sub (a := mn91) (b := 1) (by omega)) ?_
                        refine lv_icmp_ne (tgt := 150) hx hb dX9_seek_123 (by decide) (fun c_123 => ?_) (fun c_123 => ?_)
                        · have k_123 : ¬ a = mn91 - 1 := fun z9 => c_123 ((nI_eq (a := a) (b := mn91 - 1) (by omega) (by omega)).mpr z9)
                          refine lv_iinc (v := nI (a + 1)) (lv' := [(3, .int (nI (a + 1))), (5, .int (nI (smW w a + v))), (0, .ref (g 7)), (1, .ref (g 36)), (2, .int n), (4, .int (nI i))]) hx hb dX9_seek_150 hl (k := 4) rfl (nI_add a 1) (by decide) rfl (fun ls hl => ?_)
                          refine lv_aload_n hx hb dX9_seek_153 rfl (lv_at hl 2 rfl) ?_
                          refine va_get (D := G.1) (ci := 8) (v := .ref (g 9)) (C := RX9) (T := TX9) (N := 6) hx hb hts inlX9 hown hG.1 hP 7 (wl_at (by decide) hwt) rfl 1 (by decide) (hts (.fieldLink RX9 15 "SwornLists$Waits" "waits" "[I") w_105) (fun _ h9 => h9) rfl dX9_seek_154 ?_
                          refine lv_iload_n hx hb dX9_seek_157 rfl (lv_at hl 0 rfl) ?_
                          refine lv_iconst (v := (-1)) hx hb dX9_seek_158 (by decide) ?_
                          refine va_iast hx hb hG.1 hP (wl_D hg f_5) hS 9 0 (wl_at (by decide) hw9) rfl (vp_in_nI (by omega) (by decide)) dX9_seek_159 (fun H locs hP _ hS => ?_)
                          have hP := (congrArg (fun z9 => va_P G.1 vwCl ((wl g f_5).set 9 (g 9, eI G 6 ((upd (upd w1 a (nI v)) z9 (-1))))) H) (show Int32.toNatClampNeg (nI (a + 1)) = a + 1 from nI_clamp (by omega))).mp hP
                          obtain ⟨f_11, hP, e_11, o_11⟩ := b_put (by decide) hP
                          have hw9 : f_11 9 = eI G 6 (upd (upd w1 a (nI v)) (a + 1) (-1)) := e_11
                          rw [← nI_pred (a + 1)] at hl
                          refine lv_iinc (v := nI (i + 1)) (lv' := [(4, .int (nI (i + 1))), (3, .int (nI (a + 1 + 1) - 1)), (5, .int (nI (smW w a + v))), (0, .ref (g 7)), (1, .ref (g 36)), (2, .int n)]) hx hb dX9_seek_160 hl (k := 5) rfl (nI_add i 1) (by decide) rfl (fun ls hl => ?_)
                          refine lv_goto (tgt := 34) hx hb dX9_seek_163 (by decide) ?_
                          have hwt : f_11 7 = eO 8 [.ref (g 8), .ref (g 9), .ref (g 10), .ref (g 11), .int (nI mn91), .int (fo Lo)] := ((o_11 7 (by decide))).trans hwt
                          have hw8 : f_11 8 = eI G 6 wt92 := ((o_11 8 (by decide))).trans hw8
                          have hw10 : f_11 10 = eI G 6 bb1 := ((o_11 10 (by decide)).trans ((o_5 10 (by decide)))).trans hw10
                          have hw11 : f_11 11 = eI G 6 wf93 := ((o_11 11 (by decide))).trans hw11
                          have hbk : f_11 36 = eO 0 [.ref (g 37), .ref (g 39), .ref (g 41), .ref (g 43), .ref (g 45), .ref (g 47), .ref (g 112), .int pay, .int fine] := ((o_11 36 (by decide))).trans hbk
                          have htr : f_11 45 = eO 5 [.int (nI 10), .int (nI 70), .ref (g 46), .int (nI nt)] := ((o_11 45 (by decide))).trans htr
                          have hct : f_11 46 = eI G (10 * 70) ct := ((o_11 46 (by decide))).trans hct
                          exact ih_4 (i + 1) (a + 1 + 1) 0 (upN w a v) Lo Bo (upd (upd w1 a (nI v)) (a + 1) (-1)) bb1 f_11 _ _ _ (by omega) (seT_dn hse (by omega) hok (fun j hj => ⟨(hwv j hj).1, (pk_un (by omega)).trans ((pk_un (by omega)).trans (hwv j hj).2)⟩) ((pk_un (by omega)).trans pk_us) pk_us hv5 hms (hx_10_0 c_113)) (hlo) (hbo) (by omega) (hwt) (hw8) (hw9) (hw10) (hw11) (hbk) (htr) (hct) (fun j hj => (((o_11 j (by omega))).trans (o_5 j (by omega))).trans (o_4 j (by omega))) hP hS (lv_sub hl [3, 4, 5, 1, 0] rfl)
                        · have k_123 : a = mn91 - 1 := (nI_eq (a := a) (b := mn91 - 1) (by omega) (by omega)).mp c_123
                          refine lv_aload_n hx hb dX9_seek_126 rfl (lv_at hl 1 rfl) ?_
                          refine lv_iload hx hb dX9_seek_127 (lv_at hl 0 rfl) ?_
                          refine va_put (D := G.1) (ci := 8) (v := .int (nI (smW w a + v))) (ty := .int) (C := RX9) (T := TX9) (N := 6) hx hb hts inlX9 tyX9 tyX9_ok nmX9 hown hG.1 hP (wl_D hg f_5) hS 7 (wl_at (by decide) hwt) rfl 5 (by decide) (hts (.fieldLink RX9 32 "SwornLists$Waits" "leastSum" "I") w_825) (fun _ h9 => h9) rfl (by decide +kernel) rfl rfl (Nat.le_of_ble_eq_true rfl) dX9_seek_129 (fun H locs hP _ hS => ?_)
                          obtain ⟨f_12, hP, e_12, o_12⟩ := b_put (by decide) hP
                          have hwt : f_12 7 = eO 8 [.ref (g 8), .ref (g 9), .ref (g 10), .ref (g 11), .int (nI mn91), .int (nI (smW w a + v))] := e_12
                          refine lv_aload_n hx hb dX9_seek_132 rfl (lv_at hl 1 rfl) ?_
                          refine va_get (D := G.1) (ci := 8) (v := .ref (g 9)) (C := RX9) (T := TX9) (N := 6) hx hb hts inlX9 hown hG.1 hP 7 (wl_at (by decide) hwt) rfl 1 (by decide) (hts (.fieldLink RX9 15 "SwornLists$Waits" "waits" "[I") w_105) (fun _ h9 => h9) rfl dX9_seek_133 ?_
                          refine lv_iconst (v := 0) hx hb dX9_seek_136 (by decide) ?_
                          refine lv_aload_n hx hb dX9_seek_137 rfl (lv_at hl 1 rfl) ?_
                          refine va_get (D := G.1) (ci := 8) (v := .ref (g 10)) (C := RX9) (T := TX9) (N := 6) hx hb hts inlX9 hown hG.1 hP 7 (wl_at (by decide) hwt) rfl 2 (by decide) (hts (.fieldLink RX9 18 "SwornLists$Waits" "best" "[I") w_106) (fun _ h9 => h9) rfl dX9_seek_138 ?_
                          refine lv_iconst (v := 0) hx hb dX9_seek_141 (by decide) ?_
                          refine lv_bipush (v := 6) hx hb dX9_seek_142 (by decide) ?_
                          have hw9 : f_12 9 = eI G 6 (upd w1 a (nI v)) := ((o_12 9 (by decide))).trans hw9
                          have hw10 : f_12 10 = eI G 6 bb1 := ((o_12 10 (by decide)).trans ((o_5 10 (by decide)))).trans hw10
                          refine va_copyi hx hb (by rw [hml]; exact hl.1.symm) hown (hts (.methodLink RX9 47 arraycopyName) w_827) (hts (.native arraycopyName) w_599) (hts (.static arraycopyName) w_600) (hts (.initialized "java/lang/System") w_601) hG.1 hP (wl_D hg f_12) hS 9 10 0 0 (wl_at (by decide) hw9) (wl_at (by decide) hw10) rfl rfl rfl (by decide) (by decide) (by decide) (by decide) (by decide) (fun _ _ => rfl) (Nat.le_of_ble_eq_true rfl) (Nat.le_of_ble_eq_true rfl) dX9_seek_144 (fun H locs hP _ hS => ?_)
                          obtain ⟨f_13, hP, e_13, o_13⟩ := b_put (by decide) hP
                          have hw10 : f_13 10 = eI G 6 (va_cpy (upd w1 a (nI v)) bb1 (Int32.toNatClampNeg 0) (Int32.toNatClampNeg 0) (Int32.toNatClampNeg 6)) := e_13
                          refine lv_goto (tgt := 160) hx hb dX9_seek_147 (by decide) ?_
                          rw [← nI_pred a] at hl
                          refine lv_iinc (v := nI (i + 1)) (lv' := [(4, .int (nI (i + 1))), (5, .int (nI (smW w a + v))), (0, .ref (g 7)), (1, .ref (g 36)), (2, .int n), (3, .int (nI (a + 1) - 1))]) hx hb dX9_seek_160 hl (k := 5) rfl (nI_add i 1) (by decide) rfl (fun ls hl => ?_)
                          refine lv_goto (tgt := 34) hx hb dX9_seek_163 (by decide) ?_
                          have hwt : f_13 7 = eO 8 [.ref (g 8), .ref (g 9), .ref (g 10), .ref (g 11), .int (nI mn91), .int (nI (smW w a + v))] := ((o_13 7 (by decide))).trans hwt
                          have hw8 : f_13 8 = eI G 6 wt92 := ((o_13 8 (by decide)).trans ((o_12 8 (by decide)))).trans hw8
                          have hw9 : f_13 9 = eI G 6 (upd w1 a (nI v)) := ((o_13 9 (by decide))).trans hw9
                          have hw11 : f_13 11 = eI G 6 wf93 := ((o_13 11 (by decide)).trans ((o_12 11 (by decide)))).trans hw11
                          have hbk : f_13 36 = eO 0 [.ref (g 37), .ref (g 39), .ref (g 41), .ref (g 43), .ref (g 45), .ref (g 47), .ref (g 112), .int pay, .int fine] := ((o_13 36 (by decide)).trans ((o_12 36 (by decide)))).trans hbk
                          have htr : f_13 45 = eO 5 [.int (nI 10), .int (nI 70), .ref (g 46), .int (nI nt)] := ((o_13 45 (by decide)).trans ((o_12 45 (by decide)))).trans htr
                          have hct : f_13 46 = eI G (10 * 70) ct := ((o_13 46 (by decide)).trans ((o_12 46 (by decide)))).trans hct
                          exact ih_4 (i + 1) (a + 1) (v + 1) w (some (smW w a + v)) (upN w a v) (upd w1 a (nI v)) (va_cpy (upd w1 a (nI v)) bb1 (Int32.toNatClampNeg 0) (Int32.toNatClampNeg 0) (Int32.toNatClampNeg 6)) f_13 _ _ _ (by omega) (seT_new hse (by omega) hok (fun j hj => ⟨(hwv j hj).1, (pk_un (by omega)).trans (hwv j hj).2⟩) pk_us hv5 hms (hx_10_0 c_113) (fo_ltN (Or.inr c_98) hlo (by omega)) (fun _ _ => rfl)) (fun l hl => by cases hl; omega) (fun l hl k hk => (cpy_all (N := 6) (by decide) k (by omega)).trans (hww9 k (by omega)).1) (by omega) (hwt) (hw8) (hw9) (hw10) (hw11) (hbk) (htr) (hct) (fun j hj => ((((o_13 j (by omega))).trans (o_12 j (by omega))).trans (o_5 j (by omega))).trans (o_4 j (by omega))) hP hS (lv_sub hl [2, 3, 4, 5, 0] rfl)
                    · refine lv_iinc (v := nI a - 1) (lv' := [(3, .int (nI a - 1)), (5, .int (nI (smW w a + v))), (0, .ref (g 7)), (1, .ref (g 36)), (2, .int n), (4, .int (nI i))]) hx hb dX9_seek_101 hl (k := 4) rfl (m1_sub _) (by decide) rfl (fun ls hl => ?_)
                      refine lv_goto (tgt := 160) hx hb dX9_seek_104 (by decide) ?_
                      refine lv_iinc (v := nI (i + 1)) (lv' := [(4, .int (nI (i + 1))), (3, .int (nI a - 1)), (5, .int (nI (smW w a + v))), (0, .ref (g 7)), (1, .ref (g 36)), (2, .int n)]) hx hb dX9_seek_160 hl (k := 5) rfl (nI_add i 1) (by decide) rfl (fun ls hl => ?_)
                      refine lv_goto (tgt := 34) hx hb dX9_seek_163 (by decide) ?_
                      have hw8 : f_5 8 = eI G 6 wt92 := ((o_5 8 (by decide))).trans hw8
                      have hw10 : f_5 10 = eI G 6 bb1 := ((o_5 10 (by decide))).trans hw10
                      have hbk : f_5 36 = eO 0 [.ref (g 37), .ref (g 39), .ref (g 41), .ref (g 43), .ref (g 45), .ref (g 47), .ref (g 112), .int pay, .int fine] := ((o_5 36 (by decide))).trans hbk
                      have htr : f_5 45 = eO 5 [.int (nI 10), .int (nI 70), .ref (g 46), .int (nI nt)] := ((o_5 45 (by decide))).trans htr
                      have hct : f_5 46 = eI G (10 * 70) ct := ((o_5 46 (by decide))).trans hct
                      exact ih_4 (i + 1) a (w (a - 1) + 1) w Lo Bo (upd w1 a (nI v)) bb1 f_5 _ _ _ (by omega) (seT_back hse hsa (by omega) hok (fun j hj => ⟨(hwv j hj).1, (pk_un (by omega)).trans (hwv j hj).2⟩) hv6 hms (hd_sum' hse hsa c_89 c_98 hlo (by omega))) (hlo) (hbo) (by omega) (hwt) (hw8) (hw9) (hw10) (hw11) (hbk) (htr) (hct) (fun j hj => ((o_5 j (by omega))).trans (o_4 j (by omega))) hP hS (lv_sub hl [3, 4, 5, 1, 0] rfl)
              · have hw11 : f_5 11 = eI G 6 wf93 := ((o_5 11 (by decide))).trans hw11
                refine rd_calli (va_runV (As := [.int (nI a)]) (rest := [.int (nI v)]) ⟨hx, hb, hml, hown, hts⟩ (v_longest5 l G g hg f_5 mn91 (fo Lo) wf93 a hwt hw11 (by first | assumption | omega | decide) (by first | assumption | omega | decide) (by first | assumption | omega | decide)) (my_cwV hts ok_X9_longestOf w_845 rfl rfl ⟨Nat.le_of_ble_eq_true rfl, Nat.le_of_ble_eq_true rfl⟩) ⟨bP.blind, va_recv hG.1 hP (ci := 8) (q0 := 7) rfl (wl_at (by decide) hwt), fun U hU hW => ⟨rfl, by rw [hU]; exact hP, kG.warm hW hG⟩⟩ rfl rfl hl.1 rfl (lv_room (Nat.le_of_ble_eq_true rfl)) dX9_seek_78 ⟨Nat.le_of_ble_eq_true rfl, Nat.le_of_ble_eq_true rfl⟩) (fun r hr9 => ?_)
                subst hr9
                refine lv_icmp_gt (tgt := 101) hx hb dX9_seek_81 (by decide) (fun c_81 => ?_) (fun c_81 => ?_)
                · have k_81 : 5 < v := (nI_ltI (a := 5) (b := v) (by omega) (by omega)).mp c_81
                  refine lv_iinc (v := nI a - 1) (lv' := [(3, .int (nI a - 1)), (5, .int (nI (smW w a + v))), (0, .ref (g 7)), (1, .ref (g 36)), (2, .int n), (4, .int (nI i))]) hx hb dX9_seek_101 hl (k := 4) rfl (m1_sub _) (by decide) rfl (fun ls hl => ?_)
                  refine lv_goto (tgt := 160) hx hb dX9_seek_104 (by decide) ?_
                  refine lv_iinc (v := nI (i + 1)) (lv' := [(4, .int (nI (i + 1))), (3, .int (nI a - 1)), (5, .int (nI (smW w a + v))), (0, .ref (g 7)), (1, .ref (g 36)), (2, .int n)]) hx hb dX9_seek_160 hl (k := 5) rfl (nI_add i 1) (by decide) rfl (fun ls hl => ?_)
                  refine lv_goto (tgt := 34) hx hb dX9_seek_163 (by decide) ?_
                  have hw8 : f_5 8 = eI G 6 wt92 := ((o_5 8 (by decide))).trans hw8
                  have hw10 : f_5 10 = eI G 6 bb1 := ((o_5 10 (by decide))).trans hw10
                  have hbk : f_5 36 = eO 0 [.ref (g 37), .ref (g 39), .ref (g 41), .ref (g 43), .ref (g 45), .ref (g 47), .ref (g 112), .int pay, .int fine] := ((o_5 36 (by decide))).trans hbk
                  have htr : f_5 45 = eO 5 [.int (nI 10), .int (nI 70), .ref (g 46), .int (nI nt)] := ((o_5 45 (by decide))).trans htr
                  have hct : f_5 46 = eI G (10 * 70) ct := ((o_5 46 (by decide))).trans hct
                  exact ih_4 (i + 1) a (w (a - 1) + 1) w Lo Bo (upd w1 a (nI v)) bb1 f_5 _ _ _ (by omega) (seT_back hse hsa (by omega) hok (fun j hj => ⟨(hwv j hj).1, (pk_un (by omega)).trans (hwv j hj).2⟩) hv6 hms (fun x r _ _ h => absurd (r a hsa) (by omega))) (hlo) (hbo) (by omega) (hwt) (hw8) (hw9) (hw10) (hw11) (hbk) (htr) (hct) (fun j hj => ((o_5 j (by omega))).trans (o_4 j (by omega))) hP hS (lv_sub hl [3, 4, 5, 1, 0] rfl)
                · have k_81 : ¬ 5 < v := fun z9 => c_81 ((nI_ltI (a := 5) (b := v) (by omega) (by omega)).mpr z9)
                  refine lv_aload_n hx hb dX9_seek_84 rfl (lv_at hl 1 rfl) ?_
                  refine va_get (D := G.1) (ci := 8) (v := .int (fo Lo)) (C := RX9) (T := TX9) (N := 6) hx hb hts inlX9 hown hG.1 hP 7 (wl_at (by decide) hwt) rfl 5 (by decide) (hts (.fieldLink RX9 32 "SwornLists$Waits" "leastSum" "I") w_825) (fun _ h9 => h9) rfl dX9_seek_85 ?_
                  refine lv_iconst (v := (-1)) hx hb dX9_seek_88 (by decide) ?_
                  refine lv_icmp_eq (tgt := 107) hx hb dX9_seek_89 (by decide) (fun c_89 => ?_) (fun c_89 => ?_)
                  · have hv5 : v ≤ 5 := by omega
                    refine lv_aload_n hx hb dX9_seek_107 rfl (lv_at hl 1 rfl) ?_
                    refine lv_aload_n hx hb dX9_seek_108 rfl (lv_at hl 2 rfl) ?_
                    refine lv_iload_n hx hb dX9_seek_109 rfl (lv_at hl 4 rfl) ?_
                    have hw8 : f_5 8 = eI G 6 wt92 := ((o_5 8 (by decide))).trans hw8
                    have hbk : f_5 36 = eO 0 [.ref (g 37), .ref (g 39), .ref (g 41), .ref (g 43), .ref (g 45), .ref (g 47), .ref (g 112), .int pay, .int fine] := ((o_5 36 (by decide))).trans hbk
                    have htr : f_5 45 = eO 5 [.int (nI 10), .int (nI 70), .ref (g 46), .int (nI nt)] := ((o_5 45 (by decide))).trans htr
                    have hct : f_5 46 = eI G (10 * 70) ct := ((o_5 46 (by decide))).trans hct
                    refine rd_calli (va_runV (As := [.ref (g 36), .int (nI a)]) (rest := []) ⟨hx, hb, hml, hown, hts⟩ (v_fitsE l G g hg f_5 mn91 (fo Lo) wt92 (upd w1 a (nI v)) wf93 pay fine nt ct dd ee (whT n nt) (upN w a v) a hwt hw8 hw9 hw11 hbk htr hct (by first | assumption | omega | decide) (by first | assumption | omega | decide) (by first | assumption | omega | decide) (hgw) (hww9) (hgo) (hde)) (my_cwV hts ok_X9_fits w_849 rfl rfl ⟨Nat.le_of_ble_eq_true rfl, Nat.le_of_ble_eq_true rfl⟩) ⟨bP.blind, va_recv hG.1 hP (ci := 8) (q0 := 7) rfl (wl_at (by decide) hwt), fun U hU hW => ⟨rfl, by rw [hU]; exact hP, kG.warm hW hG⟩⟩ rfl rfl hl.1 rfl (lv_room (Nat.le_of_ble_eq_true rfl)) dX9_seek_110 ⟨Nat.le_of_ble_eq_true rfl, Nat.le_of_ble_eq_true rfl⟩) (fun r hr9 => ?_)
                    obtain ⟨bz7, rfl, hx_14_0, hx_14_1⟩ := hr9
                    refine my_ifeq (tgt := 160) hx hb dX9_seek_113 (by decide) (fun c_113 => ?_) (fun c_113 => ?_)
                    · rw [← nI_pred a] at hl
                      refine lv_iinc (v := nI (i + 1)) (lv' := [(4, .int (nI (i + 1))), (5, .int (nI (smW w a + v))), (0, .ref (g 7)), (1, .ref (g 36)), (2, .int n), (3, .int (nI (a + 1) - 1))]) hx hb dX9_seek_160 hl (k := 5) rfl (nI_add i 1) (by decide) rfl (fun ls hl => ?_)
                      refine lv_goto (tgt := 34) hx hb dX9_seek_163 (by decide) ?_
                      have hw10 : f_5 10 = eI G 6 bb1 := ((o_5 10 (by decide))).trans hw10
                      exact ih_4 (i + 1) (a + 1) (v + 1) w Lo Bo (upd w1 a (nI v)) bb1 f_5 _ _ _ (by omega) (seT_unfit hse hsa hok (fun j hj => ⟨(hwv j hj).1, (pk_un (by omega)).trans (hwv j hj).2⟩) pk_us hv5 hms (hx_14_1 (eq_false_of_ne_true c_113))) (hlo) (hbo) (by omega) (hwt) (hw8) (hw9) (hw10) (hw11) (hbk) (htr) (hct) (fun j hj => ((o_5 j (by omega))).trans (o_4 j (by omega))) hP hS (lv_sub hl [2, 3, 4, 5, 0] rfl)
                    · refine lv_iload_n hx hb dX9_seek_116 rfl (lv_at hl 4 rfl) ?_
                      refine lv_aload_n hx hb dX9_seek_117 rfl (lv_at hl 1 rfl) ?_
                      refine va_get (D := G.1) (ci := 8) (v := .int (nI mn91)) (C := RX9) (T := TX9) (N := 6) hx hb hts inlX9 hown hG.1 hP 7 (wl_at (by decide) hwt) rfl 4 (by decide) (hts (.fieldLink RX9 24 "SwornLists$Waits" "many" "I") w_824) (fun _ h9 => h9) rfl dX9_seek_118 ?_
                      refine lv_iconst (v := 1) hx hb dX9_seek_121 (by decide) ?_
                      refine lv_isub hx hb dX9_seek_122 ?_
                      refine my_bei (v := nI (mn91 - 1)) (pk_sub (a := mn91) (b := 1) (by omega)) ?_
                      refine lv_icmp_ne (tgt := 150) hx hb dX9_seek_123 (by decide) (fun c_123 => ?_) (fun c_123 => ?_)
                      · have k_123 : ¬ a = mn91 - 1 := fun z9 => c_123 ((nI_eq (a := a) (b := mn91 - 1) (by omega) (by omega)).mpr z9)
                        refine lv_iinc (v := nI (a + 1)) (lv' := [(3, .int (nI (a + 1))), (5, .int (nI (smW w a + v))), (0, .ref (g 7)), (1, .ref (g 36)), (2, .int n), (4, .int (nI i))]) hx hb dX9_seek_150 hl (k := 4) rfl (nI_add a 1) (by decide) rfl (fun ls hl => ?_)
                        refine lv_aload_n hx hb dX9_seek_153 rfl (lv_at hl 2 rfl) ?_
                        refine va_get (D := G.1) (ci := 8) (v := .ref (g 9)) (C := RX9) (T := TX9) (N := 6) hx hb hts inlX9 hown hG.1 hP 7 (wl_at (by decide) hwt) rfl 1 (by decide) (hts (.fieldLink RX9 15 "SwornLists$Waits" "waits" "[I") w_105) (fun _ h9 => h9) rfl dX9_seek_154 ?_
                        refine lv_iload_n hx hb dX9_seek_157 rfl (lv_at hl 0 rfl) ?_
                        refine lv_iconst (v := (-1)) hx hb dX9_seek_158 (by decide) ?_
                        refine va_iast hx hb hG.1 hP (wl_D hg f_5) hS 9 0 (wl_at (by decide) hw9) rfl (vp_in_nI (by omega) (by decide)) dX9_seek_159 (fun H locs hP _ hS => ?_)
                        have hP := (congrArg (fun z9 => va_P G.1 vwCl ((wl g f_5).set 9 (g 9, eI G 6 ((upd (upd w1 a (nI v)) z9 (-1))))) H) (show Int32.toNatClampNeg (nI (a + 1)) = a + 1 from nI_clamp (by omega))).mp hP
                        obtain ⟨f_15, hP, e_15, o_15⟩ := b_put (by decide) hP
                        have hw9 : f_15 9 = eI G 6 (upd (upd w1 a (nI v)) (a + 1) (-1)) := e_15
                        rw [← nI_pred (a + 1)] at hl
                        refine lv_iinc (v := nI (i + 1)) (lv' := [(4, .int (nI (i + 1))), (3, .int (nI (a + 1 + 1) - 1)), (5, .int (nI (smW w a + v))), (0, .ref (g 7)), (1, .ref (g 36)), (2, .int n)]) hx hb dX9_seek_160 hl (k := 5) rfl (nI_add i 1) (by decide) rfl (fun ls hl => ?_)
                        refine lv_goto (tgt := 34) hx hb dX9_seek_163 (by decide) ?_
                        have hwt : f_15 7 = eO 8 [.ref (g 8), .ref (g 9), .ref (g 10), .ref (g 11), .int (nI mn91), .int (fo Lo)] := ((o_15 7 (by decide))).trans hwt
                        have hw8 : f_15 8 = eI G 6 wt92 := ((o_15 8 (by decide))).trans hw8
                        have hw10 : f_15 10 = eI G 6 bb1 := ((o_15 10 (by decide)).trans ((o_5 10 (by decide)))).trans hw10
                        have hw11 : f_15 11 = eI G 6 wf93 := ((o_15 11 (by decide))).trans hw11
                        have hbk : f_15 36 = eO 0 [.ref (g 37), .ref (g 39), .ref (g 41), .ref (g 43), .ref (g 45), .ref (g 47), .ref (g 112), .int pay, .int fine] := ((o_15 36 (by decide))).trans hbk
                        have htr : f_15 45 = eO 5 [.int (nI 10), .int (nI 70), .ref (g 46), .int (nI nt)] := ((o_15 45 (by decide))).trans htr
                        have hct : f_15 46 = eI G (10 * 70) ct := ((o_15 46 (by decide))).trans hct
                        exact ih_4 (i + 1) (a + 1 + 1) 0 (upN w a v) Lo Bo (upd (upd w1 a (nI v)) (a + 1) (-1)) bb1 f_15 _ _ _ (by omega) (seT_dn hse (by omega) hok (fun j hj => ⟨(hwv j hj).1, (pk_un (by omega)).trans ((pk_un (by omega)).trans (hwv j hj).2)⟩) ((pk_un (by omega)).trans pk_us) pk_us hv5 hms (hx_14_0 c_113)) (hlo) (hbo) (by omega) (hwt) (hw8) (hw9) (hw10) (hw11) (hbk) (htr) (hct) (fun j hj => (((o_15 j (by omega))).trans (o_5 j (by omega))).trans (o_4 j (by omega))) hP hS (lv_sub hl [3, 4, 5, 1, 0] rfl)
                      · have k_123 : a = mn91 - 1 := (nI_eq (a := a) (b := mn91 - 1) (by omega) (by omega)).mp c_123
                        refine lv_aload_n hx hb dX9_seek_126 rfl (lv_at hl 1 rfl) ?_
                        refine lv_iload hx hb dX9_seek_127 (lv_at hl 0 rfl) ?_
                        refine va_put (D := G.1) (ci := 8) (v := .int (nI (smW w a + v))) (ty := .int) (C := RX9) (T := TX9) (N := 6) hx hb hts inlX9 tyX9 tyX9_ok nmX9 hown hG.1 hP (wl_D hg f_5) hS 7 (wl_at (by decide) hwt) rfl 5 (by decide) (hts (.fieldLink RX9 32 "SwornLists$Waits" "leastSum" "I") w_825) (fun _ h9 => h9) rfl (by decide +kernel) rfl rfl (Nat.le_of_ble_eq_true rfl) dX9_seek_129 (fun H locs hP _ hS => ?_)
                        obtain ⟨f_16, hP, e_16, o_16⟩ := b_put (by decide) hP
                        have hwt : f_16 7 = eO 8 [.ref (g 8), .ref (g 9), .ref (g 10), .ref (g 11), .int (nI mn91), .int (nI (smW w a + v))] := e_16
                        refine lv_aload_n hx hb dX9_seek_132 rfl (lv_at hl 1 rfl) ?_
                        refine va_get (D := G.1) (ci := 8) (v := .ref (g 9)) (C := RX9) (T := TX9) (N := 6) hx hb hts inlX9 hown hG.1 hP 7 (wl_at (by decide) hwt) rfl 1 (by decide) (hts (.fieldLink RX9 15 "SwornLists$Waits" "waits" "[I") w_105) (fun _ h9 => h9) rfl dX9_seek_133 ?_
                        refine lv_iconst (v := 0) hx hb dX9_seek_136 (by decide) ?_
                        refine lv_aload_n hx hb dX9_seek_137 rfl (lv_at hl 1 rfl) ?_
                        refine va_get (D := G.1) (ci := 8) (v := .ref (g 10)) (C := RX9) (T := TX9) (N := 6) hx hb hts inlX9 hown hG.1 hP 7 (wl_at (by decide) hwt) rfl 2 (by decide) (hts (.fieldLink RX9 18 "SwornLists$Waits" "best" "[I") w_106) (fun _ h9 => h9) rfl dX9_seek_138 ?_
                        refine lv_iconst (v := 0) hx hb dX9_seek_141 (by decide) ?_
                        refine lv_bipush (v := 6) hx hb dX9_seek_142 (by decide) ?_
                        have hw9 : f_16 9 = eI G 6 (upd w1 a (nI v)) := ((o_16 9 (by decide))).trans hw9
                        have hw10 : f_16 10 = eI G 6 bb1 := ((o_16 10 (by decide)).trans ((o_5 10 (by decide)))).trans hw10
                        refine va_copyi hx hb (by rw [hml]; exact hl.1.symm) hown (hts (.methodLink RX9 47 arraycopyName) w_827) (hts (.native arraycopyName) w_599) (hts (.static arraycopyName) w_600) (hts (.initialized "java/lang/System") w_601) hG.1 hP (wl_D hg f_16) hS 9 10 0 0 (wl_at (by decide) hw9) (wl_at (by decide) hw10) rfl rfl rfl (by decide) (by decide) (by decide) (by decide) (by decide) (fun _ _ => rfl) (Nat.le_of_ble_eq_true rfl) (Nat.le_of_ble_eq_true rfl) dX9_seek_144 (fun H locs hP _ hS => ?_)
                        obtain ⟨f_17, hP, e_17, o_17⟩ := b_put (by decide) hP
                        have hw10 : f_17 10 = eI G 6 (va_cpy (upd w1 a (nI v)) bb1 (Int32.toNatClampNeg 0) (Int32.toNatClampNeg 0) (Int32.toNatClampNeg 6)) := e_17
                        refine lv_goto (tgt := 160) hx hb dX9_seek_147 (by decide) ?_
                        rw [← nI_pred a] at hl
                        refine lv_iinc (v := nI (i + 1)) (lv' := [(4, .int (nI (i + 1))), (5, .int (nI (smW w a + v))), (0, .ref (g 7)), (1, .ref (g 36)), (2, .int n), (3, .int (nI (a + 1) - 1))]) hx hb dX9_seek_160 hl (k := 5) rfl (nI_add i 1) (by decide) rfl (fun ls hl => ?_)
                        refine lv_goto (tgt := 34) hx hb dX9_seek_163 (by decide) ?_
                        have hwt : f_17 7 = eO 8 [.ref (g 8), .ref (g 9), .ref (g 10), .ref (g 11), .int (nI mn91), .int (nI (smW w a + v))] := ((o_17 7 (by decide))).trans hwt
                        have hw8 : f_17 8 = eI G 6 wt92 := ((o_17 8 (by decide)).trans ((o_16 8 (by decide)))).trans hw8
                        have hw9 : f_17 9 = eI G 6 (upd w1 a (nI v)) := ((o_17 9 (by decide))).trans hw9
                        have hw11 : f_17 11 = eI G 6 wf93 := ((o_17 11 (by decide)).trans ((o_16 11 (by decide)))).trans hw11
                        have hbk : f_17 36 = eO 0 [.ref (g 37), .ref (g 39), .ref (g 41), .ref (g 43), .ref (g 45), .ref (g 47), .ref (g 112), .int pay, .int fine] := ((o_17 36 (by decide)).trans ((o_16 36 (by decide)))).trans hbk
                        have htr : f_17 45 = eO 5 [.int (nI 10), .int (nI 70), .ref (g 46), .int (nI nt)] := ((o_17 45 (by decide)).trans ((o_16 45 (by decide)))).trans htr
                        have hct : f_17 46 = eI G (10 * 70) ct := ((o_17 46 (by decide)).trans ((o_16 46 (by decide)))).trans hct
                        exact ih_4 (i + 1) (a + 1) (v + 1) w (some (smW w a + v)) (upN w a v) (upd w1 a (nI v)) (va_cpy (upd w1 a (nI v)) bb1 (Int32.toNatClampNeg 0) (Int32.toNatClampNeg 0) (Int32.toNatClampNeg 6)) f_17 _ _ _ (by omega) (seT_new hse (by omega) hok (fun j hj => ⟨(hwv j hj).1, (pk_un (by omega)).trans (hwv j hj).2⟩) pk_us hv5 hms (hx_14_0 c_113) (fo_ltN (Or.inl c_89) hlo (by omega)) (fun _ _ => rfl)) (fun l hl => by cases hl; omega) (fun l hl k hk => (cpy_all (N := 6) (by decide) k (by omega)).trans (hww9 k (by omega)).1) (by omega) (hwt) (hw8) (hw9) (hw10) (hw11) (hbk) (htr) (hct) (fun j hj => ((((o_17 j (by omega))).trans (o_16 j (by omega))).trans (o_5 j (by omega))).trans (o_4 j (by omega))) hP hS (lv_sub hl [2, 3, 4, 5, 0] rfl)
                  · refine lv_iload hx hb dX9_seek_92 (lv_at hl 0 rfl) ?_
                    refine lv_aload_n hx hb dX9_seek_94 rfl (lv_at hl 1 rfl) ?_
                    refine va_get (D := G.1) (ci := 8) (v := .int (fo Lo)) (C := RX9) (T := TX9) (N := 6) hx hb hts inlX9 hown hG.1 hP 7 (wl_at (by decide) hwt) rfl 5 (by decide) (hts (.fieldLink RX9 32 "SwornLists$Waits" "leastSum" "I") w_825) (fun _ h9 => h9) rfl dX9_seek_95 ?_
                    refine lv_icmp_lt (tgt := 107) hx hb dX9_seek_98 (by decide) (fun c_98 => ?_) (fun c_98 => ?_)
                    · have hv5 : v ≤ 5 := by omega
                      refine lv_aload_n hx hb dX9_seek_107 rfl (lv_at hl 1 rfl) ?_
                      refine lv_aload_n hx hb dX9_seek_108 rfl (lv_at hl 2 rfl) ?_
                      refine lv_iload_n hx hb dX9_seek_109 rfl (lv_at hl 4 rfl) ?_
                      have hw8 : f_5 8 = eI G 6 wt92 := ((o_5 8 (by decide))).trans hw8
                      have hbk : f_5 36 = eO 0 [.ref (g 37), .ref (g 39), .ref (g 41), .ref (g 43), .ref (g 45), .ref (g 47), .ref (g 112), .int pay, .int fine] := ((o_5 36 (by decide))).trans hbk
                      have htr : f_5 45 = eO 5 [.int (nI 10), .int (nI 70), .ref (g 46), .int (nI nt)] := ((o_5 45 (by decide))).trans htr
                      have hct : f_5 46 = eI G (10 * 70) ct := ((o_5 46 (by decide))).trans hct
                      refine rd_calli (va_runV (As := [.ref (g 36), .int (nI a)]) (rest := []) ⟨hx, hb, hml, hown, hts⟩ (v_fitsE l G g hg f_5 mn91 (fo Lo) wt92 (upd w1 a (nI v)) wf93 pay fine nt ct dd ee (whT n nt) (upN w a v) a hwt hw8 hw9 hw11 hbk htr hct (by first | assumption | omega | decide) (by first | assumption | omega | decide) (by first | assumption | omega | decide) (hgw) (hww9) (hgo) (hde)) (my_cwV hts ok_X9_fits w_849 rfl rfl ⟨Nat.le_of_ble_eq_true rfl, Nat.le_of_ble_eq_true rfl⟩) ⟨bP.blind, va_recv hG.1 hP (ci := 8) (q0 := 7) rfl (wl_at (by decide) hwt), fun U hU hW => ⟨rfl, by rw [hU]; exact hP, kG.warm hW hG⟩⟩ rfl rfl hl.1 rfl (lv_room (Nat.le_of_ble_eq_true rfl)) dX9_seek_110 ⟨Nat.le_of_ble_eq_true rfl, Nat.le_of_ble_eq_true rfl⟩) (fun r hr9 => ?_)
                      obtain ⟨bz8, rfl, hx_18_0, hx_18_1⟩ := hr9
                      refine my_ifeq (tgt := 160) hx hb dX9_seek_113 (by decide) (fun c_113 => ?_) (fun c_113 => ?_)
                      · rw [← nI_pred a] at hl
                        refine lv_iinc (v := nI (i + 1)) (lv' := [(4, .int (nI (i + 1))), (5, .int (nI (smW w a + v))), (0, .ref (g 7)), (1, .ref (g 36)), (2, .int n), (3, .int (nI (a + 1) - 1))]) hx hb dX9_seek_160 hl (k := 5) rfl (nI_add i 1) (by decide) rfl (fun ls hl => ?_)
                        refine lv_goto (tgt := 34) hx hb dX9_seek_163 (by decide) ?_
                        have hw10 : f_5 10 = eI G 6 bb1 := ((o_5 10 (by decide))).trans hw10
                        exact ih_4 (i + 1) (a + 1) (v + 1) w Lo Bo (upd w1 a (nI v)) bb1 f_5 _ _ _ (by omega) (seT_unfit hse hsa hok (fun j hj => ⟨(hwv j hj).1, (pk_un (by omega)).trans (hwv j hj).2⟩) pk_us hv5 hms (hx_18_1 (eq_false_of_ne_true c_113))) (hlo) (hbo) (by omega) (hwt) (hw8) (hw9) (hw10) (hw11) (hbk) (htr) (hct) (fun j hj => ((o_5 j (by omega))).trans (o_4 j (by omega))) hP hS (lv_sub hl [2, 3, 4, 5, 0] rfl)
                      · refine lv_iload_n hx hb dX9_seek_116 rfl (lv_at hl 4 rfl) ?_
                        refine lv_aload_n hx hb dX9_seek_117 rfl (lv_at hl 1 rfl) ?_
                        refine va_get (D := G.1) (ci := 8) (v := .int (nI mn91)) (C := RX9) (T := TX9) (N := 6) hx hb hts inlX9 hown hG.1 hP 7 (wl_at (by decide) hwt) rfl 4 (by decide) (hts (.fieldLink RX9 24 "SwornLists$Waits" "many" "I") w_824) (fun _ h9 => h9) rfl dX9_seek_118 ?_
                        refine lv_iconst (v := 1) hx hb dX9_seek_121 (by decide) ?_
                        refine lv_isub hx hb dX9_seek_122 ?_
                        refine my_bei (v := nI (mn91 - 1)) (pk_sub (a := mn91) (b := 1) (by omega)) ?_
                        refine lv_icmp_ne (tgt := 150) hx hb dX9_seek_123 (by decide) (fun c_123 => ?_) (fun c_123 => ?_)
                        · have k_123 : ¬ a = mn91 - 1 := fun z9 => c_123 ((nI_eq (a := a) (b := mn91 - 1) (by omega) (by omega)).mpr z9)
                          refine lv_iinc (v := nI (a + 1)) (lv' := [(3, .int (nI (a + 1))), (5, .int (nI (smW w a + v))), (0, .ref (g 7)), (1, .ref (g 36)), (2, .int n), (4, .int (nI i))]) hx hb dX9_seek_150 hl (k := 4) rfl (nI_add a 1) (by decide) rfl (fun ls hl => ?_)
                          refine lv_aload_n hx hb dX9_seek_153 rfl (lv_at hl 2 rfl) ?_
                          refine va_get (D := G.1) (ci := 8) (v := .ref (g 9)) (C := RX9) (T := TX9) (N := 6) hx hb hts inlX9 hown hG.1 hP 7 (wl_at (by decide) hwt) rfl 1 (by decide) (hts (.fieldLink RX9 15 "SwornLists$Waits" "waits" "[I") w_105) (fun _ h9 => h9) rfl dX9_seek_154 ?_
                          refine lv_iload_n hx hb dX9_seek_157 rfl (lv_at hl 0 rfl) ?_
                          refine lv_iconst (v := (-1)) hx hb dX9_seek_158 (by decide) ?_
                          refine va_iast hx hb hG.1 hP (wl_D hg f_5) hS 9 0 (wl_at (by decide) hw9) rfl (vp_in_nI (by omega) (by decide)) dX9_seek_159 (fun H locs hP _ hS => ?_)
                          have hP := (congrArg (fun z9 => va_P G.1 vwCl ((wl g f_5).set 9 (g 9, eI G 6 ((upd (upd w1 a (nI v)) z9 (-1))))) H) (show Int32.toNatClampNeg (nI (a + 1)) = a + 1 from nI_clamp (by omega))).mp hP
                          obtain ⟨f_19, hP, e_19, o_19⟩ := b_put (by decide) hP
                          have hw9 : f_19 9 = eI G 6 (upd (upd w1 a (nI v)) (a + 1) (-1)) := e_19
                          rw [← nI_pred (a + 1)] at hl
                          refine lv_iinc (v := nI (i + 1)) (lv' := [(4, .int (nI (i + 1))), (3, .int (nI (a + 1 + 1) - 1)), (5, .int (nI (smW w a + v))), (0, .ref (g 7)), (1, .ref (g 36)), (2, .int n)]) hx hb dX9_seek_160 hl (k := 5) rfl (nI_add i 1) (by decide) rfl (fun ls hl => ?_)
                          refine lv_goto (tgt := 34) hx hb dX9_seek_163 (by decide) ?_
                          have hwt : f_19 7 = eO 8 [.ref (g 8), .ref (g 9), .ref (g 10), .ref (g 11), .int (nI mn91), .int (fo Lo)] := ((o_19 7 (by decide))).trans hwt
                          have hw8 : f_19 8 = eI G 6 wt92 := ((o_19 8 (by decide))).trans hw8
                          have hw10 : f_19 10 = eI G 6 bb1 := ((o_19 10 (by decide)).trans ((o_5 10 (by decide)))).trans hw10
                          have hw11 : f_19 11 = eI G 6 wf93 := ((o_19 11 (by decide))).trans hw11
                          have hbk : f_19 36 = eO 0 [.ref (g 37), .ref (g 39), .ref (g 41), .ref (g 43), .ref (g 45), .ref (g 47), .ref (g 112), .int pay, .int fine] := ((o_19 36 (by decide))).trans hbk
                          have htr : f_19 45 = eO 5 [.int (nI 10), .int (nI 70), .ref (g 46), .int (nI nt)] := ((o_19 45 (by decide))).trans htr
                          have hct : f_19 46 = eI G (10 * 70) ct := ((o_19 46 (by decide))).trans hct
                          exact ih_4 (i + 1) (a + 1 + 1) 0 (upN w a v) Lo Bo (upd (upd w1 a (nI v)) (a + 1) (-1)) bb1 f_19 _ _ _ (by omega) (seT_dn hse (by omega) hok (fun j hj => ⟨(hwv j hj).1, (pk_un (by omega)).trans ((pk_un (by omega)).trans (hwv j hj).2)⟩) ((pk_un (by omega)).trans pk_us) pk_us hv5 hms (hx_18_0 c_113)) (hlo) (hbo) (by omega) (hwt) (hw8) (hw9) (hw10) (hw11) (hbk) (htr) (hct) (fun j hj => (((o_19 j (by omega))).trans (o_5 j (by omega))).trans (o_4 j (by omega))) hP hS (lv_sub hl [3, 4, 5, 1, 0] rfl)
                        · have k_123 : a = mn91 - 1 := (nI_eq (a := a) (b := mn91 - 1) (by omega) (by omega)).mp c_123
                          refine lv_aload_n hx hb dX9_seek_126 rfl (lv_at hl 1 rfl) ?_
                          refine lv_iload hx hb dX9_seek_127 (lv_at hl 0 rfl) ?_
                          refine va_put (D := G.1) (ci := 8) (v := .int (nI (smW w a + v))) (ty := .int) (C := RX9) (T := TX9) (N := 6) hx hb hts inlX9 tyX9 tyX9_ok nmX9 hown hG.1 hP (wl_D hg f_5) hS 7 (wl_at (by decide) hwt) rfl 5 (by decide) (hts (.fieldLink RX9 32 "SwornLists$Waits" "leastSum" "I") w_825) (fun _ h9 => h9) rfl (by decide +kernel) rfl rfl (Nat.le_of_ble_eq_true rfl) dX9_seek_129 (fun H locs hP _ hS => ?_)
                          obtain ⟨f_20, hP, e_20, o_20⟩ := b_put (by decide) hP
                          have hwt : f_20 7 = eO 8 [.ref (g 8), .ref (g 9), .ref (g 10), .ref (g 11), .int (nI mn91), .int (nI (smW w a + v))] := e_20
                          refine lv_aload_n hx hb dX9_seek_132 rfl (lv_at hl 1 rfl) ?_
                          refine va_get (D := G.1) (ci := 8) (v := .ref (g 9)) (C := RX9) (T := TX9) (N := 6) hx hb hts inlX9 hown hG.1 hP 7 (wl_at (by decide) hwt) rfl 1 (by decide) (hts (.fieldLink RX9 15 "SwornLists$Waits" "waits" "[I") w_105) (fun _ h9 => h9) rfl dX9_seek_133 ?_
                          refine lv_iconst (v := 0) hx hb dX9_seek_136 (by decide) ?_
                          refine lv_aload_n hx hb dX9_seek_137 rfl (lv_at hl 1 rfl) ?_
                          refine va_get (D := G.1) (ci := 8) (v := .ref (g 10)) (C := RX9) (T := TX9) (N := 6) hx hb hts inlX9 hown hG.1 hP 7 (wl_at (by decide) hwt) rfl 2 (by decide) (hts (.fieldLink RX9 18 "SwornLists$Waits" "best" "[I") w_106) (fun _ h9 => h9) rfl dX9_seek_138 ?_
                          refine lv_iconst (v := 0) hx hb dX9_seek_141 (by decide) ?_
                          refine lv_bipush (v := 6) hx hb dX9_seek_142 (by decide) ?_
                          have hw9 : f_20 9 = eI G 6 (upd w1 a (nI v)) := ((o_20 9 (by decide))).trans hw9
                          have hw10 : f_20 10 = eI G 6 bb1 := ((o_20 10 (by decide)).trans ((o_5 10 (by decide)))).trans hw10
                          refine va_copyi hx hb (by rw [hml]; exact hl.1.symm) hown (hts (.methodLink RX9 47 arraycopyName) w_827) (hts (.native arraycopyName) w_599) (hts (.static arraycopyName) w_600) (hts (.initialized "java/lang/System") w_601) hG.1 hP (wl_D hg f_20) hS 9 10 0 0 (wl_at (by decide) hw9) (wl_at (by decide) hw10) rfl rfl rfl (by decide) (by decide) (by decide) (by decide) (by decide) (fun _ _ => rfl) (Nat.le_of_ble_eq_true rfl) (Nat.le_of_ble_eq_true rfl) dX9_seek_144 (fun H locs hP _ hS => ?_)
                          obtain ⟨f_21, hP, e_21, o_21⟩ := b_put (by decide) hP
                          have hw10 : f_21 10 = eI G 6 (va_cpy (upd w1 a (nI v)) bb1 (Int32.toNatClampNeg 0) (Int32.toNatClampNeg 0) (Int32.toNatClampNeg 6)) := e_21
                          refine lv_goto (tgt := 160) hx hb dX9_seek_147 (by decide) ?_
                          rw [← nI_pred a] at hl
                          refine lv_iinc (v := nI (i + 1)) (lv' := [(4, .int (nI (i + 1))), (5, .int (nI (smW w a + v))), (0, .ref (g 7)), (1, .ref (g 36)), (2, .int n), (3, .int (nI (a + 1) - 1))]) hx hb dX9_seek_160 hl (k := 5) rfl (nI_add i 1) (by decide) rfl (fun ls hl => ?_)
                          refine lv_goto (tgt := 34) hx hb dX9_seek_163 (by decide) ?_
                          have hwt : f_21 7 = eO 8 [.ref (g 8), .ref (g 9), .ref (g 10), .ref (g 11), .int (nI mn91), .int (nI (smW w a + v))] := ((o_21 7 (by decide))).trans hwt
                          have hw8 : f_21 8 = eI G 6 wt92 := ((o_21 8 (by decide)).trans ((o_20 8 (by decide)))).trans hw8
                          have hw9 : f_21 9 = eI G 6 (upd w1 a (nI v)) := ((o_21 9 (by decide))).trans hw9
                          have hw11 : f_21 11 = eI G 6 wf93 := ((o_21 11 (by decide)).trans ((o_20 11 (by decide)))).trans hw11
                          have hbk : f_21 36 = eO 0 [.ref (g 37), .ref (g 39), .ref (g 41), .ref (g 43), .ref (g 45), .ref (g 47), .ref (g 112), .int pay, .int fine] := ((o_21 36 (by decide)).trans ((o_20 36 (by decide)))).trans hbk
                          have htr : f_21 45 = eO 5 [.int (nI 10), .int (nI 70), .ref (g 46), .int (nI nt)] := ((o_21 45 (by decide)).trans ((o_20 45 (by decide)))).trans htr
                          have hct : f_21 46 = eI G (10 * 70) ct := ((o_21 46 (by decide)).trans ((o_20 46 (by decide)))).trans hct
                          exact ih_4 (i + 1) (a + 1) (v + 1) w (some (smW w a + v)) (upN w a v) (upd w1 a (nI v)) (va_cpy (upd w1 a (nI v)) bb1 (Int32.toNatClampNeg 0) (Int32.toNatClampNeg 0) (Int32.toNatClampNeg 6)) f_21 _ _ _ (by omega) (seT_new hse (by omega) hok (fun j hj => ⟨(hwv j hj).1, (pk_un (by omega)).trans (hwv j hj).2⟩) pk_us hv5 hms (hx_18_0 c_113) (fo_ltN (Or.inr c_98) hlo (by omega)) (fun _ _ => rfl)) (fun l hl => by cases hl; omega) (fun l hl k hk => (cpy_all (N := 6) (by decide) k (by omega)).trans (hww9 k (by omega)).1) (by omega) (hwt) (hw8) (hw9) (hw10) (hw11) (hbk) (htr) (hct) (fun j hj => ((((o_21 j (by omega))).trans (o_20 j (by omega))).trans (o_5 j (by omega))).trans (o_4 j (by omega))) hP hS (lv_sub hl [2, 3, 4, 5, 0] rfl)
                    · refine lv_iinc (v := nI a - 1) (lv' := [(3, .int (nI a - 1)), (5, .int (nI (smW w a + v))), (0, .ref (g 7)), (1, .ref (g 36)), (2, .int n), (4, .int (nI i))]) hx hb dX9_seek_101 hl (k := 4) rfl (m1_sub _) (by decide) rfl (fun ls hl => ?_)
                      refine lv_goto (tgt := 160) hx hb dX9_seek_104 (by decide) ?_
                      refine lv_iinc (v := nI (i + 1)) (lv' := [(4, .int (nI (i + 1))), (3, .int (nI a - 1)), (5, .int (nI (smW w a + v))), (0, .ref (g 7)), (1, .ref (g 36)), (2, .int n)]) hx hb dX9_seek_160 hl (k := 5) rfl (nI_add i 1) (by decide) rfl (fun ls hl => ?_)
                      refine lv_goto (tgt := 34) hx hb dX9_seek_163 (by decide) ?_
                      have hw8 : f_5 8 = eI G 6 wt92 := ((o_5 8 (by decide))).trans hw8
                      have hw10 : f_5 10 = eI G 6 bb1 := ((o_5 10 (by decide))).trans hw10
                      have hbk : f_5 36 = eO 0 [.ref (g 37), .ref (g 39), .ref (g 41), .ref (g 43), .ref (g 45), .ref (g 47), .ref (g 112), .int pay, .int fine] := ((o_5 36 (by decide))).trans hbk
                      have htr : f_5 45 = eO 5 [.int (nI 10), .int (nI 70), .ref (g 46), .int (nI nt)] := ((o_5 45 (by decide))).trans htr
                      have hct : f_5 46 = eI G (10 * 70) ct := ((o_5 46 (by decide))).trans hct
                      exact ih_4 (i + 1) a (w (a - 1) + 1) w Lo Bo (upd w1 a (nI v)) bb1 f_5 _ _ _ (by omega) (seT_back hse hsa (by omega) hok (fun j hj => ⟨(hwv j hj).1, (pk_un (by omega)).trans (hwv j hj).2⟩) hv6 hms (hd_sum' hse hsa c_89 c_98 hlo (by omega))) (hlo) (hbo) (by omega) (hwt) (hw8) (hw9) (hw10) (hw11) (hbk) (htr) (hct) (fun j hj => ((o_5 j (by omega))).trans (o_4 j (by omega))) hP hS (lv_sub hl [3, 4, 5, 1, 0] rfl)
    exact key4 (1000000 + 1) 0 1 0 (fun _ => 0) none (fun _ => 0) (upd ww 0 (-1)) wb f_3 _ _ _ (Nat.zero_le _) (seT_0 k_11 (pk_us.trans (by decide))) (fun l hl => by cases hl) (fun l hl => by cases hl) (by omega) (hwt) (hw8) (hw9) (hw10) (hw11) (hbk) (htr) (hct) (fun j _ => rfl) hP hS (lv_sub hl [2, 3, 4, 1, 0] rfl)
  · have k_11 : mn91 = 0 := (nI_eq (a := mn91) (b := 0) (by omega) (by omega)).mp c_11
    refine lv_iconst (v := 0) hx hb dX9_seek_14 (by decide) ?_
    refine my_bei (v := fo (some 0)) (by decide) ?_
    refine lv_goto (tgt := 19) hx hb dX9_seek_15 (by decide) ?_
    refine va_put (D := G.1) (ci := 8) (v := .int (fo (some 0))) (ty := .int) (C := RX9) (T := TX9) (N := 6) hx hb hts inlX9 tyX9 tyX9_ok nmX9 hown hG.1 hP (wl_D hg f_1) hS 7 (wl_at (by decide) hwt) rfl 5 (by decide) (hts (.fieldLink RX9 32 "SwornLists$Waits" "leastSum" "I") w_825) (fun _ h9 => h9) rfl (by decide +kernel) rfl rfl (Nat.le_of_ble_eq_true rfl) dX9_seek_19 (fun H locs hP _ hS => ?_)
    obtain ⟨f_22, hP, e_22, o_22⟩ := b_put (by decide) hP
    have hwt : f_22 7 = eO 8 [.ref (g 8), .ref (g 9), .ref (g 10), .ref (g 11), .int (nI mn91), .int (fo (some 0))] := e_22
    refine lv_iconst (v := 0) hx hb dX9_seek_22 (by decide) ?_
    refine my_bei (v := nI 1 - 1) (by decide) ?_
    refine lv_istore_n (lv' := [(3, .int (nI 1 - 1)), (0, .ref (g 7)), (1, .ref (g 36)), (2, .int n)]) hx hb dX9_seek_23 rfl hl (by decide) rfl (fun ls hl => ?_)
    refine lv_aload_n hx hb dX9_seek_24 rfl (lv_at hl 1 rfl) ?_
    refine va_get (D := G.1) (ci := 8) (v := .ref (g 9)) (C := RX9) (T := TX9) (N := 6) hx hb hts inlX9 hown hG.1 hP 7 (wl_at (by decide) hwt) rfl 1 (by decide) (hts (.fieldLink RX9 15 "SwornLists$Waits" "waits" "[I") w_105) (fun _ h9 => h9) rfl dX9_seek_25 ?_
    refine lv_iconst (v := 0) hx hb dX9_seek_28 (by decide) ?_
    refine lv_iconst (v := (-1)) hx hb dX9_seek_29 (by decide) ?_
    have hw9 : f_22 9 = eI G 6 ww := ((o_22 9 (by decide)).trans ((o_1 9 (by first | decide | omega)))).trans hw9
    refine va_iast hx hb hG.1 hP (wl_D hg f_22) hS 9 0 (wl_at (by decide) hw9) rfl (by unfold vp_in; decide) dX9_seek_30 (fun H locs hP _ hS => ?_)
    have hP := (congrArg (fun z9 => va_P G.1 vwCl ((wl g f_22).set 9 (g 9, eI G 6 ((upd ww z9 (-1))))) H) (show Int32.toNatClampNeg 0 = 0 from rfl)).mp hP
    obtain ⟨f_23, hP, e_23, o_23⟩ := b_put (by decide) hP
    have hw9 : f_23 9 = eI G 6 (upd ww 0 (-1)) := e_23
    refine lv_iconst (v := 0) hx hb dX9_seek_31 (by decide) ?_
    refine lv_istore (lv' := [(4, .int 0), (3, .int (nI 1 - 1)), (0, .ref (g 7)), (1, .ref (g 36)), (2, .int n)]) hx hb dX9_seek_32 hl (by decide) rfl (fun ls hl => ?_)
    have hwt : f_23 7 = eO 8 [.ref (g 8), .ref (g 9), .ref (g 10), .ref (g 11), .int (nI mn91), .int (fo (some 0))] := ((o_23 7 (by decide))).trans hwt
    have hw8 : f_23 8 = eI G 6 wt92 := ((o_23 8 (by decide)).trans ((o_22 8 (by decide)))).trans hw8
    have hw10 : f_23 10 = eI G 6 wb := ((o_23 10 (by decide)).trans ((o_22 10 (by decide)).trans ((o_1 10 (by first | decide | omega))))).trans hw10
    have hw11 : f_23 11 = eI G 6 wf93 := ((o_23 11 (by decide)).trans ((o_22 11 (by decide)))).trans hw11
    have hbk : f_23 36 = eO 0 [.ref (g 37), .ref (g 39), .ref (g 41), .ref (g 43), .ref (g 45), .ref (g 47), .ref (g 112), .int pay, .int fine] := ((o_23 36 (by decide)).trans ((o_22 36 (by decide)).trans ((o_1 36 (by first | decide | omega))))).trans hbk
    have htr : f_23 45 = eO 5 [.int (nI 10), .int (nI 70), .ref (g 46), .int (nI nt)] := ((o_23 45 (by decide)).trans ((o_22 45 (by decide)).trans ((o_1 45 (by first | decide | omega))))).trans htr
    have hct : f_23 46 = eI G (10 * 70) ct := ((o_23 46 (by decide)).trans ((o_22 46 (by decide)).trans ((o_1 46 (by first | decide | omega))))).trans hct
    have key9 : ∀ (n9_9 : Nat) (i : Nat) (a1 : Nat) (v : Nat) (w : Nat → Nat) (Lo : Option Nat) (Bo : Nat → Nat) (w1 : Nat → Int32) (bb1 : Nat → Int32) (f_24 : Nat → va_E) (H : Heap) (locs : List Loc) (ls : Array Slot), (i ≤ 1000000) → (seT (fun k => dd (whT n nt k)) (fun k => ee (whT n nt k)) (fun i k => mtB (fun t c => ct (70 * t + c)) (whT n nt i) (whT n nt k)) mn91 Lo Bo a1 w v w1 i) → (∀ l, Lo = some l → l ≤ 30) → (∀ l, Lo = some l → ∀ k, k < mn91 → bb1 k = nI (Bo k)) → 1000000 - i < n9_9 → f_24 7 = eO 8 [.ref (g 8), .ref (g 9), .ref (g 10), .ref (g 11), .int (nI mn91), .int (fo Lo)] → f_24 8 = eI G 6 wt92 → f_24 9 = eI G 6 w1 → f_24 10 = eI G 6 bb1 → f_24 11 = eI G 6 wf93 → f_24 36 = eO 0 [.ref (g 37), .ref (g 39), .ref (g 41), .ref (g 43), .ref (g 45), .ref (g 47), .ref (g 112), .int pay, .int fine] → f_24 45 = eO 5 [.int (nI 10), .int (nI 70), .ref (g 46), .int (nI nt)] → f_24 46 = eI G (10 * 70) ct → (∀ j, (j ≠ 7 ∧ j ≠ 9 ∧ j ≠ 10) → f_24 j = f_23 j) → va_P G.1 vwCl (wl g f_24) H → va_S (gA g) s.heap H locs → lv_has ls 6 [(0, .ref (g 7)), (1, .ref (g 36)), (2, .int n), (3, .int (nI a1 - 1)), (4, .int (nI i))] → W p l e (headSpec (wsT yX9_seek cX9_seek 6 none) ({ frames := 3, cells := 0, slots := 0, locals := 72 })).room s m ([.ref (g 7), .ref (g 36), .int n] : List Value).toArray below meth c H locs 0 0 (MQ below (bQv G g (fun (f' : Nat → va_E) => ∃ mn9 : Nat, ∃ le9 : Int32, ∃ wt9 : Nat → Int32, ∃ ww9 : Nat → Int32, ∃ wb9 : Nat → Int32, ∃ wf9 : Nat → Int32, f' 7 = eO 8 [.ref (g 8), .ref (g 9), .ref (g 10), .ref (g 11), .int (nI mn9), .int le9] ∧ f' 8 = eI G 6 wt9 ∧ f' 9 = eI G 6 ww9 ∧ f' 10 = eI G 6 wb9 ∧ f' 11 = eI G 6 wf9 ∧ (mn9 ≤ 6) ∧ (∃ (Lo : Option Nat) (Bo : Nat → Nat), mn9 = cnt n nt ∧ bsW (fun k => dd (whT n nt k)) (fun k => ee (whT n nt k)) (fun i k => mtB (fun t c => ct (70 * t + c)) (whT n nt i) (whT n nt k)) mn9 Lo Bo ∧ le9 = fo Lo ∧ (∀ l, Lo = some l → l ≤ 30) ∧ ∀ l, Lo = some l → ∀ k, k < mn9 → wb9 k = nI (Bo k)) ∧ ∀ j, (j < 7 ∨ 11 < j) → f' j = f j)) ([.ref (g 7), .ref (g 36), .int n] : List Value).toArray s 0 0 (gA g)) (F0 m 34 ls []) := by
      intro n9_9
      induction n9_9 with
      | zero => intro i a1 v w Lo Bo w1 bb1 f_24 H locs ls hi hst hlo hbo hn9_9; exact absurd hn9_9 (Nat.not_lt_zero _)
      | succ n9_9 ih_9 =>
        intro i a1 v w Lo Bo w1 bb1 f_24 H locs ls hi hst hlo hbo hn9_9 hwt hw8 hw9 hw10 hw11 hbk htr hct o_24 hP hS hl
        refine lv_iload hx hb dX9_seek_34 (lv_at hl 4 rfl) ?_
        refine lv_ldc (v := 1000000) hx hb hown (hts (.constant RX9 35 (1000000)) w_826) dX9_seek_36 ?_
        refine lv_icmp_ge (tgt := 166) hx hb dX9_seek_38 (by decide) (fun c_38 => ?_) (fun c_38 => ?_)
        · have k_38 : 1000000 ≤ i := (nI_leI (a := 1000000) (b := i) (by omega) (by omega)).mp c_38
          have hend : bsW (fun k => dd (whT n nt k)) (fun k => ee (whT n nt k)) (fun i k => mtB (fun t c => ct (70 * t + c)) (whT n nt i) (whT n nt k)) mn91 Lo Bo := by
            rcases hst with ⟨h9, _⟩ | ⟨a, rfl, ⟨hsa, _, _, hwv, _, hv6⟩, hms⟩
            · exact h9
            · exfalso
              have h9 := ms7_b (a := a) (v := v) (w := w) (by omega) (fun j hj => Nat.le_succ_of_le (hwv j hj).1) hv6
              omega
          exact W.vret hx hb hr (fun _ hT9 _ => ⟨⟨f_24, rfl, (⟨mn91, (fo Lo), wt92, w1, bb1, wf93, hwt, hw8, hw9, hw10, hw11, hg6, ⟨Lo, Bo, hgm, hend, rfl, hlo, hbo⟩, fun j hj => ((((o_24 j (by omega))).trans (o_23 j (by omega))).trans (o_22 j (by omega))).trans (o_1 j (by omega))⟩), by rw [hT9]; exact hP⟩, hS.F hT9⟩) hS.2.2 dX9_seek_166
        · have k_38 : ¬ 1000000 ≤ i := fun z9 => c_38 ((nI_leI (a := 1000000) (b := i) (by omega) (by omega)).mpr z9)
          refine lv_iload_n hx hb dX9_seek_41 rfl (lv_at hl 3 rfl) ?_
          refine lv_if_lt (tgt := 166) hx hb dX9_seek_42 (by decide) (fun c_42 => ?_) (fun c_42 => ?_)
          · have hend : bsW (fun k => dd (whT n nt k)) (fun k => ee (whT n nt k)) (fun i k => mtB (fun t c => ct (70 * t + c)) (whT n nt i) (whT n nt k)) mn91 Lo Bo := by
              rcases hst with ⟨h9, _⟩ | ⟨a, rfl, ⟨hsa, _, _, hwv, _, hv6⟩, hms⟩
              · exact h9
              · exfalso
                rw [nI_pred] at c_42
                exact absurd c_42 (Int32.not_lt.mpr (nI_pos9 (by omega)))
            exact W.vret hx hb hr (fun _ hT9 _ => ⟨⟨f_24, rfl, (⟨mn91, (fo Lo), wt92, w1, bb1, wf93, hwt, hw8, hw9, hw10, hw11, hg6, ⟨Lo, Bo, hgm, hend, rfl, hlo, hbo⟩, fun j hj => ((((o_24 j (by omega))).trans (o_23 j (by omega))).trans (o_22 j (by omega))).trans (o_1 j (by omega))⟩), by rw [hT9]; exact hP⟩, hS.F hT9⟩) hS.2.2 dX9_seek_166
          · refine lv_iload_n hx hb dX9_seek_45 rfl (lv_at hl 3 rfl) ?_
            refine lv_aload_n hx hb dX9_seek_46 rfl (lv_at hl 0 rfl) ?_
            refine va_get (D := G.1) (ci := 8) (v := .int (nI mn91)) (C := RX9) (T := TX9) (N := 6) hx hb hts inlX9 hown hG.1 hP 7 (wl_at (by decide) hwt) rfl 4 (by decide) (hts (.fieldLink RX9 24 "SwornLists$Waits" "many" "I") w_824) (fun _ h9 => h9) rfl dX9_seek_47 ?_
            refine lv_icmp_ge (tgt := 166) hx hb dX9_seek_50 (by decide) (fun c_50 => ?_) (fun c_50 => ?_)
            · have hend : bsW (fun k => dd (whT n nt k)) (fun k => ee (whT n nt k)) (fun i k => mtB (fun t c => ct (70 * t + c)) (whT n nt i) (whT n nt k)) mn91 Lo Bo := by
                rcases hst with ⟨h9, _⟩ | ⟨a, rfl, ⟨hsa, _, _, hwv, _, hv6⟩, hms⟩
                · exact h9
                · exfalso
                  rw [nI_pred] at c_50
                  exact absurd ((nI_leI (by omega) (by omega)).mp c_50) (by omega)
              exact W.vret hx hb hr (fun _ hT9 _ => ⟨⟨f_24, rfl, (⟨mn91, (fo Lo), wt92, w1, bb1, wf93, hwt, hw8, hw9, hw10, hw11, hg6, ⟨Lo, Bo, hgm, hend, rfl, hlo, hbo⟩, fun j hj => ((((o_24 j (by omega))).trans (o_23 j (by omega))).trans (o_22 j (by omega))).trans (o_1 j (by omega))⟩), by rw [hT9]; exact hP⟩, hS.F hT9⟩) hS.2.2 dX9_seek_166
            · have hs9 : ∃ a, a1 = a + 1 ∧ seS (fun k => dd (whT n nt k)) (fun k => ee (whT n nt k)) (fun i k => mtB (fun t c => ct (70 * t + c)) (whT n nt i) (whT n nt k)) mn91 Lo Bo a w v w1 ∧ i ≤ ms7 a w v := by
                rcases hst with ⟨_, h9, h8⟩ | h9
                · exfalso
                  rcases (show a1 = 0 ∨ a1 = 1 by omega) with e9 | e9
                  · exact c_42 (by rw [e9]; decide)
                  · rcases h9 with h9 | h9
                    · omega
                    · exact c_50 (by rw [e9, h9]; decide)
                · exact h9
              obtain ⟨a, rfl, ⟨hsa, hse, hok, hwv, hwa, hv6⟩, hms⟩ := hs9
              rw [nI_pred] at hl
              have hsmb := sm_b (w := w) a (fun j hj => (hwv j hj).1)
              have hww9 : ∀ k, k ≤ a → upd w1 a (nI v) k = nI (upN w a v k) ∧ upN w a v k ≤ 6 := fun k hk => if e9 : k = a then (by rw [e9, pk_us, upN_s]; exact ⟨rfl, hv6⟩) else (by rw [pk_un e9, upN_o e9]; exact ⟨(hwv k (by omega)).2, Nat.le_succ_of_le (hwv k (by omega)).1⟩)
              refine lv_aload_n hx hb dX9_seek_53 rfl (lv_at hl 0 rfl) ?_
              refine va_get (D := G.1) (ci := 8) (v := .ref (g 9)) (C := RX9) (T := TX9) (N := 6) hx hb hts inlX9 hown hG.1 hP 7 (wl_at (by decide) hwt) rfl 1 (by decide) (hts (.fieldLink RX9 15 "SwornLists$Waits" "waits" "[I") w_105) (fun _ h9 => h9) rfl dX9_seek_54 ?_
              refine lv_iload_n hx hb dX9_seek_57 rfl (lv_at hl 3 rfl) ?_
              refine lv_dup2_11 hx hb dX9_seek_58 rfl rfl ?_
              refine va_iald hx hb hG.1 hP 9 0 (wl_at (by decide) hw9) rfl (vp_in_nI (by omega) (by decide)) dX9_seek_59 ?_
              refine my_bei (v := w1 a) (congrArg w1 (nI_clamp (n := a) (by omega))) ?_
              refine lv_iconst (v := 1) hx hb dX9_seek_60 (by decide) ?_
              refine lv_iadd hx hb dX9_seek_61 ?_
              refine my_bei (v := nI v) (by rw [hwa]; exact Int32.sub_add_cancel _ _) ?_
              refine va_iast hx hb hG.1 hP (wl_D hg f_24) hS 9 0 (wl_at (by decide) hw9) rfl (vp_in_nI (by omega) (by decide)) dX9_seek_62 (fun H locs hP _ hS => ?_)
              have hP := (congrArg (fun z9 => va_P G.1 vwCl ((wl g f_24).set 9 (g 9, eI G 6 ((upd w1 z9 (nI v))))) H) (show Int32.toNatClampNeg (nI a) = a from nI_clamp (by omega))).mp hP
              obtain ⟨f_25, hP, e_25, o_25⟩ := b_put (by decide) hP
              have hw9 : f_25 9 = eI G 6 (upd w1 a (nI v)) := e_25
              refine lv_aload_n hx hb dX9_seek_63 rfl (lv_at hl 0 rfl) ?_
              refine lv_iload_n hx hb dX9_seek_64 rfl (lv_at hl 3 rfl) ?_
              have hwt : f_25 7 = eO 8 [.ref (g 8), .ref (g 9), .ref (g 10), .ref (g 11), .int (nI mn91), .int (fo Lo)] := ((o_25 7 (by decide))).trans hwt
              refine rd_calli (va_runV (As := [.int (nI a)]) (rest := []) ⟨hx, hb, hml, hown, hts⟩ (v_sumToE l G g hg f_25 mn91 (fo Lo) (upd w1 a (nI v)) a (upN w a v) hwt hw9 (by first | assumption | omega | decide) (by first | assumption | omega | decide) (hww9)) (my_cwV hts ok_X9_sumTo w_841 rfl rfl ⟨Nat.le_of_ble_eq_true rfl, Nat.le_of_ble_eq_true rfl⟩) ⟨bP.blind, va_recv hG.1 hP (ci := 8) (q0 := 7) rfl (wl_at (by decide) hwt), fun U hU hW => ⟨rfl, by rw [hU]; exact hP, kG.warm hW hG⟩⟩ rfl rfl hl.1 rfl (lv_room (Nat.le_of_ble_eq_true rfl)) dX9_seek_65 ⟨Nat.le_of_ble_eq_true rfl, Nat.le_of_ble_eq_true rfl⟩) (fun r hr9 => ?_)
              subst hr9
              refine my_bei (v := nI (smW w a + v)) (congrArg nI sm_up) ?_
              refine lv_istore (lv' := [(5, .int (nI (smW w a + v))), (0, .ref (g 7)), (1, .ref (g 36)), (2, .int n), (3, .int (nI a)), (4, .int (nI i))]) hx hb dX9_seek_68 hl (by decide) rfl (fun ls hl => ?_)
              refine lv_aload_n hx hb dX9_seek_70 rfl (lv_at hl 1 rfl) ?_
              refine va_get (D := G.1) (ci := 8) (v := .ref (g 9)) (C := RX9) (T := TX9) (N := 6) hx hb hts inlX9 hown hG.1 hP 7 (wl_at (by decide) hwt) rfl 1 (by decide) (hts (.fieldLink RX9 15 "SwornLists$Waits" "waits" "[I") w_105) (fun _ h9 => h9) rfl dX9_seek_71 ?_
              refine lv_iload_n hx hb dX9_seek_74 rfl (lv_at hl 4 rfl) ?_
              refine va_iald hx hb hG.1 hP 9 0 (wl_at (by decide) hw9) rfl (vp_in_nI (by omega) (by decide)) dX9_seek_75 ?_
              refine my_bei (v := (upd w1 a (nI v)) a) (congrArg (upd w1 a (nI v)) (nI_clamp (n := a) (by omega))) ?_
              refine my_bei (v := nI v) (pk_us) ?_
              refine lv_aload_n hx hb dX9_seek_76 rfl (lv_at hl 1 rfl) ?_
              refine lv_iload_n hx hb dX9_seek_77 rfl (lv_at hl 4 rfl) ?_
              by_cases hfz : wf93 a = 0
              · have hw11 : f_25 11 = eI G 6 wf93 := ((o_25 11 (by decide))).trans hw11
                refine rd_calli (va_runV (As := [.int (nI a)]) (rest := [.int (nI v)]) ⟨hx, hb, hml, hown, hts⟩ (v_longest0 l G g hg f_25 mn91 (fo Lo) wf93 a hwt hw11 (by first | assumption | omega | decide) (by first | assumption | omega | decide) (by first | assumption | omega | decide)) (my_cwV hts ok_X9_longestOf w_845 rfl rfl ⟨Nat.le_of_ble_eq_true rfl, Nat.le_of_ble_eq_true rfl⟩) ⟨bP.blind, va_recv hG.1 hP (ci := 8) (q0 := 7) rfl (wl_at (by decide) hwt), fun U hU hW => ⟨rfl, by rw [hU]; exact hP, kG.warm hW hG⟩⟩ rfl rfl hl.1 rfl (lv_room (Nat.le_of_ble_eq_true rfl)) dX9_seek_78 ⟨Nat.le_of_ble_eq_true rfl, Nat.le_of_ble_eq_true rfl⟩) (fun r hr9 => ?_)
                subst hr9
                refine lv_icmp_gt (tgt := 101) hx hb dX9_seek_81 (by decide) (fun c_81 => ?_) (fun c_81 => ?_)
                · have k_81 : 0 < v := (nI_ltI (a := 0) (b := v) (by omega) (by omega)).mp c_81
                  refine lv_iinc (v := nI a - 1) (lv' := [(3, .int (nI a - 1)), (5, .int (nI (smW w a + v))), (0, .ref (g 7)), (1, .ref (g 36)), (2, .int n), (4, .int (nI i))]) hx hb dX9_seek_101 hl (k := 4) rfl (m1_sub _) (by decide) rfl (fun ls hl => ?_)
                  refine lv_goto (tgt := 160) hx hb dX9_seek_104 (by decide) ?_
                  refine lv_iinc (v := nI (i + 1)) (lv' := [(4, .int (nI (i + 1))), (3, .int (nI a - 1)), (5, .int (nI (smW w a + v))), (0, .ref (g 7)), (1, .ref (g 36)), (2, .int n)]) hx hb dX9_seek_160 hl (k := 5) rfl (nI_add i 1) (by decide) rfl (fun ls hl => ?_)
                  refine lv_goto (tgt := 34) hx hb dX9_seek_163 (by decide) ?_
                  have hw8 : f_25 8 = eI G 6 wt92 := ((o_25 8 (by decide))).trans hw8
                  have hw10 : f_25 10 = eI G 6 bb1 := ((o_25 10 (by decide))).trans hw10
                  have hbk : f_25 36 = eO 0 [.ref (g 37), .ref (g 39), .ref (g 41), .ref (g 43), .ref (g 45), .ref (g 47), .ref (g 112), .int pay, .int fine] := ((o_25 36 (by decide))).trans hbk
                  have htr : f_25 45 = eO 5 [.int (nI 10), .int (nI 70), .ref (g 46), .int (nI nt)] := ((o_25 45 (by decide))).trans htr
                  have hct : f_25 46 = eI G (10 * 70) ct := ((o_25 46 (by decide))).trans hct
                  exact ih_9 (i + 1) a (w (a - 1) + 1) w Lo Bo (upd w1 a (nI v)) bb1 f_25 _ _ _ (by omega) (seT_back hse hsa (by omega) hok (fun j hj => ⟨(hwv j hj).1, (pk_un (by omega)).trans (hwv j hj).2⟩) hv6 hms (fun x r o hx hv => hd_free hse hsa (by omega) (foV_z hgo hsa hfz) r o hx hv)) (hlo) (hbo) (by omega) (hwt) (hw8) (hw9) (hw10) (hw11) (hbk) (htr) (hct) (fun j hj => ((o_25 j (by omega))).trans (o_24 j (by omega))) hP hS (lv_sub hl [3, 4, 5, 1, 0] rfl)
                · have k_81 : ¬ 0 < v := fun z9 => c_81 ((nI_ltI (a := 0) (b := v) (by omega) (by omega)).mpr z9)
                  refine lv_aload_n hx hb dX9_seek_84 rfl (lv_at hl 1 rfl) ?_
                  refine va_get (D := G.1) (ci := 8) (v := .int (fo Lo)) (C := RX9) (T := TX9) (N := 6) hx hb hts inlX9 hown hG.1 hP 7 (wl_at (by decide) hwt) rfl 5 (by decide) (hts (.fieldLink RX9 32 "SwornLists$Waits" "leastSum" "I") w_825) (fun _ h9 => h9) rfl dX9_seek_85 ?_
                  refine lv_iconst (v := (-1)) hx hb dX9_seek_88 (by decide) ?_
                  refine lv_icmp_eq (tgt := 107) hx hb dX9_seek_89 (by decide) (fun c_89 => ?_) (fun c_89 => ?_)
                  · have hv5 : v ≤ 5 := by omega
                    refine lv_aload_n hx hb dX9_seek_107 rfl (lv_at hl 1 rfl) ?_
                    refine lv_aload_n hx hb dX9_seek_108 rfl (lv_at hl 2 rfl) ?_
                    refine lv_iload_n hx hb dX9_seek_109 rfl (lv_at hl 4 rfl) ?_
                    have hw8 : f_25 8 = eI G 6 wt92 := ((o_25 8 (by decide))).trans hw8
                    have hbk : f_25 36 = eO 0 [.ref (g 37), .ref (g 39), .ref (g 41), .ref (g 43), .ref (g 45), .ref (g 47), .ref (g 112), .int pay, .int fine] := ((o_25 36 (by decide))).trans hbk
                    have htr : f_25 45 = eO 5 [.int (nI 10), .int (nI 70), .ref (g 46), .int (nI nt)] := ((o_25 45 (by decide))).trans htr
                    have hct : f_25 46 = eI G (10 * 70) ct := ((o_25 46 (by decide))).trans hct
                    refine rd_calli (va_runV (As := [.ref (g 36), .int (nI a)]) (rest := []) ⟨hx, hb, hml, hown, hts⟩ (v_fitsE l G g hg f_25 mn91 (fo Lo) wt92 (upd w1 a (nI v)) wf93 pay fine nt ct dd ee (whT n nt) (upN w a v) a hwt hw8 hw9 hw11 hbk htr hct (by first | assumption | omega | decide) (by first | assumption | omega | decide) (by first | assumption | omega | decide) (hgw) (hww9) (hgo) (hde)) (my_cwV hts ok_X9_fits w_849 rfl rfl ⟨Nat.le_of_ble_eq_true rfl, Nat.le_of_ble_eq_true rfl⟩) ⟨bP.blind, va_recv hG.1 hP (ci := 8) (q0 := 7) rfl (wl_at (by decide) hwt), fun U hU hW => ⟨rfl, by rw [hU]; exact hP, kG.warm hW hG⟩⟩ rfl rfl hl.1 rfl (lv_room (Nat.le_of_ble_eq_true rfl)) dX9_seek_110 ⟨Nat.le_of_ble_eq_true rfl, Nat.le_of_ble_eq_true rfl⟩) (fun r hr9 => ?_)
                    obtain ⟨bz10, rfl, hx_26_0, hx_26_1⟩ := hr9
                    refine my_ifeq (tgt := 160) hx hb dX9_seek_113 (by decide) (fun c_113 => ?_) (fun c_113 => ?_)
                    · rw [← nI_pred a] at hl
                      refine lv_iinc (v := nI (i + 1)) (lv' := [(4, .int (nI (i + 1))), (5, .int (nI (smW w a + v))), (0, .ref (g 7)), (1, .ref (g 36)), (2, .int n), (3, .int (nI (a + 1) - 1))]) hx hb dX9_seek_160 hl (k := 5) rfl (nI_add i 1) (by decide) rfl (fun ls hl => ?_)
                      refine lv_goto (tgt := 34) hx hb dX9_seek_163 (by decide) ?_
                      have hw10 : f_25 10 = eI G 6 bb1 := ((o_25 10 (by decide))).trans hw10
                      exact ih_9 (i + 1) (a + 1) (v + 1) w Lo Bo (upd w1 a (nI v)) bb1 f_25 _ _ _ (by omega) (seT_unfit hse hsa hok (fun j hj => ⟨(hwv j hj).1, (pk_un (by omega)).trans (hwv j hj).2⟩) pk_us hv5 hms (hx_26_1 (eq_false_of_ne_true c_113))) (hlo) (hbo) (by omega) (hwt) (hw8) (hw9) (hw10) (hw11) (hbk) (htr) (hct) (fun j hj => ((o_25 j (by omega))).trans (o_24 j (by omega))) hP hS (lv_sub hl [2, 3, 4, 5, 0] rfl)
                    · refine lv_iload_n hx hb dX9_seek_116 rfl (lv_at hl 4 rfl) ?_
                      refine lv_aload_n hx hb dX9_seek_117 rfl (lv_at hl 1 rfl) ?_
                      refine va_get (D := G.1) (ci := 8) (v := .int (nI mn91)) (C := RX9) (T := TX9) (N := 6) hx hb hts inlX9 hown hG.1 hP 7 (wl_at (by decide) hwt) rfl 4 (by decide) (hts (.fieldLink RX9 24 "SwornLists$Waits" "many" "I") w_824) (fun _ h9 => h9) rfl dX9_seek_118 ?_
                      refine lv_iconst (v := 1) hx hb dX9_seek_121 (by decide) ?_
                      refine lv_isub hx hb dX9_seek_122 ?_
                      refine my_bei (v := nI (mn91 - 1)) (pk_sub (a := mn91) (b := 1) (by omega)) ?_
                      refine lv_icmp_ne (tgt := 150) hx hb dX9_seek_123 (by decide) (fun c_123 => ?_) (fun c_123 => ?_)
                      · have k_123 : ¬ a = mn91 - 1 := fun z9 => c_123 ((nI_eq (a := a) (b := mn91 - 1) (by omega) (by omega)).mpr z9)
                        refine lv_iinc (v := nI (a + 1)) (lv' := [(3, .int (nI (a + 1))), (5, .int (nI (smW w a + v))), (0, .ref (g 7)), (1, .ref (g 36)), (2, .int n), (4, .int (nI i))]) hx hb dX9_seek_150 hl (k := 4) rfl (nI_add a 1) (by decide) rfl (fun ls hl => ?_)
                        refine lv_aload_n hx hb dX9_seek_153 rfl (lv_at hl 2 rfl) ?_
                        refine va_get (D := G.1) (ci := 8) (v := .ref (g 9)) (C := RX9) (T := TX9) (N := 6) hx hb hts inlX9 hown hG.1 hP 7 (wl_at (by decide) hwt) rfl 1 (by decide) (hts (.fieldLink RX9 15 "SwornLists$Waits" "waits" "[I") w_105) (fun _ h9 => h9) rfl dX9_seek_154 ?_
                        refine lv_iload_n hx hb dX9_seek_157 rfl (lv_at hl 0 rfl) ?_
                        refine lv_iconst (v := (-1)) hx hb dX9_seek_158 (by decide) ?_
                        refine va_iast hx hb hG.1 hP (wl_D hg f_25) hS 9 0 (wl_at (by decide) hw9) rfl (vp_in_nI (by omega) (by decide)) dX9_seek_159 (fun H locs hP _ hS => ?_)
                        have hP := (congrArg (fun z9 => va_P G.1 vwCl ((wl g f_25).set 9 (g 9, eI G 6 ((upd (upd w1 a (nI v)) z9 (-1))))) H) (show Int32.toNatClampNeg (nI (a + 1)) = a + 1 from nI_clamp (by omega))).mp hP
                        obtain ⟨f_27, hP, e_27, o_27⟩ := b_put (by decide) hP
                        have hw9 : f_27 9 = eI G 6 (upd (upd w1 a (nI v)) (a + 1) (-1)) := e_27
                        rw [← nI_pred (a + 1)] at hl
                        refine lv_iinc (v := nI (i + 1)) (lv' := [(4, .int (nI (i + 1))), (3, .int (nI (a + 1 + 1) - 1)), (5, .int (nI (smW w a + v))), (0, .ref (g 7)), (1, .ref (g 36)), (2, .int n)]) hx hb dX9_seek_160 hl (k := 5) rfl (nI_add i 1) (by decide) rfl (fun ls hl => ?_)
                        refine lv_goto (tgt := 34) hx hb dX9_seek_163 (by decide) ?_
                        have hwt : f_27 7 = eO 8 [.ref (g 8), .ref (g 9), .ref (g 10), .ref (g 11), .int (nI mn91), .int (fo Lo)] := ((o_27 7 (by decide))).trans hwt
                        have hw8 : f_27 8 = eI G 6 wt92 := ((o_27 8 (by decide))).trans hw8
                        have hw10 : f_27 10 = eI G 6 bb1 := ((o_27 10 (by decide)).trans ((o_25 10 (by decide)))).trans hw10
                        have hw11 : f_27 11 = eI G 6 wf93 := ((o_27 11 (by decide))).trans hw11
                        have hbk : f_27 36 = eO 0 [.ref (g 37), .ref (g 39), .ref (g 41), .ref (g 43), .ref (g 45), .ref (g 47), .ref (g 112), .int pay, .int fine] := ((o_27 36 (by decide))).trans hbk
                        have htr : f_27 45 = eO 5 [.int (nI 10), .int (nI 70), .ref (g 46), .int (nI nt)] := ((o_27 45 (by decide))).trans htr
                        have hct : f_27 46 = eI G (10 * 70) ct := ((o_27 46 (by decide))).trans hct
                        exact ih_9 (i + 1) (a + 1 + 1) 0 (upN w a v) Lo Bo (upd (upd w1 a (nI v)) (a + 1) (-1)) bb1 f_27 _ _ _ (by omega) (seT_dn hse (by omega) hok (fun j hj => ⟨(hwv j hj).1, (pk_un (by omega)).trans ((pk_un (by omega)).trans (hwv j hj).2)⟩) ((pk_un (by omega)).trans pk_us) pk_us hv5 hms (hx_26_0 c_113)) (hlo) (hbo) (by omega) (hwt) (hw8) (hw9) (hw10) (hw11) (hbk) (htr) (hct) (fun j hj => (((o_27 j (by omega))).trans (o_25 j (by omega))).trans (o_24 j (by omega))) hP hS (lv_sub hl [3, 4, 5, 1, 0] rfl)
                      · have k_123 : a = mn91 - 1 := (nI_eq (a := a) (b := mn91 - 1) (by omega) (by omega)).mp c_123
                        refine lv_aload_n hx hb dX9_seek_126 rfl (lv_at hl 1 rfl) ?_
                        refine lv_iload hx hb dX9_seek_127 (lv_at hl 0 rfl) ?_
                        refine va_put (D := G.1) (ci := 8) (v := .int (nI (smW w a + v))) (ty := .int) (C := RX9) (T := TX9) (N := 6) hx hb hts inlX9 tyX9 tyX9_ok nmX9 hown hG.1 hP (wl_D hg f_25) hS 7 (wl_at (by decide) hwt) rfl 5 (by decide) (hts (.fieldLink RX9 32 "SwornLists$Waits" "leastSum" "I") w_825) (fun _ h9 => h9) rfl (by decide +kernel) rfl rfl (Nat.le_of_ble_eq_true rfl) dX9_seek_129 (fun H locs hP _ hS => ?_)
                        obtain ⟨f_28, hP, e_28, o_28⟩ := b_put (by decide) hP
                        have hwt : f_28 7 = eO 8 [.ref (g 8), .ref (g 9), .ref (g 10), .ref (g 11), .int (nI mn91), .int (nI (smW w a + v))] := e_28
                        refine lv_aload_n hx hb dX9_seek_132 rfl (lv_at hl 1 rfl) ?_
                        refine va_get (D := G.1) (ci := 8) (v := .ref (g 9)) (C := RX9) (T := TX9) (N := 6) hx hb hts inlX9 hown hG.1 hP 7 (wl_at (by decide) hwt) rfl 1 (by decide) (hts (.fieldLink RX9 15 "SwornLists$Waits" "waits" "[I") w_105) (fun _ h9 => h9) rfl dX9_seek_133 ?_
                        refine lv_iconst (v := 0) hx hb dX9_seek_136 (by decide) ?_
                        refine lv_aload_n hx hb dX9_seek_137 rfl (lv_at hl 1 rfl) ?_
                        refine va_get (D := G.1) (ci := 8) (v := .ref (g 10)) (C := RX9) (T := TX9) (N := 6) hx hb hts inlX9 hown hG.1 hP 7 (wl_at (by decide) hwt) rfl 2 (by decide) (hts (.fieldLink RX9 18 "SwornLists$Waits" "best" "[I") w_106) (fun _ h9 => h9) rfl dX9_seek_138 ?_
                        refine lv_iconst (v := 0) hx hb dX9_seek_141 (by decide) ?_
                        refine lv_bipush (v := 6) hx hb dX9_seek_142 (by decide) ?_
                        have hw9 : f_28 9 = eI G 6 (upd w1 a (nI v)) := ((o_28 9 (by decide))).trans hw9
                        have hw10 : f_28 10 = eI G 6 bb1 := ((o_28 10 (by decide)).trans ((o_25 10 (by decide)))).trans hw10
                        refine va_copyi hx hb (by rw [hml]; exact hl.1.symm) hown (hts (.methodLink RX9 47 arraycopyName) w_827) (hts (.native arraycopyName) w_599) (hts (.static arraycopyName) w_600) (hts (.initialized "java/lang/System") w_601) hG.1 hP (wl_D hg f_28) hS 9 10 0 0 (wl_at (by decide) hw9) (wl_at (by decide) hw10) rfl rfl rfl (by decide) (by decide) (by decide) (by decide) (by decide) (fun _ _ => rfl) (Nat.le_of_ble_eq_true rfl) (Nat.le_of_ble_eq_true rfl) dX9_seek_144 (fun H locs hP _ hS => ?_)
                        obtain ⟨f_29, hP, e_29, o_29⟩ := b_put (by decide) hP
                        have hw10 : f_29 10 = eI G 6 (va_cpy (upd w1 a (nI v)) bb1 (Int32.toNatClampNeg 0) (Int32.toNatClampNeg 0) (Int32.toNatClampNeg 6)) := e_29
                        refine lv_goto (tgt := 160) hx hb dX9_seek_147 (by decide) ?_
                        rw [← nI_pred a] at hl
                        refine lv_iinc (v := nI (i + 1)) (lv' := [(4, .int (nI (i + 1))), (5, .int (nI (smW w a + v))), (0, .ref (g 7)), (1, .ref (g 36)), (2, .int n), (3, .int (nI (a + 1) - 1))]) hx hb dX9_seek_160 hl (k := 5) rfl (nI_add i 1) (by decide) rfl (fun ls hl => ?_)
                        refine lv_goto (tgt := 34) hx hb dX9_seek_163 (by decide) ?_
                        have hwt : f_29 7 = eO 8 [.ref (g 8), .ref (g 9), .ref (g 10), .ref (g 11), .int (nI mn91), .int (nI (smW w a + v))] := ((o_29 7 (by decide))).trans hwt
                        have hw8 : f_29 8 = eI G 6 wt92 := ((o_29 8 (by decide)).trans ((o_28 8 (by decide)))).trans hw8
                        have hw9 : f_29 9 = eI G 6 (upd w1 a (nI v)) := ((o_29 9 (by decide))).trans hw9
                        have hw11 : f_29 11 = eI G 6 wf93 := ((o_29 11 (by decide)).trans ((o_28 11 (by decide)))).trans hw11
                        have hbk : f_29 36 = eO 0 [.ref (g 37), .ref (g 39), .ref (g 41), .ref (g 43), .ref (g 45), .ref (g 47), .ref (g 112), .int pay, .int fine] := ((o_29 36 (by decide)).trans ((o_28 36 (by decide)))).trans hbk
                        have htr : f_29 45 = eO 5 [.int (nI 10), .int (nI 70), .ref (g 46), .int (nI nt)] := ((o_29 45 (by decide)).trans ((o_28 45 (by decide)))).trans htr
                        have hct : f_29 46 = eI G (10 * 70) ct := ((o_29 46 (by decide)).trans ((o_28 46 (by decide)))).trans hct
                        exact ih_9 (i + 1) (a + 1) (v + 1) w (some (smW w a + v)) (upN w a v) (upd w1 a (nI v)) (va_cpy (upd w1 a (nI v)) bb1 (Int32.toNatClampNeg 0) (Int32.toNatClampNeg 0) (Int32.toNatClampNeg 6)) f_29 _ _ _ (by omega) (seT_new hse (by omega) hok (fun j hj => ⟨(hwv j hj).1, (pk_un (by omega)).trans (hwv j hj).2⟩) pk_us hv5 hms (hx_26_0 c_113) (fo_ltN (Or.inl c_89) hlo (by omega)) (fun _ _ => rfl)) (fun l hl => by cases hl; omega) (fun l hl k hk => (cpy_all (N := 6) (by decide) k (by omega)).trans (hww9 k (by omega)).1) (by omega) (hwt) (hw8) (hw9) (hw10) (hw11) (hbk) (htr) (hct) (fun j hj => ((((o_29 j (by omega))).trans (o_28 j (by omega))).trans (o_25 j (by omega))).trans (o_24 j (by omega))) hP hS (lv_sub hl [2, 3, 4, 5, 0] rfl)
                  · refine lv_iload hx hb dX9_seek_92 (lv_at hl 0 rfl) ?_
                    refine lv_aload_n hx hb dX9_seek_94 rfl (lv_at hl 1 rfl) ?_
                    refine va_get (D := G.1) (ci := 8) (v := .int (fo Lo)) (C := RX9) (T := TX9) (N := 6) hx hb hts inlX9 hown hG.1 hP 7 (wl_at (by decide) hwt) rfl 5 (by decide) (hts (.fieldLink RX9 32 "SwornLists$Waits" "leastSum" "I") w_825) (fun _ h9 => h9) rfl dX9_seek_95 ?_
                    refine lv_icmp_lt (tgt := 107) hx hb dX9_seek_98 (by decide) (fun c_98 => ?_) (fun c_98 => ?_)
                    · have hv5 : v ≤ 5 := by omega
                      refine lv_aload_n hx hb dX9_seek_107 rfl (lv_at hl 1 rfl) ?_
                      refine lv_aload_n hx hb dX9_seek_108 rfl (lv_at hl 2 rfl) ?_
                      refine lv_iload_n hx hb dX9_seek_109 rfl (lv_at hl 4 rfl) ?_
                      have hw8 : f_25 8 = eI G 6 wt92 := ((o_25 8 (by decide))).trans hw8
                      have hbk : f_25 36 = eO 0 [.ref (g 37), .ref (g 39), .ref (g 41), .ref (g 43), .ref (g 45), .ref (g 47), .ref (g 112), .int pay, .int fine] := ((o_25 36 (by decide))).trans hbk
                      have htr : f_25 45 = eO 5 [.int (nI 10), .int (nI 70), .ref (g 46), .int (nI nt)] := ((o_25 45 (by decide))).trans htr
                      have hct : f_25 46 = eI G (10 * 70) ct := ((o_25 46 (by decide))).trans hct
                      refine rd_calli (va_runV (As := [.ref (g 36), .int (nI a)]) (rest := []) ⟨hx, hb, hml, hown, hts⟩ (v_fitsE l G g hg f_25 mn91 (fo Lo) wt92 (upd w1 a (nI v)) wf93 pay fine nt ct dd ee (whT n nt) (upN w a v) a hwt hw8 hw9 hw11 hbk htr hct (by first | assumption | omega | decide) (by first | assumption | omega | decide) (by first | assumption | omega | decide) (hgw) (hww9) (hgo) (hde)) (my_cwV hts ok_X9_fits w_849 rfl rfl ⟨Nat.le_of_ble_eq_true rfl, Nat.le_of_ble_eq_true rfl⟩) ⟨bP.blind, va_recv hG.1 hP (ci := 8) (q0 := 7) rfl (wl_at (by decide) hwt), fun U hU hW => ⟨rfl, by rw [hU]; exact hP, kG.warm hW hG⟩⟩ rfl rfl hl.1 rfl (lv_room (Nat.le_of_ble_eq_true rfl)) dX9_seek_110 ⟨Nat.le_of_ble_eq_true rfl, Nat.le_of_ble_eq_true rfl⟩) (fun r hr9 => ?_)
                      obtain ⟨bz11, rfl, hx_30_0, hx_30_1⟩ := hr9
                      refine my_ifeq (tgt := 160) hx hb dX9_seek_113 (by decide) (fun c_113 => ?_) (fun c_113 => ?_)
                      · rw [← nI_pred a] at hl
                        refine lv_iinc (v := nI (i + 1)) (lv' := [(4, .int (nI (i + 1))), (5, .int (nI (smW w a + v))), (0, .ref (g 7)), (1, .ref (g 36)), (2, .int n), (3, .int (nI (a + 1) - 1))]) hx hb dX9_seek_160 hl (k := 5) rfl (nI_add i 1) (by decide) rfl (fun ls hl => ?_)
                        refine lv_goto (tgt := 34) hx hb dX9_seek_163 (by decide) ?_
                        have hw10 : f_25 10 = eI G 6 bb1 := ((o_25 10 (by decide))).trans hw10
                        exact ih_9 (i + 1) (a + 1) (v + 1) w Lo Bo (upd w1 a (nI v)) bb1 f_25 _ _ _ (by omega) (seT_unfit hse hsa hok (fun j hj => ⟨(hwv j hj).1, (pk_un (by omega)).trans (hwv j hj).2⟩) pk_us hv5 hms (hx_30_1 (eq_false_of_ne_true c_113))) (hlo) (hbo) (by omega) (hwt) (hw8) (hw9) (hw10) (hw11) (hbk) (htr) (hct) (fun j hj => ((o_25 j (by omega))).trans (o_24 j (by omega))) hP hS (lv_sub hl [2, 3, 4, 5, 0] rfl)
                      · refine lv_iload_n hx hb dX9_seek_116 rfl (lv_at hl 4 rfl) ?_
                        refine lv_aload_n hx hb dX9_seek_117 rfl (lv_at hl 1 rfl) ?_
                        refine va_get (D := G.1) (ci := 8) (v := .int (nI mn91)) (C := RX9) (T := TX9) (N := 6) hx hb hts inlX9 hown hG.1 hP 7 (wl_at (by decide) hwt) rfl 4 (by decide) (hts (.fieldLink RX9 24 "SwornLists$Waits" "many" "I") w_824) (fun _ h9 => h9) rfl dX9_seek_118 ?_
                        refine lv_iconst (v := 1) hx hb dX9_seek_121 (by decide) ?_
                        refine lv_isub hx hb dX9_seek_122 ?_
                        refine my_bei (v := nI (mn91 - 1)) (pk_sub (a := mn91) (b := 1) (by omega)) ?_
                        refine lv_icmp_ne (tgt := 150) hx hb dX9_seek_123 (by decide) (fun c_123 => ?_) (fun c_123 => ?_)
                        · have k_123 : ¬ a = mn91 - 1 := fun z9 => c_123 ((nI_eq (a := a) (b := mn91 - 1) (by omega) (by omega)).mpr z9)
                          refine lv_iinc (v := nI (a + 1)) (lv' := [(3, .int (nI (a + 1))), (5, .int (nI (smW w a + v))), (0, .ref (g 7)), (1, .ref (g 36)), (2, .int n), (4, .int (nI i))]) hx hb dX9_seek_150 hl (k := 4) rfl (nI_add a 1) (by decide) rfl (fun ls hl => ?_)
                          refine lv_aload_n hx hb dX9_seek_153 rfl (lv_at hl 2 rfl) ?_
                          refine va_get (D := G.1) (ci := 8) (v := .ref (g 9)) (C := RX9) (T := TX9) (N := 6) hx hb hts inlX9 hown hG.1 hP 7 (wl_at (by decide) hwt) rfl 1 (by decide) (hts (.fieldLink RX9 15 "SwornLists$Waits" "waits" "[I") w_105) (fun _ h9 => h9) rfl dX9_seek_154 ?_
                          refine lv_iload_n hx hb dX9_seek_157 rfl (lv_at hl 0 rfl) ?_
                          refine lv_iconst (v := (-1)) hx hb dX9_seek_158 (by decide) ?_
                          refine va_iast hx hb hG.1 hP (wl_D hg f_25) hS 9 0 (wl_at (by decide) hw9) rfl (vp_in_nI (by omega) (by decide)) dX9_seek_159 (fun H locs hP _ hS => ?_)
                          have hP := (congrArg (fun z9 => va_P G.1 vwCl ((wl g f_25).set 9 (g 9, eI G 6 ((upd (upd w1 a (nI v)) z9 (-1))))) H) (show Int32.toNatClampNeg (nI (a + 1)) = a + 1 from nI_clamp (by omega))).mp hP
                          obtain ⟨f_31, hP, e_31, o_31⟩ := b_put (by decide) hP
                          have hw9 : f_31 9 = eI G 6 (upd (upd w1 a (nI v)) (a + 1) (-1)) := e_31
                          rw [← nI_pred (a + 1)] at hl
                          refine lv_iinc (v := nI (i + 1)) (lv' := [(4, .int (nI (i + 1))), (3, .int (nI (a + 1 + 1) - 1)), (5, .int (nI (smW w a + v))), (0, .ref (g 7)), (1, .ref (g 36)), (2, .int n)]) hx hb dX9_seek_160 hl (k := 5) rfl (nI_add i 1) (by decide) rfl (fun ls hl => ?_)
                          refine lv_goto (tgt := 34) hx hb dX9_seek_163 (by decide) ?_
                          have hwt : f_31 7 = eO 8 [.ref (g 8), .ref (g 9), .ref (g 10), .ref (g 11), .int (nI mn91), .int (fo Lo)] := ((o_31 7 (by decide))).trans hwt
                          have hw8 : f_31 8 = eI G 6 wt92 := ((o_31 8 (by decide))).trans hw8
                          have hw10 : f_31 10 = eI G 6 bb1 := ((o_31 10 (by decide)).trans ((o_25 10 (by decide)))).trans hw10
                          have hw11 : f_31 11 = eI G 6 wf93 := ((o_31 11 (by decide))).trans hw11
                          have hbk : f_31 36 = eO 0 [.ref (g 37), .ref (g 39), .ref (g 41), .ref (g 43), .ref (g 45), .ref (g 47), .ref (g 112), .int pay, .int fine] := ((o_31 36 (by decide))).trans hbk
                          have htr : f_31 45 = eO 5 [.int (nI 10), .int (nI 70), .ref (g 46), .int (nI nt)] := ((o_31 45 (by decide))).trans htr
                          have hct : f_31 46 = eI G (10 * 70) ct := ((o_31 46 (by decide))).trans hct
                          exact ih_9 (i + 1) (a + 1 + 1) 0 (upN w a v) Lo Bo (upd (upd w1 a (nI v)) (a + 1) (-1)) bb1 f_31 _ _ _ (by omega) (seT_dn hse (by omega) hok (fun j hj => ⟨(hwv j hj).1, (pk_un (by omega)).trans ((pk_un (by omega)).trans (hwv j hj).2)⟩) ((pk_un (by omega)).trans pk_us) pk_us hv5 hms (hx_30_0 c_113)) (hlo) (hbo) (by omega) (hwt) (hw8) (hw9) (hw10) (hw11) (hbk) (htr) (hct) (fun j hj => (((o_31 j (by omega))).trans (o_25 j (by omega))).trans (o_24 j (by omega))) hP hS (lv_sub hl [3, 4, 5, 1, 0] rfl)
                        · have k_123 : a = mn91 - 1 := (nI_eq (a := a) (b := mn91 - 1) (by omega) (by omega)).mp c_123
                          refine lv_aload_n hx hb dX9_seek_126 rfl (lv_at hl 1 rfl) ?_
                          refine lv_iload hx hb dX9_seek_127 (lv_at hl 0 rfl) ?_
                          refine va_put (D := G.1) (ci := 8) (v := .int (nI (smW w a + v))) (ty := .int) (C := RX9) (T := TX9) (N := 6) hx hb hts inlX9 tyX9 tyX9_ok nmX9 hown hG.1 hP (wl_D hg f_25) hS 7 (wl_at (by decide) hwt) rfl 5 (by decide) (hts (.fieldLink RX9 32 "SwornLists$Waits" "leastSum" "I") w_825) (fun _ h9 => h9) rfl (by decide +kernel) rfl rfl (Nat.le_of_ble_eq_true rfl) dX9_seek_129 (fun H locs hP _ hS => ?_)
                          obtain ⟨f_32, hP, e_32, o_32⟩ := b_put (by decide) hP
                          have hwt : f_32 7 = eO 8 [.ref (g 8), .ref (g 9), .ref (g 10), .ref (g 11), .int (nI mn91), .int (nI (smW w a + v))] := e_32
                          refine lv_aload_n hx hb dX9_seek_132 rfl (lv_at hl 1 rfl) ?_
                          refine va_get (D := G.1) (ci := 8) (v := .ref (g 9)) (C := RX9) (T := TX9) (N := 6) hx hb hts inlX9 hown hG.1 hP 7 (wl_at (by decide) hwt) rfl 1 (by decide) (hts (.fieldLink RX9 15 "SwornLists$Waits" "waits" "[I") w_105) (fun _ h9 => h9) rfl dX9_seek_133 ?_
                          refine lv_iconst (v := 0) hx hb dX9_seek_136 (by decide) ?_
                          refine lv_aload_n hx hb dX9_seek_137 rfl (lv_at hl 1 rfl) ?_
                          refine va_get (D := G.1) (ci := 8) (v := .ref (g 10)) (C := RX9) (T := TX9) (N := 6) hx hb hts inlX9 hown hG.1 hP 7 (wl_at (by decide) hwt) rfl 2 (by decide) (hts (.fieldLink RX9 18 "SwornLists$Waits" "best" "[I") w_106) (fun _ h9 => h9) rfl dX9_seek_138 ?_
                          refine lv_iconst (v := 0) hx hb dX9_seek_141 (by decide) ?_
                          refine lv_bipush (v := 6) hx hb dX9_seek_142 (by decide) ?_
                          have hw9 : f_32 9 = eI G 6 (upd w1 a (nI v)) := ((o_32 9 (by decide))).trans hw9
                          have hw10 : f_32 10 = eI G 6 bb1 := ((o_32 10 (by decide)).trans ((o_25 10 (by decide)))).trans hw10
                          refine va_copyi hx hb (by rw [hml]; exact hl.1.symm) hown (hts (.methodLink RX9 47 arraycopyName) w_827) (hts (.native arraycopyName) w_599) (hts (.static arraycopyName) w_600) (hts (.initialized "java/lang/System") w_601) hG.1 hP (wl_D hg f_32) hS 9 10 0 0 (wl_at (by decide) hw9) (wl_at (by decide) hw10) rfl rfl rfl (by decide) (by decide) (by decide) (by decide) (by decide) (fun _ _ => rfl) (Nat.le_of_ble_eq_true rfl) (Nat.le_of_ble_eq_true rfl) dX9_seek_144 (fun H locs hP _ hS => ?_)
                          obtain ⟨f_33, hP, e_33, o_33⟩ := b_put (by decide) hP
                          have hw10 : f_33 10 = eI G 6 (va_cpy (upd w1 a (nI v)) bb1 (Int32.toNatClampNeg 0) (Int32.toNatClampNeg 0) (Int32.toNatClampNeg 6)) := e_33
                          refine lv_goto (tgt := 160) hx hb dX9_seek_147 (by decide) ?_
                          rw [← nI_pred a] at hl
                          refine lv_iinc (v := nI (i + 1)) (lv' := [(4, .int (nI (i + 1))), (5, .int (nI (smW w a + v))), (0, .ref (g 7)), (1, .ref (g 36)), (2, .int n), (3, .int (nI (a + 1) - 1))]) hx hb dX9_seek_160 hl (k := 5) rfl (nI_add i 1) (by decide) rfl (fun ls hl => ?_)
                          refine lv_goto (tgt := 34) hx hb dX9_seek_163 (by decide) ?_
                          have hwt : f_33 7 = eO 8 [.ref (g 8), .ref (g 9), .ref (g 10), .ref (g 11), .int (nI mn91), .int (nI (smW w a + v))] := ((o_33 7 (by decide))).trans hwt
                          have hw8 : f_33 8 = eI G 6 wt92 := ((o_33 8 (by decide)).trans ((o_32 8 (by decide)))).trans hw8
                          have hw9 : f_33 9 = eI G 6 (upd w1 a (nI v)) := ((o_33 9 (by decide))).trans hw9
                          have hw11 : f_33 11 = eI G 6 wf93 := ((o_33 11 (by decide)).trans ((o_32 11 (by decide)))).trans hw11
                          have hbk : f_33 36 = eO 0 [.ref (g 37), .ref (g 39), .ref (g 41), .ref (g 43), .ref (g 45), .ref (g 47), .ref (g 112), .int pay, .int fine] := ((o_33 36 (by decide)).trans ((o_32 36 (by decide)))).trans hbk
                          have htr : f_33 45 = eO 5 [.int (nI 10), .int (nI 70), .ref (g 46), .int (nI nt)] := ((o_33 45 (by decide)).trans ((o_32 45 (by decide)))).trans htr
                          have hct : f_33 46 = eI G (10 * 70) ct := ((o_33 46 (by decide)).trans ((o_32 46 (by decide)))).trans hct
                          exact ih_9 (i + 1) (a + 1) (v + 1) w (some (smW w a + v)) (upN w a v) (upd w1 a (nI v)) (va_cpy (upd w1 a (nI v)) bb1 (Int32.toNatClampNeg 0) (Int32.toNatClampNeg 0) (Int32.toNatClampNeg 6)) f_33 _ _ _ (by omega) (seT_new hse (by omega) hok (fun j hj => ⟨(hwv j hj).1, (pk_un (by omega)).trans (hwv j hj).2⟩) pk_us hv5 hms (hx_30_0 c_113) (fo_ltN (Or.inr c_98) hlo (by omega)) (fun _ _ => rfl)) (fun l hl => by cases hl; omega) (fun l hl k hk => (cpy_all (N := 6) (by decide) k (by omega)).trans (hww9 k (by omega)).1) (by omega) (hwt) (hw8) (hw9) (hw10) (hw11) (hbk) (htr) (hct) (fun j hj => ((((o_33 j (by omega))).trans (o_32 j (by omega))).trans (o_25 j (by omega))).trans (o_24 j (by omega))) hP hS (lv_sub hl [2, 3, 4, 5, 0] rfl)
                    · refine lv_iinc (v := nI a - 1) (lv' := [(3, .int (nI a - 1)), (5, .int (nI (smW w a + v))), (0, .ref (g 7)), (1, .ref (g 36)), (2, .int n), (4, .int (nI i))]) hx hb dX9_seek_101 hl (k := 4) rfl (m1_sub _) (by decide) rfl (fun ls hl => ?_)
                      refine lv_goto (tgt := 160) hx hb dX9_seek_104 (by decide) ?_
                      refine lv_iinc (v := nI (i + 1)) (lv' := [(4, .int (nI (i + 1))), (3, .int (nI a - 1)), (5, .int (nI (smW w a + v))), (0, .ref (g 7)), (1, .ref (g 36)), (2, .int n)]) hx hb dX9_seek_160 hl (k := 5) rfl (nI_add i 1) (by decide) rfl (fun ls hl => ?_)
                      refine lv_goto (tgt := 34) hx hb dX9_seek_163 (by decide) ?_
                      have hw8 : f_25 8 = eI G 6 wt92 := ((o_25 8 (by decide))).trans hw8
                      have hw10 : f_25 10 = eI G 6 bb1 := ((o_25 10 (by decide))).trans hw10
                      have hbk : f_25 36 = eO 0 [.ref (g 37), .ref (g 39), .ref (g 41), .ref (g 43), .ref (g 45), .ref (g 47), .ref (g 112), .int pay, .int fine] := ((o_25 36 (by decide))).trans hbk
                      have htr : f_25 45 = eO 5 [.int (nI 10), .int (nI 70), .ref (g 46), .int (nI nt)] := ((o_25 45 (by decide))).trans htr
                      have hct : f_25 46 = eI G (10 * 70) ct := ((o_25 46 (by decide))).trans hct
                      exact ih_9 (i + 1) a (w (a - 1) + 1) w Lo Bo (upd w1 a (nI v)) bb1 f_25 _ _ _ (by omega) (seT_back hse hsa (by omega) hok (fun j hj => ⟨(hwv j hj).1, (pk_un (by omega)).trans (hwv j hj).2⟩) hv6 hms (hd_sum' hse hsa c_89 c_98 hlo (by omega))) (hlo) (hbo) (by omega) (hwt) (hw8) (hw9) (hw10) (hw11) (hbk) (htr) (hct) (fun j hj => ((o_25 j (by omega))).trans (o_24 j (by omega))) hP hS (lv_sub hl [3, 4, 5, 1, 0] rfl)
              · have hw11 : f_25 11 = eI G 6 wf93 := ((o_25 11 (by decide))).trans hw11
                refine rd_calli (va_runV (As := [.int (nI a)]) (rest := [.int (nI v)]) ⟨hx, hb, hml, hown, hts⟩ (v_longest5 l G g hg f_25 mn91 (fo Lo) wf93 a hwt hw11 (by first | assumption | omega | decide) (by first | assumption | omega | decide) (by first | assumption | omega | decide)) (my_cwV hts ok_X9_longestOf w_845 rfl rfl ⟨Nat.le_of_ble_eq_true rfl, Nat.le_of_ble_eq_true rfl⟩) ⟨bP.blind, va_recv hG.1 hP (ci := 8) (q0 := 7) rfl (wl_at (by decide) hwt), fun U hU hW => ⟨rfl, by rw [hU]; exact hP, kG.warm hW hG⟩⟩ rfl rfl hl.1 rfl (lv_room (Nat.le_of_ble_eq_true rfl)) dX9_seek_78 ⟨Nat.le_of_ble_eq_true rfl, Nat.le_of_ble_eq_true rfl⟩) (fun r hr9 => ?_)
                subst hr9
                refine lv_icmp_gt (tgt := 101) hx hb dX9_seek_81 (by decide) (fun c_81 => ?_) (fun c_81 => ?_)
                · have k_81 : 5 < v := (nI_ltI (a := 5) (b := v) (by omega) (by omega)).mp c_81
                  refine lv_iinc (v := nI a - 1) (lv' := [(3, .int (nI a - 1)), (5, .int (nI (smW w a + v))), (0, .ref (g 7)), (1, .ref (g 36)), (2, .int n), (4, .int (nI i))]) hx hb dX9_seek_101 hl (k := 4) rfl (m1_sub _) (by decide) rfl (fun ls hl => ?_)
                  refine lv_goto (tgt := 160) hx hb dX9_seek_104 (by decide) ?_
                  refine lv_iinc (v := nI (i + 1)) (lv' := [(4, .int (nI (i + 1))), (3, .int (nI a - 1)), (5, .int (nI (smW w a + v))), (0, .ref (g 7)), (1, .ref (g 36)), (2, .int n)]) hx hb dX9_seek_160 hl (k := 5) rfl (nI_add i 1) (by decide) rfl (fun ls hl => ?_)
                  refine lv_goto (tgt := 34) hx hb dX9_seek_163 (by decide) ?_
                  have hw8 : f_25 8 = eI G 6 wt92 := ((o_25 8 (by decide))).trans hw8
                  have hw10 : f_25 10 = eI G 6 bb1 := ((o_25 10 (by decide))).trans hw10
                  have hbk : f_25 36 = eO 0 [.ref (g 37), .ref (g 39), .ref (g 41), .ref (g 43), .ref (g 45), .ref (g 47), .ref (g 112), .int pay, .int fine] := ((o_25 36 (by decide))).trans hbk
                  have htr : f_25 45 = eO 5 [.int (nI 10), .int (nI 70), .ref (g 46), .int (nI nt)] := ((o_25 45 (by decide))).trans htr
                  have hct : f_25 46 = eI G (10 * 70) ct := ((o_25 46 (by decide))).trans hct
                  exact ih_9 (i + 1) a (w (a - 1) + 1) w Lo Bo (upd w1 a (nI v)) bb1 f_25 _ _ _ (by omega) (seT_back hse hsa (by omega) hok (fun j hj => ⟨(hwv j hj).1, (pk_un (by omega)).trans (hwv j hj).2⟩) hv6 hms (fun x r _ _ h => absurd (r a hsa) (by omega))) (hlo) (hbo) (by omega) (hwt) (hw8) (hw9) (hw10) (hw11) (hbk) (htr) (hct) (fun j hj => ((o_25 j (by omega))).trans (o_24 j (by omega))) hP hS (lv_sub hl [3, 4, 5, 1, 0] rfl)
                · have k_81 : ¬ 5 < v := fun z9 => c_81 ((nI_ltI (a := 5) (b := v) (by omega) (by omega)).mpr z9)
                  refine lv_aload_n hx hb dX9_seek_84 rfl (lv_at hl 1 rfl) ?_
                  refine va_get (D := G.1) (ci := 8) (v := .int (fo Lo)) (C := RX9) (T := TX9) (N := 6) hx hb hts inlX9 hown hG.1 hP 7 (wl_at (by decide) hwt) rfl 5 (by decide) (hts (.fieldLink RX9 32 "SwornLists$Waits" "leastSum" "I") w_825) (fun _ h9 => h9) rfl dX9_seek_85 ?_
                  refine lv_iconst (v := (-1)) hx hb dX9_seek_88 (by decide) ?_
                  refine lv_icmp_eq (tgt := 107) hx hb dX9_seek_89 (by decide) (fun c_89 => ?_) (fun c_89 => ?_)
                  · have hv5 : v ≤ 5 := by omega
                    refine lv_aload_n hx hb dX9_seek_107 rfl (lv_at hl 1 rfl) ?_
                    refine lv_aload_n hx hb dX9_seek_108 rfl (lv_at hl 2 rfl) ?_
                    refine lv_iload_n hx hb dX9_seek_109 rfl (lv_at hl 4 rfl) ?_
                    have hw8 : f_25 8 = eI G 6 wt92 := ((o_25 8 (by decide))).trans hw8
                    have hbk : f_25 36 = eO 0 [.ref (g 37), .ref (g 39), .ref (g 41), .ref (g 43), .ref (g 45), .ref (g 47), .ref (g 112), .int pay, .int fine] := ((o_25 36 (by decide))).trans hbk
                    have htr : f_25 45 = eO 5 [.int (nI 10), .int (nI 70), .ref (g 46), .int (nI nt)] := ((o_25 45 (by decide))).trans htr
                    have hct : f_25 46 = eI G (10 * 70) ct := ((o_25 46 (by decide))).trans hct
                    refine rd_calli (va_runV (As := [.ref (g 36), .int (nI a)]) (rest := []) ⟨hx, hb, hml, hown, hts⟩ (v_fitsE l G g hg f_25 mn91 (fo Lo) wt92 (upd w1 a (nI v)) wf93 pay fine nt ct dd ee (whT n nt) (upN w a v) a hwt hw8 hw9 hw11 hbk htr hct (by first | assumption | omega | decide) (by first | assumption | omega | decide) (by first | assumption | omega | decide) (hgw) (hww9) (hgo) (hde)) (my_cwV hts ok_X9_fits w_849 rfl rfl ⟨Nat.le_of_ble_eq_true rfl, Nat.le_of_ble_eq_true rfl⟩) ⟨bP.blind, va_recv hG.1 hP (ci := 8) (q0 := 7) rfl (wl_at (by decide) hwt), fun U hU hW => ⟨rfl, by rw [hU]; exact hP, kG.warm hW hG⟩⟩ rfl rfl hl.1 rfl (lv_room (Nat.le_of_ble_eq_true rfl)) dX9_seek_110 ⟨Nat.le_of_ble_eq_true rfl, Nat.le_of_ble_eq_true rfl⟩) (fun r hr9 => ?_)
                    obtain ⟨bz12, rfl, hx_34_0, hx_34_1⟩ := hr9
                    refine my_ifeq (tgt := 160) hx hb dX9_seek_113 (by decide) (fun c_113 => ?_) (fun c_113 => ?_)
                    · rw [← nI_pred a] at hl
                      refine lv_iinc (v := nI (i + 1)) (lv' := [(4, .int (nI (i + 1))), (5, .int (nI (smW w a + v))), (0, .ref (g 7)), (1, .ref (g 36)), (2, .int n), (3, .int (nI (a + 1) - 1))]) hx hb dX9_seek_160 hl (k := 5) rfl (nI_add i 1) (by decide) rfl (fun ls hl => ?_)
                      refine lv_goto (tgt := 34) hx hb dX9_seek_163 (by decide) ?_
                      have hw10 : f_25 10 = eI G 6 bb1 := ((o_25 10 (by decide))).trans hw10
                      exact ih_9 (i + 1) (a + 1) (v + 1) w Lo Bo (upd w1 a (nI v)) bb1 f_25 _ _ _ (by omega) (seT_unfit hse hsa hok (fun j hj => ⟨(hwv j hj).1, (pk_un (by omega)).trans (hwv j hj).2⟩) pk_us hv5 hms (hx_34_1 (eq_false_of_ne_true c_113))) (hlo) (hbo) (by omega) (hwt) (hw8) (hw9) (hw10) (hw11) (hbk) (htr) (hct) (fun j hj => ((o_25 j (by omega))).trans (o_24 j (by omega))) hP hS (lv_sub hl [2, 3, 4, 5, 0] rfl)
                    · refine lv_iload_n hx hb dX9_seek_116 rfl (lv_at hl 4 rfl) ?_
                      refine lv_aload_n hx hb dX9_seek_117 rfl (lv_at hl 1 rfl) ?_
                      refine va_get (D := G.1) (ci := 8) (v := .int (nI mn91)) (C := RX9) (T := TX9) (N := 6) hx hb hts inlX9 hown hG.1 hP 7 (wl_at (by decide) hwt) rfl 4 (by decide) (hts (.fieldLink RX9 24 "SwornLists$Waits" "many" "I") w_824) (fun _ h9 => h9) rfl dX9_seek_118 ?_
                      refine lv_iconst (v := 1) hx hb dX9_seek_121 (by decide) ?_
                      refine lv_isub hx hb dX9_seek_122 ?_
                      refine my_bei (v := nI (mn91 - 1)) (pk_sub (a := mn91) (b := 1) (by omega)) ?_
                      refine lv_icmp_ne (tgt := 150) hx hb dX9_seek_123 (by decide) (fun c_123 => ?_) (fun c_123 => ?_)
                      · have k_123 : ¬ a = mn91 - 1 := fun z9 => c_123 ((nI_eq (a := a) (b := mn91 - 1) (by omega) (by omega)).mpr z9)
                        refine lv_iinc (v := nI (a + 1)) (lv' := [(3, .int (nI (a + 1))), (5, .int (nI (smW w a + v))), (0, .ref (g 7)), (1, .ref (g 36)), (2, .int n), (4, .int (nI i))]) hx hb dX9_seek_150 hl (k := 4) rfl (nI_add a 1) (by decide) rfl (fun ls hl => ?_)
                        refine lv_aload_n hx hb dX9_seek_153 rfl (lv_at hl 2 rfl) ?_
                        refine va_get (D := G.1) (ci := 8) (v := .ref (g 9)) (C := RX9) (T := TX9) (N := 6) hx hb hts inlX9 hown hG.1 hP 7 (wl_at (by decide) hwt) rfl 1 (by decide) (hts (.fieldLink RX9 15 "SwornLists$Waits" "waits" "[I") w_105) (fun _ h9 => h9) rfl dX9_seek_154 ?_
                        refine lv_iload_n hx hb dX9_seek_157 rfl (lv_at hl 0 rfl) ?_
                        refine lv_iconst (v := (-1)) hx hb dX9_seek_158 (by decide) ?_
                        refine va_iast hx hb hG.1 hP (wl_D hg f_25) hS 9 0 (wl_at (by decide) hw9) rfl (vp_in_nI (by omega) (by decide)) dX9_seek_159 (fun H locs hP _ hS => ?_)
                        have hP := (congrArg (fun z9 => va_P G.1 vwCl ((wl g f_25).set 9 (g 9, eI G 6 ((upd (upd w1 a (nI v)) z9 (-1))))) H) (show Int32.toNatClampNeg (nI (a + 1)) = a + 1 from nI_clamp (by omega))).mp hP
                        obtain ⟨f_35, hP, e_35, o_35⟩ := b_put (by decide) hP
                        have hw9 : f_35 9 = eI G 6 (upd (upd w1 a (nI v)) (a + 1) (-1)) := e_35
                        rw [← nI_pred (a + 1)] at hl
                        refine lv_iinc (v := nI (i + 1)) (lv' := [(4, .int (nI (i + 1))), (3, .int (nI (a + 1 + 1) - 1)), (5, .int (nI (smW w a + v))), (0, .ref (g 7)), (1, .ref (g 36)), (2, .int n)]) hx hb dX9_seek_160 hl (k := 5) rfl (nI_add i 1) (by decide) rfl (fun ls hl => ?_)
                        refine lv_goto (tgt := 34) hx hb dX9_seek_163 (by decide) ?_
                        have hwt : f_35 7 = eO 8 [.ref (g 8), .ref (g 9), .ref (g 10), .ref (g 11), .int (nI mn91), .int (fo Lo)] := ((o_35 7 (by decide))).trans hwt
                        have hw8 : f_35 8 = eI G 6 wt92 := ((o_35 8 (by decide))).trans hw8
                        have hw10 : f_35 10 = eI G 6 bb1 := ((o_35 10 (by decide)).trans ((o_25 10 (by decide)))).trans hw10
                        have hw11 : f_35 11 = eI G 6 wf93 := ((o_35 11 (by decide))).trans hw11
                        have hbk : f_35 36 = eO 0 [.ref (g 37), .ref (g 39), .ref (g 41), .ref (g 43), .ref (g 45), .ref (g 47), .ref (g 112), .int pay, .int fine] := ((o_35 36 (by decide))).trans hbk
                        have htr : f_35 45 = eO 5 [.int (nI 10), .int (nI 70), .ref (g 46), .int (nI nt)] := ((o_35 45 (by decide))).trans htr
                        have hct : f_35 46 = eI G (10 * 70) ct := ((o_35 46 (by decide))).trans hct
                        exact ih_9 (i + 1) (a + 1 + 1) 0 (upN w a v) Lo Bo (upd (upd w1 a (nI v)) (a + 1) (-1)) bb1 f_35 _ _ _ (by omega) (seT_dn hse (by omega) hok (fun j hj => ⟨(hwv j hj).1, (pk_un (by omega)).trans ((pk_un (by omega)).trans (hwv j hj).2)⟩) ((pk_un (by omega)).trans pk_us) pk_us hv5 hms (hx_34_0 c_113)) (hlo) (hbo) (by omega) (hwt) (hw8) (hw9) (hw10) (hw11) (hbk) (htr) (hct) (fun j hj => (((o_35 j (by omega))).trans (o_25 j (by omega))).trans (o_24 j (by omega))) hP hS (lv_sub hl [3, 4, 5, 1, 0] rfl)
                      · have k_123 : a = mn91 - 1 := (nI_eq (a := a) (b := mn91 - 1) (by omega) (by omega)).mp c_123
                        refine lv_aload_n hx hb dX9_seek_126 rfl (lv_at hl 1 rfl) ?_
                        refine lv_iload hx hb dX9_seek_127 (lv_at hl 0 rfl) ?_
                        refine va_put (D := G.1) (ci := 8) (v := .int (nI (smW w a + v))) (ty := .int) (C := RX9) (T := TX9) (N := 6) hx hb hts inlX9 tyX9 tyX9_ok nmX9 hown hG.1 hP (wl_D hg f_25) hS 7 (wl_at (by decide) hwt) rfl 5 (by decide) (hts (.fieldLink RX9 32 "SwornLists$Waits" "leastSum" "I") w_825) (fun _ h9 => h9) rfl (by decide +kernel) rfl rfl (Nat.le_of_ble_eq_true rfl) dX9_seek_129 (fun H locs hP _ hS => ?_)
                        obtain ⟨f_36, hP, e_36, o_36⟩ := b_put (by decide) hP
                        have hwt : f_36 7 = eO 8 [.ref (g 8), .ref (g 9), .ref (g 10), .ref (g 11), .int (nI mn91), .int (nI (smW w a + v))] := e_36
                        refine lv_aload_n hx hb dX9_seek_132 rfl (lv_at hl 1 rfl) ?_
                        refine va_get (D := G.1) (ci := 8) (v := .ref (g 9)) (C := RX9) (T := TX9) (N := 6) hx hb hts inlX9 hown hG.1 hP 7 (wl_at (by decide) hwt) rfl 1 (by decide) (hts (.fieldLink RX9 15 "SwornLists$Waits" "waits" "[I") w_105) (fun _ h9 => h9) rfl dX9_seek_133 ?_
                        refine lv_iconst (v := 0) hx hb dX9_seek_136 (by decide) ?_
                        refine lv_aload_n hx hb dX9_seek_137 rfl (lv_at hl 1 rfl) ?_
                        refine va_get (D := G.1) (ci := 8) (v := .ref (g 10)) (C := RX9) (T := TX9) (N := 6) hx hb hts inlX9 hown hG.1 hP 7 (wl_at (by decide) hwt) rfl 2 (by decide) (hts (.fieldLink RX9 18 "SwornLists$Waits" "best" "[I") w_106) (fun _ h9 => h9) rfl dX9_seek_138 ?_
                        refine lv_iconst (v := 0) hx hb dX9_seek_141 (by decide) ?_
                        refine lv_bipush (v := 6) hx hb dX9_seek_142 (by decide) ?_
                        have hw9 : f_36 9 = eI G 6 (upd w1 a (nI v)) := ((o_36 9 (by decide))).trans hw9
                        have hw10 : f_36 10 = eI G 6 bb1 := ((o_36 10 (by decide)).trans ((o_25 10 (by decide)))).trans hw10
                        refine va_copyi hx hb (by rw [hml]; exact hl.1.symm) hown (hts (.methodLink RX9 47 arraycopyName) w_827) (hts (.native arraycopyName) w_599) (hts (.static arraycopyName) w_600) (hts (.initialized "java/lang/System") w_601) hG.1 hP (wl_D hg f_36) hS 9 10 0 0 (wl_at (by decide) hw9) (wl_at (by decide) hw10) rfl rfl rfl (by decide) (by decide) (by decide) (by decide) (by decide) (fun _ _ => rfl) (Nat.le_of_ble_eq_true rfl) (Nat.le_of_ble_eq_true rfl) dX9_seek_144 (fun H locs hP _ hS => ?_)
                        obtain ⟨f_37, hP, e_37, o_37⟩ := b_put (by decide) hP
                        have hw10 : f_37 10 = eI G 6 (va_cpy (upd w1 a (nI v)) bb1 (Int32.toNatClampNeg 0) (Int32.toNatClampNeg 0) (Int32.toNatClampNeg 6)) := e_37
                        refine lv_goto (tgt := 160) hx hb dX9_seek_147 (by decide) ?_
                        rw [← nI_pred a] at hl
                        refine lv_iinc (v := nI (i + 1)) (lv' := [(4, .int (nI (i + 1))), (5, .int (nI (smW w a + v))), (0, .ref (g 7)), (1, .ref (g 36)), (2, .int n), (3, .int (nI (a + 1) - 1))]) hx hb dX9_seek_160 hl (k := 5) rfl (nI_add i 1) (by decide) rfl (fun ls hl => ?_)
                        refine lv_goto (tgt := 34) hx hb dX9_seek_163 (by decide) ?_
                        have hwt : f_37 7 = eO 8 [.ref (g 8), .ref (g 9), .ref (g 10), .ref (g 11), .int (nI mn91), .int (nI (smW w a + v))] := ((o_37 7 (by decide))).trans hwt
                        have hw8 : f_37 8 = eI G 6 wt92 := ((o_37 8 (by decide)).trans ((o_36 8 (by decide)))).trans hw8
                        have hw9 : f_37 9 = eI G 6 (upd w1 a (nI v)) := ((o_37 9 (by decide))).trans hw9
                        have hw11 : f_37 11 = eI G 6 wf93 := ((o_37 11 (by decide)).trans ((o_36 11 (by decide)))).trans hw11
                        have hbk : f_37 36 = eO 0 [.ref (g 37), .ref (g 39), .ref (g 41), .ref (g 43), .ref (g 45), .ref (g 47), .ref (g 112), .int pay, .int fine] := ((o_37 36 (by decide)).trans ((o_36 36 (by decide)))).trans hbk
                        have htr : f_37 45 = eO 5 [.int (nI 10), .int (nI 70), .ref (g 46), .int (nI nt)] := ((o_37 45 (by decide)).trans ((o_36 45 (by decide)))).trans htr
                        have hct : f_37 46 = eI G (10 * 70) ct := ((o_37 46 (by decide)).trans ((o_36 46 (by decide)))).trans hct
                        exact ih_9 (i + 1) (a + 1) (v + 1) w (some (smW w a + v)) (upN w a v) (upd w1 a (nI v)) (va_cpy (upd w1 a (nI v)) bb1 (Int32.toNatClampNeg 0) (Int32.toNatClampNeg 0) (Int32.toNatClampNeg 6)) f_37 _ _ _ (by omega) (seT_new hse (by omega) hok (fun j hj => ⟨(hwv j hj).1, (pk_un (by omega)).trans (hwv j hj).2⟩) pk_us hv5 hms (hx_34_0 c_113) (fo_ltN (Or.inl c_89) hlo (by omega)) (fun _ _ => rfl)) (fun l hl => by cases hl; omega) (fun l hl k hk => (cpy_all (N := 6) (by decide) k (by omega)).trans (hww9 k (by omega)).1) (by omega) (hwt) (hw8) (hw9) (hw10) (hw11) (hbk) (htr) (hct) (fun j hj => ((((o_37 j (by omega))).trans (o_36 j (by omega))).trans (o_25 j (by omega))).trans (o_24 j (by omega))) hP hS (lv_sub hl [2, 3, 4, 5, 0] rfl)
                  · refine lv_iload hx hb dX9_seek_92 (lv_at hl 0 rfl) ?_
                    refine lv_aload_n hx hb dX9_seek_94 rfl (lv_at hl 1 rfl) ?_
                    refine va_get (D := G.1) (ci := 8) (v := .int (fo Lo)) (C := RX9) (T := TX9) (N := 6) hx hb hts inlX9 hown hG.1 hP 7 (wl_at (by decide) hwt) rfl 5 (by decide) (hts (.fieldLink RX9 32 "SwornLists$Waits" "leastSum" "I") w_825) (fun _ h9 => h9) rfl dX9_seek_95 ?_
                    refine lv_icmp_lt (tgt := 107) hx hb dX9_seek_98 (by decide) (fun c_98 => ?_) (fun c_98 => ?_)
                    · have hv5 : v ≤ 5 := by omega
                      refine lv_aload_n hx hb dX9_seek_107 rfl (lv_at hl 1 rfl) ?_
                      refine lv_aload_n hx hb dX9_seek_108 rfl (lv_at hl 2 rfl) ?_
                      refine lv_iload_n hx hb dX9_seek_109 rfl (lv_at hl 4 rfl) ?_
                      have hw8 : f_25 8 = eI G 6 wt92 := ((o_25 8 (by decide))).trans hw8
                      have hbk : f_25 36 = eO 0 [.ref (g 37), .ref (g 39), .ref (g 41), .ref (g 43), .ref (g 45), .ref (g 47), .ref (g 112), .int pay, .int fine] := ((o_25 36 (by decide))).trans hbk
                      have htr : f_25 45 = eO 5 [.int (nI 10), .int (nI 70), .ref (g 46), .int (nI nt)] := ((o_25 45 (by decide))).trans htr
                      have hct : f_25 46 = eI G (10 * 70) ct := ((o_25 46 (by decide))).trans hct
                      refine rd_calli (va_runV (As := [.ref (g 36), .int (nI a)]) (rest := []) ⟨hx, hb, hml, hown, hts⟩ (v_fitsE l G g hg f_25 mn91 (fo Lo) wt92 (upd w1 a (nI v)) wf93 pay fine nt ct dd ee (whT n nt) (upN w a v) a hwt hw8 hw9 hw11 hbk htr hct (by first | assumption | omega | decide) (by first | assumption | omega | decide) (by first | assumption | omega | decide) (hgw) (hww9) (hgo) (hde)) (my_cwV hts ok_X9_fits w_849 rfl rfl ⟨Nat.le_of_ble_eq_true rfl, Nat.le_of_ble_eq_true rfl⟩) ⟨bP.blind, va_recv hG.1 hP (ci := 8) (q0 := 7) rfl (wl_at (by decide) hwt), fun U hU hW => ⟨rfl, by rw [hU]; exact hP, kG.warm hW hG⟩⟩ rfl rfl hl.1 rfl (lv_room (Nat.le_of_ble_eq_true rfl)) dX9_seek_110 ⟨Nat.le_of_ble_eq_true rfl, Nat.le_of_ble_eq_true rfl⟩) (fun r hr9 => ?_)
                      obtain ⟨bz13, rfl, hx_38_0, hx_38_1⟩ := hr9
                      refine my_ifeq (tgt := 160) hx hb dX9_seek_113 (by decide) (fun c_113 => ?_) (fun c_113 => ?_)
                      · rw [← nI_pred a] at hl
                        refine lv_iinc (v := nI (i + 1)) (lv' := [(4, .int (nI (i + 1))), (5, .int (nI (smW w a + v))), (0, .ref (g 7)), (1, .ref (g 36)), (2, .int n), (3, .int (nI (a + 1) - 1))]) hx hb dX9_seek_160 hl (k := 5) rfl (nI_add i 1) (by decide) rfl (fun ls hl => ?_)
                        refine lv_goto (tgt := 34) hx hb dX9_seek_163 (by decide) ?_
                        have hw10 : f_25 10 = eI G 6 bb1 := ((o_25 10 (by decide))).trans hw10
                        exact ih_9 (i + 1) (a + 1) (v + 1) w Lo Bo (upd w1 a (nI v)) bb1 f_25 _ _ _ (by omega) (seT_unfit hse hsa hok (fun j hj => ⟨(hwv j hj).1, (pk_un (by omega)).trans (hwv j hj).2⟩) pk_us hv5 hms (hx_38_1 (eq_false_of_ne_true c_113))) (hlo) (hbo) (by omega) (hwt) (hw8) (hw9) (hw10) (hw11) (hbk) (htr) (hct) (fun j hj => ((o_25 j (by omega))).trans (o_24 j (by omega))) hP hS (lv_sub hl [2, 3, 4, 5, 0] rfl)
                      · refine lv_iload_n hx hb dX9_seek_116 rfl (lv_at hl 4 rfl) ?_
                        refine lv_aload_n hx hb dX9_seek_117 rfl (lv_at hl 1 rfl) ?_
                        refine va_get (D := G.1) (ci := 8) (v := .int (nI mn91)) (C := RX9) (T := TX9) (N := 6) hx hb hts inlX9 hown hG.1 hP 7 (wl_at (by decide) hwt) rfl 4 (by decide) (hts (.fieldLink RX9 24 "SwornLists$Waits" "many" "I") w_824) (fun _ h9 => h9) rfl dX9_seek_118 ?_
                        refine lv_iconst (v := 1) hx hb dX9_seek_121 (by decide) ?_
                        refine lv_isub hx hb dX9_seek_122 ?_
                        refine my_bei (v := nI (mn91 - 1)) (pk_sub (a := mn91) (b := 1) (by omega)) ?_
                        refine lv_icmp_ne (tgt := 150) hx hb dX9_seek_123 (by decide) (fun c_123 => ?_) (fun c_123 => ?_)
                        · have k_123 : ¬ a = mn91 - 1 := fun z9 => c_123 ((nI_eq (a := a) (b := mn91 - 1) (by omega) (by omega)).mpr z9)
                          refine lv_iinc (v := nI (a + 1)) (lv' := [(3, .int (nI (a + 1))), (5, .int (nI (smW w a + v))), (0, .ref (g 7)), (1, .ref (g 36)), (2, .int n), (4, .int (nI i))]) hx hb dX9_seek_150 hl (k := 4) rfl (nI_add a 1) (by decide) rfl (fun ls hl => ?_)
                          refine lv_aload_n hx hb dX9_seek_153 rfl (lv_at hl 2 rfl) ?_
                          refine va_get (D := G.1) (ci := 8) (v := .ref (g 9)) (C := RX9) (T := TX9) (N := 6) hx hb hts inlX9 hown hG.1 hP 7 (wl_at (by decide) hwt) rfl 1 (by decide) (hts (.fieldLink RX9 15 "SwornLists$Waits" "waits" "[I") w_105) (fun _ h9 => h9) rfl dX9_seek_154 ?_
                          refine lv_iload_n hx hb dX9_seek_157 rfl (lv_at hl 0 rfl) ?_
                          refine lv_iconst (v := (-1)) hx hb dX9_seek_158 (by decide) ?_
                          refine va_iast hx hb hG.1 hP (wl_D hg f_25) hS 9 0 (wl_at (by decide) hw9) rfl (vp_in_nI (by omega) (by decide)) dX9_seek_159 (fun H locs hP _ hS => ?_)
                          have hP := (congrArg (fun z9 => va_P G.1 vwCl ((wl g f_25).set 9 (g 9, eI G 6 ((upd (upd w1 a (nI v)) z9 (-1))))) H) (show Int32.toNatClampNeg (nI (a + 1)) = a + 1 from nI_clamp (by omega))).mp hP
                          obtain ⟨f_39, hP, e_39, o_39⟩ := b_put (by decide) hP
                          have hw9 : f_39 9 = eI G 6 (upd (upd w1 a (nI v)) (a + 1) (-1)) := e_39
                          rw [← nI_pred (a + 1)] at hl
                          refine lv_iinc (v := nI (i + 1)) (lv' := [(4, .int (nI (i + 1))), (3, .int (nI (a + 1 + 1) - 1)), (5, .int (nI (smW w a + v))), (0, .ref (g 7)), (1, .ref (g 36)), (2, .int n)]) hx hb dX9_seek_160 hl (k := 5) rfl (nI_add i 1) (by decide) rfl (fun ls hl => ?_)
                          refine lv_goto (tgt := 34) hx hb dX9_seek_163 (by decide) ?_
                          have hwt : f_39 7 = eO 8 [.ref (g 8), .ref (g 9), .ref (g 10), .ref (g 11), .int (nI mn91), .int (fo Lo)] := ((o_39 7 (by decide))).trans hwt
                          have hw8 : f_39 8 = eI G 6 wt92 := ((o_39 8 (by decide))).trans hw8
                          have hw10 : f_39 10 = eI G 6 bb1 := ((o_39 10 (by decide)).trans ((o_25 10 (by decide)))).trans hw10
                          have hw11 : f_39 11 = eI G 6 wf93 := ((o_39 11 (by decide))).trans hw11
                          have hbk : f_39 36 = eO 0 [.ref (g 37), .ref (g 39), .ref (g 41), .ref (g 43), .ref (g 45), .ref (g 47), .ref (g 112), .int pay, .int fine] := ((o_39 36 (by decide))).trans hbk
                          have htr : f_39 45 = eO 5 [.int (nI 10), .int (nI 70), .ref (g 46), .int (nI nt)] := ((o_39 45 (by decide))).trans htr
                          have hct : f_39 46 = eI G (10 * 70) ct := ((o_39 46 (by decide))).trans hct
                          exact ih_9 (i + 1) (a + 1 + 1) 0 (upN w a v) Lo Bo (upd (upd w1 a (nI v)) (a + 1) (-1)) bb1 f_39 _ _ _ (by omega) (seT_dn hse (by omega) hok (fun j hj => ⟨(hwv j hj).1, (pk_un (by omega)).trans ((pk_un (by omega)).trans (hwv j hj).2)⟩) ((pk_un (by omega)).trans pk_us) pk_us hv5 hms (hx_38_0 c_113)) (hlo) (hbo) (by omega) (hwt) (hw8) (hw9) (hw10) (hw11) (hbk) (htr) (hct) (fun j hj => (((o_39 j (by omega))).trans (o_25 j (by omega))).trans (o_24 j (by omega))) hP hS (lv_sub hl [3, 4, 5, 1, 0] rfl)
                        · have k_123 : a = mn91 - 1 := (nI_eq (a := a) (b := mn91 - 1) (by omega) (by omega)).mp c_123
                          refine lv_aload_n hx hb dX9_seek_126 rfl (lv_at hl 1 rfl) ?_
                          refine lv_iload hx hb dX9_seek_127 (lv_at hl 0 rfl) ?_
                          refine va_put (D := G.1) (ci := 8) (v := .int (nI (smW w a + v))) (ty := .int) (C := RX9) (T := TX9) (N := 6) hx hb hts inlX9 tyX9 tyX9_ok nmX9 hown hG.1 hP (wl_D hg f_25) hS 7 (wl_at (by decide) hwt) rfl 5 (by decide) (hts (.fieldLink RX9 32 "SwornLists$Waits" "leastSum" "I") w_825) (fun _ h9 => h9) rfl (by decide +kernel) rfl rfl (Nat.le_of_ble_eq_true rfl) dX9_seek_129 (fun H locs hP _ hS => ?_)
                          obtain ⟨f_40, hP, e_40, o_40⟩ := b_put (by decide) hP
                          have hwt : f_40 7 = eO 8 [.ref (g 8), .ref (g 9), .ref (g 10), .ref (g 11), .int (nI mn91), .int (nI (smW w a + v))] := e_40
                          refine lv_aload_n hx hb dX9_seek_132 rfl (lv_at hl 1 rfl) ?_
                          refine va_get (D := G.1) (ci := 8) (v := .ref (g 9)) (C := RX9) (T := TX9) (N := 6) hx hb hts inlX9 hown hG.1 hP 7 (wl_at (by decide) hwt) rfl 1 (by decide) (hts (.fieldLink RX9 15 "SwornLists$Waits" "waits" "[I") w_105) (fun _ h9 => h9) rfl dX9_seek_133 ?_
                          refine lv_iconst (v := 0) hx hb dX9_seek_136 (by decide) ?_
                          refine lv_aload_n hx hb dX9_seek_137 rfl (lv_at hl 1 rfl) ?_
                          refine va_get (D := G.1) (ci := 8) (v := .ref (g 10)) (C := RX9) (T := TX9) (N := 6) hx hb hts inlX9 hown hG.1 hP 7 (wl_at (by decide) hwt) rfl 2 (by decide) (hts (.fieldLink RX9 18 "SwornLists$Waits" "best" "[I") w_106) (fun _ h9 => h9) rfl dX9_seek_138 ?_
                          refine lv_iconst (v := 0) hx hb dX9_seek_141 (by decide) ?_
                          refine lv_bipush (v := 6) hx hb dX9_seek_142 (by decide) ?_
                          have hw9 : f_40 9 = eI G 6 (upd w1 a (nI v)) := ((o_40 9 (by decide))).trans hw9
                          have hw10 : f_40 10 = eI G 6 bb1 := ((o_40 10 (by decide)).trans ((o_25 10 (by decide)))).trans hw10
                          refine va_copyi hx hb (by rw [hml]; exact hl.1.symm) hown (hts (.methodLink RX9 47 arraycopyName) w_827) (hts (.native arraycopyName) w_599) (hts (.static arraycopyName) w_600) (hts (.initialized "java/lang/System") w_601) hG.1 hP (wl_D hg f_40) hS 9 10 0 0 (wl_at (by decide) hw9) (wl_at (by decide) hw10) rfl rfl rfl (by decide) (by decide) (by decide) (by decide) (by decide) (fun _ _ => rfl) (Nat.le_of_ble_eq_true rfl) (Nat.le_of_ble_eq_true rfl) dX9_seek_144 (fun H locs hP _ hS => ?_)
                          obtain ⟨f_41, hP, e_41, o_41⟩ := b_put (by decide) hP
                          have hw10 : f_41 10 = eI G 6 (va_cpy (upd w1 a (nI v)) bb1 (Int32.toNatClampNeg 0) (Int32.toNatClampNeg 0) (Int32.toNatClampNeg 6)) := e_41
                          refine lv_goto (tgt := 160) hx hb dX9_seek_147 (by decide) ?_
                          rw [← nI_pred a] at hl
                          refine lv_iinc (v := nI (i + 1)) (lv' := [(4, .int (nI (i + 1))), (5, .int (nI (smW w a + v))), (0, .ref (g 7)), (1, .ref (g 36)), (2, .int n), (3, .int (nI (a + 1) - 1))]) hx hb dX9_seek_160 hl (k := 5) rfl (nI_add i 1) (by decide) rfl (fun ls hl => ?_)
                          refine lv_goto (tgt := 34) hx hb dX9_seek_163 (by decide) ?_
                          have hwt : f_41 7 = eO 8 [.ref (g 8), .ref (g 9), .ref (g 10), .ref (g 11), .int (nI mn91), .int (nI (smW w a + v))] := ((o_41 7 (by decide))).trans hwt
                          have hw8 : f_41 8 = eI G 6 wt92 := ((o_41 8 (by decide)).trans ((o_40 8 (by decide)))).trans hw8
                          have hw9 : f_41 9 = eI G 6 (upd w1 a (nI v)) := ((o_41 9 (by decide))).trans hw9
                          have hw11 : f_41 11 = eI G 6 wf93 := ((o_41 11 (by decide)).trans ((o_40 11 (by decide)))).trans hw11
                          have hbk : f_41 36 = eO 0 [.ref (g 37), .ref (g 39), .ref (g 41), .ref (g 43), .ref (g 45), .ref (g 47), .ref (g 112), .int pay, .int fine] := ((o_41 36 (by decide)).trans ((o_40 36 (by decide)))).trans hbk
                          have htr : f_41 45 = eO 5 [.int (nI 10), .int (nI 70), .ref (g 46), .int (nI nt)] := ((o_41 45 (by decide)).trans ((o_40 45 (by decide)))).trans htr
                          have hct : f_41 46 = eI G (10 * 70) ct := ((o_41 46 (by decide)).trans ((o_40 46 (by decide)))).trans hct
                          exact ih_9 (i + 1) (a + 1) (v + 1) w (some (smW w a + v)) (upN w a v) (upd w1 a (nI v)) (va_cpy (upd w1 a (nI v)) bb1 (Int32.toNatClampNeg 0) (Int32.toNatClampNeg 0) (Int32.toNatClampNeg 6)) f_41 _ _ _ (by omega) (seT_new hse (by omega) hok (fun j hj => ⟨(hwv j hj).1, (pk_un (by omega)).trans (hwv j hj).2⟩) pk_us hv5 hms (hx_38_0 c_113) (fo_ltN (Or.inr c_98) hlo (by omega)) (fun _ _ => rfl)) (fun l hl => by cases hl; omega) (fun l hl k hk => (cpy_all (N := 6) (by decide) k (by omega)).trans (hww9 k (by omega)).1) (by omega) (hwt) (hw8) (hw9) (hw10) (hw11) (hbk) (htr) (hct) (fun j hj => ((((o_41 j (by omega))).trans (o_40 j (by omega))).trans (o_25 j (by omega))).trans (o_24 j (by omega))) hP hS (lv_sub hl [2, 3, 4, 5, 0] rfl)
                    · refine lv_iinc (v := nI a - 1) (lv' := [(3, .int (nI a - 1)), (5, .int (nI (smW w a + v))), (0, .ref (g 7)), (1, .ref (g 36)), (2, .int n), (4, .int (nI i))]) hx hb dX9_seek_101 hl (k := 4) rfl (m1_sub _) (by decide) rfl (fun ls hl => ?_)
                      refine lv_goto (tgt := 160) hx hb dX9_seek_104 (by decide) ?_
                      refine lv_iinc (v := nI (i + 1)) (lv' := [(4, .int (nI (i + 1))), (3, .int (nI a - 1)), (5, .int (nI (smW w a + v))), (0, .ref (g 7)), (1, .ref (g 36)), (2, .int n)]) hx hb dX9_seek_160 hl (k := 5) rfl (nI_add i 1) (by decide) rfl (fun ls hl => ?_)
                      refine lv_goto (tgt := 34) hx hb dX9_seek_163 (by decide) ?_
                      have hw8 : f_25 8 = eI G 6 wt92 := ((o_25 8 (by decide))).trans hw8
                      have hw10 : f_25 10 = eI G 6 bb1 := ((o_25 10 (by decide))).trans hw10
                      have hbk : f_25 36 = eO 0 [.ref (g 37), .ref (g 39), .ref (g 41), .ref (g 43), .ref (g 45), .ref (g 47), .ref (g 112), .int pay, .int fine] := ((o_25 36 (by decide))).trans hbk
                      have htr : f_25 45 = eO 5 [.int (nI 10), .int (nI 70), .ref (g 46), .int (nI nt)] := ((o_25 45 (by decide))).trans htr
                      have hct : f_25 46 = eI G (10 * 70) ct := ((o_25 46 (by decide))).trans hct
                      exact ih_9 (i + 1) a (w (a - 1) + 1) w Lo Bo (upd w1 a (nI v)) bb1 f_25 _ _ _ (by omega) (seT_back hse hsa (by omega) hok (fun j hj => ⟨(hwv j hj).1, (pk_un (by omega)).trans (hwv j hj).2⟩) hv6 hms (hd_sum' hse hsa c_89 c_98 hlo (by omega))) (hlo) (hbo) (by omega) (hwt) (hw8) (hw9) (hw10) (hw11) (hbk) (htr) (hct) (fun j hj => ((o_25 j (by omega))).trans (o_24 j (by omega))) hP hS (lv_sub hl [3, 4, 5, 1, 0] rfl)
    exact key9 (1000000 + 1) 0 1 0 (fun _ => 0) (some 0) (fun _ => 0) (upd ww 0 (-1)) wb f_23 _ _ _ (Nat.zero_le _) (Or.inl ⟨bsW_0 k_11, Or.inr k_11, Nat.le_refl _⟩) (fun l hl => by cases hl; omega) (fun l hl k hk => absurd hk (by omega)) (by omega) (hwt) (hw8) (hw9) (hw10) (hw11) (hbk) (htr) (hct) (fun j _ => rfl) hP hS (lv_sub hl [2, 3, 4, 1, 0] rfl)


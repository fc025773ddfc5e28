theorem sO_y {q : Nat → Bool} {n : Nat} (h : q n = true) : sO q (n + 1) = sO q n ||| b1 n := if_pos h
theorem sO_n {q : Nat → Bool} {n : Nat} (h : ¬ q n = true) : sO q (n + 1) = sO q n := if_neg h
theorem low_sO {n : Nat} (hn : n ≤ 31) : ((1 : Int32) <<< (nI n &&& 31)) - 1 = sO (fun _ => true) n := eq_sO (by omega) (fun k _ => by rw [bt_low hn, Bool.and_true])
set_option maxHeartbeats 4000000 in
set_option maxRecDepth 100000 in
theorem k_kinOfSidesE (l : Launch) (G : gW) (g : Nat → Nat) (hg : gOK g) (f : Nat → va_E) (pay : Int32) (fine : Int32) (nf : Nat) (df : Nat → Int32) (nt : Nat) (ct : Nat → Int32) (t : Nat) (q : Int32) (hbk : f 36 = eO 0 [.ref (g 37), .ref (g 39), .ref (g 41), .ref (g 43), .ref (g 45), .ref (g 47), .ref (g 112), .int pay, .int fine]) (hfr : f 39 = eO 5 [.int (nI 40), .int (nI 3), .ref (g 40), .int (nI nf)]) (hfd : f 40 = eI G (40 * 3) df) (htr : f 45 = eO 5 [.int (nI 10), .int (nI 70), .ref (g 46), .int (nI nt)]) (hct : f 46 = eI G (10 * 70) ct) (hnf : nf ≤ 40) (hnt : nt ≤ 10) (ht : t < nt) : Met l yX0_kinOfSides (wsT yX0_kinOfSides cX0_kinOfSides 7 (some .int)) ({ frames := 1, cells := 0, slots := 0, locals := 23 }) (bP G g f [.ref (g 36), .int (nI t), .int q]) (rQi (fun z9 => z9 = knV (fun i c => df (3 * i + c)) (ct (70 * t + 3)) (ct (70 * t + 4)) q nf)) 0 0 fr0 := by
  refine Met.ofW (cc := cX0_kinOfSides) (maxL := 7) (ret := (some .int)) (by decide) rfl ?_
  intro p e s m args below meth c s₁ B hml hv
  obtain ⟨rfl, hP, hG⟩ := hv
  have hx := B.exec
  have hb := B.bytes
  have hr := B.returns
  have hts := my_hts (atoms_spec (ws := wsT yX0_kinOfSides cX0_kinOfSides 7 (some .int)) B.pre)
  have hown : s.vm.findClass RX0 = some m.cls := findClass_of_methodNamed B.named
  have hlocks := B.notSynchronized
  have hl := lv_entry ([.ref (g 36), .int (nI t), .int q]) (n := 7) (Nat.le_of_ble_eq_true rfl)
  rw [lg_entry_eq]
  generalize (lg_sl ([.ref (g 36), .int (nI t), .int q]) ++ List.replicate (7 - (lg_sl ([.ref (g 36), .int (nI t), .int q])).length) Slot.unset).toArray = ls at hl ⊢
  have hl : lv_has ls 7 [(0, .ref (g 36)), (1, .int (nI t)), (2, .int q)] := hl
  refine W_q8 (fun Q9 hQ9 => ?_)
  refine lv_iconst (v := 0) hx hb dX0_kinOfSides_0 (by decide) ?_
  refine lv_istore_n (lv' := [(3, .int 0), (0, .ref (g 36)), (1, .int (nI t)), (2, .int q)]) hx hb dX0_kinOfSides_1 rfl hl (by decide) rfl (fun ls hl => ?_)
  refine lv_iconst (v := 0) hx hb dX0_kinOfSides_2 (by decide) ?_
  refine lv_istore (lv' := [(4, .int 0), (3, .int 0), (0, .ref (g 36)), (1, .int (nI t)), (2, .int q)]) hx hb dX0_kinOfSides_3 hl (by decide) rfl (fun ls hl => ?_)
  have key1 : ∀ (n9_1 : Nat) (i : Nat) (u : Int32) (ls : Array Slot), (i ≤ nf) → (u = knV (fun i c => df (3 * i + c)) (ct (70 * t + 3)) (ct (70 * t + 4)) q i) → nf - i < n9_1 → lv_has ls 7 [(0, .ref (g 36)), (1, .int (nI t)), (2, .int q), (3, .int u), (4, .int (nI i))] → W p l e (headSpec (wsT yX0_kinOfSides cX0_kinOfSides 7 (some .int)) ({ frames := 1, cells := 0, slots := 0, locals := 23 })).room s m ([.ref (g 36), .int (nI t), .int q] : List Value).toArray below meth c s.heap [] 0 0 Q9 (F0 m 5 ls []) := by
    intro n9_1
    induction n9_1 with
    | zero => intro i u ls hi hu hn9_1; exact absurd hn9_1 (Nat.not_lt_zero _)
    | succ n9_1 ih_1 =>
      intro i u ls hi hu hn9_1 hl
      refine lv_iload hx hb dX0_kinOfSides_5 (lv_at hl 4 rfl) ?_
      refine lv_aload_n hx hb dX0_kinOfSides_7 rfl (lv_at hl 0 rfl) ?_
      refine va_get (D := G.1) (ci := 0) (v := .ref (g 39)) (C := RX0) (T := TX0) (N := 9) hx hb hts inlX0 hown hG.1 hP 36 (wl_at (by decide) hbk) rfl 1 (by decide) (hts (.fieldLink RX0 20 "SwornLists$Book" "facts" "LSwornLists$Rows;") w_55) (fun _ h9 => h9) rfl dX0_kinOfSides_8 ?_
      refine rd_calli (va_runV (As := []) (rest := [.int (nI i)]) ⟨hx, hb, hml, hown, hts⟩ (r_size l G g hg f 39 40 3 nf hfr (by first | assumption | omega | decide) (by first | assumption | omega | decide) (by first | assumption | omega | decide) (by first | assumption | omega | decide)) (my_cwV hts ok_X5_size w_202 rfl rfl ⟨Nat.le_of_ble_eq_true rfl, Nat.le_of_ble_eq_true rfl⟩) ⟨bP.blind, va_recv hG.1 hP (ci := 5) (q0 := 39) rfl (wl_at (by decide) hfr), fun U hU hW => ⟨rfl, by rw [hU]; exact hP, kG.warm hW hG⟩⟩ rfl rfl hl.1 rfl (lv_room (Nat.le_of_ble_eq_true rfl)) dX0_kinOfSides_11 ⟨Nat.le_of_ble_eq_true rfl, Nat.le_of_ble_eq_true rfl⟩) (fun r hr9 => ?_)
      subst hr9
      refine lv_icmp_ge (tgt := 104) hx hb dX0_kinOfSides_14 (by decide) (fun c_14 => ?_) (fun c_14 => ?_)
      · have hin : i = nf := by
          have h9 := (nI_leI (by omega) (by omega)).mp c_14
          omega
        rw [hin] at hu
        refine lv_iload_n hx hb dX0_kinOfSides_104 rfl (lv_at hl 3 rfl) ?_
        refine W_q9 hQ9 ?_
        exact W.iret (v := u) hx hb hr (fun _ hT9 _ => ⟨_, rfl, (hu), hT9⟩) (fun _ h => absurd h List.not_mem_nil) dX0_kinOfSides_105
      · have hi9 : i < nf := Nat.not_le.mp (fun z => c_14 (nI_le z (by omega)))
        refine lv_aload_n hx hb dX0_kinOfSides_17 rfl (lv_at hl 0 rfl) ?_
        refine va_get (D := G.1) (ci := 0) (v := .ref (g 39)) (C := RX0) (T := TX0) (N := 9) hx hb hts inlX0 hown hG.1 hP 36 (wl_at (by decide) hbk) rfl 1 (by decide) (hts (.fieldLink RX0 20 "SwornLists$Book" "facts" "LSwornLists$Rows;") w_55) (fun _ h9 => h9) rfl dX0_kinOfSides_18 ?_
        refine lv_iload hx hb dX0_kinOfSides_21 (lv_at hl 4 rfl) ?_
        refine lv_iconst (v := 1) hx hb dX0_kinOfSides_23 (by decide) ?_
        refine rd_calli (va_runV (As := [.int (nI i), .int 1]) (rest := []) ⟨hx, hb, hml, hown, hts⟩ (r_at l G g hg f 39 40 3 nf df (nI i) 1 hfr hfd (by first | assumption | omega | decide) (by first | assumption | omega | decide) (by first | assumption | omega | decide) (by first | assumption | omega | decide)) (my_cwV hts ok_X5_at w_225 rfl rfl ⟨Nat.le_of_ble_eq_true rfl, Nat.le_of_ble_eq_true rfl⟩) ⟨bP.blind, va_recv hG.1 hP (ci := 5) (q0 := 39) rfl (wl_at (by decide) hfr), fun U hU hW => ⟨rfl, by rw [hU]; exact hP, kG.warm hW hG⟩⟩ rfl rfl hl.1 rfl (lv_room (Nat.le_of_ble_eq_true rfl)) dX0_kinOfSides_24 ⟨Nat.le_of_ble_eq_true rfl, Nat.le_of_ble_eq_true rfl⟩) (fun r hr9 => ?_)
        subst hr9
        refine my_bei (v := df (3 * i + 1)) (atQ (d := df) (w := 3) (i := i) (c := 1) hi9 (by omega) (by omega) (by omega)) ?_
        refine lv_istore (lv' := [(5, .int (df (3 * i + 1))), (0, .ref (g 36)), (1, .int (nI t)), (2, .int q), (3, .int u), (4, .int (nI i))]) hx hb dX0_kinOfSides_27 hl (by decide) rfl (fun ls hl => ?_)
        refine lv_iload hx hb dX0_kinOfSides_29 (lv_at hl 0 rfl) ?_
        refine lv_aload_n hx hb dX0_kinOfSides_31 rfl (lv_at hl 1 rfl) ?_
        refine va_get (D := G.1) (ci := 0) (v := .ref (g 45)) (C := RX0) (T := TX0) (N := 9) hx hb hts inlX0 hown hG.1 hP 36 (wl_at (by decide) hbk) rfl 4 (by decide) (hts (.fieldLink RX0 29 "SwornLists$Book" "trials" "LSwornLists$Rows;") w_58) (fun _ h9 => h9) rfl dX0_kinOfSides_32 ?_
        refine lv_iload_n hx hb dX0_kinOfSides_35 rfl (lv_at hl 2 rfl) ?_
        refine lv_iconst (v := 3) hx hb dX0_kinOfSides_36 (by decide) ?_
        refine rd_calli (va_runV (As := [.int (nI t), .int 3]) (rest := [.int (df (3 * i + 1))]) ⟨hx, hb, hml, hown, hts⟩ (r_at l G g hg f 45 10 70 nt ct (nI t) 3 htr hct (by first | assumption | omega | decide) (by first | assumption | omega | decide) (by first | assumption | omega | decide) (by first | assumption | omega | decide)) (my_cwV hts ok_X5_at w_225 rfl rfl ⟨Nat.le_of_ble_eq_true rfl, Nat.le_of_ble_eq_true rfl⟩) ⟨bP.blind, va_recv hG.1 hP (ci := 5) (q0 := 45) rfl (wl_at (by decide) htr), fun U hU hW => ⟨rfl, by rw [hU]; exact hP, kG.warm hW hG⟩⟩ rfl rfl hl.1 rfl (lv_room (Nat.le_of_ble_eq_true rfl)) dX0_kinOfSides_37 ⟨Nat.le_of_ble_eq_true rfl, Nat.le_of_ble_eq_true rfl⟩) (fun r hr9 => ?_)
        subst hr9
        refine my_bei (v := ct (70 * t + 3)) (atQ (d := ct) (w := 70) (i := t) (c := 3) ht (by omega) (by omega) (by omega)) ?_
        refine lv_icmp_eq (tgt := 57) hx hb dX0_kinOfSides_40 (by decide) (fun c_40 => ?_) (fun c_40 => ?_)
        · refine lv_iconst (v := 1) hx hb dX0_kinOfSides_57 (by decide) ?_
          refine lv_goto (tgt := 62) hx hb dX0_kinOfSides_58 (by decide) ?_
          refine lv_istore (lv' := [(6, .int 1), (5, .int (df (3 * i + 1))), (0, .ref (g 36)), (1, .int (nI t)), (2, .int q), (3, .int u), (4, .int (nI i))]) hx hb dX0_kinOfSides_62 hl (by decide) rfl (fun ls hl => ?_)
          refine lv_iload hx hb dX0_kinOfSides_64 (lv_at hl 0 rfl) ?_
          refine lv_if_eq (tgt := 98) hx hb dX0_kinOfSides_66 (by decide) (fun c_66 => absurd c_66 (by decide)) (fun c_66 => ?_)
          refine lv_aload_n hx hb dX0_kinOfSides_69 rfl (lv_at hl 2 rfl) ?_
          refine va_get (D := G.1) (ci := 0) (v := .ref (g 39)) (C := RX0) (T := TX0) (N := 9) hx hb hts inlX0 hown hG.1 hP 36 (wl_at (by decide) hbk) rfl 1 (by decide) (hts (.fieldLink RX0 20 "SwornLists$Book" "facts" "LSwornLists$Rows;") w_55) (fun _ h9 => h9) rfl dX0_kinOfSides_70 ?_
          refine lv_iload hx hb dX0_kinOfSides_73 (lv_at hl 6 rfl) ?_
          refine lv_iconst (v := 2) hx hb dX0_kinOfSides_75 (by decide) ?_
          refine rd_calli (va_runV (As := [.int (nI i), .int 2]) (rest := []) ⟨hx, hb, hml, hown, hts⟩ (r_at l G g hg f 39 40 3 nf df (nI i) 2 hfr hfd (by first | assumption | omega | decide) (by first | assumption | omega | decide) (by first | assumption | omega | decide) (by first | assumption | omega | decide)) (my_cwV hts ok_X5_at w_225 rfl rfl ⟨Nat.le_of_ble_eq_true rfl, Nat.le_of_ble_eq_true rfl⟩) ⟨bP.blind, va_recv hG.1 hP (ci := 5) (q0 := 39) rfl (wl_at (by decide) hfr), fun U hU hW => ⟨rfl, by rw [hU]; exact hP, kG.warm hW hG⟩⟩ rfl rfl hl.1 rfl (lv_room (Nat.le_of_ble_eq_true rfl)) dX0_kinOfSides_76 ⟨Nat.le_of_ble_eq_true rfl, Nat.le_of_ble_eq_true rfl⟩) (fun r hr9 => ?_)
          subst hr9
          refine my_bei (v := df (3 * i + 2)) (atQ (d := df) (w := 3) (i := i) (c := 2) hi9 (by omega) (by omega) (by omega)) ?_
          refine lv_iload_n hx hb dX0_kinOfSides_79 rfl (lv_at hl 4 rfl) ?_
          refine lv_icmp_gt (tgt := 98) hx hb dX0_kinOfSides_80 (by decide) (fun c_80 => ?_) (fun c_80 => ?_)
          · refine lv_iinc (v := nI (i + 1)) (lv' := [(4, .int (nI (i + 1))), (6, .int 1), (5, .int (df (3 * i + 1))), (0, .ref (g 36)), (1, .int (nI t)), (2, .int q), (3, .int u)]) hx hb dX0_kinOfSides_98 hl (k := 6) rfl (nI_1 i) (by decide) rfl (fun ls hl => ?_)
            refine lv_goto (tgt := 5) hx hb dX0_kinOfSides_101 (by decide) ?_
            exact ih_1 (i + 1) u _ (hi9) (by rw [hu, knV_n (F := (fun i c => df (3 * i + c))) (fun z => absurd z.2 (Int32.not_le.mpr c_80))]) (by omega) (lv_sub hl [3, 4, 5, 6, 0] rfl)
          · refine lv_iload_n hx hb dX0_kinOfSides_83 rfl (lv_at hl 5 rfl) ?_
            refine lv_iconst (v := 1) hx hb dX0_kinOfSides_84 (by decide) ?_
            refine lv_aload_n hx hb dX0_kinOfSides_85 rfl (lv_at hl 2 rfl) ?_
            refine va_get (D := G.1) (ci := 0) (v := .ref (g 39)) (C := RX0) (T := TX0) (N := 9) hx hb hts inlX0 hown hG.1 hP 36 (wl_at (by decide) hbk) rfl 1 (by decide) (hts (.fieldLink RX0 20 "SwornLists$Book" "facts" "LSwornLists$Rows;") w_55) (fun _ h9 => h9) rfl dX0_kinOfSides_86 ?_
            refine lv_iload hx hb dX0_kinOfSides_89 (lv_at hl 6 rfl) ?_
            refine lv_iconst (v := 0) hx hb dX0_kinOfSides_91 (by decide) ?_
            refine rd_calli (va_runV (As := [.int (nI i), .int 0]) (rest := [.int 1, .int u]) ⟨hx, hb, hml, hown, hts⟩ (r_at l G g hg f 39 40 3 nf df (nI i) 0 hfr hfd (by first | assumption | omega | decide) (by first | assumption | omega | decide) (by first | assumption | omega | decide) (by first | assumption | omega | decide)) (my_cwV hts ok_X5_at w_225 rfl rfl ⟨Nat.le_of_ble_eq_true rfl, Nat.le_of_ble_eq_true rfl⟩) ⟨bP.blind, va_recv hG.1 hP (ci := 5) (q0 := 39) rfl (wl_at (by decide) hfr), fun U hU hW => ⟨rfl, by rw [hU]; exact hP, kG.warm hW hG⟩⟩ rfl rfl hl.1 rfl (lv_room (Nat.le_of_ble_eq_true rfl)) dX0_kinOfSides_92 ⟨Nat.le_of_ble_eq_true rfl, Nat.le_of_ble_eq_true rfl⟩) (fun r hr9 => ?_)
            subst hr9
            refine my_bei (v := df (3 * i + 0)) (atQ (d := df) (w := 3) (i := i) (c := 0) hi9 (by omega) (by omega) (by omega)) ?_
            refine lv_ishl hx hb dX0_kinOfSides_95 ?_
            refine lv_ior hx hb dX0_kinOfSides_96 ?_
            refine lv_istore_n (lv' := [(3, .int (u ||| (1 <<< ((df (3 * i + 0)) &&& 31)))), (6, .int 1), (5, .int (df (3 * i + 1))), (0, .ref (g 36)), (1, .int (nI t)), (2, .int q), (4, .int (nI i))]) hx hb dX0_kinOfSides_97 rfl hl (by decide) rfl (fun ls hl => ?_)
            refine lv_iinc (v := nI (i + 1)) (lv' := [(4, .int (nI (i + 1))), (3, .int (u ||| (1 <<< ((df (3 * i + 0)) &&& 31)))), (6, .int 1), (5, .int (df (3 * i + 1))), (0, .ref (g 36)), (1, .int (nI t)), (2, .int q)]) hx hb dX0_kinOfSides_98 hl (k := 6) rfl (nI_1 i) (by decide) rfl (fun ls hl => ?_)
            refine lv_goto (tgt := 5) hx hb dX0_kinOfSides_101 (by decide) ?_
            exact ih_1 (i + 1) (u ||| (1 <<< ((df (3 * i + 0)) &&& 31))) _ (hi9) (by rw [hu, knV_y (F := (fun i c => df (3 * i + c))) ⟨Or.inl c_40, Int32.not_lt.mp c_80⟩]) (by omega) (lv_sub hl [4, 5, 6, 1, 0] rfl)
        · refine lv_iload hx hb dX0_kinOfSides_43 (lv_at hl 0 rfl) ?_
          refine lv_aload_n hx hb dX0_kinOfSides_45 rfl (lv_at hl 1 rfl) ?_
          refine va_get (D := G.1) (ci := 0) (v := .ref (g 45)) (C := RX0) (T := TX0) (N := 9) hx hb hts inlX0 hown hG.1 hP 36 (wl_at (by decide) hbk) rfl 4 (by decide) (hts (.fieldLink RX0 29 "SwornLists$Book" "trials" "LSwornLists$Rows;") w_58) (fun _ h9 => h9) rfl dX0_kinOfSides_46 ?_
          refine lv_iload_n hx hb dX0_kinOfSides_49 rfl (lv_at hl 2 rfl) ?_
          refine lv_iconst (v := 4) hx hb dX0_kinOfSides_50 (by decide) ?_
          refine rd_calli (va_runV (As := [.int (nI t), .int 4]) (rest := [.int (df (3 * i + 1))]) ⟨hx, hb, hml, hown, hts⟩ (r_at l G g hg f 45 10 70 nt ct (nI t) 4 htr hct (by first | assumption | omega | decide) (by first | assumption | omega | decide) (by first | assumption | omega | decide) (by first | assumption | omega | decide)) (my_cwV hts ok_X5_at w_225 rfl rfl ⟨Nat.le_of_ble_eq_true rfl, Nat.le_of_ble_eq_true rfl⟩) ⟨bP.blind, va_recv hG.1 hP (ci := 5) (q0 := 45) rfl (wl_at (by decide) htr), fun U hU hW => ⟨rfl, by rw [hU]; exact hP, kG.warm hW hG⟩⟩ rfl rfl hl.1 rfl (lv_room (Nat.le_of_ble_eq_true rfl)) dX0_kinOfSides_51 ⟨Nat.le_of_ble_eq_true rfl, Nat.le_of_ble_eq_true rfl⟩) (fun r hr9 => ?_)
          subst hr9
          refine my_bei (v := ct (70 * t + 4)) (atQ (d := ct) (w := 70) (i := t) (c := 4) ht (by omega) (by omega) (by omega)) ?_
          refine lv_icmp_ne (tgt := 61) hx hb dX0_kinOfSides_54 (by decide) (fun c_54 => ?_) (fun c_54 => ?_)
          · refine lv_iconst (v := 0) hx hb dX0_kinOfSides_61 (by decide) ?_
            refine lv_istore (lv' := [(6, .int 0), (5, .int (df (3 * i + 1))), (0, .ref (g 36)), (1, .int (nI t)), (2, .int q), (3, .int u), (4, .int (nI i))]) hx hb dX0_kinOfSides_62 hl (by decide) rfl (fun ls hl => ?_)
            refine lv_iload hx hb dX0_kinOfSides_64 (lv_at hl 0 rfl) ?_
            refine lv_if_eq (tgt := 98) hx hb dX0_kinOfSides_66 (by decide) (fun c_66 => ?_) (fun c_66 => absurd (by decide) c_66)
            refine lv_iinc (v := nI (i + 1)) (lv' := [(4, .int (nI (i + 1))), (6, .int 0), (5, .int (df (3 * i + 1))), (0, .ref (g 36)), (1, .int (nI t)), (2, .int q), (3, .int u)]) hx hb dX0_kinOfSides_98 hl (k := 6) rfl (nI_1 i) (by decide) rfl (fun ls hl => ?_)
            refine lv_goto (tgt := 5) hx hb dX0_kinOfSides_101 (by decide) ?_
            exact ih_1 (i + 1) u _ (hi9) (by rw [hu, knV_n (F := (fun i c => df (3 * i + c))) (fun z => z.1.elim c_40 c_54)]) (by omega) (lv_sub hl [3, 4, 5, 6, 0] rfl)
          · refine lv_iconst (v := 1) hx hb dX0_kinOfSides_57 (by decide) ?_
            refine lv_goto (tgt := 62) hx hb dX0_kinOfSides_58 (by decide) ?_
            refine lv_istore (lv' := [(6, .int 1), (5, .int (df (3 * i + 1))), (0, .ref (g 36)), (1, .int (nI t)), (2, .int q), (3, .int u), (4, .int (nI i))]) hx hb dX0_kinOfSides_62 hl (by decide) rfl (fun ls hl => ?_)
            refine lv_iload hx hb dX0_kinOfSides_64 (lv_at hl 0 rfl) ?_
            refine lv_if_eq (tgt := 98) hx hb dX0_kinOfSides_66 (by decide) (fun c_66 => absurd c_66 (by decide)) (fun c_66 => ?_)
            refine lv_aload_n hx hb dX0_kinOfSides_69 rfl (lv_at hl 2 rfl) ?_
            refine va_get (D := G.1) (ci := 0) (v := .ref (g 39)) (C := RX0) (T := TX0) (N := 9) hx hb hts inlX0 hown hG.1 hP 36 (wl_at (by decide) hbk) rfl 1 (by decide) (hts (.fieldLink RX0 20 "SwornLists$Book" "facts" "LSwornLists$Rows;") w_55) (fun _ h9 => h9) rfl dX0_kinOfSides_70 ?_
            refine lv_iload hx hb dX0_kinOfSides_73 (lv_at hl 6 rfl) ?_
            refine lv_iconst (v := 2) hx hb dX0_kinOfSides_75 (by decide) ?_
            refine rd_calli (va_runV (As := [.int (nI i), .int 2]) (rest := []) ⟨hx, hb, hml, hown, hts⟩ (r_at l G g hg f 39 40 3 nf df (nI i) 2 hfr hfd (by first | assumption | omega | decide) (by first | assumption | omega | decide) (by first | assumption | omega | decide) (by first | assumption | omega | decide)) (my_cwV hts ok_X5_at w_225 rfl rfl ⟨Nat.le_of_ble_eq_true rfl, Nat.le_of_ble_eq_true rfl⟩) ⟨bP.blind, va_recv hG.1 hP (ci := 5) (q0 := 39) rfl (wl_at (by decide) hfr), fun U hU hW => ⟨rfl, by rw [hU]; exact hP, kG.warm hW hG⟩⟩ rfl rfl hl.1 rfl (lv_room (Nat.le_of_ble_eq_true rfl)) dX0_kinOfSides_76 ⟨Nat.le_of_ble_eq_true rfl, Nat.le_of_ble_eq_true rfl⟩) (fun r hr9 => ?_)
            subst hr9
            refine my_bei (v := df (3 * i + 2)) (atQ (d := df) (w := 3) (i := i) (c := 2) hi9 (by omega) (by omega) (by omega)) ?_
            refine lv_iload_n hx hb dX0_kinOfSides_79 rfl (lv_at hl 4 rfl) ?_
            refine lv_icmp_gt (tgt := 98) hx hb dX0_kinOfSides_80 (by decide) (fun c_80 => ?_) (fun c_80 => ?_)
            · refine lv_iinc (v := nI (i + 1)) (lv' := [(4, .int (nI (i + 1))), (6, .int 1), (5, .int (df (3 * i + 1))), (0, .ref (g 36)), (1, .int (nI t)), (2, .int q), (3, .int u)]) hx hb dX0_kinOfSides_98 hl (k := 6) rfl (nI_1 i) (by decide) rfl (fun ls hl => ?_)
              refine lv_goto (tgt := 5) hx hb dX0_kinOfSides_101 (by decide) ?_
              exact ih_1 (i + 1) u _ (hi9) (by rw [hu, knV_n (F := (fun i c => df (3 * i + c))) (fun z => absurd z.2 (Int32.not_le.mpr c_80))]) (by omega) (lv_sub hl [3, 4, 5, 6, 0] rfl)
            · refine lv_iload_n hx hb dX0_kinOfSides_83 rfl (lv_at hl 5 rfl) ?_
              refine lv_iconst (v := 1) hx hb dX0_kinOfSides_84 (by decide) ?_
              refine lv_aload_n hx hb dX0_kinOfSides_85 rfl (lv_at hl 2 rfl) ?_
              refine va_get (D := G.1) (ci := 0) (v := .ref (g 39)) (C := RX0) (T := TX0) (N := 9) hx hb hts inlX0 hown hG.1 hP 36 (wl_at (by decide) hbk) rfl 1 (by decide) (hts (.fieldLink RX0 20 "SwornLists$Book" "facts" "LSwornLists$Rows;") w_55) (fun _ h9 => h9) rfl dX0_kinOfSides_86 ?_
              refine lv_iload hx hb dX0_kinOfSides_89 (lv_at hl 6 rfl) ?_
              refine lv_iconst (v := 0) hx hb dX0_kinOfSides_91 (by decide) ?_
              refine rd_calli (va_runV (As := [.int (nI i), .int 0]) (rest := [.int 1, .int u]) ⟨hx, hb, hml, hown, hts⟩ (r_at l G g hg f 39 40 3 nf df (nI i) 0 hfr hfd (by first | assumption | omega | decide) (by first | assumption | omega | decide) (by first | assumption | omega | decide) (by first | assumption | omega | decide)) (my_cwV hts ok_X5_at w_225 rfl rfl ⟨Nat.le_of_ble_eq_true rfl, Nat.le_of_ble_eq_true rfl⟩) ⟨bP.blind, va_recv hG.1 hP (ci := 5) (q0 := 39) rfl (wl_at (by decide) hfr), fun U hU hW => ⟨rfl, by rw [hU]; exact hP, kG.warm hW hG⟩⟩ rfl rfl hl.1 rfl (lv_room (Nat.le_of_ble_eq_true rfl)) dX0_kinOfSides_92 ⟨Nat.le_of_ble_eq_true rfl, Nat.le_of_ble_eq_true rfl⟩) (fun r hr9 => ?_)
              subst hr9
              refine my_bei (v := df (3 * i + 0)) (atQ (d := df) (w := 3) (i := i) (c := 0) hi9 (by omega) (by omega) (by omega)) ?_
              refine lv_ishl hx hb dX0_kinOfSides_95 ?_
              refine lv_ior hx hb dX0_kinOfSides_96 ?_
              refine lv_istore_n (lv' := [(3, .int (u ||| (1 <<< ((df (3 * i + 0)) &&& 31)))), (6, .int 1), (5, .int (df (3 * i + 1))), (0, .ref (g 36)), (1, .int (nI t)), (2, .int q), (4, .int (nI i))]) hx hb dX0_kinOfSides_97 rfl hl (by decide) rfl (fun ls hl => ?_)
              refine lv_iinc (v := nI (i + 1)) (lv' := [(4, .int (nI (i + 1))), (3, .int (u ||| (1 <<< ((df (3 * i + 0)) &&& 31)))), (6, .int 1), (5, .int (df (3 * i + 1))), (0, .ref (g 36)), (1, .int (nI t)), (2, .int q)]) hx hb dX0_kinOfSides_98 hl (k := 6) rfl (nI_1 i) (by decide) rfl (fun ls hl => ?_)
              refine lv_goto (tgt := 5) hx hb dX0_kinOfSides_101 (by decide) ?_
              exact ih_1 (i + 1) (u ||| (1 <<< ((df (3 * i + 0)) &&& 31))) _ (hi9) (by rw [hu, knV_y (F := (fun i c => df (3 * i + c))) ⟨Or.inr c_54, Int32.not_lt.mp c_80⟩]) (by omega) (lv_sub hl [4, 5, 6, 1, 0] rfl)
  exact key1 (nf + 1) 0 0 _ (Nat.zero_le _) (rfl) (by omega) (lv_sub hl [2, 3, 4, 1, 0] rfl)
set_option maxHeartbeats 4000000 in
set_option maxRecDepth 100000 in
theorem k_peopleWithE (l : Launch) (G : gW) (g : Nat → Nat) (hg : gOK g) (f : Nat → va_E) (pay : Int32) (fine : Int32) (np : Nat) (dp : Nat → Int32) (cc : Nat) (q : Int32) (hbk : f 36 = eO 0 [.ref (g 37), .ref (g 39), .ref (g 41), .ref (g 43), .ref (g 45), .ref (g 47), .ref (g 112), .int pay, .int fine]) (hpr : f 37 = eO 5 [.int (nI 30), .int (nI 4), .ref (g 38), .int (nI np)]) (hpd : f 38 = eI G (30 * 4) dp) (hnp : np ≤ 30) (hcc : cc < 4) : Met l yX0_peopleWith (wsT yX0_peopleWith cX0_peopleWith 5 (some .int)) ({ frames := 1, cells := 0, slots := 0, locals := 23 }) (bP G g f [.ref (g 36), .int (nI cc), .int q]) (rQi (fun z9 => z9 = sO (fun i => decide (dp (4 * i + cc) = q)) np)) 0 0 fr0 := by
  refine Met.ofW (cc := cX0_peopleWith) (maxL := 5) (ret := (some .int)) (by decide) rfl ?_
  intro p e s m args below meth c s₁ B hml hv
  obtain ⟨rfl, hP, hG⟩ := hv
  have hx := B.exec
  have hb := B.bytes
  have hr := B.returns
  have hts := my_hts (atoms_spec (ws := wsT yX0_peopleWith cX0_peopleWith 5 (some .int)) B.pre)
  have hown : s.vm.findClass RX0 = some m.cls := findClass_of_methodNamed B.named
  have hlocks := B.notSynchronized
  have hl := lv_entry ([.ref (g 36), .int (nI cc), .int q]) (n := 5) (Nat.le_of_ble_eq_true rfl)
  rw [lg_entry_eq]
  generalize (lg_sl ([.ref (g 36), .int (nI cc), .int q]) ++ List.replicate (5 - (lg_sl ([.ref (g 36), .int (nI cc), .int q])).length) Slot.unset).toArray = ls at hl ⊢
  have hl : lv_has ls 5 [(0, .ref (g 36)), (1, .int (nI cc)), (2, .int q)] := hl
  refine W_q8 (fun Q9 hQ9 => ?_)
  refine lv_iconst (v := 0) hx hb dX0_peopleWith_0 (by decide) ?_
  refine lv_istore_n (lv' := [(3, .int 0), (0, .ref (g 36)), (1, .int (nI cc)), (2, .int q)]) hx hb dX0_peopleWith_1 rfl hl (by decide) rfl (fun ls hl => ?_)
  refine lv_iconst (v := 0) hx hb dX0_peopleWith_2 (by decide) ?_
  refine lv_istore (lv' := [(4, .int 0), (3, .int 0), (0, .ref (g 36)), (1, .int (nI cc)), (2, .int q)]) hx hb dX0_peopleWith_3 hl (by decide) rfl (fun ls hl => ?_)
  have key1 : ∀ (n9_1 : Nat) (i : Nat) (u : Int32) (ls : Array Slot), (i ≤ np) → (u = sO (fun i => decide (dp (4 * i + cc) = q)) i) → np - i < n9_1 → lv_has ls 5 [(0, .ref (g 36)), (1, .int (nI cc)), (2, .int q), (3, .int u), (4, .int (nI i))] → W p l e (headSpec (wsT yX0_peopleWith cX0_peopleWith 5 (some .int)) ({ frames := 1, cells := 0, slots := 0, locals := 23 })).room s m ([.ref (g 36), .int (nI cc), .int q] : List Value).toArray below meth c s.heap [] 0 0 Q9 (F0 m 5 ls []) := by
    intro n9_1
    induction n9_1 with
    | zero => intro i u ls hi hu hn9_1; exact absurd hn9_1 (Nat.not_lt_zero _)
    | succ n9_1 ih_1 =>
      intro i u ls hi hu hn9_1 hl
      refine lv_iload hx hb dX0_peopleWith_5 (lv_at hl 4 rfl) ?_
      refine lv_aload_n hx hb dX0_peopleWith_7 rfl (lv_at hl 0 rfl) ?_
      refine va_get (D := G.1) (ci := 0) (v := .ref (g 37)) (C := RX0) (T := TX0) (N := 9) hx hb hts inlX0 hown hG.1 hP 36 (wl_at (by decide) hbk) rfl 0 (by decide) (hts (.fieldLink RX0 14 "SwornLists$Book" "people" "LSwornLists$Rows;") w_54) (fun _ h9 => h9) rfl dX0_peopleWith_8 ?_
      refine rd_calli (va_runV (As := []) (rest := [.int (nI i)]) ⟨hx, hb, hml, hown, hts⟩ (r_size l G g hg f 37 30 4 np hpr (by first | assumption | omega | decide) (by first | assumption | omega | decide) (by first | assumption | omega | decide) (by first | assumption | omega | decide)) (my_cwV hts ok_X5_size w_202 rfl rfl ⟨Nat.le_of_ble_eq_true rfl, Nat.le_of_ble_eq_true rfl⟩) ⟨bP.blind, va_recv hG.1 hP (ci := 5) (q0 := 37) rfl (wl_at (by decide) hpr), fun U hU hW => ⟨rfl, by rw [hU]; exact hP, kG.warm hW hG⟩⟩ rfl rfl hl.1 rfl (lv_room (Nat.le_of_ble_eq_true rfl)) dX0_peopleWith_11 ⟨Nat.le_of_ble_eq_true rfl, Nat.le_of_ble_eq_true rfl⟩) (fun r hr9 => ?_)
      subst hr9
      refine lv_icmp_ge (tgt := 44) hx hb dX0_peopleWith_14 (by decide) (fun c_14 => ?_) (fun c_14 => ?_)
      · have hin : i = np := by
          have h9 := (nI_leI (by omega) (by omega)).mp c_14
          omega
        rw [hin] at hu
        refine lv_iload_n hx hb dX0_peopleWith_44 rfl (lv_at hl 3 rfl) ?_
        refine W_q9 hQ9 ?_
        exact W.iret (v := u) hx hb hr (fun _ hT9 _ => ⟨_, rfl, (hu), hT9⟩) (fun _ h => absurd h List.not_mem_nil) dX0_peopleWith_45
      · have hi9 : i < np := Nat.not_le.mp (fun z => c_14 (nI_le z (by omega)))
        refine lv_aload_n hx hb dX0_peopleWith_17 rfl (lv_at hl 0 rfl) ?_
        refine va_get (D := G.1) (ci := 0) (v := .ref (g 37)) (C := RX0) (T := TX0) (N := 9) hx hb hts inlX0 hown hG.1 hP 36 (wl_at (by decide) hbk) rfl 0 (by decide) (hts (.fieldLink RX0 14 "SwornLists$Book" "people" "LSwornLists$Rows;") w_54) (fun _ h9 => h9) rfl dX0_peopleWith_18 ?_
        refine lv_iload hx hb dX0_peopleWith_21 (lv_at hl 4 rfl) ?_
        refine lv_iload_n hx hb dX0_peopleWith_23 rfl (lv_at hl 1 rfl) ?_
        refine rd_calli (va_runV (As := [.int (nI i), .int (nI cc)]) (rest := []) ⟨hx, hb, hml, hown, hts⟩ (r_at l G g hg f 37 30 4 np dp (nI i) (nI cc) hpr hpd (by first | assumption | omega | decide) (by first | assumption | omega | decide) (by first | assumption | omega | decide) (by first | assumption | omega | decide)) (my_cwV hts ok_X5_at w_225 rfl rfl ⟨Nat.le_of_ble_eq_true rfl, Nat.le_of_ble_eq_true rfl⟩) ⟨bP.blind, va_recv hG.1 hP (ci := 5) (q0 := 37) rfl (wl_at (by decide) hpr), fun U hU hW => ⟨rfl, by rw [hU]; exact hP, kG.warm hW hG⟩⟩ rfl rfl hl.1 rfl (lv_room (Nat.le_of_ble_eq_true rfl)) dX0_peopleWith_24 ⟨Nat.le_of_ble_eq_true rfl, Nat.le_of_ble_eq_true rfl⟩) (fun r hr9 => ?_)
        subst hr9
        refine my_bei (v := dp (4 * i + cc)) (atQ (d := dp) (w := 4) (i := i) (c := cc) hi9 hcc (by omega) (by omega)) ?_
        refine lv_iload_n hx hb dX0_peopleWith_27 rfl (lv_at hl 2 rfl) ?_
        refine lv_icmp_ne (tgt := 38) hx hb dX0_peopleWith_28 (by decide) (fun c_28 => ?_) (fun c_28 => ?_)
        · refine lv_iinc (v := nI (i + 1)) (lv' := [(4, .int (nI (i + 1))), (0, .ref (g 36)), (1, .int (nI cc)), (2, .int q), (3, .int u)]) hx hb dX0_peopleWith_38 hl (k := 4) rfl (nI_1 i) (by decide) rfl (fun ls hl => ?_)
          refine lv_goto (tgt := 5) hx hb dX0_peopleWith_41 (by decide) ?_
          exact ih_1 (i + 1) u _ (hi9) (by rw [hu, sO_n (q := (fun i => decide (dp (4 * i + cc) = q))) (fun z => c_28 (of_decide_eq_true z))]) (by omega) (lv_sub hl [1, 2, 3, 4, 0] rfl)
        · refine lv_iload_n hx hb dX0_peopleWith_31 rfl (lv_at hl 3 rfl) ?_
          refine lv_iconst (v := 1) hx hb dX0_peopleWith_32 (by decide) ?_
          refine lv_iload hx hb dX0_peopleWith_33 (lv_at hl 4 rfl) ?_
          refine lv_ishl hx hb dX0_peopleWith_35 ?_
          refine lv_ior hx hb dX0_peopleWith_36 ?_
          refine lv_istore_n (lv' := [(3, .int (u ||| (1 <<< ((nI i) &&& 31)))), (0, .ref (g 36)), (1, .int (nI cc)), (2, .int q), (4, .int (nI i))]) hx hb dX0_peopleWith_37 rfl hl (by decide) rfl (fun ls hl => ?_)
          refine lv_iinc (v := nI (i + 1)) (lv' := [(4, .int (nI (i + 1))), (3, .int (u ||| (1 <<< ((nI i) &&& 31)))), (0, .ref (g 36)), (1, .int (nI cc)), (2, .int q)]) hx hb dX0_peopleWith_38 hl (k := 4) rfl (nI_1 i) (by decide) rfl (fun ls hl => ?_)
          refine lv_goto (tgt := 5) hx hb dX0_peopleWith_41 (by decide) ?_
          exact ih_1 (i + 1) (u ||| (1 <<< ((nI i) &&& 31))) _ (hi9) (by rw [hu, sO_y (q := (fun i => decide (dp (4 * i + cc) = q))) (decide_eq_true c_28)]; rfl) (by omega) (lv_sub hl [2, 3, 4, 1, 0] rfl)
  exact key1 (np + 1) 0 0 _ (Nat.zero_le _) (rfl) (by omega) (lv_sub hl [2, 3, 4, 1, 0] rfl)
set_option maxHeartbeats 4000000 in
set_option maxRecDepth 100000 in
theorem k_ofTradeWantedE (l : Launch) (G : gW) (g : Nat → Nat) (hg : gOK g) (f : Nat → va_E) (pay : Int32) (fine : Int32) (np : Nat) (dp : Nat → Int32) (nt : Nat) (ct : Nat → Int32) (t : Nat) (hbk : f 36 = eO 0 [.ref (g 37), .ref (g 39), .ref (g 41), .ref (g 43), .ref (g 45), .ref (g 47), .ref (g 112), .int pay, .int fine]) (hpr : f 37 = eO 5 [.int (nI 30), .int (nI 4), .ref (g 38), .int (nI np)]) (hpd : f 38 = eI G (30 * 4) dp) (htr : f 45 = eO 5 [.int (nI 10), .int (nI 70), .ref (g 46), .int (nI nt)]) (hct : f 46 = eI G (10 * 70) ct) (hnp : np ≤ 30) (hnt : nt ≤ 10) (ht : t < nt) : Met l yX0_ofTradeWanted (wsT yX0_ofTradeWanted cX0_ofTradeWanted 3 (some .int)) ({ frames := 2, cells := 0, slots := 0, locals := 47 }) (bP G g f [.ref (g 36), .int (nI t)]) (rQi (fun z9 => z9 = sO (fun i => decide (ct (70 * t + 5) = -1) || decide (dp (4 * i + 1) = ct (70 * t + 5))) np)) 0 0 fr0 := by
  refine Met.ofW (cc := cX0_ofTradeWanted) (maxL := 3) (ret := (some .int)) (by decide) rfl ?_
  intro p e s m args below meth c s₁ B hml hv
  obtain ⟨rfl, hP, hG⟩ := hv
  have hx := B.exec
  have hb := B.bytes
  have hr := B.returns
  have hts := my_hts (atoms_spec (ws := wsT yX0_ofTradeWanted cX0_ofTradeWanted 3 (some .int)) B.pre)
  have hown : s.vm.findClass RX0 = some m.cls := findClass_of_methodNamed B.named
  have hlocks := B.notSynchronized
  have hl := lv_entry ([.ref (g 36), .int (nI t)]) (n := 3) (Nat.le_of_ble_eq_true rfl)
  rw [lg_entry_eq]
  generalize (lg_sl ([.ref (g 36), .int (nI t)]) ++ List.replicate (3 - (lg_sl ([.ref (g 36), .int (nI t)])).length) Slot.unset).toArray = ls at hl ⊢
  have hl : lv_has ls 3 [(0, .ref (g 36)), (1, .int (nI t))] := hl
  refine W_q8 (fun Q9 hQ9 => ?_)
  refine lv_aload_n hx hb dX0_ofTradeWanted_0 rfl (lv_at hl 0 rfl) ?_
  refine va_get (D := G.1) (ci := 0) (v := .ref (g 45)) (C := RX0) (T := TX0) (N := 9) hx hb hts inlX0 hown hG.1 hP 36 (wl_at (by decide) hbk) rfl 4 (by decide) (hts (.fieldLink RX0 29 "SwornLists$Book" "trials" "LSwornLists$Rows;") w_58) (fun _ h9 => h9) rfl dX0_ofTradeWanted_1 ?_
  refine lv_iload_n hx hb dX0_ofTradeWanted_4 rfl (lv_at hl 1 rfl) ?_
  refine lv_iconst (v := 5) hx hb dX0_ofTradeWanted_5 (by decide) ?_
  refine rd_calli (va_runV (As := [.int (nI t), .int 5]) (rest := []) ⟨hx, hb, hml, hown, hts⟩ (r_at l G g hg f 45 10 70 nt ct (nI t) 5 htr hct (by first | assumption | omega | decide) (by first | assumption | omega | decide) (by first | assumption | omega | decide) (by first | assumption | omega | decide)) (my_cwV hts ok_X5_at w_225 rfl rfl ⟨Nat.le_of_ble_eq_true rfl, Nat.le_of_ble_eq_true rfl⟩) ⟨bP.blind, va_recv hG.1 hP (ci := 5) (q0 := 45) rfl (wl_at (by decide) htr), fun U hU hW => ⟨rfl, by rw [hU]; exact hP, kG.warm hW hG⟩⟩ rfl rfl hl.1 rfl (lv_room (Nat.le_of_ble_eq_true rfl)) dX0_ofTradeWanted_6 ⟨Nat.le_of_ble_eq_true rfl, Nat.le_of_ble_eq_true rfl⟩) (fun r hr9 => ?_)
  subst hr9
  refine my_bei (v := ct (70 * t + 5)) (atQ (d := ct) (w := 70) (i := t) (c := 5) ht (by omega) (by omega) (by omega)) ?_
  refine lv_istore_n (lv' := [(2, .int (ct (70 * t + 5))), (0, .ref (g 36)), (1, .int (nI t))]) hx hb dX0_ofTradeWanted_9 rfl hl (by decide) rfl (fun ls hl => ?_)
  refine lv_iload_n hx hb dX0_ofTradeWanted_10 rfl (lv_at hl 0 rfl) ?_
  refine lv_iconst (v := (-1)) hx hb dX0_ofTradeWanted_11 (by decide) ?_
  refine lv_icmp_ne (tgt := 22) hx hb dX0_ofTradeWanted_12 (by decide) (fun c_12 => ?_) (fun c_12 => ?_)
  · refine lv_aload_n hx hb dX0_ofTradeWanted_22 rfl (lv_at hl 1 rfl) ?_
    refine lv_iconst (v := 1) hx hb dX0_ofTradeWanted_23 (by decide) ?_
    refine lv_iload_n hx hb dX0_ofTradeWanted_24 rfl (lv_at hl 0 rfl) ?_
    refine rd_calli (va_runV (As := [.int 1, .int (ct (70 * t + 5))]) (rest := []) ⟨hx, hb, hml, hown, hts⟩ (k_peopleWithE l G g hg f pay fine np dp 1 (ct (70 * t + 5)) hbk hpr hpd (by first | assumption | omega | decide) (by first | assumption | omega | decide)) (my_cwV hts ok_X0_peopleWith w_469 rfl rfl ⟨Nat.le_of_ble_eq_true rfl, Nat.le_of_ble_eq_true rfl⟩) ⟨bP.blind, va_recv hG.1 hP (ci := 0) (q0 := 36) rfl (wl_at (by decide) hbk), fun U hU hW => ⟨rfl, by rw [hU]; exact hP, kG.warm hW hG⟩⟩ rfl rfl hl.1 rfl (lv_room (Nat.le_of_ble_eq_true rfl)) dX0_ofTradeWanted_25 ⟨Nat.le_of_ble_eq_true rfl, Nat.le_of_ble_eq_true rfl⟩) (fun r hr9 => ?_)
    subst hr9
    refine W_q9 hQ9 ?_
    exact W.iret (v := sO (fun i => decide (dp (4 * i + 1) = (ct (70 * t + 5)))) np) hx hb hr (fun _ hT9 _ => ⟨_, rfl, ((sO_congr np (fun k _ => by rw [decide_eq_false c_12, Bool.false_or]))), hT9⟩) (fun _ h => absurd h List.not_mem_nil) dX0_ofTradeWanted_28
  · refine lv_aload_n hx hb dX0_ofTradeWanted_15 rfl (lv_at hl 1 rfl) ?_
    refine rd_calli (va_runV (As := []) (rest := []) ⟨hx, hb, hml, hown, hts⟩ (k_everyoneE l G g hg f pay fine np dp hbk hpr hpd (by first | assumption | omega | decide)) (my_cwV hts ok_X0_everyone w_229 rfl rfl ⟨Nat.le_of_ble_eq_true rfl, Nat.le_of_ble_eq_true rfl⟩) ⟨bP.blind, va_recv hG.1 hP (ci := 0) (q0 := 36) rfl (wl_at (by decide) hbk), fun U hU hW => ⟨rfl, by rw [hU]; exact hP, kG.warm hW hG⟩⟩ rfl rfl hl.1 rfl (lv_room (Nat.le_of_ble_eq_true rfl)) dX0_ofTradeWanted_16 ⟨Nat.le_of_ble_eq_true rfl, Nat.le_of_ble_eq_true rfl⟩) (fun r hr9 => ?_)
    subst hr9
    refine lv_goto (tgt := 28) hx hb dX0_ofTradeWanted_19 (by decide) ?_
    refine W_q9 hQ9 ?_
    exact W.iret (v := (1 <<< (nI np &&& 31)) - 1) hx hb hr (fun _ hT9 _ => ⟨_, rfl, ((low_sO (by omega)).trans (sO_congr np (fun k _ => by rw [decide_eq_true c_12, Bool.true_or]))), hT9⟩) (fun _ h => absurd h List.not_mem_nil) dX0_ofTradeWanted_28
set_option maxHeartbeats 4000000 in
set_option maxRecDepth 100000 in
theorem k_lastDayOfE (l : Launch) (G : gW) (g : Nat → Nat) (hg : gOK g) (f : Nat → va_E) (pay : Int32) (fine : Int32) (nt : Nat) (ct : Nat → Int32) (t : Nat) (hbk : f 36 = eO 0 [.ref (g 37), .ref (g 39), .ref (g 41), .ref (g 43), .ref (g 45), .ref (g 47), .ref (g 112), .int pay, .int fine]) (htr : f 45 = eO 5 [.int (nI 10), .int (nI 70), .ref (g 46), .int (nI nt)]) (hct : f 46 = eI G (10 * 70) ct) (hnt : nt ≤ 10) (ht : t < nt) : Met l yX0_lastDayOf (wsT yX0_lastDayOf cX0_lastDayOf 2 (some .int)) ({ frames := 1, cells := 0, slots := 0, locals := 23 }) (bP G g f [.ref (g 36), .int (nI t)]) (rQi (fun z9 => z9 = ct (70 * t + 0) + ct (70 * t + 1) - 1)) 0 0 fr0 := by
  refine Met.ofW (cc := cX0_lastDayOf) (maxL := 2) (ret := (some .int)) (by decide) rfl ?_
  intro p e s m args below meth c s₁ B hml hv
  obtain ⟨rfl, hP, hG⟩ := hv
  have hx := B.exec
  have hb := B.bytes
  have hr := B.returns
  have hts := my_hts (atoms_spec (ws := wsT yX0_lastDayOf cX0_lastDayOf 2 (some .int)) B.pre)
  have hown : s.vm.findClass RX0 = some m.cls := findClass_of_methodNamed B.named
  have hlocks := B.notSynchronized
  have hl := lv_entry ([.ref (g 36), .int (nI t)]) (n := 2) (Nat.le_of_ble_eq_true rfl)
  rw [lg_entry_eq]
  generalize (lg_sl ([.ref (g 36), .int (nI t)]) ++ List.replicate (2 - (lg_sl ([.ref (g 36), .int (nI t)])).length) Slot.unset).toArray = ls at hl ⊢
  have hl : lv_has ls 2 [(0, .ref (g 36)), (1, .int (nI t))] := hl
  refine W_q8 (fun Q9 hQ9 => ?_)
  refine lv_aload_n hx hb dX0_lastDayOf_0 rfl (lv_at hl 0 rfl) ?_
  refine va_get (D := G.1) (ci := 0) (v := .ref (g 45)) (C := RX0) (T := TX0) (N := 9) hx hb hts inlX0 hown hG.1 hP 36 (wl_at (by decide) hbk) rfl 4 (by decide) (hts (.fieldLink RX0 29 "SwornLists$Book" "trials" "LSwornLists$Rows;") w_58) (fun _ h9 => h9) rfl dX0_lastDayOf_1 ?_
  refine lv_iload_n hx hb dX0_lastDayOf_4 rfl (lv_at hl 1 rfl) ?_
  refine lv_iconst (v := 0) hx hb dX0_lastDayOf_5 (by decide) ?_
  refine rd_calli (va_runV (As := [.int (nI t), .int 0]) (rest := []) ⟨hx, hb, hml, hown, hts⟩ (r_at l G g hg f 45 10 70 nt ct (nI t) 0 htr hct (by first | assumption | omega | decide) (by first | assumption | omega | decide) (by first | assumption | omega | decide) (by first | assumption | omega | decide)) (my_cwV hts ok_X5_at w_225 rfl rfl ⟨Nat.le_of_ble_eq_true rfl, Nat.le_of_ble_eq_true rfl⟩) ⟨bP.blind, va_recv hG.1 hP (ci := 5) (q0 := 45) rfl (wl_at (by decide) htr), fun U hU hW => ⟨rfl, by rw [hU]; exact hP, kG.warm hW hG⟩⟩ rfl rfl hl.1 rfl (lv_room (Nat.le_of_ble_eq_true rfl)) dX0_lastDayOf_6 ⟨Nat.le_of_ble_eq_true rfl, Nat.le_of_ble_eq_true rfl⟩) (fun r hr9 => ?_)
  subst hr9
  refine my_bei (v := ct (70 * t + 0)) (atQ (d := ct) (w := 70) (i := t) (c := 0) ht (by omega) (by omega) (by omega)) ?_
  refine lv_aload_n hx hb dX0_lastDayOf_9 rfl (lv_at hl 0 rfl) ?_
  refine va_get (D := G.1) (ci := 0) (v := .ref (g 45)) (C := RX0) (T := TX0) (N := 9) hx hb hts inlX0 hown hG.1 hP 36 (wl_at (by decide) hbk) rfl 4 (by decide) (hts (.fieldLink RX0 29 "SwornLists$Book" "trials" "LSwornLists$Rows;") w_58) (fun _ h9 => h9) rfl dX0_lastDayOf_10 ?_
  refine lv_iload_n hx hb dX0_lastDayOf_13 rfl (lv_at hl 1 rfl) ?_
  refine lv_iconst (v := 1) hx hb dX0_lastDayOf_14 (by decide) ?_
  refine rd_calli (va_runV (As := [.int (nI t), .int 1]) (rest := [.int (ct (70 * t + 0))]) ⟨hx, hb, hml, hown, hts⟩ (r_at l G g hg f 45 10 70 nt ct (nI t) 1 htr hct (by first | assumption | omega | decide) (by first | assumption | omega | decide) (by first | assumption | omega | decide) (by first | assumption | omega | decide)) (my_cwV hts ok_X5_at w_225 rfl rfl ⟨Nat.le_of_ble_eq_true rfl, Nat.le_of_ble_eq_true rfl⟩) ⟨bP.blind, va_recv hG.1 hP (ci := 5) (q0 := 45) rfl (wl_at (by decide) htr), fun U hU hW => ⟨rfl, by rw [hU]; exact hP, kG.warm hW hG⟩⟩ rfl rfl hl.1 rfl (lv_room (Nat.le_of_ble_eq_true rfl)) dX0_lastDayOf_15 ⟨Nat.le_of_ble_eq_true rfl, Nat.le_of_ble_eq_true rfl⟩) (fun r hr9 => ?_)
  subst hr9
  refine my_bei (v := ct (70 * t + 1)) (atQ (d := ct) (w := 70) (i := t) (c := 1) ht (by omega) (by omega) (by omega)) ?_
  refine lv_iadd hx hb dX0_lastDayOf_18 ?_
  refine lv_iconst (v := 1) hx hb dX0_lastDayOf_19 (by decide) ?_
  refine lv_isub hx hb dX0_lastDayOf_20 ?_
  refine W_q9 hQ9 ?_
  exact W.iret (v := ((ct (70 * t + 0)) + (ct (70 * t + 1))) - 1) hx hb hr (fun _ hT9 _ => ⟨_, rfl, (rfl), hT9⟩) (fun _ h => absurd h List.not_mem_nil) dX0_lastDayOf_21
set_option maxHeartbeats 4000000 in
set_option maxRecDepth 100000 in
theorem k_overlapE (l : Launch) (G : gW) (g : Nat → Nat) (hg : gOK g) (f : Nat → va_E) (pay : Int32) (fine : Int32) (nt : Nat) (ct : Nat → Int32) (o : Nat) (t : Nat) (hbk : f 36 = eO 0 [.ref (g 37), .ref (g 39), .ref (g 41), .ref (g 43), .ref (g 45), .ref (g 47), .ref (g 112), .int pay, .int fine]) (htr : f 45 = eO 5 [.int (nI 10), .int (nI 70), .ref (g 46), .int (nI nt)]) (hct : f 46 = eI G (10 * 70) ct) (hnt : nt ≤ 10) (ho : o < nt) (ht : t < nt) : Met l yX0_overlap (wsT yX0_overlap cX0_overlap 3 (some .boolean)) ({ frames := 2, cells := 0, slots := 0, locals := 44 }) (bP G g f [.ref (g 36), .int (nI o), .int (nI t)]) (rQi (fun z9 => z9 = b2 (ct (70 * t + 0) ≤ ct (70 * o + 0) + ct (70 * o + 1) - 1))) 0 0 fr0 := by
  refine Met.ofW (cc := cX0_overlap) (maxL := 3) (ret := (some .boolean)) (by decide) rfl ?_
  intro p e s m args below meth c s₁ B hml hv
  obtain ⟨rfl, hP, hG⟩ := hv
  have hx := B.exec
  have hb := B.bytes
  have hr := B.returns
  have hts := my_hts (atoms_spec (ws := wsT yX0_overlap cX0_overlap 3 (some .boolean)) B.pre)
  have hown : s.vm.findClass RX0 = some m.cls := findClass_of_methodNamed B.named
  have hlocks := B.notSynchronized
  have hl := lv_entry ([.ref (g 36), .int (nI o), .int (nI t)]) (n := 3) (Nat.le_of_ble_eq_true rfl)
  rw [lg_entry_eq]
  generalize (lg_sl ([.ref (g 36), .int (nI o), .int (nI t)]) ++ List.replicate (3 - (lg_sl ([.ref (g 36), .int (nI o), .int (nI t)])).length) Slot.unset).toArray = ls at hl ⊢
  have hl : lv_has ls 3 [(0, .ref (g 36)), (1, .int (nI o)), (2, .int (nI t))] := hl
  refine W_q8 (fun Q9 hQ9 => ?_)
  refine lv_aload_n hx hb dX0_overlap_0 rfl (lv_at hl 0 rfl) ?_
  refine lv_iload_n hx hb dX0_overlap_1 rfl (lv_at hl 1 rfl) ?_
  refine rd_calli (va_runV (As := [.int (nI o)]) (rest := []) ⟨hx, hb, hml, hown, hts⟩ (k_lastDayOfE l G g hg f pay fine nt ct o hbk htr hct (by first | assumption | omega | decide) (by first | assumption | omega | decide)) (my_cwV hts ok_X0_lastDayOf w_420 rfl rfl ⟨Nat.le_of_ble_eq_true rfl, Nat.le_of_ble_eq_true rfl⟩) ⟨bP.blind, va_recv hG.1 hP (ci := 0) (q0 := 36) rfl (wl_at (by decide) hbk), fun U hU hW => ⟨rfl, by rw [hU]; exact hP, kG.warm hW hG⟩⟩ rfl rfl hl.1 rfl (lv_room (Nat.le_of_ble_eq_true rfl)) dX0_overlap_2 ⟨Nat.le_of_ble_eq_true rfl, Nat.le_of_ble_eq_true rfl⟩) (fun r hr9 => ?_)
  subst hr9
  refine lv_aload_n hx hb dX0_overlap_5 rfl (lv_at hl 0 rfl) ?_
  refine va_get (D := G.1) (ci := 0) (v := .ref (g 45)) (C := RX0) (T := TX0) (N := 9) hx hb hts inlX0 hown hG.1 hP 36 (wl_at (by decide) hbk) rfl 4 (by decide) (hts (.fieldLink RX0 29 "SwornLists$Book" "trials" "LSwornLists$Rows;") w_58) (fun _ h9 => h9) rfl dX0_overlap_6 ?_
  refine lv_iload_n hx hb dX0_overlap_9 rfl (lv_at hl 2 rfl) ?_
  refine lv_iconst (v := 0) hx hb dX0_overlap_10 (by decide) ?_
  refine rd_calli (va_runV (As := [.int (nI t), .int 0]) (rest := [.int (ct (70 * o + 0) + ct (70 * o + 1) - 1)]) ⟨hx, hb, hml, hown, hts⟩ (r_at l G g hg f 45 10 70 nt ct (nI t) 0 htr hct (by first | assumption | omega | decide) (by first | assumption | omega | decide) (by first | assumption | omega | decide) (by first | assumption | omega | decide)) (my_cwV hts ok_X5_at w_225 rfl rfl ⟨Nat.le_of_ble_eq_true rfl, Nat.le_of_ble_eq_true rfl⟩) ⟨bP.blind, va_recv hG.1 hP (ci := 5) (q0 := 45) rfl (wl_at (by decide) htr), fun U hU hW => ⟨rfl, by rw [hU]; exact hP, kG.warm hW hG⟩⟩ rfl rfl hl.1 rfl (lv_room (Nat.le_of_ble_eq_true rfl)) dX0_overlap_11 ⟨Nat.le_of_ble_eq_true rfl, Nat.le_of_ble_eq_true rfl⟩) (fun r hr9 => ?_)
  subst hr9
  refine my_bei (v := ct (70 * t + 0)) (atQ (d := ct) (w := 70) (i := t) (c := 0) ht (by omega) (by omega) (by omega)) ?_
  refine lv_icmp_lt (tgt := 21) hx hb dX0_overlap_14 (by decide) (fun c_14 => ?_) (fun c_14 => ?_)
  · refine lv_iconst (v := 0) hx hb dX0_overlap_21 (by decide) ?_
    refine W_q9 hQ9 ?_
    exact W.zret (v := 0) hx hb hr (rfl) (fun _ hT9 _ => ⟨_, rfl, ((b2_f (Int32.not_le.mpr c_14)).symm), hT9⟩) (fun _ h => absurd h List.not_mem_nil) dX0_overlap_22
  · refine lv_iconst (v := 1) hx hb dX0_overlap_17 (by decide) ?_
    refine lv_goto (tgt := 22) hx hb dX0_overlap_18 (by decide) ?_
    refine W_q9 hQ9 ?_
    exact W.zret (v := 1) hx hb hr (rfl) (fun _ hT9 _ => ⟨_, rfl, ((b2_t (Int32.not_lt.mp c_14)).symm), hT9⟩) (fun _ h => absurd h List.not_mem_nil) dX0_overlap_22
set_option maxHeartbeats 4000000 in
set_option maxRecDepth 100000 in
theorem u_busyE (l : Launch) (G : gW) (g : Nat → Nat) (hg : gOK g) (f : Nat → va_E) (se : Nat) (hf : Nat → Option Nat) (pay : Int32) (fine : Int32) (nt : Nat) (ct : Nat → Int32) (sw : Nat → Int32) (w : Nat) (hctc : f 1 = eO 1 [.ref (g 36), .ref (g 12), .ref (g 13), .ref (g 15), .int (nI se)]) (hhs : f 12 = eA G 4 10 hf) (hbk : f 36 = eO 0 [.ref (g 37), .ref (g 39), .ref (g 41), .ref (g 43), .ref (g 45), .ref (g 47), .ref (g 112), .int pay, .int fine]) (htr : f 45 = eO 5 [.int (nI 10), .int (nI 70), .ref (g 46), .int (nI nt)]) (hct : f 46 = eI G (10 * 70) ct) (hse : se ≤ 10) (hhf : ∀ i, i < 10 → hf i = some (g (2 * i + 16))) (hnt : nt ≤ 10) (hZ : ∀ i, i < 10 → okZ G g f (2 * i + 16) (sw i)) (hw : w < nt) : Met l yX1_busy (wsT yX1_busy cX1_busy 4 (some .int)) ({ frames := 3, cells := 0, slots := 0, locals := 66 }) (bP G g f [.ref (g 1), .int (nI w)]) (rQi (fun z9 => z9 = bzV (fun t c => ct (70 * t + c)) sw w w)) 0 0 fr0 := by
  refine Met.ofW (cc := cX1_busy) (maxL := 4) (ret := (some .int)) (by decide) rfl ?_
  intro p e s m args below meth c s₁ B hml hv
  obtain ⟨rfl, hP, hG⟩ := hv
  have hx := B.exec
  have hb := B.bytes
  have hr := B.returns
  have hts := my_hts (atoms_spec (ws := wsT yX1_busy cX1_busy 4 (some .int)) B.pre)
  have hown : s.vm.findClass RX1 = some m.cls := findClass_of_methodNamed B.named
  have hlocks := B.notSynchronized
  have hl := lv_entry ([.ref (g 1), .int (nI w)]) (n := 4) (Nat.le_of_ble_eq_true rfl)
  rw [lg_entry_eq]
  generalize (lg_sl ([.ref (g 1), .int (nI w)]) ++ List.replicate (4 - (lg_sl ([.ref (g 1), .int (nI w)])).length) Slot.unset).toArray = ls at hl ⊢
  have hl : lv_has ls 4 [(0, .ref (g 1)), (1, .int (nI w))] := hl
  refine W_q8 (fun Q9 hQ9 => ?_)
  refine lv_iconst (v := 0) hx hb dX1_busy_0 (by decide) ?_
  refine lv_istore_n (lv' := [(2, .int 0), (0, .ref (g 1)), (1, .int (nI w))]) hx hb dX1_busy_1 rfl hl (by decide) rfl (fun ls hl => ?_)
  refine lv_iconst (v := 0) hx hb dX1_busy_2 (by decide) ?_
  refine lv_istore_n (lv' := [(3, .int 0), (2, .int 0), (0, .ref (g 1)), (1, .int (nI w))]) hx hb dX1_busy_3 rfl hl (by decide) rfl (fun ls hl => ?_)
  have key1 : ∀ (n9_1 : Nat) (i : Nat) (u : Int32) (ls : Array Slot), (i ≤ w) → (u = bzV (fun t c => ct (70 * t + c)) sw w i) → w - i < n9_1 → lv_has ls 4 [(0, .ref (g 1)), (1, .int (nI w)), (2, .int u), (3, .int (nI i))] → W p l e (headSpec (wsT yX1_busy cX1_busy 4 (some .int)) ({ frames := 3, cells := 0, slots := 0, locals := 66 })).room s m ([.ref (g 1), .int (nI w)] : List Value).toArray below meth c s.heap [] 0 0 Q9 (F0 m 4 ls []) := by
    intro n9_1
    induction n9_1 with
    | zero => intro i u ls hi hu hn9_1; exact absurd hn9_1 (Nat.not_lt_zero _)
    | succ n9_1 ih_1 =>
      intro i u ls hi hu hn9_1 hl
      refine lv_iload_n hx hb dX1_busy_4 rfl (lv_at hl 3 rfl) ?_
      refine lv_iload_n hx hb dX1_busy_5 rfl (lv_at hl 1 rfl) ?_
      refine lv_icmp_ge (tgt := 38) hx hb dX1_busy_6 (by decide) (fun c_6 => ?_) (fun c_6 => ?_)
      · have hin : i = w := by
          have h9 := (nI_leI (by omega) (by omega)).mp c_6
          omega
        rw [hin] at hu
        refine lv_iload_n hx hb dX1_busy_38 rfl (lv_at hl 2 rfl) ?_
        refine W_q9 hQ9 ?_
        exact W.iret (v := u) hx hb hr (fun _ hT9 _ => ⟨_, rfl, (hu), hT9⟩) (fun _ h => absurd h List.not_mem_nil) dX1_busy_39
      · have hi9 : i < w := Nat.not_le.mp (fun z => c_6 (nI_le z (by omega)))
        obtain ⟨sl7, lo7, ib7, ca7, mi7, s07, s17, od7, hh7, ho7, hs7⟩ := hZ i (by omega)
        refine lv_aload_n hx hb dX1_busy_9 rfl (lv_at hl 0 rfl) ?_
        refine va_get (D := G.1) (ci := 1) (v := .ref (g 36)) (C := RX1) (T := TX1) (N := 5) hx hb hts inlX1 hown hG.1 hP 1 (wl_at (by decide) hctc) rfl 0 (by decide) (hts (.fieldLink RX1 12 "SwornLists$Court" "book" "LSwornLists$Book;") w_40) (fun _ h9 => h9) rfl dX1_busy_10 ?_
        refine lv_iload_n hx hb dX1_busy_13 rfl (lv_at hl 3 rfl) ?_
        refine lv_iload_n hx hb dX1_busy_14 rfl (lv_at hl 1 rfl) ?_
        refine rd_calli (va_runV (As := [.int (nI i), .int (nI w)]) (rest := []) ⟨hx, hb, hml, hown, hts⟩ (k_overlapE l G g hg f pay fine nt ct i w hbk htr hct (by first | assumption | omega | decide) (by first | assumption | omega | decide) (by first | assumption | omega | decide)) (my_cwV hts ok_X0_overlap w_416 rfl rfl ⟨Nat.le_of_ble_eq_true rfl, Nat.le_of_ble_eq_true rfl⟩) ⟨bP.blind, va_recv hG.1 hP (ci := 0) (q0 := 36) rfl (wl_at (by decide) hbk), fun U hU hW => ⟨rfl, by rw [hU]; exact hP, kG.warm hW hG⟩⟩ rfl rfl hl.1 rfl (lv_room (Nat.le_of_ble_eq_true rfl)) dX1_busy_15 ⟨Nat.le_of_ble_eq_true rfl, Nat.le_of_ble_eq_true rfl⟩) (fun r hr9 => ?_)
        subst hr9
        refine my_ifeq (tgt := 32) hx hb dX1_busy_18 (by decide) (fun c_18 => ?_) (fun c_18 => ?_)
        · refine lv_iinc (v := nI (i + 1)) (lv' := [(3, .int (nI (i + 1))), (0, .ref (g 1)), (1, .int (nI w)), (2, .int u)]) hx hb dX1_busy_32 hl (k := 3) rfl (nI_1 i) (by decide) rfl (fun ls hl => ?_)
          refine lv_goto (tgt := 4) hx hb dX1_busy_35 (by decide) ?_
          exact ih_1 (i + 1) u _ (hi9) (by rw [hu, bzV_n (T := (fun t c => ct (70 * t + c))) (J := sw) (t := w) c_18]) (by omega) (lv_sub hl [1, 2, 3, 0] rfl)
        · refine lv_iload_n hx hb dX1_busy_21 rfl (lv_at hl 2 rfl) ?_
          refine lv_aload_n hx hb dX1_busy_22 rfl (lv_at hl 0 rfl) ?_
          refine lv_iload_n hx hb dX1_busy_23 rfl (lv_at hl 3 rfl) ?_
          refine rd_calla (va_runV (As := [.int (nI i)]) (rest := [.int u]) ⟨hx, hb, hml, hown, hts⟩ (u_hearing l G g hg f se hf i hctc hhs (by first | assumption | omega | decide) (by first | assumption | omega | decide) (by first | assumption | omega | decide)) (my_cwV hts ok_X1_hearing w_390 rfl rfl ⟨Nat.le_of_ble_eq_true rfl, Nat.le_of_ble_eq_true rfl⟩) ⟨bP.blind, va_recv hG.1 hP (ci := 1) (q0 := 1) rfl (wl_at (by decide) hctc), fun U hU hW => ⟨rfl, by rw [hU]; exact hP, kG.warm hW hG⟩⟩ rfl rfl hl.1 rfl (lv_room (Nat.le_of_ble_eq_true rfl)) dX1_busy_24 ⟨Nat.le_of_ble_eq_true rfl, Nat.le_of_ble_eq_true rfl⟩) (fun r hr9 => ?_)
          subst hr9
          refine va_getN (D := G.1) (ci := 3) (v := .int (sw i)) (C := RX3) (T := TX3) (N := 9) (host := RX10) hx hb hts inlX3 hown hG.1 hP (2 * i + 16) (wl_at (by omega) hh7) rfl 8 (by decide) (va_Nw.use rfl (hG.2.1 (.fieldLinkNest RX1 107 RX3 "sworn" "I" RX10) (List.mem_of_getElem? (i := 15) rfl))) (fun _ h9 => h9) rfl dX1_busy_27 ?_
          refine lv_ior hx hb dX1_busy_30 ?_
          refine lv_istore_n (lv' := [(2, .int (u ||| (sw i))), (0, .ref (g 1)), (1, .int (nI w)), (3, .int (nI i))]) hx hb dX1_busy_31 rfl hl (by decide) rfl (fun ls hl => ?_)
          refine lv_iinc (v := nI (i + 1)) (lv' := [(3, .int (nI (i + 1))), (2, .int (u ||| (sw i))), (0, .ref (g 1)), (1, .int (nI w))]) hx hb dX1_busy_32 hl (k := 3) rfl (nI_1 i) (by decide) rfl (fun ls hl => ?_)
          refine lv_goto (tgt := 4) hx hb dX1_busy_35 (by decide) ?_
          exact ih_1 (i + 1) (u ||| (sw i)) _ (hi9) (by rw [hu, bzV_y (T := (fun t c => ct (70 * t + c))) (J := sw) (t := w) c_18]) (by omega) (lv_sub hl [2, 3, 1, 0] rfl)
  exact key1 (w + 1) 0 0 _ (Nat.zero_le _) (rfl) (by omega) (lv_sub hl [2, 3, 1, 0] rfl)


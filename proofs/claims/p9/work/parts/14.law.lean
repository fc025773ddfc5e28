def lawv (g : Nat → Nat) : Option Nat → Value
  | none => .null
  | some i => .ref (g (3 * i + 52))
set_option maxHeartbeats 4000000 in
set_option maxRecDepth 100000 in
theorem k_lawOf (l : Launch) (G : gW) (g : Nat → Nat) (hg : gOK g) (f : Nat → va_E) (pay : Int32) (fine : Int32) (na : Nat) (da : Nat → Int32) (lf : Nat → Option Nat) (n : Int32) (q : Int32) (hbk : f 36 = eO 0 [.ref (g 37), .ref (g 39), .ref (g 41), .ref (g 43), .ref (g 45), .ref (g 47), .ref (g 112), .int pay, .int fine]) (har : f 43 = eO 5 [.int (nI 20), .int (nI 3), .ref (g 44), .int (nI na)]) (had : f 44 = eI G (20 * 3) da) (hla : f 47 = eO 6 [.ref (g 48), .ref (g 49)]) (hlaa : f 48 = eA G 5 20 lf) (hna : na ≤ 20) (hlf : ∀ z, z < 20 → lf z = some (g (47 + 3 * z + 5))) : Met l yX0_lawOf (wsT yX0_lawOf cX0_lawOf 4 (some (.object "SwornLists$Text"))) ({ frames := 2, cells := 0, slots := 0, locals := 49 }) (bP G g f [.ref (g 36), .int n, .int q]) (rQa (fun z9 => ∃ o9 : Option Nat, z9 = lawv g o9 ∧ (∀ z, o9 = some z → z < na))) 0 0 fr0 := by
  refine Met.ofW (cc := cX0_lawOf) (maxL := 4) (ret := (some (.object "SwornLists$Text"))) (by decide) rfl ?_
  intro p e s m args below meth c s₁ B hml hv
  obtain ⟨rfl, hP, hG⟩ := hv
  have hx := B.exec
  have hb := B.bytes
  have hr := B.returns
  have hts := my_hts (atoms_spec (ws := wsT yX0_lawOf cX0_lawOf 4 (some (.object "SwornLists$Text"))) B.pre)
  have hown : s.vm.findClass RX0 = some m.cls := findClass_of_methodNamed B.named
  have hlocks := B.notSynchronized
  have hl := lv_entry ([.ref (g 36), .int n, .int q]) (n := 4) (Nat.le_of_ble_eq_true rfl)
  rw [lg_entry_eq]
  generalize (lg_sl ([.ref (g 36), .int n, .int q]) ++ List.replicate (4 - (lg_sl ([.ref (g 36), .int n, .int q])).length) Slot.unset).toArray = ls at hl ⊢
  have hl : lv_has ls 4 [(0, .ref (g 36)), (1, .int n), (2, .int q)] := hl
  refine lv_aload_n hx hb dX0_lawOf_0 rfl (lv_at hl 0 rfl) ?_
  refine lv_iload_n hx hb dX0_lawOf_1 rfl (lv_at hl 1 rfl) ?_
  refine lv_iload_n hx hb dX0_lawOf_2 rfl (lv_at hl 2 rfl) ?_
  refine rd_calli (va_runV (As := [.int n, .int q]) (rest := []) ⟨hx, hb, hml, hown, hts⟩ (k_inForce l G g hg f pay fine na da n q hbk har had (by first | assumption | omega | decide)) (my_cwV hts ok_X0_inForce w_398 rfl rfl ⟨Nat.le_of_ble_eq_true rfl, Nat.le_of_ble_eq_true rfl⟩) ⟨bP.blind, va_recv hG.1 hP (ci := 0) (q0 := 36) rfl (wl_at (by decide) hbk), fun U hU hW => ⟨rfl, by rw [hU]; exact hP, kG.warm hW hG⟩⟩ rfl rfl hl.1 rfl (lv_room (Nat.le_of_ble_eq_true rfl)) dX0_lawOf_3 ⟨Nat.le_of_ble_eq_true rfl, Nat.le_of_ble_eq_true rfl⟩) (fun r hr9 => ?_)
  obtain ⟨o91, rfl, hx_1_0⟩ := hr9
  refine lv_istore_n (lv' := [(3, .int (fo o91)), (0, .ref (g 36)), (1, .int n), (2, .int q)]) hx hb dX0_lawOf_6 rfl hl (by decide) rfl (fun ls hl => ?_)
  refine lv_iload_n hx hb dX0_lawOf_7 rfl (lv_at hl 0 rfl) ?_
  refine lv_iconst (v := (-1)) hx hb dX0_lawOf_8 (by decide) ?_
  refine lv_icmp_ne (tgt := 16) hx hb dX0_lawOf_9 (by decide) (fun c_9 => ?_) (fun c_9 => ?_)
  · obtain ⟨i, ei⟩ : ∃ i, o91 = some i := by
      cases h9 : o91 with
      | none => exact absurd (by rw [h9]; rfl) c_9
      | some z => exact ⟨z, rfl⟩
    have hin := hx_1_0 i ei
    subst ei
    refine lv_aload_n hx hb dX0_lawOf_16 rfl (lv_at hl 1 rfl) ?_
    refine va_get (D := G.1) (ci := 0) (v := .ref (g 47)) (C := RX0) (T := TX0) (N := 9) hx hb hts inlX0 hown hG.1 hP 36 (wl_at (by decide) hbk) rfl 5 (by decide) (hts (.fieldLink RX0 37 "SwornLists$Book" "laws" "LSwornLists$Shelf;") w_62) (fun _ h9 => h9) rfl dX0_lawOf_17 ?_
    refine lv_iload_n hx hb dX0_lawOf_20 rfl (lv_at hl 0 rfl) ?_
    refine rd_calla (va_runV (As := [.int (nI i)]) (rest := []) ⟨hx, hb, hml, hown, hts⟩ (w_get l G g hg f 47 20 lf i hla hlaa (by first | assumption | omega | decide) (by first | assumption | omega | decide) (by first | assumption | omega | decide) (hlf)) (my_cwV hts ok_X6_get w_402 rfl rfl ⟨Nat.le_of_ble_eq_true rfl, Nat.le_of_ble_eq_true rfl⟩) ⟨bP.blind, va_recv hG.1 hP (ci := 6) (q0 := 47) rfl (wl_at (by decide) hla), fun U hU hW => ⟨rfl, by rw [hU]; exact hP, kG.warm hW hG⟩⟩ rfl rfl hl.1 rfl (lv_room (Nat.le_of_ble_eq_true rfl)) dX0_lawOf_21 ⟨Nat.le_of_ble_eq_true rfl, Nat.le_of_ble_eq_true rfl⟩) (fun r hr9 => ?_)
    subst hr9
    exact W.aret (v := .ref (g (47 + 3 * i + 5))) hx hb hr (Or.inl ⟨_, rfl⟩) (Or.inr ⟨_, rfl⟩) (fun t ht hW => ⟨_, rfl, (⟨some i, by rw [show 47 + 3 * i + 5 = 3 * i + 52 by omega]; rfl, fun z hz => by cases hz; exact hin⟩), ht⟩) (fun _ h => absurd h List.not_mem_nil) dX0_lawOf_24
  · refine lv_null hx hb dX0_lawOf_12 ?_
    refine lv_goto (tgt := 24) hx hb dX0_lawOf_13 (by decide) ?_
    exact W.aret (v := .null) hx hb hr (Or.inl ⟨_, rfl⟩) (Or.inl rfl) (fun t ht hW => ⟨_, rfl, (⟨none, rfl, fun z hz => by cases hz⟩), ht⟩) (fun _ h => absurd h List.not_mem_nil) dX0_lawOf_24


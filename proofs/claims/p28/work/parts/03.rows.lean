def inN (r : Int32) (n : Nat) : Bool := decide (0 ≤ r.toInt ∧ r.toInt < n)
theorem inN_lo {r : Int32} {n : Nat} (h : r < 0) : ¬ inN r n = true := fun q => by
  have h1 : r.toInt < 0 := Int32.lt_iff_toInt_lt.mp h
  have := (of_decide_eq_true q).1
  omega
theorem inN_hi {r : Int32} {n : Nat} (hn : n < 2 ^ 31) (h : nI n ≤ r) : ¬ inN r n = true := fun q => by
  have h1 := Int32.le_iff_toInt_le.mp h
  rw [nI_toInt hn] at h1
  have := (of_decide_eq_true q).2
  omega
theorem inN_t {r : Int32} {n : Nat} (hn : n < 2 ^ 31) (h0 : ¬ r < 0) (h : ¬ nI n ≤ r) : inN r n = true := by
  have h1 : ¬ r.toInt < 0 := fun z => h0 (Int32.lt_iff_toInt_lt.mpr z)
  have h2 : ¬ (n : Int) ≤ r.toInt := fun z => h (Int32.le_iff_toInt_le.mpr (by rw [nI_toInt hn]; exact z))
  exact decide_eq_true ⟨by omega, by omega⟩
theorem inN_nat {r : Int32} {n : Nat} (hn : n < 2 ^ 31) (h : inN r n = true) : ∃ i, i < n ∧ r = nI i := by
  obtain ⟨h1, h2⟩ := of_decide_eq_true h
  refine ⟨r.toInt.toNat, by omega, Int32.toInt_inj.mp ?_⟩
  rw [nI_toInt (by omega)]
  omega
/-- what a place of the rows holds; 0 where there is none -/
def atv (d : Nat → Int32) (n wi : Nat) (r q : Int32) : Int32 := if inN r n = true ∧ inN q wi = true then d (Int32.toNatClampNeg (r * nI wi + q)) else 0
theorem at_t {d : Nat → Int32} {n wi : Nat} {r q : Int32} (h1 : inN r n = true) (h2 : inN q wi = true) : atv d n wi r q = d (Int32.toNatClampNeg (r * nI wi + q)) := if_pos ⟨h1, h2⟩
theorem at_f {d : Nat → Int32} {n wi : Nat} {r q : Int32} (h : ¬ (inN r n = true ∧ inN q wi = true)) : atv d n wi r q = 0 := if_neg h
theorem at_ix {n mo wi i j : Nat} (hi : i < n) (hj : j < wi) (hn : n ≤ mo) : i * wi + j < mo * wi := by
  have h1 : (i + 1) * wi ≤ mo * wi := Nat.mul_le_mul_right _ (by omega)
  rw [Nat.add_mul] at h1
  omega
theorem at_in {r q : Int32} {n mo wi : Nat} (h1 : inN r n = true) (h2 : inN q wi = true) (hn : n ≤ mo) (hmo : mo ≤ 40) (hwi : wi ≤ 70) : vp_in (r * nI wi + q) (mo * wi) := by
  obtain ⟨i, hi, rfl⟩ := inN_nat (by omega) h1
  obtain ⟨j, hj, rfl⟩ := inN_nat (by omega) h2
  rw [pk_mul, nI_add]
  have h3 : mo * wi ≤ 40 * 70 := Nat.mul_le_mul hmo hwi
  exact vp_in_nI (at_ix hi hj hn) (by omega)
theorem ok_X5_size : okV yX5_size cX5_size 1 (some .int) 0 := ⟨⟨w_205, w_53, ⟨by decide +kernel, by decide +kernel, by decide +kernel⟩⟩, trivial, w_203, w_204⟩
theorem ok_X5_has : okV yX5_has cX5_has 2 (some .boolean) 1 := ⟨⟨w_177, w_53, ⟨by decide +kernel, by decide +kernel, by decide +kernel⟩⟩, trivial, w_175, w_176⟩
theorem ok_X5_grow : okV yX5_grow cX5_grow 1 (some .int) 0 := ⟨⟨w_140, w_53, ⟨by decide +kernel, by decide +kernel, by decide +kernel⟩⟩, trivial, w_138, w_139⟩
theorem ok_X5_at : okV yX5_at cX5_at 4 (some .int) 2 := ⟨⟨w_228, w_53, ⟨by decide +kernel, by decide +kernel, by decide +kernel⟩⟩, trivial, w_226, w_227⟩
theorem ok_X5_set : okV yX5_set cX5_set 4 none 3 := ⟨⟨w_145, w_53, ⟨by decide +kernel, by decide +kernel, by decide +kernel⟩⟩, trivial, w_143, w_144⟩
theorem ok_X5_foldRow : okV yX5_foldRow cX5_foldRow 5 (some .long) 2 := ⟨⟨w_956, w_53, ⟨by decide +kernel, by decide +kernel, by decide +kernel⟩⟩, trivial, w_954, w_955⟩
theorem ok_X5_foldAll : okV yX5_foldAll cX5_foldAll 4 (some .long) 1 := ⟨⟨w_952, w_53, ⟨by decide +kernel, by decide +kernel, by decide +kernel⟩⟩, trivial, w_950, w_951⟩
theorem ok_X5_copy : okV yX5_copy cX5_copy 2 none 1 := ⟨⟨w_901, w_53, ⟨by decide +kernel, by decide +kernel, by decide +kernel⟩⟩, trivial, w_899, w_900⟩
set_option maxHeartbeats 4000000 in
set_option maxRecDepth 100000 in
theorem r_size (l : Launch) (G : gW) (g : Nat → Nat) (hg : gOK g) (f : Nat → va_E) (k : Nat) (mo : Nat) (wi : Nat) (n : Nat) (hk : f k = eO 5 [.int (nI mo), .int (nI wi), .ref (g (k + 1)), .int (nI n)]) (hk3 : k + 1 < 333) (hn : n ≤ mo) (hmo : mo ≤ 40) (hwi : wi ≤ 70) : Met l yX5_size (wsT yX5_size cX5_size 1 (some .int)) ({ frames := 0, cells := 0, slots := 0, locals := 0 }) (bP G g f [.ref (g k)]) (rQi (fun z9 => z9 = nI n)) 0 0 fr0 := by
  refine Met.ofW (cc := cX5_size) (maxL := 1) (ret := (some .int)) (by decide) rfl ?_
  intro p e s m args below meth c s₁ B hml hv
  obtain ⟨rfl, hP, hG⟩ := hv
  have hx := B.exec
  have hb := B.bytes
  have hr := B.returns
  have hts := my_hts (atoms_spec (ws := wsT yX5_size cX5_size 1 (some .int)) B.pre)
  have hown : s.vm.findClass RX5 = some m.cls := findClass_of_methodNamed B.named
  have hlocks := B.notSynchronized
  have hl := lv_entry ([.ref (g k)]) (n := 1) (Nat.le_of_ble_eq_true rfl)
  rw [lg_entry_eq]
  generalize (lg_sl ([.ref (g k)]) ++ List.replicate (1 - (lg_sl ([.ref (g k)])).length) Slot.unset).toArray = ls at hl ⊢
  have hl : lv_has ls 1 [(0, .ref (g k))] := hl
  refine lv_aload_n hx hb dX5_size_0 rfl (lv_at hl 0 rfl) ?_
  refine va_get (D := G.1) (ci := 5) (v := .int (nI n)) (C := RX5) (T := TX5) (N := 4) hx hb hts inlX5 hown hG.1 hP k (wl_at (by omega) hk) rfl 3 (by decide) (hts (.fieldLink RX5 22 "SwornLists$Rows" "size" "I") w_141) (fun _ h9 => h9) rfl dX5_size_1 ?_
  exact W.iret (v := nI n) hx hb hr (fun t ht hW => ⟨_, rfl, (rfl), ht⟩) (fun _ h => absurd h List.not_mem_nil) dX5_size_4
set_option maxHeartbeats 4000000 in
set_option maxRecDepth 100000 in
theorem r_has (l : Launch) (G : gW) (g : Nat → Nat) (hg : gOK g) (f : Nat → va_E) (k : Nat) (mo : Nat) (wi : Nat) (n : Nat) (r : Int32) (hk : f k = eO 5 [.int (nI mo), .int (nI wi), .ref (g (k + 1)), .int (nI n)]) (hk3 : k + 1 < 333) (hn : n ≤ mo) (hmo : mo ≤ 40) (hwi : wi ≤ 70) : Met l yX5_has (wsT yX5_has cX5_has 2 (some .boolean)) ({ frames := 0, cells := 0, slots := 0, locals := 0 }) (bP G g f [.ref (g k), .int r]) (rQi (fun z9 => z9 = b2 (inN r n = true))) 0 0 fr0 := by
  refine Met.ofW (cc := cX5_has) (maxL := 2) (ret := (some .boolean)) (by decide) rfl ?_
  intro p e s m args below meth c s₁ B hml hv
  obtain ⟨rfl, hP, hG⟩ := hv
  have hx := B.exec
  have hb := B.bytes
  have hr := B.returns
  have hts := my_hts (atoms_spec (ws := wsT yX5_has cX5_has 2 (some .boolean)) B.pre)
  have hown : s.vm.findClass RX5 = some m.cls := findClass_of_methodNamed B.named
  have hlocks := B.notSynchronized
  have hl := lv_entry ([.ref (g k), .int r]) (n := 2) (Nat.le_of_ble_eq_true rfl)
  rw [lg_entry_eq]
  generalize (lg_sl ([.ref (g k), .int r]) ++ List.replicate (2 - (lg_sl ([.ref (g k), .int r])).length) Slot.unset).toArray = ls at hl ⊢
  have hl : lv_has ls 2 [(0, .ref (g k)), (1, .int r)] := hl
  refine lv_iload_n hx hb dX5_has_0 rfl (lv_at hl 1 rfl) ?_
  refine lv_if_lt (tgt := 16) hx hb dX5_has_1 (by decide) (fun c_1 => ?_) (fun c_1 => ?_)
  · refine lv_iconst (v := 0) hx hb dX5_has_16 (by decide) ?_
    exact W.zret (v := 0) hx hb hr (rfl) (fun t ht hW => ⟨_, rfl, ((b2_f (inN_lo c_1)).symm), ht⟩) (fun _ h => absurd h List.not_mem_nil) dX5_has_17
  · refine lv_iload_n hx hb dX5_has_4 rfl (lv_at hl 1 rfl) ?_
    refine lv_aload_n hx hb dX5_has_5 rfl (lv_at hl 0 rfl) ?_
    refine va_get (D := G.1) (ci := 5) (v := .int (nI n)) (C := RX5) (T := TX5) (N := 4) hx hb hts inlX5 hown hG.1 hP k (wl_at (by omega) hk) rfl 3 (by decide) (hts (.fieldLink RX5 22 "SwornLists$Rows" "size" "I") w_141) (fun _ h9 => h9) rfl dX5_has_6 ?_
    refine lv_icmp_ge (tgt := 16) hx hb dX5_has_9 (by decide) (fun c_9 => ?_) (fun c_9 => ?_)
    · refine lv_iconst (v := 0) hx hb dX5_has_16 (by decide) ?_
      exact W.zret (v := 0) hx hb hr (rfl) (fun t ht hW => ⟨_, rfl, ((b2_f (inN_hi (by omega) c_9)).symm), ht⟩) (fun _ h => absurd h List.not_mem_nil) dX5_has_17
    · refine lv_iconst (v := 1) hx hb dX5_has_12 (by decide) ?_
      refine lv_goto (tgt := 17) hx hb dX5_has_13 (by decide) ?_
      exact W.zret (v := 1) hx hb hr (rfl) (fun t ht hW => ⟨_, rfl, ((b2_t (inN_t (by omega) c_1 c_9)).symm), ht⟩) (fun _ h => absurd h List.not_mem_nil) dX5_has_17
set_option maxHeartbeats 4000000 in
set_option maxRecDepth 100000 in
theorem r_grow (l : Launch) (G : gW) (g : Nat → Nat) (hg : gOK g) (f : Nat → va_E) (k : Nat) (mo : Nat) (wi : Nat) (n : Nat) (hk : f k = eO 5 [.int (nI mo), .int (nI wi), .ref (g (k + 1)), .int (nI n)]) (hk3 : k + 1 < 333) (hn : n ≤ mo) (hmo : mo ≤ 40) (hwi : wi ≤ 70) (hlt : n < mo) : Met l yX5_grow (wsT yX5_grow cX5_grow 1 (some .int)) ({ frames := 0, cells := 0, slots := 0, locals := 0 }) (bP G g f [.ref (g k)]) (bQi G g (fun (z9 : Int32) (f' : Nat → va_E) => z9 = nI n ∧ f' k = eO 5 [.int (nI mo), .int (nI wi), .ref (g (k + 1)), .int (nI (n + 1))] ∧ ∀ j, j ≠ k → f' j = f j)) 0 0 (gA g) := by
  refine Met.ofW (cc := cX5_grow) (maxL := 1) (ret := (some .int)) (by decide) rfl ?_
  intro p e s m args below meth c s₁ B hml hv
  obtain ⟨rfl, hP, hG⟩ := hv
  have hx := B.exec
  have hb := B.bytes
  have hr := B.returns
  have hts := my_hts (atoms_spec (ws := wsT yX5_grow cX5_grow 1 (some .int)) B.pre)
  have hown : s.vm.findClass RX5 = some m.cls := findClass_of_methodNamed B.named
  have hlocks := B.notSynchronized
  have hS : va_S (gA g) s.heap s.heap [] := va_S.rf
  have hl := lv_entry ([.ref (g k)]) (n := 1) (Nat.le_of_ble_eq_true rfl)
  rw [lg_entry_eq]
  generalize (lg_sl ([.ref (g k)]) ++ List.replicate (1 - (lg_sl ([.ref (g k)])).length) Slot.unset).toArray = ls at hl ⊢
  have hl : lv_has ls 1 [(0, .ref (g k))] := hl
  refine lv_aload_n hx hb dX5_grow_0 rfl (lv_at hl 0 rfl) ?_
  refine va_get (D := G.1) (ci := 5) (v := .int (nI n)) (C := RX5) (T := TX5) (N := 4) hx hb hts inlX5 hown hG.1 hP k (wl_at (by omega) hk) rfl 3 (by decide) (hts (.fieldLink RX5 22 "SwornLists$Rows" "size" "I") w_141) (fun _ h9 => h9) rfl dX5_grow_1 ?_
  refine lv_aload_n hx hb dX5_grow_4 rfl (lv_at hl 0 rfl) ?_
  refine va_get (D := G.1) (ci := 5) (v := .int (nI mo)) (C := RX5) (T := TX5) (N := 4) hx hb hts inlX5 hown hG.1 hP k (wl_at (by omega) hk) rfl 0 (by decide) (hts (.fieldLink RX5 9 "SwornLists$Rows" "most" "I") w_70) (fun _ h9 => h9) rfl dX5_grow_5 ?_
  refine lv_icmp_lt (tgt := 14) hx hb dX5_grow_8 (by decide) (fun c_8 => ?_) (fun c_8 => absurd (nI_lt hlt (by omega)) c_8)
  refine lv_aload_n hx hb dX5_grow_14 rfl (lv_at hl 0 rfl) ?_
  refine lv_dup hx hb dX5_grow_15 rfl ?_
  refine va_get (D := G.1) (ci := 5) (v := .int (nI n)) (C := RX5) (T := TX5) (N := 4) hx hb hts inlX5 hown hG.1 hP k (wl_at (by omega) hk) rfl 3 (by decide) (hts (.fieldLink RX5 22 "SwornLists$Rows" "size" "I") w_141) (fun _ h9 => h9) rfl dX5_grow_16 ?_
  refine lv_iconst (v := 1) hx hb dX5_grow_19 (by decide) ?_
  refine lv_iadd hx hb dX5_grow_20 ?_
  refine my_bei (v := nI (n + 1)) (nI_1 n) ?_
  refine va_put (D := G.1) (ci := 5) (v := .int (nI (n + 1))) (ty := .int) (C := RX5) (T := TX5) (N := 4) hx hb hts inlX5 tyX5 tyX5_ok nmX5 hown hG.1 hP (wl_D hg f) hS k (wl_at (by omega) hk) rfl 3 (by decide) (hts (.fieldLink RX5 22 "SwornLists$Rows" "size" "I") w_141) (fun _ h9 => h9) rfl (by decide +kernel) rfl rfl (Nat.le_of_ble_eq_true rfl) dX5_grow_21 (fun H locs hP _ hS => ?_)
  obtain ⟨f_1, hP, e_1, o_1⟩ := b_put (by omega) hP
  have hk : f_1 k = eO 5 [.int (nI mo), .int (nI wi), .ref (g (k + 1)), .int (nI (n + 1))] := e_1
  refine lv_aload_n hx hb dX5_grow_24 rfl (lv_at hl 0 rfl) ?_
  refine va_get (D := G.1) (ci := 5) (v := .int (nI (n + 1))) (C := RX5) (T := TX5) (N := 4) hx hb hts inlX5 hown hG.1 hP k (wl_at (by omega) hk) rfl 3 (by decide) (hts (.fieldLink RX5 22 "SwornLists$Rows" "size" "I") w_141) (fun _ h9 => h9) rfl dX5_grow_25 ?_
  refine lv_iconst (v := 1) hx hb dX5_grow_28 (by decide) ?_
  refine lv_isub hx hb dX5_grow_29 ?_
  refine my_bei (v := nI n) (nI_pred n) ?_
  exact W.iret (v := nI n) hx hb hr (fun t ht hW => ⟨⟨_, f_1, rfl, (⟨rfl, hk, fun j hj => (o_1 j (by omega))⟩), by rw [ht]; exact hP⟩, hS.F ht⟩) hS.2.2 dX5_grow_30
set_option maxHeartbeats 4000000 in
set_option maxRecDepth 100000 in
theorem r_growF (l : Launch) (G : gW) (g : Nat → Nat) (hg : gOK g) (f : Nat → va_E) (k : Nat) (mo : Nat) (wi : Nat) (n : Nat) (hk : f k = eO 5 [.int (nI mo), .int (nI wi), .ref (g (k + 1)), .int (nI n)]) (hk3 : k + 1 < 333) (hn : n ≤ mo) (hmo : mo ≤ 40) (hwi : wi ≤ 70) (hlt : ¬ n < mo) : Met l yX5_grow (wsT yX5_grow cX5_grow 1 (some .int)) ({ frames := 0, cells := 0, slots := 0, locals := 0 }) (bP G g f [.ref (g k)]) (rQi (fun z9 => z9 = (-4))) 0 0 fr0 := by
  refine Met.ofW (cc := cX5_grow) (maxL := 1) (ret := (some .int)) (by decide) rfl ?_
  intro p e s m args below meth c s₁ B hml hv
  obtain ⟨rfl, hP, hG⟩ := hv
  have hx := B.exec
  have hb := B.bytes
  have hr := B.returns
  have hts := my_hts (atoms_spec (ws := wsT yX5_grow cX5_grow 1 (some .int)) B.pre)
  have hown : s.vm.findClass RX5 = some m.cls := findClass_of_methodNamed B.named
  have hlocks := B.notSynchronized
  have hl := lv_entry ([.ref (g k)]) (n := 1) (Nat.le_of_ble_eq_true rfl)
  rw [lg_entry_eq]
  generalize (lg_sl ([.ref (g k)]) ++ List.replicate (1 - (lg_sl ([.ref (g k)])).length) Slot.unset).toArray = ls at hl ⊢
  have hl : lv_has ls 1 [(0, .ref (g k))] := hl
  refine lv_aload_n hx hb dX5_grow_0 rfl (lv_at hl 0 rfl) ?_
  refine va_get (D := G.1) (ci := 5) (v := .int (nI n)) (C := RX5) (T := TX5) (N := 4) hx hb hts inlX5 hown hG.1 hP k (wl_at (by omega) hk) rfl 3 (by decide) (hts (.fieldLink RX5 22 "SwornLists$Rows" "size" "I") w_141) (fun _ h9 => h9) rfl dX5_grow_1 ?_
  refine lv_aload_n hx hb dX5_grow_4 rfl (lv_at hl 0 rfl) ?_
  refine va_get (D := G.1) (ci := 5) (v := .int (nI mo)) (C := RX5) (T := TX5) (N := 4) hx hb hts inlX5 hown hG.1 hP k (wl_at (by omega) hk) rfl 0 (by decide) (hts (.fieldLink RX5 9 "SwornLists$Rows" "most" "I") w_70) (fun _ h9 => h9) rfl dX5_grow_5 ?_
  refine lv_icmp_lt (tgt := 14) hx hb dX5_grow_8 (by decide) (fun c_8 => absurd c_8 (fun z => hlt ((nI_ltI (by omega) (by omega)).mp z))) (fun c_8 => ?_)
  refine lv_bipush (v := (-4)) hx hb dX5_grow_11 (by decide) ?_
  exact W.iret (v := (-4)) hx hb hr (fun t ht hW => ⟨_, rfl, (rfl), ht⟩) (fun _ h => absurd h List.not_mem_nil) dX5_grow_13
set_option maxHeartbeats 4000000 in
set_option maxRecDepth 100000 in
theorem r_at (l : Launch) (G : gW) (g : Nat → Nat) (hg : gOK g) (f : Nat → va_E) (k : Nat) (mo : Nat) (wi : Nat) (n : Nat) (d : Nat → Int32) (r : Int32) (q : Int32) (hk : f k = eO 5 [.int (nI mo), .int (nI wi), .ref (g (k + 1)), .int (nI n)]) (hd : f (k + 1) = eI G (mo * wi) d) (hk3 : k + 1 < 333) (hn : n ≤ mo) (hmo : mo ≤ 40) (hwi : wi ≤ 70) : Met l yX5_at (wsT yX5_at cX5_at 4 (some .int)) ({ frames := 0, cells := 0, slots := 0, locals := 0 }) (bP G g f [.ref (g k), .int r, .int q]) (rQi (fun z9 => z9 = atv d n wi r q)) 0 0 fr0 := by
  refine Met.ofW (cc := cX5_at) (maxL := 4) (ret := (some .int)) (by decide) rfl ?_
  intro p e s m args below meth c s₁ B hml hv
  obtain ⟨rfl, hP, hG⟩ := hv
  have hx := B.exec
  have hb := B.bytes
  have hr := B.returns
  have hts := my_hts (atoms_spec (ws := wsT yX5_at cX5_at 4 (some .int)) B.pre)
  have hown : s.vm.findClass RX5 = some m.cls := findClass_of_methodNamed B.named
  have hlocks := B.notSynchronized
  have hl := lv_entry ([.ref (g k), .int r, .int q]) (n := 4) (Nat.le_of_ble_eq_true rfl)
  rw [lg_entry_eq]
  generalize (lg_sl ([.ref (g k), .int r, .int q]) ++ List.replicate (4 - (lg_sl ([.ref (g k), .int r, .int q])).length) Slot.unset).toArray = ls at hl ⊢
  have hl : lv_has ls 4 [(0, .ref (g k)), (1, .int r), (2, .int q)] := hl
  refine lv_iload_n hx hb dX5_at_0 rfl (lv_at hl 1 rfl) ?_
  refine lv_if_lt (tgt := 28) hx hb dX5_at_1 (by decide) (fun c_1 => ?_) (fun c_1 => ?_)
  · refine lv_iconst (v := 0) hx hb dX5_at_28 (by decide) ?_
    refine lv_istore_n (lv' := [(3, .int 0), (0, .ref (g k)), (1, .int r), (2, .int q)]) hx hb dX5_at_29 rfl hl (by decide) rfl (fun ls hl => ?_)
    refine lv_iload_n hx hb dX5_at_30 rfl (lv_at hl 0 rfl) ?_
    refine lv_if_eq (tgt := 50) hx hb dX5_at_31 (by decide) (fun c_31 => ?_) (fun c_31 => absurd (by decide) c_31)
    refine lv_iconst (v := 0) hx hb dX5_at_50 (by decide) ?_
    exact W.iret (v := 0) hx hb hr (fun t ht hW => ⟨_, rfl, (by rw [at_f (fun q => inN_lo c_1 q.1)]), ht⟩) (fun _ h => absurd h List.not_mem_nil) dX5_at_51
  · refine lv_iload_n hx hb dX5_at_4 rfl (lv_at hl 1 rfl) ?_
    refine lv_aload_n hx hb dX5_at_5 rfl (lv_at hl 0 rfl) ?_
    refine va_get (D := G.1) (ci := 5) (v := .int (nI n)) (C := RX5) (T := TX5) (N := 4) hx hb hts inlX5 hown hG.1 hP k (wl_at (by omega) hk) rfl 3 (by decide) (hts (.fieldLink RX5 22 "SwornLists$Rows" "size" "I") w_141) (fun _ h9 => h9) rfl dX5_at_6 ?_
    refine lv_icmp_ge (tgt := 28) hx hb dX5_at_9 (by decide) (fun c_9 => ?_) (fun c_9 => ?_)
    · refine lv_iconst (v := 0) hx hb dX5_at_28 (by decide) ?_
      refine lv_istore_n (lv' := [(3, .int 0), (0, .ref (g k)), (1, .int r), (2, .int q)]) hx hb dX5_at_29 rfl hl (by decide) rfl (fun ls hl => ?_)
      refine lv_iload_n hx hb dX5_at_30 rfl (lv_at hl 0 rfl) ?_
      refine lv_if_eq (tgt := 50) hx hb dX5_at_31 (by decide) (fun c_31 => ?_) (fun c_31 => absurd (by decide) c_31)
      refine lv_iconst (v := 0) hx hb dX5_at_50 (by decide) ?_
      exact W.iret (v := 0) hx hb hr (fun t ht hW => ⟨_, rfl, (by rw [at_f (fun q => inN_hi (by omega) c_9 q.1)]), ht⟩) (fun _ h => absurd h List.not_mem_nil) dX5_at_51
    · refine lv_iload_n hx hb dX5_at_12 rfl (lv_at hl 2 rfl) ?_
      refine lv_if_lt (tgt := 28) hx hb dX5_at_13 (by decide) (fun c_13 => ?_) (fun c_13 => ?_)
      · refine lv_iconst (v := 0) hx hb dX5_at_28 (by decide) ?_
        refine lv_istore_n (lv' := [(3, .int 0), (0, .ref (g k)), (1, .int r), (2, .int q)]) hx hb dX5_at_29 rfl hl (by decide) rfl (fun ls hl => ?_)
        refine lv_iload_n hx hb dX5_at_30 rfl (lv_at hl 0 rfl) ?_
        refine lv_if_eq (tgt := 50) hx hb dX5_at_31 (by decide) (fun c_31 => ?_) (fun c_31 => absurd (by decide) c_31)
        refine lv_iconst (v := 0) hx hb dX5_at_50 (by decide) ?_
        exact W.iret (v := 0) hx hb hr (fun t ht hW => ⟨_, rfl, (by rw [at_f (fun q => inN_lo c_13 q.2)]), ht⟩) (fun _ h => absurd h List.not_mem_nil) dX5_at_51
      · refine lv_iload_n hx hb dX5_at_16 rfl (lv_at hl 2 rfl) ?_
        refine lv_aload_n hx hb dX5_at_17 rfl (lv_at hl 0 rfl) ?_
        refine va_get (D := G.1) (ci := 5) (v := .int (nI wi)) (C := RX5) (T := TX5) (N := 4) hx hb hts inlX5 hown hG.1 hP k (wl_at (by omega) hk) rfl 1 (by decide) (hts (.fieldLink RX5 15 "SwornLists$Rows" "width" "I") w_71) (fun _ h9 => h9) rfl dX5_at_18 ?_
        refine lv_icmp_ge (tgt := 28) hx hb dX5_at_21 (by decide) (fun c_21 => ?_) (fun c_21 => ?_)
        · refine lv_iconst (v := 0) hx hb dX5_at_28 (by decide) ?_
          refine lv_istore_n (lv' := [(3, .int 0), (0, .ref (g k)), (1, .int r), (2, .int q)]) hx hb dX5_at_29 rfl hl (by decide) rfl (fun ls hl => ?_)
          refine lv_iload_n hx hb dX5_at_30 rfl (lv_at hl 0 rfl) ?_
          refine lv_if_eq (tgt := 50) hx hb dX5_at_31 (by decide) (fun c_31 => ?_) (fun c_31 => absurd (by decide) c_31)
          refine lv_iconst (v := 0) hx hb dX5_at_50 (by decide) ?_
          exact W.iret (v := 0) hx hb hr (fun t ht hW => ⟨_, rfl, (by rw [at_f (fun q => inN_hi (by omega) c_21 q.2)]), ht⟩) (fun _ h => absurd h List.not_mem_nil) dX5_at_51
        · refine lv_iconst (v := 1) hx hb dX5_at_24 (by decide) ?_
          refine lv_goto (tgt := 29) hx hb dX5_at_25 (by decide) ?_
          refine lv_istore_n (lv' := [(3, .int 1), (0, .ref (g k)), (1, .int r), (2, .int q)]) hx hb dX5_at_29 rfl hl (by decide) rfl (fun ls hl => ?_)
          refine lv_iload_n hx hb dX5_at_30 rfl (lv_at hl 0 rfl) ?_
          refine lv_if_eq (tgt := 50) hx hb dX5_at_31 (by decide) (fun c_31 => absurd c_31 (by decide)) (fun c_31 => ?_)
          refine lv_aload_n hx hb dX5_at_34 rfl (lv_at hl 1 rfl) ?_
          refine va_get (D := G.1) (ci := 5) (v := .ref (g (k + 1))) (C := RX5) (T := TX5) (N := 4) hx hb hts inlX5 hown hG.1 hP k (wl_at (by omega) hk) rfl 2 (by decide) (hts (.fieldLink RX5 18 "SwornLists$Rows" "cells" "[I") w_73) (fun _ h9 => h9) rfl dX5_at_35 ?_
          refine lv_iload_n hx hb dX5_at_38 rfl (lv_at hl 2 rfl) ?_
          refine lv_aload_n hx hb dX5_at_39 rfl (lv_at hl 1 rfl) ?_
          refine va_get (D := G.1) (ci := 5) (v := .int (nI wi)) (C := RX5) (T := TX5) (N := 4) hx hb hts inlX5 hown hG.1 hP k (wl_at (by omega) hk) rfl 1 (by decide) (hts (.fieldLink RX5 15 "SwornLists$Rows" "width" "I") w_71) (fun _ h9 => h9) rfl dX5_at_40 ?_
          refine lv_imul hx hb dX5_at_43 ?_
          refine lv_iload_n hx hb dX5_at_44 rfl (lv_at hl 3 rfl) ?_
          refine lv_iadd hx hb dX5_at_45 ?_
          refine va_iald hx hb hG.1 hP (k + 1) 0 (wl_at (by omega) hd) rfl (at_in (inN_t (by omega) c_1 c_9) (inN_t (by omega) c_13 c_21) hn hmo hwi) dX5_at_46 ?_
          refine lv_goto (tgt := 51) hx hb dX5_at_47 (by decide) ?_
          exact W.iret (v := d (Int32.toNatClampNeg ((r * (nI wi)) + q))) hx hb hr (fun t ht hW => ⟨_, rfl, (by rw [at_t (inN_t (by omega) c_1 c_9) (inN_t (by omega) c_13 c_21)]), ht⟩) (fun _ h => absurd h List.not_mem_nil) dX5_at_51


def wv (A T : Nat) : Nat → Nat
  | 0 => 1
  | c + 1 => wv A T c * (A - T + (c + 1)) / (c + 1)
def wz (A T : Nat) : Nat := if T ≤ A then wv A T T else 0
def wchk : Bool := (List.range 41).all fun A => (List.range (A + 1)).all fun T => (List.range (T + 1)).all fun c => Nat.ble (wv A T c) (2 ^ A) && Nat.ble 1 (wv A T c)
theorem wchk_ok : wchk = true := by decide +kernel
theorem wv_b {A T c : Nat} (hA : A ≤ 40) (hT : T ≤ A) (hc : c ≤ T) : wv A T c ≤ 2 ^ A ∧ 1 ≤ wv A T c := by
  have h1 := List.all_eq_true.mp wchk_ok A (List.mem_range.mpr (by omega))
  have h2 := List.all_eq_true.mp h1 T (List.mem_range.mpr (by omega))
  have h3 := List.all_eq_true.mp h2 c (List.mem_range.mpr (by omega))
  rw [Bool.and_eq_true] at h3
  exact ⟨Nat.le_of_ble_eq_true h3.1, Nat.le_of_ble_eq_true h3.2⟩
theorem pw40 {A : Nat} (hA : A ≤ 40) : 2 ^ A ≤ 1099511627776 := Nat.le_trans (Nat.pow_le_pow_right (by decide) hA) (by decide)
theorem wv_s {A T c : Nat} (hA : A ≤ 40) (hT : T ≤ A) (hc : c ≤ T) : wv A T c ≤ 1099511627776 := Nat.le_trans (wv_b hA hT hc).1 (pw40 hA)
theorem wz_b {A T : Nat} (hA : A ≤ 40) : wz A T ≤ 2 ^ A := by
  unfold wz
  split
  · rename_i h; exact (wv_b hA h (Nat.le_refl _)).1
  · exact Nat.zero_le _
theorem wz_s {A T : Nat} (hA : A ≤ 40) : wz A T ≤ 1099511627776 := Nat.le_trans (wz_b hA) (pw40 hA)
theorem wv_m {A T c : Nat} (hA : A ≤ 40) (hT : T ≤ A) (hc : c ≤ T) : wv A T c * (A - T + (c + 1)) < 2 ^ 63 := by
  have h1 := wv_s hA hT hc
  have h2 : A - T + (c + 1) ≤ 41 := by omega
  have h3 := Nat.mul_le_mul h1 h2
  omega
theorem lN_ne0 {n : Nat} (h : 0 < n) (hn : n < 2 ^ 63) : ¬ lN n = 0 := fun q => by
  have q2 : lN n = lN 0 := q
  have := (pk_lEQ hn (by decide)).mp q2
  omega
def cdv : Nat → Nat → Nat → Nat
  | 0, x, _ => x
  | f + 1, x, y => if y = 0 then x else cdv f y (x % y)
theorem cdv_0 {f x : Nat} : cdv f x 0 = x := by
  cases f with
  | zero => rfl
  | succ f => rfl
theorem cdv_s {f x y : Nat} (h : 0 < y) : cdv (f + 1) x y = cdv f y (x % y) := by
  show (if y = 0 then x else _) = _; rw [if_neg (by omega)]
theorem cdv_p : ∀ (f x y : Nat), 0 < x → 0 < cdv f x y := by
  intro f
  induction f with
  | zero => intro x y h; exact h
  | succ f ih =>
    intro x y h
    by_cases hy : y = 0
    · subst hy; rw [cdv_0]; exact h
    · rw [cdv_s (by omega)]; exact ih y _ (by omega)
theorem cdv_b : ∀ (f x y B : Nat), x < B → y < B → cdv f x y < B := by
  intro f
  induction f with
  | zero => intro x y B h _; exact h
  | succ f ih =>
    intro x y B h h2
    by_cases hy : y = 0
    · subst hy; rw [cdv_0]; exact h
    · rw [cdv_s (by omega)]; exact ih y _ B h2 (Nat.lt_trans (Nat.mod_lt _ (by omega)) h2)
theorem lcz {n : Nat} (hn : n < 2 ^ 63) : lg_cmp (lN n) 0 = 0 ↔ n = 0 := by
  rw [lg_cmp_eq]
  exact (pk_lEQ (b := 0) hn (by decide))
theorem lcg {n : Nat} (hn : n < 2 ^ 63) : 0 < lg_cmp (lN n) 0 ↔ 0 < n := by
  rw [lg_cmp_gt]
  exact (pk_lLT (a := 0) (by decide) hn)
theorem lcl {n : Nat} (hn : n < 2 ^ 63) : lg_cmp (lN n) 0 ≤ 0 ↔ n = 0 := by
  rw [lg_cmp_le]
  refine (pk_lLE (b := 0) hn (by decide)).trans ?_
  omega
set_option maxHeartbeats 4000000 in
set_option maxRecDepth 100000 in
theorem e_ways (l : Launch) (G : gW) (g : Nat → Nat) (hg : gOK g) (f : Nat → va_E) (A : Nat) (T : Nat)  (hA : A ≤ 40) (hT : T ≤ 40) : Met l yX10_ways (wsT yX10_ways cX10_ways 5 (some .long)) ({ frames := 0, cells := 0, slots := 0, locals := 0 }) (bP G g f [.int (nI A), .int (nI T)]) (rQl (fun z9 => z9 = lN (wz A T))) 0 0 fr0 := by
  refine Met.ofW (cc := cX10_ways) (maxL := 5) (ret := (some .long)) (by decide) rfl ?_
  intro p e s m args below meth c s₁ B hml hv
  obtain ⟨rfl, hP, hG⟩ := hv
  have hx := B.exec
  have hb := B.bytes
  have hr := B.returns
  have hts := my_hts (atoms_spec (ws := wsT yX10_ways cX10_ways 5 (some .long)) B.pre)
  have hown : s.vm.findClass RX10 = some m.cls := findClass_of_methodNamed B.named
  have hlocks := B.notSynchronized
  have hl := lv_entry ([.int (nI A), .int (nI T)]) (n := 5) (Nat.le_of_ble_eq_true rfl)
  rw [lg_entry_eq]
  generalize (lg_sl ([.int (nI A), .int (nI T)]) ++ List.replicate (5 - (lg_sl ([.int (nI A), .int (nI T)])).length) Slot.unset).toArray = ls at hl ⊢
  have hl : lv_has ls 5 [(0, .int (nI A)), (1, .int (nI T))] := hl
  refine W_q8 (fun Q9 hQ9 => ?_)
  refine lv_iload_n hx hb dX10_ways_0 rfl (lv_at hl 1 rfl) ?_
  refine lv_if_lt (tgt := 9) hx hb dX10_ways_1 (by decide) (fun c_1 => absurd c_1 (nI_pos (by omega))) (fun c_1 => ?_)
  refine lv_iload_n hx hb dX10_ways_4 rfl (lv_at hl 1 rfl) ?_
  refine lv_iload_n hx hb dX10_ways_5 rfl (lv_at hl 0 rfl) ?_
  refine lv_icmp_le (tgt := 11) hx hb dX10_ways_6 (by decide) (fun c_6 => ?_) (fun c_6 => ?_)
  · have hTA : T ≤ A := (nI_leI (by omega) (by omega)).mp c_6
    refine lv_lconst (v := 1) hx hb dX10_ways_11 (by decide) ?_
    refine lv_lstore_n (lv' := [(2, .long 1), (0, .int (nI A)), (1, .int (nI T))]) hx hb dX10_ways_12 rfl hl (by decide) rfl (fun ls hl => ?_)
    refine lv_iconst (v := 1) hx hb dX10_ways_13 (by decide) ?_
    refine lv_istore (lv' := [(4, .int 1), (2, .long 1), (0, .int (nI A)), (1, .int (nI T))]) hx hb dX10_ways_14 hl (by decide) rfl (fun ls hl => ?_)
    have key1 : ∀ (n9_1 : Nat) (k : Nat) (ls : Array Slot), (k ≤ T) → T - k < n9_1 → lv_has ls 5 [(0, .int (nI A)), (1, .int (nI T)), (2, .long (lN (wv A T k))), (4, .int (nI (k + 1)))] → W p l e (headSpec (wsT yX10_ways cX10_ways 5 (some .long)) ({ frames := 0, cells := 0, slots := 0, locals := 0 })).room s m ([.int (nI A), .int (nI T)] : List Value).toArray below meth c s.heap [] 0 0 Q9 (F0 m 16 ls []) := by
      intro n9_1
      induction n9_1 with
      | zero => intro k ls hk hn9_1; exact absurd hn9_1 (Nat.not_lt_zero _)
      | succ n9_1 ih_1 =>
        intro k ls hk hn9_1 hl
        refine lv_iload hx hb dX10_ways_16 (lv_at hl 3 rfl) ?_
        refine lv_iload_n hx hb dX10_ways_18 rfl (lv_at hl 1 rfl) ?_
        refine lv_icmp_gt (tgt := 42) hx hb dX10_ways_19 (by decide) (fun c_19 => ?_) (fun c_19 => ?_)
        · refine lv_lload_n hx hb dX10_ways_42 rfl (lv_at hl 2 rfl) ?_
          refine W_q9 hQ9 ?_
          exact W.lret (v := lN (wv A T k)) hx hb hr (fun _ hT9 _ => ⟨_, rfl, (by have h : T < k + 1 := (nI_ltI (by omega) (by omega)).mp c_19; have h2 : k = T := (by omega); subst h2; unfold wz; rw [if_pos hTA]), hT9⟩) (fun _ h => absurd h List.not_mem_nil) dX10_ways_43
        · have hkT : k < T := by
            have h : ¬ T < k + 1 := fun z => c_19 (nI_lt z (by omega))
            omega
          refine lv_lload_n hx hb dX10_ways_22 rfl (lv_at hl 2 rfl) ?_
          refine lv_iload_n hx hb dX10_ways_23 rfl (lv_at hl 0 rfl) ?_
          refine lv_iload_n hx hb dX10_ways_24 rfl (lv_at hl 1 rfl) ?_
          refine lv_isub hx hb dX10_ways_25 ?_
          refine my_bei (v := nI (A - T)) (pk_sub hTA) ?_
          refine lv_iload hx hb dX10_ways_26 (lv_at hl 3 rfl) ?_
          refine lv_iadd hx hb dX10_ways_28 ?_
          refine my_bei (v := nI (A - T + (k + 1))) (nI_add _ _) ?_
          refine lv_i2l hx hb dX10_ways_29 rfl ?_
          refine my_bel (v := lN (A - T + (k + 1))) (nI_l (by omega)) ?_
          refine lv_lmul hx hb dX10_ways_30 ?_
          refine my_bel (v := lN (wv A T k * (A - T + (k + 1)))) (lN_mul _ _) ?_
          refine lv_iload hx hb dX10_ways_31 (lv_at hl 3 rfl) ?_
          refine lv_i2l hx hb dX10_ways_33 rfl ?_
          refine my_bel (v := lN (k + 1)) (nI_l (by omega)) ?_
          refine lv_ldiv hx hb dX10_ways_34 (lN_ne0 (by omega) (by omega)) ?_
          refine my_bel (v := lN (wv A T (k + 1))) (pk_lDiv (wv_m hA hTA hk) (by omega) (by omega)) ?_
          refine lv_lstore_n (lv' := [(2, .long (lN (wv A T (k + 1)))), (0, .int (nI A)), (1, .int (nI T)), (4, .int (nI (k + 1)))]) hx hb dX10_ways_35 rfl hl (by decide) rfl (fun ls hl => ?_)
          refine lv_iinc (v := nI (k + 1 + 1)) (lv' := [(4, .int (nI (k + 1 + 1))), (2, .long (lN (wv A T (k + 1)))), (0, .int (nI A)), (1, .int (nI T))]) hx hb dX10_ways_36 hl (k := 3) rfl (nI_1 (k + 1)) (by decide) rfl (fun ls hl => ?_)
          refine lv_goto (tgt := 16) hx hb dX10_ways_39 (by decide) ?_
          exact ih_1 (k + 1) _ (hkT) (by omega) (lv_sub hl [2, 3, 1, 0] rfl)
    exact key1 (T + 1) 0 _ (Nat.zero_le _) (by omega) (lv_sub hl [2, 3, 1, 0] rfl)
  · refine lv_lconst (v := 0) hx hb dX10_ways_9 (by decide) ?_
    refine W_q9 hQ9 ?_
    exact W.lret (v := 0) hx hb hr (fun _ hT9 _ => ⟨_, rfl, (by rw [show wz A T = 0 from if_neg (fun z => c_6 (nI_le z (by omega)))]; rfl), hT9⟩) (fun _ h => absurd h List.not_mem_nil) dX10_ways_10
set_option maxHeartbeats 4000000 in
set_option maxRecDepth 100000 in
theorem e2_ways (l : Launch) (G : gW) (g : Nat → Nat) (hg : gOK g) (f : Nat → va_E) (A : Nat) (T : Nat)  (hA : A ≤ 40) (hT : T ≤ 40) : Met l yX11_ways (wsT yX11_ways cX11_ways 5 (some .long)) ({ frames := 0, cells := 0, slots := 0, locals := 0 }) (bP G g f [.int (nI A), .int (nI T)]) (rQl (fun z9 => z9 = lN (wz A T))) 0 0 fr0 := by
  refine Met.ofW (cc := cX11_ways) (maxL := 5) (ret := (some .long)) (by decide) rfl ?_
  intro p e s m args below meth c s₁ B hml hv
  obtain ⟨rfl, hP, hG⟩ := hv
  have hx := B.exec
  have hb := B.bytes
  have hr := B.returns
  have hts := my_hts (atoms_spec (ws := wsT yX11_ways cX11_ways 5 (some .long)) B.pre)
  have hown : s.vm.findClass RX11 = some m.cls := findClass_of_methodNamed B.named
  have hlocks := B.notSynchronized
  have hl := lv_entry ([.int (nI A), .int (nI T)]) (n := 5) (Nat.le_of_ble_eq_true rfl)
  rw [lg_entry_eq]
  generalize (lg_sl ([.int (nI A), .int (nI T)]) ++ List.replicate (5 - (lg_sl ([.int (nI A), .int (nI T)])).length) Slot.unset).toArray = ls at hl ⊢
  have hl : lv_has ls 5 [(0, .int (nI A)), (1, .int (nI T))] := hl
  refine W_q8 (fun Q9 hQ9 => ?_)
  refine lv_iload_n hx hb dX11_ways_0 rfl (lv_at hl 1 rfl) ?_
  refine lv_if_lt (tgt := 9) hx hb dX11_ways_1 (by decide) (fun c_1 => absurd c_1 (nI_pos (by omega))) (fun c_1 => ?_)
  refine lv_iload_n hx hb dX11_ways_4 rfl (lv_at hl 1 rfl) ?_
  refine lv_iload_n hx hb dX11_ways_5 rfl (lv_at hl 0 rfl) ?_
  refine lv_icmp_le (tgt := 11) hx hb dX11_ways_6 (by decide) (fun c_6 => ?_) (fun c_6 => ?_)
  · have hTA : T ≤ A := (nI_leI (by omega) (by omega)).mp c_6
    refine lv_lconst (v := 1) hx hb dX11_ways_11 (by decide) ?_
    refine lv_lstore_n (lv' := [(2, .long 1), (0, .int (nI A)), (1, .int (nI T))]) hx hb dX11_ways_12 rfl hl (by decide) rfl (fun ls hl => ?_)
    refine lv_iconst (v := 1) hx hb dX11_ways_13 (by decide) ?_
    refine lv_istore (lv' := [(4, .int 1), (2, .long 1), (0, .int (nI A)), (1, .int (nI T))]) hx hb dX11_ways_14 hl (by decide) rfl (fun ls hl => ?_)
    have key1 : ∀ (n9_1 : Nat) (k : Nat) (ls : Array Slot), (k ≤ T) → T - k < n9_1 → lv_has ls 5 [(0, .int (nI A)), (1, .int (nI T)), (2, .long (lN (wv A T k))), (4, .int (nI (k + 1)))] → W p l e (headSpec (wsT yX11_ways cX11_ways 5 (some .long)) ({ frames := 0, cells := 0, slots := 0, locals := 0 })).room s m ([.int (nI A), .int (nI T)] : List Value).toArray below meth c s.heap [] 0 0 Q9 (F0 m 16 ls []) := by
      intro n9_1
      induction n9_1 with
      | zero => intro k ls hk hn9_1; exact absurd hn9_1 (Nat.not_lt_zero _)
      | succ n9_1 ih_1 =>
        intro k ls hk hn9_1 hl
        refine lv_iload hx hb dX11_ways_16 (lv_at hl 3 rfl) ?_
        refine lv_iload_n hx hb dX11_ways_18 rfl (lv_at hl 1 rfl) ?_
        refine lv_icmp_gt (tgt := 42) hx hb dX11_ways_19 (by decide) (fun c_19 => ?_) (fun c_19 => ?_)
        · refine lv_lload_n hx hb dX11_ways_42 rfl (lv_at hl 2 rfl) ?_
          refine W_q9 hQ9 ?_
          exact W.lret (v := lN (wv A T k)) hx hb hr (fun _ hT9 _ => ⟨_, rfl, (by have h : T < k + 1 := (nI_ltI (by omega) (by omega)).mp c_19; have h2 : k = T := (by omega); subst h2; unfold wz; rw [if_pos hTA]), hT9⟩) (fun _ h => absurd h List.not_mem_nil) dX11_ways_43
        · have hkT : k < T := by
            have h : ¬ T < k + 1 := fun z => c_19 (nI_lt z (by omega))
            omega
          refine lv_lload_n hx hb dX11_ways_22 rfl (lv_at hl 2 rfl) ?_
          refine lv_iload_n hx hb dX11_ways_23 rfl (lv_at hl 0 rfl) ?_
          refine lv_iload_n hx hb dX11_ways_24 rfl (lv_at hl 1 rfl) ?_
          refine lv_isub hx hb dX11_ways_25 ?_
          refine my_bei (v := nI (A - T)) (pk_sub hTA) ?_
          refine lv_iload hx hb dX11_ways_26 (lv_at hl 3 rfl) ?_
          refine lv_iadd hx hb dX11_ways_28 ?_
          refine my_bei (v := nI (A - T + (k + 1))) (nI_add _ _) ?_
          refine lv_i2l hx hb dX11_ways_29 rfl ?_
          refine my_bel (v := lN (A - T + (k + 1))) (nI_l (by omega)) ?_
          refine lv_lmul hx hb dX11_ways_30 ?_
          refine my_bel (v := lN (wv A T k * (A - T + (k + 1)))) (lN_mul _ _) ?_
          refine lv_iload hx hb dX11_ways_31 (lv_at hl 3 rfl) ?_
          refine lv_i2l hx hb dX11_ways_33 rfl ?_
          refine my_bel (v := lN (k + 1)) (nI_l (by omega)) ?_
          refine lv_ldiv hx hb dX11_ways_34 (lN_ne0 (by omega) (by omega)) ?_
          refine my_bel (v := lN (wv A T (k + 1))) (pk_lDiv (wv_m hA hTA hk) (by omega) (by omega)) ?_
          refine lv_lstore_n (lv' := [(2, .long (lN (wv A T (k + 1)))), (0, .int (nI A)), (1, .int (nI T)), (4, .int (nI (k + 1)))]) hx hb dX11_ways_35 rfl hl (by decide) rfl (fun ls hl => ?_)
          refine lv_iinc (v := nI (k + 1 + 1)) (lv' := [(4, .int (nI (k + 1 + 1))), (2, .long (lN (wv A T (k + 1)))), (0, .int (nI A)), (1, .int (nI T))]) hx hb dX11_ways_36 hl (k := 3) rfl (nI_1 (k + 1)) (by decide) rfl (fun ls hl => ?_)
          refine lv_goto (tgt := 16) hx hb dX11_ways_39 (by decide) ?_
          exact ih_1 (k + 1) _ (hkT) (by omega) (lv_sub hl [2, 3, 1, 0] rfl)
    exact key1 (T + 1) 0 _ (Nat.zero_le _) (by omega) (lv_sub hl [2, 3, 1, 0] rfl)
  · refine lv_lconst (v := 0) hx hb dX11_ways_9 (by decide) ?_
    refine W_q9 hQ9 ?_
    exact W.lret (v := 0) hx hb hr (fun _ hT9 _ => ⟨_, rfl, (by rw [show wz A T = 0 from if_neg (fun z => c_6 (nI_le z (by omega)))]; rfl), hT9⟩) (fun _ h => absurd h List.not_mem_nil) dX11_ways_10
set_option maxHeartbeats 4000000 in
set_option maxRecDepth 100000 in
theorem e_cdv (l : Launch) (G : gW) (g : Nat → Nat) (hg : gOK g) (f : Nat → va_E) (S : Nat) (T : Nat)  (hSb : S < 2 ^ 63) (hTb : T < 2 ^ 63) : Met l yX2_commonDivisor (wsT yX2_commonDivisor cX2_commonDivisor 11 (some .long)) ({ frames := 0, cells := 0, slots := 0, locals := 0 }) (bP G g f [.long (lN S), .long (lN T)]) (rQl (fun z9 => z9 = lN (cdv 200 S T))) 0 0 fr0 := by
  refine Met.ofW (cc := cX2_commonDivisor) (maxL := 11) (ret := (some .long)) (by decide) rfl ?_
  intro p e s m args below meth c s₁ B hml hv
  obtain ⟨rfl, hP, hG⟩ := hv
  have hx := B.exec
  have hb := B.bytes
  have hr := B.returns
  have hts := my_hts (atoms_spec (ws := wsT yX2_commonDivisor cX2_commonDivisor 11 (some .long)) B.pre)
  have hown : s.vm.findClass RX2 = some m.cls := findClass_of_methodNamed B.named
  have hlocks := B.notSynchronized
  have hl := lv_entry ([.long (lN S), .long (lN T)]) (n := 11) (Nat.le_of_ble_eq_true rfl)
  rw [lg_entry_eq]
  generalize (lg_sl ([.long (lN S), .long (lN T)]) ++ List.replicate (11 - (lg_sl ([.long (lN S), .long (lN T)])).length) Slot.unset).toArray = ls at hl ⊢
  have hl : lv_has ls 11 [(0, .long (lN S)), (2, .long (lN T))] := hl
  refine W_q8 (fun Q9 hQ9 => ?_)
  refine lv_lload_n hx hb dX2_commonDivisor_0 rfl (lv_at hl 0 rfl) ?_
  refine lv_lstore (lv' := [(4, .long (lN S)), (0, .long (lN S)), (2, .long (lN T))]) hx hb dX2_commonDivisor_1 hl (by decide) rfl (fun ls hl => ?_)
  refine lv_lload_n hx hb dX2_commonDivisor_3 rfl (lv_at hl 2 rfl) ?_
  refine lv_lstore (lv' := [(6, .long (lN T)), (4, .long (lN S)), (0, .long (lN S)), (2, .long (lN T))]) hx hb dX2_commonDivisor_4 hl (by decide) rfl (fun ls hl => ?_)
  refine lv_iconst (v := 0) hx hb dX2_commonDivisor_6 (by decide) ?_
  refine lv_istore (lv' := [(8, .int 0), (6, .long (lN T)), (4, .long (lN S)), (0, .long (lN S)), (2, .long (lN T))]) hx hb dX2_commonDivisor_7 hl (by decide) rfl (fun ls hl => ?_)
  have key1 : ∀ (n9_1 : Nat) (x : Nat) (y : Nat) (k : Nat) (ls : Array Slot), (x < 2 ^ 63) → (y < 2 ^ 63) → (k ≤ 200) → (cdv (200 - k) x y = cdv 200 S T) → 200 - k < n9_1 → lv_has ls 11 [(4, .long (lN x)), (6, .long (lN y)), (8, .int (nI k))] → W p l e (headSpec (wsT yX2_commonDivisor cX2_commonDivisor 11 (some .long)) ({ frames := 0, cells := 0, slots := 0, locals := 0 })).room s m ([.long (lN S), .long (lN T)] : List Value).toArray below meth c s.heap [] 0 0 Q9 (F0 m 9 ls []) := by
    intro n9_1
    induction n9_1 with
    | zero => intro x y k ls hxb hyb hk hv9 hn9_1; exact absurd hn9_1 (Nat.not_lt_zero _)
    | succ n9_1 ih_1 =>
      intro x y k ls hxb hyb hk hv9 hn9_1 hl
      refine lv_iload hx hb dX2_commonDivisor_9 (lv_at hl 2 rfl) ?_
      refine lv_sipush (v := 200) hx hb dX2_commonDivisor_11 (by decide) ?_
      refine lv_icmp_ge (tgt := 45) hx hb dX2_commonDivisor_14 (by decide) (fun c_14 => ?_) (fun c_14 => ?_)
      · refine lv_lload hx hb dX2_commonDivisor_45 (lv_at hl 0 rfl) ?_
        refine W_q9 hQ9 ?_
        exact W.lret (v := lN x) hx hb hr (fun _ hT9 _ => ⟨_, rfl, (by have h : 200 ≤ k := (nI_leI (a := 200) (by omega) (by omega)).mp c_14; rw [← hv9, show 200 - k = 0 by omega]; rfl), hT9⟩) (fun _ h => absurd h List.not_mem_nil) dX2_commonDivisor_47
      · have hk2 : k < 200 := by
          have h : ¬ 200 ≤ k := fun z => c_14 (nI_le (a := 200) z (by omega))
          omega
        refine lv_lload hx hb dX2_commonDivisor_17 (lv_at hl 1 rfl) ?_
        refine lv_lconst (v := 0) hx hb dX2_commonDivisor_19 (by decide) ?_
        refine W.lcmp hx hb dX2_commonDivisor_20 ?_
        refine lv_if_eq (tgt := 45) hx hb dX2_commonDivisor_21 (by decide) (fun c_21 => ?_) (fun c_21 => ?_)
        · refine lv_lload hx hb dX2_commonDivisor_45 (lv_at hl 0 rfl) ?_
          refine W_q9 hQ9 ?_
          exact W.lret (v := lN x) hx hb hr (fun _ hT9 _ => ⟨_, rfl, (by have h : y = 0 := (lcz hyb).mp c_21; subst h; rw [← hv9, cdv_0]), hT9⟩) (fun _ h => absurd h List.not_mem_nil) dX2_commonDivisor_47
        · have hy0 : 0 < y := by
            have h : ¬ y = 0 := fun z => c_21 ((lcz hyb).mpr z)
            omega
          refine lv_lload hx hb dX2_commonDivisor_24 (lv_at hl 0 rfl) ?_
          refine lv_lload hx hb dX2_commonDivisor_26 (lv_at hl 1 rfl) ?_
          refine lv_lrem hx hb dX2_commonDivisor_28 (lN_ne0 hy0 hyb) ?_
          refine my_bel (v := lN (x % y)) (pk_lRem hxb hy0 hyb) ?_
          refine lv_lstore (lv' := [(9, .long (lN (x % y))), (4, .long (lN x)), (6, .long (lN y)), (8, .int (nI k))]) hx hb dX2_commonDivisor_29 hl (by decide) rfl (fun ls hl => ?_)
          refine lv_lload hx hb dX2_commonDivisor_31 (lv_at hl 2 rfl) ?_
          refine lv_lstore (lv' := [(4, .long (lN y)), (9, .long (lN (x % y))), (6, .long (lN y)), (8, .int (nI k))]) hx hb dX2_commonDivisor_33 hl (by decide) rfl (fun ls hl => ?_)
          refine lv_lload hx hb dX2_commonDivisor_35 (lv_at hl 1 rfl) ?_
          refine lv_lstore (lv' := [(6, .long (lN (x % y))), (4, .long (lN y)), (9, .long (lN (x % y))), (8, .int (nI k))]) hx hb dX2_commonDivisor_37 hl (by decide) rfl (fun ls hl => ?_)
          refine lv_iinc (v := nI (k + 1)) (lv' := [(8, .int (nI (k + 1))), (6, .long (lN (x % y))), (4, .long (lN y)), (9, .long (lN (x % y)))]) hx hb dX2_commonDivisor_39 hl (k := 3) rfl (nI_1 k) (by decide) rfl (fun ls hl => ?_)
          refine lv_goto (tgt := 9) hx hb dX2_commonDivisor_42 (by decide) ?_
          exact ih_1 y (x % y) (k + 1) _ (hyb) (Nat.lt_trans (Nat.mod_lt _ hy0) hyb) (by omega) (by rw [← hv9, show 200 - k = (200 - (k + 1)) + 1 by omega, cdv_s hy0]) (by omega) (lv_sub hl [2, 1, 0] rfl)
  exact key1 (200 + 1) S T 0 _ (hSb) (hTb) (Nat.zero_le _) (rfl) (by omega) (lv_sub hl [2, 1, 0] rfl)
/-! ===== twelve ===== -/
def zo2 (S T : Nat) : Int32 := if S = 0 ∨ T = 0 then 0 else 1
def twP (P : Nat → Nat → Int32) (np : Nat) (pl : Int32) (k : Nat) : Int32 := pl &&& sO (fun r => decide (P r 0 = nI k)) np
def twS (P : Nat → Nat → Int32) (np : Nat) (pl : Int32) (ks : Nat) : Nat → Nat
  | 0 => 0
  | k + 1 => twS P np pl ks k + wz (cnt (twP P np pl k) 32) ks
def twA (P : Nat → Nat → Int32) (np : Nat) (pl : Int32) (c : Int32) : Int32 := zo2 (twS P np pl c.toNatClampNeg 4) (wz (cnt pl 32) c.toNatClampNeg)
def tvP (np : Nat) (nv : Nat → Int32 → Int64) (o : Option (List (Int32 × Int32))) : Int32 := trV np nv (((1 : Int32) <<< (nI np &&& 31)) - 1) (((1 : Int32) <<< (nI np &&& 31)) - 1) o
theorem low_hi {np : Nat} (hn : np ≤ 30) : ∀ k, 30 ≤ k → bt (((1 : Int32) <<< (nI np &&& 31)) - 1) k = false := fun k hk => by
  rw [bt_low (by omega)]
  exact decide_eq_false (by omega)
theorem tv_hi {np : Nat} {nv : Nat → Int32 → Int64} {o : Option (List (Int32 × Int32))} (hn : np ≤ 30) : ∀ k, 30 ≤ k → bt (tvP np nv o) k = false := trV_hi hn (low_hi hn)
theorem tv_wh {np : Nat} {nv : Nat → Int32 → Int64} {o : Option (List (Int32 × Int32))} (hn : np ≤ 30) : whV np nv (((1 : Int32) <<< (nI np &&& 31)) - 1) o = tvP np nv o := by
  cases o with
  | none => rfl
  | some l =>
    show sO (fun p => decide (¬ (ev (nv p) l).headD 0 = 0)) np = sO (fun p => bt (((1 : Int32) <<< (nI np &&& 31)) - 1) p && decide (¬ (ev (nv p) l).headD 0 = 0)) np
    exact sO_congr np (fun k hk => by rw [bt_low (by omega), decide_eq_true hk, Bool.true_and])
theorem tvP_congr {np : Nat} {nv nv' : Nat → Int32 → Int64} {o : Option (List (Int32 × Int32))} (h : ∀ p, p < np → nv p = nv' p) : tvP np nv o = tvP np nv' o := trV_congr h
theorem cnt_hi {x : Int32} (h : ∀ k, 30 ≤ k → bt x k = false) : cnt x 32 ≤ 30 := by
  rw [cnt_3032 h]
  exact cnt_le 30
theorem tw_hi {P : Nat → Nat → Int32} {np k : Nat} {pl : Int32} (h : ∀ k, 30 ≤ k → bt pl k = false) : ∀ q, 30 ≤ q → bt (twP P np pl k) q = false := fun q hq => by
  unfold twP
  rw [bt_and, h q hq, Bool.false_and]
theorem tw_bt {P : Nat → Nat → Int32} {np k i : Nat} {pl : Int32} (hn : np ≤ 30) (hi : i < np) : bt (twP P np pl k) i = true ↔ bt pl i = true ∧ P i 0 = nI k := by
  unfold twP
  rw [bt_and, bt_sO np i (by omega), decide_eq_true hi, Bool.true_and, Bool.and_eq_true, decide_eq_true_iff]
theorem tw_np {P : Nat → Nat → Int32} {np k : Nat} {pl : Int32} (hn : np ≤ 30) : cnt (twP P np pl k) np = cnt (twP P np pl k) 32 := by
  have h := cnt_up (x := twP P np pl k) (n := np) (32 - np) (fun q h1 h2 => by
    unfold twP
    rw [bt_and, bt_sO np q (by omega), decide_eq_false (by omega), Bool.false_and, Bool.and_false])
  rw [show np + (32 - np) = 32 by omega] at h
  exact h.symm
theorem twS_b {P : Nat → Nat → Int32} {np ks : Nat} {pl : Int32} (h : ∀ k, 30 ≤ k → bt pl k = false) : ∀ k, twS P np pl ks k ≤ k * 1099511627776 := by
  intro k
  induction k with
  | zero => exact Nat.zero_le _
  | succ k ih =>
    show twS P np pl ks k + wz (cnt (twP P np pl k) 32) ks ≤ _
    have h1 := cnt_hi (tw_hi (P := P) (np := np) (k := k) h)
    have h2 : wz (cnt (twP P np pl k) 32) ks ≤ 1099511627776 := wz_s (by omega)
    omega
theorem tw_end {P : Nat → Nat → Int32} {np ks z pa c : Nat} {pl pool cs : Int32} (hz : z = twS P np pl ks pa) (h4 : pa = 4) (hc : c = cnt pl 32) (hq : cs = nI ks) (hks : ks ≤ 8) (hp : pl = pool) : zo2 z (wz c ks) = twA P np pool cs := by
  subst hp
  unfold twA
  rw [hq, nI_clamp (by omega), hz, h4, hc]
theorem twA_congr {P P' : Nat → Nat → Int32} {np : Nat} {pl c : Int32} (h : ∀ p, p < np → P p 0 = P' p 0) : twA P np pl c = twA P' np pl c := by
  have h1 : ∀ k, twP P np pl k = twP P' np pl k := fun k => by
    unfold twP
    rw [sO_congr (q := fun r => decide (P r 0 = nI k)) (q' := fun r => decide (P' r 0 = nI k)) np (fun r hr => by rw [h r hr])]
  have h2 : ∀ k, twS P np pl c.toNatClampNeg k = twS P' np pl c.toNatClampNeg k := by
    intro k
    induction k with
    | zero => rfl
    | succ k ih =>
      show twS P np pl _ k + wz (cnt (twP P np pl k) 32) _ = twS P' np pl _ k + wz (cnt (twP P' np pl k) 32) _
      rw [ih, h1 k]
  unfold twA
  rw [h2 4]
/-! ===== beside ===== -/
def bsO (k j : Nat) (tx : List (Int32 × Int32)) (o : Option (List (Int32 × Int32))) : Option (List (Int32 × Int32)) := if k = j then some tx else o
theorem bsO_y {k : Nat} {tx : List (Int32 × Int32)} {o : Option (List (Int32 × Int32))} : bsO k k tx o = some tx := if_pos rfl
theorem bsO_n {k j : Nat} {tx : List (Int32 × Int32)} {o : Option (List (Int32 × Int32))} (h : ¬ k = j) : bsO k j tx o = o := if_neg h
def bsV (np nf nr : Nat) (P F R T : Nat → Nat → Int32) (J : Nat → Int32) (t : Nat) (o o' : Option (List (Int32 × Int32))) (K : Nat → Int32) : Int32 := hSw (boxT np nf nr P F R T J t t o o') (pasV (fitT np nf P F T J t t o) (boxT np nf nr P F R T J t t o o')) K
theorem bs_fit {np nf : Nat} {P F T : Nat → Nat → Int32} {J J' : Nat → Int32} {n t : Nat} {o : Option (List (Int32 × Int32))} (htn : t ≤ n) (h : ∀ q, t ≤ q → q < n → ¬ T q 0 < T t 0) (hJ : ∀ q, q < t → J q = J' q) : fitT np nf P F T J n t o = fitT np nf P F T J' t t o :=
  (fitT_stop htn h).trans (fitT_congr (fun _ _ _ _ => rfl) (fun _ _ _ _ => rfl) (fun _ _ _ _ => rfl) hJ)
theorem bs_box {np nf nr : Nat} {P F R T : Nat → Nat → Int32} {J J' : Nat → Int32} {n t : Nat} {o o' : Option (List (Int32 × Int32))} (htn : t ≤ n) (h : ∀ q, t ≤ q → q < n → ¬ T q 0 < T t 0) (hJ : ∀ q, q < t → J q = J' q) : boxV np (nvF P T J (T t 0) n) (fitT np nf P F T J' t t o) (rlV np nr R (T t 0)) (trdV np P (T t 5)) o' = boxT np nf nr P F R T J' t t o o' := by
  rw [← bs_fit (o := o) htn h hJ]
  exact (boxT_stop htn h).trans (boxT_congr (fun _ _ _ _ => rfl) (fun _ _ _ _ => rfl) (fun _ _ _ _ => rfl) (fun _ _ _ _ => rfl) hJ)
theorem bs_end {np nf nr t : Nat} {P F R T : Nat → Nat → Int32} {J J' K : Nat → Int32} {o0 o1 p0 p1 : Option (List (Int32 × Int32))} {a b : Int32} (ha : a = b) (hJ : ∀ q, q < t → J q = J' q) (e0 : o0 = p0) (e1 : o1 = p1) : a ^^^ hSw (boxT np nf nr P F R T J t t o0 o1) (pasV (fitT np nf P F T J t t o0) (boxT np nf nr P F R T J t t o0 o1)) K = b ^^^ bsV np nf nr P F R T J' t p0 p1 K := by
  subst e0 e1 ha
  unfold bsV
  rw [fitT_congr (P := P) (F := F) (T := T) (J := J) (J' := J') (fun _ _ _ _ => rfl) (fun _ _ _ _ => rfl) (fun _ _ _ _ => rfl) hJ, boxT_congr (P := P) (F := F) (R := R) (T := T) (J := J) (J' := J') (fun _ _ _ _ => rfl) (fun _ _ _ _ => rfl) (fun _ _ _ _ => rfl) (fun _ _ _ _ => rfl) hJ]
theorem bes_end {np nf nr t : Nat} {P F R T : Nat → Nat → Int32} {J J' K : Nat → Int32} {o0 o1 p0 p1 : Option (List (Int32 × Int32))} {a b x y : Int32} (hx : x = hSw (boxT np nf nr P F R T J t t o0 o1) (pasV (fitT np nf P F T J t t o0) (boxT np nf nr P F R T J t t o0 o1)) K) (hy : y = a) (ha : a = b) (hJ : ∀ q, q < t → J q = J' q) (e0 : o0 = p0) (e1 : o1 = p1) : x ^^^ y = b ^^^ bsV np nf nr P F R T J' t p0 p1 K := by
  rw [hx, hy, Int32.xor_comm]
  exact bs_end ha hJ e0 e1
theorem bsV_congr {np nf nr t : Nat} {P P' F F' R R' T T' : Nat → Nat → Int32} {J J' K K' : Nat → Int32} {o o' : Option (List (Int32 × Int32))} (hP : ∀ p, p < np → ∀ c, c < 4 → P p c = P' p c) (hF : ∀ i, i < nf → ∀ c, c < 3 → F i c = F' i c) (hR : ∀ i, i < nr → ∀ c, c < 3 → R i c = R' i c) (hT : ∀ q, q ≤ t → ∀ c, c < 10 → T q c = T' q c) (hJ : ∀ q, q < t → J q = J' q) (hK : ∀ c, c < 70 → K c = K' c) : bsV np nf nr P F R T J t o o' K = bsV np nf nr P' F' R' T' J' t o o' K' := by
  unfold bsV
  rw [fitT_congr (o := o) hP hF hT hJ, boxT_congr (o := o) (o' := o') hP hF hR hT hJ]
  exact (h_congr hK).2.2.2.2.2.2 _
set_option maxHeartbeats 4000000 in
set_option maxRecDepth 100000 in
theorem e_become2 (l : Launch) (G : gW) (g : Nat → Nat) (hg : gOK g) (f : Nat → va_E) (ab : Int64) (be : Int64) (S : Nat) (T : Nat) (hfc6 : f 6 = eO 2 [.long ab, .long be]) (hSb : S < 2 ^ 63) (hTb : T < 2 ^ 63) : Met l yX2_become (wsT yX2_become cX2_become 7 (some .int)) ({ frames := 1, cells := 0, slots := 0, locals := 30 }) (bP G g f [.ref (g 6), .long (lN S), .long (lN T)]) (bQi G g (fun (z9 : Int32) (f' : Nat → va_E) => ∃ ab9 : Int64, ∃ be9 : Int64, z9 = zo2 S T ∧ f' 6 = eO 2 [.long ab9, .long be9] ∧ ∀ j, j ≠ 6 → f' j = f j)) 0 0 (gA g) := by
  refine Met.ofW (cc := cX2_become) (maxL := 7) (ret := (some .int)) (by decide) rfl ?_
  intro p e s m args below meth c s₁ B hml hv
  obtain ⟨rfl, hP, hG⟩ := hv
  have hx := B.exec
  have hb := B.bytes
  have hr := B.returns
  have hts := my_hts (atoms_spec (ws := wsT yX2_become cX2_become 7 (some .int)) B.pre)
  have hown : s.vm.findClass RX2 = some m.cls := findClass_of_methodNamed B.named
  have hlocks := B.notSynchronized
  have hS : va_S (gA g) s.heap s.heap [] := va_S.rf
  have hl := lv_entry ([.ref (g 6), .long (lN S), .long (lN T)]) (n := 7) (Nat.le_of_ble_eq_true rfl)
  rw [lg_entry_eq]
  generalize (lg_sl ([.ref (g 6), .long (lN S), .long (lN T)]) ++ List.replicate (7 - (lg_sl ([.ref (g 6), .long (lN S), .long (lN T)])).length) Slot.unset).toArray = ls at hl ⊢
  have hl : lv_has ls 7 [(0, .ref (g 6)), (1, .long (lN S)), (3, .long (lN T))] := hl
  refine W_q8 (fun Q9 hQ9 => ?_)
  refine lv_lload_n hx hb dX2_become_0 rfl (lv_at hl 1 rfl) ?_
  refine lv_lload_n hx hb dX2_become_1 rfl (lv_at hl 2 rfl) ?_
  refine rd_calll (va_runS (As := [.long (lN S), .long (lN T)]) (rest := []) ⟨hx, hb, hml, hown, hts⟩ (e_cdv l G g hg f S T  (by first | assumption | omega | decide) (by first | assumption | omega | decide)) (my_cwS hts ok_X2_commonDivisor w_768 rfl rfl ⟨Nat.le_of_ble_eq_true rfl, Nat.le_of_ble_eq_true rfl⟩) ⟨bP.blind, fun U hU hW => ⟨rfl, by rw [hU]; exact hP, kG.warm hW hG⟩⟩ rfl rfl hl.1 rfl (lv_room (Nat.le_of_ble_eq_true rfl)) dX2_become_2 ⟨Nat.le_of_ble_eq_true rfl, Nat.le_of_ble_eq_true rfl⟩) (fun r hr9 => ?_)
  subst hr9
  refine lv_lstore (lv' := [(5, .long (lN (cdv 200 S T))), (0, .ref (g 6)), (1, .long (lN S)), (3, .long (lN T))]) hx hb dX2_become_5 hl (by decide) rfl (fun ls hl => ?_)
  refine lv_lload_n hx hb dX2_become_7 rfl (lv_at hl 2 rfl) ?_
  refine lv_lconst (v := 0) hx hb dX2_become_8 (by decide) ?_
  refine W.lcmp hx hb dX2_become_9 ?_
  have hgb : cdv 200 S T < 2 ^ 63 := cdv_b _ _ _ _ hSb hTb
  refine lv_if_le (tgt := 26) hx hb dX2_become_10 (by decide) (fun c_10 => ?_) (fun c_10 => ?_)
  · refine lv_aload_n hx hb dX2_become_26 rfl (lv_at hl 1 rfl) ?_
    refine lv_lconst (v := 0) hx hb dX2_become_27 (by decide) ?_
    refine va_put (D := G.1) (ci := 2) (v := .long 0) (ty := .long) (C := RX2) (T := TX2) (N := 2) hx hb hts inlX2 tyX2 tyX2_ok nmX2 hown hG.1 hP (wl_D hg f) hS 6 (wl_at (by decide) hfc6) rfl 0 (by decide) (hts (.fieldLink RX2 7 "SwornLists$Fraction" "above" "J") w_99) (fun _ h9 => h9) rfl (by decide +kernel) rfl rfl (Nat.le_of_ble_eq_true rfl) dX2_become_28 (fun H locs hP _ hS => ?_)
    obtain ⟨f_1, hP, e_1, o_1⟩ := b_put (by decide) hP
    have hfc6 : f_1 6 = eO 2 [.long 0, .long be] := e_1
    refine lv_aload_n hx hb dX2_become_31 rfl (lv_at hl 1 rfl) ?_
    refine lv_lconst (v := 1) hx hb dX2_become_32 (by decide) ?_
    refine va_put (D := G.1) (ci := 2) (v := .long 1) (ty := .long) (C := RX2) (T := TX2) (N := 2) hx hb hts inlX2 tyX2 tyX2_ok nmX2 hown hG.1 hP (wl_D hg f_1) hS 6 (wl_at (by decide) hfc6) rfl 1 (by decide) (hts (.fieldLink RX2 13 "SwornLists$Fraction" "below" "J") w_100) (fun _ h9 => h9) rfl (by decide +kernel) rfl rfl (Nat.le_of_ble_eq_true rfl) dX2_become_33 (fun H locs hP _ hS => ?_)
    obtain ⟨f_2, hP, e_2, o_2⟩ := b_put (by decide) hP
    have hfc6 : f_2 6 = eO 2 [.long 0, .long 1] := e_2
    refine lv_iconst (v := 0) hx hb dX2_become_36 (by decide) ?_
    refine W_q9 hQ9 ?_
    exact W.iret (v := 0) hx hb hr (fun _ hT9 _ => ⟨⟨_, f_2, rfl, (⟨0, 1, (show zo2 S T = 0 from if_pos (Or.inl ((lcl hSb).mp c_10))).symm, hfc6, fun j hj => ((o_2 j (by omega))).trans (o_1 j (by omega))⟩), by rw [hT9]; exact hP⟩, hS.F hT9⟩) hS.2.2 dX2_become_37
  · refine lv_lload_n hx hb dX2_become_13 rfl (lv_at hl 3 rfl) ?_
    refine lv_lconst (v := 0) hx hb dX2_become_14 (by decide) ?_
    refine W.lcmp hx hb dX2_become_15 ?_
    refine lv_if_le (tgt := 26) hx hb dX2_become_16 (by decide) (fun c_16 => ?_) (fun c_16 => ?_)
    · refine lv_aload_n hx hb dX2_become_26 rfl (lv_at hl 1 rfl) ?_
      refine lv_lconst (v := 0) hx hb dX2_become_27 (by decide) ?_
      refine va_put (D := G.1) (ci := 2) (v := .long 0) (ty := .long) (C := RX2) (T := TX2) (N := 2) hx hb hts inlX2 tyX2 tyX2_ok nmX2 hown hG.1 hP (wl_D hg f) hS 6 (wl_at (by decide) hfc6) rfl 0 (by decide) (hts (.fieldLink RX2 7 "SwornLists$Fraction" "above" "J") w_99) (fun _ h9 => h9) rfl (by decide +kernel) rfl rfl (Nat.le_of_ble_eq_true rfl) dX2_become_28 (fun H locs hP _ hS => ?_)
      obtain ⟨f_3, hP, e_3, o_3⟩ := b_put (by decide) hP
      have hfc6 : f_3 6 = eO 2 [.long 0, .long be] := e_3
      refine lv_aload_n hx hb dX2_become_31 rfl (lv_at hl 1 rfl) ?_
      refine lv_lconst (v := 1) hx hb dX2_become_32 (by decide) ?_
      refine va_put (D := G.1) (ci := 2) (v := .long 1) (ty := .long) (C := RX2) (T := TX2) (N := 2) hx hb hts inlX2 tyX2 tyX2_ok nmX2 hown hG.1 hP (wl_D hg f_3) hS 6 (wl_at (by decide) hfc6) rfl 1 (by decide) (hts (.fieldLink RX2 13 "SwornLists$Fraction" "below" "J") w_100) (fun _ h9 => h9) rfl (by decide +kernel) rfl rfl (Nat.le_of_ble_eq_true rfl) dX2_become_33 (fun H locs hP _ hS => ?_)
      obtain ⟨f_4, hP, e_4, o_4⟩ := b_put (by decide) hP
      have hfc6 : f_4 6 = eO 2 [.long 0, .long 1] := e_4
      refine lv_iconst (v := 0) hx hb dX2_become_36 (by decide) ?_
      refine W_q9 hQ9 ?_
      exact W.iret (v := 0) hx hb hr (fun _ hT9 _ => ⟨⟨_, f_4, rfl, (⟨0, 1, (show zo2 S T = 0 from if_pos (Or.inr ((lcl hTb).mp c_16))).symm, hfc6, fun j hj => ((o_4 j (by omega))).trans (o_3 j (by omega))⟩), by rw [hT9]; exact hP⟩, hS.F hT9⟩) hS.2.2 dX2_become_37
    · have hS0 : 0 < S := by
        have h : ¬ S = 0 := fun z => c_10 ((lcl hSb).mpr z)
        omega
      have hg0 : 0 < cdv 200 S T := cdv_p _ _ _ hS0
      refine lv_lload hx hb dX2_become_19 (lv_at hl 0 rfl) ?_
      refine lv_lconst (v := 0) hx hb dX2_become_21 (by decide) ?_
      refine W.lcmp hx hb dX2_become_22 ?_
      refine lv_if_gt (tgt := 38) hx hb dX2_become_23 (by decide) (fun c_23 => ?_) (fun c_23 => absurd ((lcg hgb).mpr hg0) c_23)
      refine lv_aload_n hx hb dX2_become_38 rfl (lv_at hl 1 rfl) ?_
      refine lv_lload_n hx hb dX2_become_39 rfl (lv_at hl 2 rfl) ?_
      refine lv_lload hx hb dX2_become_40 (lv_at hl 0 rfl) ?_
      refine lv_ldiv hx hb dX2_become_42 (lN_ne0 hg0 hgb) ?_
      refine va_put (D := G.1) (ci := 2) (v := .long ((lN S) / (lN (cdv 200 S T)))) (ty := .long) (C := RX2) (T := TX2) (N := 2) hx hb hts inlX2 tyX2 tyX2_ok nmX2 hown hG.1 hP (wl_D hg f) hS 6 (wl_at (by decide) hfc6) rfl 0 (by decide) (hts (.fieldLink RX2 7 "SwornLists$Fraction" "above" "J") w_99) (fun _ h9 => h9) rfl (by decide +kernel) rfl rfl (Nat.le_of_ble_eq_true rfl) dX2_become_43 (fun H locs hP _ hS => ?_)
      obtain ⟨f_5, hP, e_5, o_5⟩ := b_put (by decide) hP
      have hfc6 : f_5 6 = eO 2 [.long ((lN S) / (lN (cdv 200 S T))), .long be] := e_5
      refine lv_aload_n hx hb dX2_become_46 rfl (lv_at hl 1 rfl) ?_
      refine lv_lload_n hx hb dX2_become_47 rfl (lv_at hl 3 rfl) ?_
      refine lv_lload hx hb dX2_become_48 (lv_at hl 0 rfl) ?_
      refine lv_ldiv hx hb dX2_become_50 (lN_ne0 hg0 hgb) ?_
      refine va_put (D := G.1) (ci := 2) (v := .long ((lN T) / (lN (cdv 200 S T)))) (ty := .long) (C := RX2) (T := TX2) (N := 2) hx hb hts inlX2 tyX2 tyX2_ok nmX2 hown hG.1 hP (wl_D hg f_5) hS 6 (wl_at (by decide) hfc6) rfl 1 (by decide) (hts (.fieldLink RX2 13 "SwornLists$Fraction" "below" "J") w_100) (fun _ h9 => h9) rfl (by decide +kernel) rfl rfl (Nat.le_of_ble_eq_true rfl) dX2_become_51 (fun H locs hP _ hS => ?_)
      obtain ⟨f_6, hP, e_6, o_6⟩ := b_put (by decide) hP
      have hfc6 : f_6 6 = eO 2 [.long ((lN S) / (lN (cdv 200 S T))), .long ((lN T) / (lN (cdv 200 S T)))] := e_6
      refine lv_iconst (v := 1) hx hb dX2_become_54 (by decide) ?_
      refine W_q9 hQ9 ?_
      exact W.iret (v := 1) hx hb hr (fun _ hT9 _ => ⟨⟨_, f_6, rfl, (⟨((lN S) / (lN (cdv 200 S T))), ((lN T) / (lN (cdv 200 S T))), (show zo2 S T = 1 from if_neg (fun z => z.elim (fun q => c_10 ((lcl hSb).mpr q)) (fun q => c_16 ((lcl hTb).mpr q)))).symm, hfc6, fun j hj => ((o_6 j (by omega))).trans (o_5 j (by omega))⟩), by rw [hT9]; exact hP⟩, hS.F hT9⟩) hS.2.2 dX2_become_55
set_option maxHeartbeats 4000000 in
set_option maxRecDepth 100000 in
theorem e_gcd (l : Launch) (G : gW) (g : Nat → Nat) (hg : gOK g) (f : Nat → va_E) (S : Nat) (T : Nat)  (hSb : S < 2 ^ 63) (hTb : T < 2 ^ 63) : Met l yX11_divisor (wsT yX11_divisor cX11_divisor 10 (some .long)) ({ frames := 0, cells := 0, slots := 0, locals := 0 }) (bP G g f [.long (lN S), .long (lN T)]) (rQl (fun z9 => z9 = lN (Nat.gcd S T))) 0 0 fr0 := by
  refine Met.ofW (cc := cX11_divisor) (maxL := 10) (ret := (some .long)) (by decide) rfl ?_
  intro p e s m args below meth c s₁ B hml hv
  obtain ⟨rfl, hP, hG⟩ := hv
  have hx := B.exec
  have hb := B.bytes
  have hr := B.returns
  have hts := my_hts (atoms_spec (ws := wsT yX11_divisor cX11_divisor 10 (some .long)) B.pre)
  have hown : s.vm.findClass RX11 = some m.cls := findClass_of_methodNamed B.named
  have hlocks := B.notSynchronized
  have hl := lv_entry ([.long (lN S), .long (lN T)]) (n := 10) (Nat.le_of_ble_eq_true rfl)
  rw [lg_entry_eq]
  generalize (lg_sl ([.long (lN S), .long (lN T)]) ++ List.replicate (10 - (lg_sl ([.long (lN S), .long (lN T)])).length) Slot.unset).toArray = ls at hl ⊢
  have hl : lv_has ls 10 [(0, .long (lN S)), (2, .long (lN T))] := hl
  refine W_q8 (fun Q9 hQ9 => ?_)
  refine lv_lload_n hx hb dX11_divisor_0 rfl (lv_at hl 0 rfl) ?_
  refine lv_lstore (lv' := [(4, .long (lN S)), (0, .long (lN S)), (2, .long (lN T))]) hx hb dX11_divisor_1 hl (by decide) rfl (fun ls hl => ?_)
  refine lv_lload_n hx hb dX11_divisor_3 rfl (lv_at hl 2 rfl) ?_
  refine lv_lstore (lv' := [(6, .long (lN T)), (4, .long (lN S)), (0, .long (lN S)), (2, .long (lN T))]) hx hb dX11_divisor_4 hl (by decide) rfl (fun ls hl => ?_)
  have key1 : ∀ (n9_1 : Nat) (x : Nat) (y : Nat) (ls : Array Slot), (x < 2 ^ 63) → (y < 2 ^ 63) → (Nat.gcd x y = Nat.gcd S T) → y < n9_1 → lv_has ls 10 [(4, .long (lN x)), (6, .long (lN y))] → W p l e (headSpec (wsT yX11_divisor cX11_divisor 10 (some .long)) ({ frames := 0, cells := 0, slots := 0, locals := 0 })).room s m ([.long (lN S), .long (lN T)] : List Value).toArray below meth c s.heap [] 0 0 Q9 (F0 m 6 ls []) := by
    intro n9_1
    induction n9_1 with
    | zero => intro x y ls hxb hyb hv9 hn9_1; exact absurd hn9_1 (Nat.not_lt_zero _)
    | succ n9_1 ih_1 =>
      intro x y ls hxb hyb hv9 hn9_1 hl
      refine lv_lload hx hb dX11_divisor_6 (lv_at hl 1 rfl) ?_
      refine lv_lconst (v := 0) hx hb dX11_divisor_8 (by decide) ?_
      refine W.lcmp hx hb dX11_divisor_9 ?_
      refine lv_if_eq (tgt := 31) hx hb dX11_divisor_10 (by decide) (fun c_10 => ?_) (fun c_10 => ?_)
      · refine lv_lload hx hb dX11_divisor_31 (lv_at hl 0 rfl) ?_
        refine W_q9 hQ9 ?_
        exact W.lret (v := lN x) hx hb hr (fun _ hT9 _ => ⟨_, rfl, (by have h : y = 0 := (lcz hyb).mp c_10; subst h; rw [← hv9, Nat.gcd_zero_right]), hT9⟩) (fun _ h => absurd h List.not_mem_nil) dX11_divisor_33
      · have hy0 : 0 < y := by
          have h : ¬ y = 0 := fun z => c_10 ((lcz hyb).mpr z)
          omega
        refine lv_lload hx hb dX11_divisor_13 (lv_at hl 0 rfl) ?_
        refine lv_lload hx hb dX11_divisor_15 (lv_at hl 1 rfl) ?_
        refine lv_lrem hx hb dX11_divisor_17 (lN_ne0 hy0 hyb) ?_
        refine my_bel (v := lN (x % y)) (pk_lRem hxb hy0 hyb) ?_
        refine lv_lstore (lv' := [(8, .long (lN (x % y))), (4, .long (lN x)), (6, .long (lN y))]) hx hb dX11_divisor_18 hl (by decide) rfl (fun ls hl => ?_)
        refine lv_lload hx hb dX11_divisor_20 (lv_at hl 2 rfl) ?_
        refine lv_lstore (lv' := [(4, .long (lN y)), (8, .long (lN (x % y))), (6, .long (lN y))]) hx hb dX11_divisor_22 hl (by decide) rfl (fun ls hl => ?_)
        refine lv_lload hx hb dX11_divisor_24 (lv_at hl 1 rfl) ?_
        refine lv_lstore (lv' := [(6, .long (lN (x % y))), (4, .long (lN y)), (8, .long (lN (x % y)))]) hx hb dX11_divisor_26 hl (by decide) rfl (fun ls hl => ?_)
        refine lv_goto (tgt := 6) hx hb dX11_divisor_28 (by decide) ?_
        exact ih_1 y (x % y) _ (hyb) (Nat.lt_trans (Nat.mod_lt _ hy0) hyb) (by rw [← hv9, Nat.gcd_comm x y, Nat.gcd_rec y x, Nat.gcd_comm]) (by have := Nat.mod_lt x hy0; omega) (lv_sub hl [1, 0] rfl)
  exact key1 (T + 1) S T _ (hSb) (hTb) (rfl) (by omega) (lv_sub hl [1, 0] rfl)
set_option maxHeartbeats 4000000 in
set_option maxRecDepth 100000 in
theorem e_told2 (l : Launch) (G : gW) (g : Nat → Nat) (hg : gOK g) (f : Nat → va_E) (ab2 : Int64) (be2 : Int64) (sn : Int32) (wn : Int32) (sa : Int32) (ly : Int32) (rdy : Int32) (fd : Nat) (S : Nat) (T : Nat) (hmo : f 315 = eO 10 [.ref (g 316), .ref (g 317), .ref (g 318), .long ab2, .long be2, .int sn, .ref (g 319), .ref (g 320), .int wn, .ref (g 321), .ref (g 322), .int sa, .int ly, .int rdy, .int (nI fd), .ref (g 323), .ref (g 324), .ref (g 325), .ref (g 326), .ref (g 327), .ref (g 328), .ref (g 329), .ref (g 330), .ref (g 331), .ref (g 332)]) (hSb : S < 2 ^ 63) (hTb : T < 2 ^ 63) : Met l yX11_told (wsT yX11_told cX11_told 7 (some .int)) ({ frames := 1, cells := 0, slots := 0, locals := 29 }) (bP G g f [.ref (g 315), .long (lN S), .long (lN T)]) (bQi G g (fun (z9 : Int32) (f' : Nat → va_E) => ∃ ab9 : Int64, ∃ be9 : Int64, z9 = zo2 S T ∧ f' 315 = eO 10 [.ref (g 316), .ref (g 317), .ref (g 318), .long ab9, .long be9, .int sn, .ref (g 319), .ref (g 320), .int wn, .ref (g 321), .ref (g 322), .int sa, .int ly, .int rdy, .int (nI fd), .ref (g 323), .ref (g 324), .ref (g 325), .ref (g 326), .ref (g 327), .ref (g 328), .ref (g 329), .ref (g 330), .ref (g 331), .ref (g 332)] ∧ ∀ j, j ≠ 315 → f' j = f j)) 0 0 (gA g) := by
  refine Met.ofW (cc := cX11_told) (maxL := 7) (ret := (some .int)) (by decide) rfl ?_
  intro p e s m args below meth c s₁ B hml hv
  obtain ⟨rfl, hP, hG⟩ := hv
  have hx := B.exec
  have hb := B.bytes
  have hr := B.returns
  have hts := my_hts (atoms_spec (ws := wsT yX11_told cX11_told 7 (some .int)) B.pre)
  have hown : s.vm.findClass RX11 = some m.cls := findClass_of_methodNamed B.named
  have hlocks := B.notSynchronized
  have hS : va_S (gA g) s.heap s.heap [] := va_S.rf
  have hl := lv_entry ([.ref (g 315), .long (lN S), .long (lN T)]) (n := 7) (Nat.le_of_ble_eq_true rfl)
  rw [lg_entry_eq]
  generalize (lg_sl ([.ref (g 315), .long (lN S), .long (lN T)]) ++ List.replicate (7 - (lg_sl ([.ref (g 315), .long (lN S), .long (lN T)])).length) Slot.unset).toArray = ls at hl ⊢
  have hl : lv_has ls 7 [(0, .ref (g 315)), (1, .long (lN S)), (3, .long (lN T))] := hl
  refine W_q8 (fun Q9 hQ9 => ?_)
  refine lv_lload_n hx hb dX11_told_0 rfl (lv_at hl 1 rfl) ?_
  refine lv_lconst (v := 0) hx hb dX11_told_1 (by decide) ?_
  refine W.lcmp hx hb dX11_told_2 ?_
  refine lv_if_eq (tgt := 12) hx hb dX11_told_3 (by decide) (fun c_3 => ?_) (fun c_3 => ?_)
  · refine lv_iconst (v := 0) hx hb dX11_told_12 (by decide) ?_
    refine W_q9 hQ9 ?_
    exact W.iret (v := 0) hx hb hr (fun _ hT9 _ => ⟨⟨_, f, rfl, (⟨ab2, be2, (show zo2 S T = 0 from if_pos (Or.inl ((lcz hSb).mp c_3))).symm, hmo, fun j hj => rfl⟩), by rw [hT9]; exact hP⟩, hS.F hT9⟩) hS.2.2 dX11_told_13
  · refine lv_lload_n hx hb dX11_told_6 rfl (lv_at hl 2 rfl) ?_
    refine lv_lconst (v := 0) hx hb dX11_told_7 (by decide) ?_
    refine W.lcmp hx hb dX11_told_8 ?_
    refine lv_if_ne (tgt := 14) hx hb dX11_told_9 (by decide) (fun c_9 => ?_) (fun c_9 => ?_)
    · have hS0 : 0 < S := by
        have h : ¬ S = 0 := fun z => c_3 ((lcz hSb).mpr z)
        omega
      have hg0 : 0 < Nat.gcd S T := Nat.gcd_pos_of_pos_left _ hS0
      have hgb : Nat.gcd S T < 2 ^ 63 := Nat.lt_of_le_of_lt (Nat.le_of_dvd hS0 (Nat.gcd_dvd_left S T)) hSb
      refine lv_lload_n hx hb dX11_told_14 rfl (lv_at hl 1 rfl) ?_
      refine lv_lload_n hx hb dX11_told_15 rfl (lv_at hl 2 rfl) ?_
      refine rd_calll (va_runS (As := [.long (lN S), .long (lN T)]) (rest := []) ⟨hx, hb, hml, hown, hts⟩ (e_gcd l G g hg f S T  (by first | assumption | omega | decide) (by first | assumption | omega | decide)) (my_cwS hts ok_X11_divisor w_784 rfl rfl ⟨Nat.le_of_ble_eq_true rfl, Nat.le_of_ble_eq_true rfl⟩) ⟨bP.blind, fun U hU hW => ⟨rfl, by rw [hU]; exact hP, kG.warm hW hG⟩⟩ rfl rfl hl.1 rfl (lv_room (Nat.le_of_ble_eq_true rfl)) dX11_told_16 ⟨Nat.le_of_ble_eq_true rfl, Nat.le_of_ble_eq_true rfl⟩) (fun r hr9 => ?_)
      subst hr9
      refine lv_lstore (lv' := [(5, .long (lN (Nat.gcd S T))), (0, .ref (g 315)), (1, .long (lN S)), (3, .long (lN T))]) hx hb dX11_told_19 hl (by decide) rfl (fun ls hl => ?_)
      refine lv_aload_n hx hb dX11_told_21 rfl (lv_at hl 1 rfl) ?_
      refine lv_lload_n hx hb dX11_told_22 rfl (lv_at hl 2 rfl) ?_
      refine lv_lload hx hb dX11_told_23 (lv_at hl 0 rfl) ?_
      refine lv_ldiv hx hb dX11_told_25 (lN_ne0 hg0 hgb) ?_
      refine va_put (D := G.1) (ci := 10) (v := .long ((lN S) / (lN (Nat.gcd S T)))) (ty := .long) (C := RX11) (T := TX11) (N := 25) hx hb hts inlX11 tyX11 tyX11_ok nmX11 hown hG.1 hP (wl_D hg f) hS 315 (wl_at (by decide) hmo) rfl 3 (by decide) (hts (.fieldLink RX11 238 "SwornListsModel" "above" "J") w_783) (fun _ h9 => h9) rfl (by decide +kernel) rfl rfl (Nat.le_of_ble_eq_true rfl) dX11_told_26 (fun H locs hP _ hS => ?_)
      obtain ⟨f_1, hP, e_1, o_1⟩ := b_put (by decide) hP
      have hmo : f_1 315 = eO 10 [.ref (g 316), .ref (g 317), .ref (g 318), .long ((lN S) / (lN (Nat.gcd S T))), .long be2, .int sn, .ref (g 319), .ref (g 320), .int wn, .ref (g 321), .ref (g 322), .int sa, .int ly, .int rdy, .int (nI fd), .ref (g 323), .ref (g 324), .ref (g 325), .ref (g 326), .ref (g 327), .ref (g 328), .ref (g 329), .ref (g 330), .ref (g 331), .ref (g 332)] := e_1
      refine lv_aload_n hx hb dX11_told_29 rfl (lv_at hl 1 rfl) ?_
      refine lv_lload_n hx hb dX11_told_30 rfl (lv_at hl 3 rfl) ?_
      refine lv_lload hx hb dX11_told_31 (lv_at hl 0 rfl) ?_
      refine lv_ldiv hx hb dX11_told_33 (lN_ne0 hg0 hgb) ?_
      refine va_put (D := G.1) (ci := 10) (v := .long ((lN T) / (lN (Nat.gcd S T)))) (ty := .long) (C := RX11) (T := TX11) (N := 25) hx hb hts inlX11 tyX11 tyX11_ok nmX11 hown hG.1 hP (wl_D hg f_1) hS 315 (wl_at (by decide) hmo) rfl 4 (by decide) (hts (.fieldLink RX11 63 "SwornListsModel" "below" "J") w_129) (fun _ h9 => h9) rfl (by decide +kernel) rfl rfl (Nat.le_of_ble_eq_true rfl) dX11_told_34 (fun H locs hP _ hS => ?_)
      obtain ⟨f_2, hP, e_2, o_2⟩ := b_put (by decide) hP
      have hmo : f_2 315 = eO 10 [.ref (g 316), .ref (g 317), .ref (g 318), .long ((lN S) / (lN (Nat.gcd S T))), .long ((lN T) / (lN (Nat.gcd S T))), .int sn, .ref (g 319), .ref (g 320), .int wn, .ref (g 321), .ref (g 322), .int sa, .int ly, .int rdy, .int (nI fd), .ref (g 323), .ref (g 324), .ref (g 325), .ref (g 326), .ref (g 327), .ref (g 328), .ref (g 329), .ref (g 330), .ref (g 331), .ref (g 332)] := e_2
      refine lv_iconst (v := 1) hx hb dX11_told_37 (by decide) ?_
      refine W_q9 hQ9 ?_
      exact W.iret (v := 1) hx hb hr (fun _ hT9 _ => ⟨⟨_, f_2, rfl, (⟨((lN S) / (lN (Nat.gcd S T))), ((lN T) / (lN (Nat.gcd S T))), (show zo2 S T = 1 from if_neg (fun z => z.elim (fun q => c_3 ((lcz hSb).mpr q)) (fun q => c_9 ((lcz hTb).mpr q)))).symm, hmo, fun j hj => ((o_2 j (by omega))).trans (o_1 j (by omega))⟩), by rw [hT9]; exact hP⟩, hS.F hT9⟩) hS.2.2 dX11_told_38
    · refine lv_iconst (v := 0) hx hb dX11_told_12 (by decide) ?_
      refine W_q9 hQ9 ?_
      exact W.iret (v := 0) hx hb hr (fun _ hT9 _ => ⟨⟨_, f, rfl, (⟨ab2, be2, (show zo2 S T = 0 from if_pos (Or.inr ((lcz hTb).mp c_9))).symm, hmo, fun j hj => rfl⟩), by rw [hT9]; exact hP⟩, hS.F hT9⟩) hS.2.2 dX11_told_13


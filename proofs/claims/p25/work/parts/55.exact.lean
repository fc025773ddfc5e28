def wv (A T : Nat) : Nat → Nat
  | 0 => 1
  | c + 1 => wv A T c * (A - T + (c + 1)) / (c + 1)
def wz (A T : Nat) : Nat := if T ≤ A then wv A T T else 0
def wchk : Bool := (List.range 41).all fun A => (List.range (A + 1)).all fun T => (List.range (T + 1)).all fun c => Nat.ble (wv A T c) (2 ^ A) && Nat.ble 1 (wv A T c)
theorem wchk_ok : wchk = true := by decide +kernel
theorem wv_b {A T c : Nat} (hA : A ≤ 40) (hT : T ≤ A) (hc : c ≤ T) : wv A T c ≤ 2 ^ A ∧ 1 ≤ wv A T c := by
  have h1 := List.all_eq_true.mp wchk_ok A (List.mem_range.mpr (by omega))
  have h2 := List.all_eq_true.mp h1 T (List.mem_range.mpr (by omega))
  have h3 := List.all_eq_true.mp h2 c (List.mem_range.mpr (by omega))
  rw [Bool.and_eq_true] at h3
  exact ⟨Nat.le_of_ble_eq_true h3.1, Nat.le_of_ble_eq_true h3.2⟩
theorem pw40 {A : Nat} (hA : A ≤ 40) : 2 ^ A ≤ 1099511627776 := Nat.le_trans (Nat.pow_le_pow_right (by decide) hA) (by decide)
theorem wv_s {A T c : Nat} (hA : A ≤ 40) (hT : T ≤ A) (hc : c ≤ T) : wv A T c ≤ 1099511627776 := Nat.le_trans (wv_b hA hT hc).1 (pw40 hA)
theorem wz_b {A T : Nat} (hA : A ≤ 40) : wz A T ≤ 2 ^ A := by
  unfold wz
  split
  · rename_i h; exact (wv_b hA h (Nat.le_refl _)).1
  · exact Nat.zero_le _
theorem wz_p {A T : Nat} (hA : A ≤ 40) (hT : T ≤ A) : 0 < wz A T := by
  unfold wz; rw [if_pos hT]; exact (wv_b hA hT (Nat.le_refl _)).2
theorem wz_s {A T : Nat} (hA : A ≤ 40) : wz A T ≤ 1099511627776 := Nat.le_trans (wz_b hA) (pw40 hA)
theorem wz_m {N K i j : Nat} (hN : N ≤ 40) (hK : K ≤ N) : wz K i * wz (N - K) j ≤ 1099511627776 := by
  refine Nat.le_trans (Nat.mul_le_mul (wz_b (by omega)) (wz_b (by omega))) ?_
  rw [← Nat.pow_add, show K + (N - K) = N by omega]
  exact pw40 hN
theorem wv_m {A T c : Nat} (hA : A ≤ 40) (hT : T ≤ A) (hc : c ≤ T) : wv A T c * (A - T + (c + 1)) < 2 ^ 63 := by
  have h1 := wv_s hA hT hc
  have h2 : A - T + (c + 1) ≤ 41 := by omega
  have h3 := Nat.mul_le_mul h1 h2
  omega
def sm (N K M : Nat) : Nat → Nat → Nat → Nat
  | 0, _, acc => acc
  | f + 1, i, acc => if i ≤ M then sm N K M f (i + 1) (acc + wz K i * wz (N - K) (M - i)) else acc
theorem sm_end {N K M f i acc : Nat} (h : M < i) : sm N K M f i acc = acc := by
  cases f with
  | zero => rfl
  | succ f => show (if i ≤ M then _ else acc) = acc; rw [if_neg (by omega)]
theorem sm_step {N K M f i acc : Nat} (h : i ≤ M) : sm N K M (f + 1) i acc = sm N K M f (i + 1) (acc + wz K i * wz (N - K) (M - i)) := by
  show (if i ≤ M then _ else acc) = _; rw [if_pos h]
def chS (a b c d : Int32) : Nat := sm a.toNatClampNeg b.toNatClampNeg c.toNatClampNeg 42 d.toNatClampNeg 0
theorem lN_ne0 {n : Nat} (h : 0 < n) (hn : n < 2 ^ 63) : ¬ lN n = 0 := fun q => by
  have q2 : lN n = lN 0 := q
  have := (pk_lEQ hn (by decide)).mp q2
  omega
theorem inB_nat {x : Int32} {B : Nat} (hB : B < 2 ^ 31) (h : inB 0 x (nI B) = true) : ∃ n : Nat, n ≤ B ∧ x = nI n := by
  obtain ⟨h1, h2⟩ := of_decide_eq_true h
  exact nI_of2 (nI_toInt hB) (Int32.not_lt.mpr h1) h2
def cdv : Nat → Nat → Nat → Nat
  | 0, x, _ => x
  | f + 1, x, y => if y = 0 then x else cdv f y (x % y)
theorem cdv_0 {f x : Nat} : cdv f x 0 = x := by
  cases f with
  | zero => rfl
  | succ f => rfl
theorem cdv_s {f x y : Nat} (h : 0 < y) : cdv (f + 1) x y = cdv f y (x % y) := by
  show (if y = 0 then x else _) = _; rw [if_neg (by omega)]
theorem cdv_p : ∀ (f x y : Nat), 0 < x → 0 < cdv f x y := by
  intro f
  induction f with
  | zero => intro x y h; exact h
  | succ f ih =>
    intro x y h
    by_cases hy : y = 0
    · subst hy; rw [cdv_0]; exact h
    · rw [cdv_s (by omega)]; exact ih y _ (by omega)
theorem cdv_b : ∀ (f x y B : Nat), x < B → y < B → cdv f x y < B := by
  intro f
  induction f with
  | zero => intro x y B h _; exact h
  | succ f ih =>
    intro x y B h h2
    by_cases hy : y = 0
    · subst hy; rw [cdv_0]; exact h
    · rw [cdv_s (by omega)]; exact ih y _ B h2 (Nat.lt_trans (Nat.mod_lt _ (by omega)) h2)
theorem lcz {n : Nat} (hn : n < 2 ^ 63) : lg_cmp (lN n) 0 = 0 ↔ n = 0 := by
  rw [lg_cmp_eq]
  exact (pk_lEQ (b := 0) hn (by decide))
theorem lcg {n : Nat} (hn : n < 2 ^ 63) : 0 < lg_cmp (lN n) 0 ↔ 0 < n := by
  rw [lg_cmp_gt]
  exact (pk_lLT (a := 0) (by decide) hn)
theorem lcl {n : Nat} (hn : n < 2 ^ 63) : lg_cmp (lN n) 0 ≤ 0 ↔ n = 0 := by
  rw [lg_cmp_le]
  refine (pk_lLE (b := 0) hn (by decide)).trans ?_
  omega
def zo (S : Nat) : Int32 := if S = 0 then 0 else 1
def chA (a1 a2 a3 a4 : Int32) : Int32 := if (inB 0 a1 40 = true) ∧ (inB 0 a2 a1 = true) ∧ (inB 0 a3 a1 = true) ∧ (inB 0 a4 40 = true) then zo (chS a1 a2 a3 a4) else (-2)
set_option maxHeartbeats 4000000 in
set_option maxRecDepth 100000 in
theorem e_ways (l : Launch) (G : gW) (g : Nat → Nat) (hg : gOK g) (f : Nat → va_E) (A : Nat) (T : Nat)  (hA : A ≤ 40) (hT : T ≤ 40) : Met l yX10_ways (wsT yX10_ways cX10_ways 5 (some .long)) ({ frames := 0, cells := 0, slots := 0, locals := 0 }) (bP G g f [.int (nI A), .int (nI T)]) (rQl (fun z9 => z9 = lN (wz A T))) 0 0 fr0 := by
  refine Met.ofW (cc := cX10_ways) (maxL := 5) (ret := (some .long)) (by decide) rfl ?_
  intro p e s m args below meth c s₁ B hml hv
  obtain ⟨rfl, hP, hG⟩ := hv
  have hx := B.exec
  have hb := B.bytes
  have hr := B.returns
  have hts := my_hts (atoms_spec (ws := wsT yX10_ways cX10_ways 5 (some .long)) B.pre)
  have hown : s.vm.findClass RX10 = some m.cls := findClass_of_methodNamed B.named
  have hlocks := B.notSynchronized
  have hl := lv_entry ([.int (nI A), .int (nI T)]) (n := 5) (Nat.le_of_ble_eq_true rfl)
  rw [lg_entry_eq]
  generalize (lg_sl ([.int (nI A), .int (nI T)]) ++ List.replicate (5 - (lg_sl ([.int (nI A), .int (nI T)])).length) Slot.unset).toArray = ls at hl ⊢
  have hl : lv_has ls 5 [(0, .int (nI A)), (1, .int (nI T))] := hl
  refine lv_iload_n hx hb dX10_ways_0 rfl (lv_at hl 1 rfl) ?_
  refine lv_if_lt (tgt := 9) hx hb dX10_ways_1 (by decide) (fun c_1 => absurd c_1 (nI_pos (by omega))) (fun c_1 => ?_)
  refine lv_iload_n hx hb dX10_ways_4 rfl (lv_at hl 1 rfl) ?_
  refine lv_iload_n hx hb dX10_ways_5 rfl (lv_at hl 0 rfl) ?_
  refine lv_icmp_le (tgt := 11) hx hb dX10_ways_6 (by decide) (fun c_6 => ?_) (fun c_6 => ?_)
  · have hTA : T ≤ A := (nI_leI (by omega) (by omega)).mp c_6
    refine lv_lconst (v := 1) hx hb dX10_ways_11 (by decide) ?_
    refine lv_lstore_n (lv' := [(2, .long 1), (0, .int (nI A)), (1, .int (nI T))]) hx hb dX10_ways_12 rfl hl (by decide) rfl (fun ls hl => ?_)
    refine lv_iconst (v := 1) hx hb dX10_ways_13 (by decide) ?_
    refine lv_istore (lv' := [(4, .int 1), (2, .long 1), (0, .int (nI A)), (1, .int (nI T))]) hx hb dX10_ways_14 hl (by decide) rfl (fun ls hl => ?_)
    have key1 : ∀ (n9_1 : Nat) (k : Nat) (ls : Array Slot), (k ≤ T) → T - k < n9_1 → lv_has ls 5 [(0, .int (nI A)), (1, .int (nI T)), (2, .long (lN (wv A T k))), (4, .int (nI (k + 1)))] → W p l e (headSpec (wsT yX10_ways cX10_ways 5 (some .long)) ({ frames := 0, cells := 0, slots := 0, locals := 0 })).room s m ([.int (nI A), .int (nI T)] : List Value).toArray below meth c s.heap [] 0 0 (MQ below (rQl (fun z9 => z9 = lN (wz A T))) ([.int (nI A), .int (nI T)] : List Value).toArray s 0 0 fr0) (F0 m 16 ls []) := by
      intro n9_1
      induction n9_1 with
      | zero => intro k ls hk hn9_1; exact absurd hn9_1 (Nat.not_lt_zero _)
      | succ n9_1 ih_1 =>
        intro k ls hk hn9_1 hl
        refine lv_iload hx hb dX10_ways_16 (lv_at hl 3 rfl) ?_
        refine lv_iload_n hx hb dX10_ways_18 rfl (lv_at hl 1 rfl) ?_
        refine lv_icmp_gt (tgt := 42) hx hb dX10_ways_19 (by decide) (fun c_19 => ?_) (fun c_19 => ?_)
        · refine lv_lload_n hx hb dX10_ways_42 rfl (lv_at hl 2 rfl) ?_
          exact W.lret (v := lN (wv A T k)) hx hb hr (fun t ht hW => ⟨_, rfl, (by have h : T < k + 1 := (nI_ltI (by omega) (by omega)).mp c_19; have h2 : k = T := (by omega); subst h2; unfold wz; rw [if_pos hTA]), ht⟩) (fun _ h => absurd h List.not_mem_nil) dX10_ways_43
        · have hkT : k < T := by
            have h : ¬ T < k + 1 := fun z => c_19 (nI_lt z (by omega))
            omega
          refine lv_lload_n hx hb dX10_ways_22 rfl (lv_at hl 2 rfl) ?_
          refine lv_iload_n hx hb dX10_ways_23 rfl (lv_at hl 0 rfl) ?_
          refine lv_iload_n hx hb dX10_ways_24 rfl (lv_at hl 1 rfl) ?_
          refine lv_isub hx hb dX10_ways_25 ?_
          refine my_bei (v := nI (A - T)) (pk_sub hTA) ?_
          refine lv_iload hx hb dX10_ways_26 (lv_at hl 3 rfl) ?_
          refine lv_iadd hx hb dX10_ways_28 ?_
          refine my_bei (v := nI (A - T + (k + 1))) (nI_add _ _) ?_
          refine lv_i2l hx hb dX10_ways_29 rfl ?_
          refine my_bel (v := lN (A - T + (k + 1))) (nI_l (by omega)) ?_
          refine lv_lmul hx hb dX10_ways_30 ?_
          refine my_bel (v := lN (wv A T k * (A - T + (k + 1)))) (lN_mul _ _) ?_
          refine lv_iload hx hb dX10_ways_31 (lv_at hl 3 rfl) ?_
          refine lv_i2l hx hb dX10_ways_33 rfl ?_
          refine my_bel (v := lN (k + 1)) (nI_l (by omega)) ?_
          refine lv_ldiv hx hb dX10_ways_34 (lN_ne0 (by omega) (by omega)) ?_
          refine my_bel (v := lN (wv A T (k + 1))) (pk_lDiv (wv_m hA hTA hk) (by omega) (by omega)) ?_
          refine lv_lstore_n (lv' := [(2, .long (lN (wv A T (k + 1)))), (0, .int (nI A)), (1, .int (nI T)), (4, .int (nI (k + 1)))]) hx hb dX10_ways_35 rfl hl (by decide) rfl (fun ls hl => ?_)
          refine lv_iinc (v := nI (k + 1 + 1)) (lv' := [(4, .int (nI (k + 1 + 1))), (2, .long (lN (wv A T (k + 1)))), (0, .int (nI A)), (1, .int (nI T))]) hx hb dX10_ways_36 hl (k := 3) rfl (nI_1 (k + 1)) (by decide) rfl (fun ls hl => ?_)
          refine lv_goto (tgt := 16) hx hb dX10_ways_39 (by decide) ?_
          exact ih_1 (k + 1) _ (hkT) (by omega) (lv_sub hl [2, 3, 1, 0] rfl)
    exact key1 (T + 1) 0 _ (Nat.zero_le _) (by omega) (lv_sub hl [2, 3, 1, 0] rfl)
  · refine lv_lconst (v := 0) hx hb dX10_ways_9 (by decide) ?_
    exact W.lret (v := 0) hx hb hr (fun t ht hW => ⟨_, rfl, (by rw [show wz A T = 0 from if_neg (fun z => c_6 (nI_le z (by omega)))]; rfl), ht⟩) (fun _ h => absurd h List.not_mem_nil) dX10_ways_10
set_option maxHeartbeats 4000000 in
set_option maxRecDepth 100000 in
theorem e2_ways (l : Launch) (G : gW) (g : Nat → Nat) (hg : gOK g) (f : Nat → va_E) (A : Nat) (T : Nat)  (hA : A ≤ 40) (hT : T ≤ 40) : Met l yX11_ways (wsT yX11_ways cX11_ways 5 (some .long)) ({ frames := 0, cells := 0, slots := 0, locals := 0 }) (bP G g f [.int (nI A), .int (nI T)]) (rQl (fun z9 => z9 = lN (wz A T))) 0 0 fr0 := by
  refine Met.ofW (cc := cX11_ways) (maxL := 5) (ret := (some .long)) (by decide) rfl ?_
  intro p e s m args below meth c s₁ B hml hv
  obtain ⟨rfl, hP, hG⟩ := hv
  have hx := B.exec
  have hb := B.bytes
  have hr := B.returns
  have hts := my_hts (atoms_spec (ws := wsT yX11_ways cX11_ways 5 (some .long)) B.pre)
  have hown : s.vm.findClass RX11 = some m.cls := findClass_of_methodNamed B.named
  have hlocks := B.notSynchronized
  have hl := lv_entry ([.int (nI A), .int (nI T)]) (n := 5) (Nat.le_of_ble_eq_true rfl)
  rw [lg_entry_eq]
  generalize (lg_sl ([.int (nI A), .int (nI T)]) ++ List.replicate (5 - (lg_sl ([.int (nI A), .int (nI T)])).length) Slot.unset).toArray = ls at hl ⊢
  have hl : lv_has ls 5 [(0, .int (nI A)), (1, .int (nI T))] := hl
  refine lv_iload_n hx hb dX11_ways_0 rfl (lv_at hl 1 rfl) ?_
  refine lv_if_lt (tgt := 9) hx hb dX11_ways_1 (by decide) (fun c_1 => absurd c_1 (nI_pos (by omega))) (fun c_1 => ?_)
  refine lv_iload_n hx hb dX11_ways_4 rfl (lv_at hl 1 rfl) ?_
  refine lv_iload_n hx hb dX11_ways_5 rfl (lv_at hl 0 rfl) ?_
  refine lv_icmp_le (tgt := 11) hx hb dX11_ways_6 (by decide) (fun c_6 => ?_) (fun c_6 => ?_)
  · have hTA : T ≤ A := (nI_leI (by omega) (by omega)).mp c_6
    refine lv_lconst (v := 1) hx hb dX11_ways_11 (by decide) ?_
    refine lv_lstore_n (lv' := [(2, .long 1), (0, .int (nI A)), (1, .int (nI T))]) hx hb dX11_ways_12 rfl hl (by decide) rfl (fun ls hl => ?_)
    refine lv_iconst (v := 1) hx hb dX11_ways_13 (by decide) ?_
    refine lv_istore (lv' := [(4, .int 1), (2, .long 1), (0, .int (nI A)), (1, .int (nI T))]) hx hb dX11_ways_14 hl (by decide) rfl (fun ls hl => ?_)
    have key1 : ∀ (n9_1 : Nat) (k : Nat) (ls : Array Slot), (k ≤ T) → T - k < n9_1 → lv_has ls 5 [(0, .int (nI A)), (1, .int (nI T)), (2, .long (lN (wv A T k))), (4, .int (nI (k + 1)))] → W p l e (headSpec (wsT yX11_ways cX11_ways 5 (some .long)) ({ frames := 0, cells := 0, slots := 0, locals := 0 })).room s m ([.int (nI A), .int (nI T)] : List Value).toArray below meth c s.heap [] 0 0 (MQ below (rQl (fun z9 => z9 = lN (wz A T))) ([.int (nI A), .int (nI T)] : List Value).toArray s 0 0 fr0) (F0 m 16 ls []) := by
      intro n9_1
      induction n9_1 with
      | zero => intro k ls hk hn9_1; exact absurd hn9_1 (Nat.not_lt_zero _)
      | succ n9_1 ih_1 =>
        intro k ls hk hn9_1 hl
        refine lv_iload hx hb dX11_ways_16 (lv_at hl 3 rfl) ?_
        refine lv_iload_n hx hb dX11_ways_18 rfl (lv_at hl 1 rfl) ?_
        refine lv_icmp_gt (tgt := 42) hx hb dX11_ways_19 (by decide) (fun c_19 => ?_) (fun c_19 => ?_)
        · refine lv_lload_n hx hb dX11_ways_42 rfl (lv_at hl 2 rfl) ?_
          exact W.lret (v := lN (wv A T k)) hx hb hr (fun t ht hW => ⟨_, rfl, (by have h : T < k + 1 := (nI_ltI (by omega) (by omega)).mp c_19; have h2 : k = T := (by omega); subst h2; unfold wz; rw [if_pos hTA]), ht⟩) (fun _ h => absurd h List.not_mem_nil) dX11_ways_43
        · have hkT : k < T := by
            have h : ¬ T < k + 1 := fun z => c_19 (nI_lt z (by omega))
            omega
          refine lv_lload_n hx hb dX11_ways_22 rfl (lv_at hl 2 rfl) ?_
          refine lv_iload_n hx hb dX11_ways_23 rfl (lv_at hl 0 rfl) ?_
          refine lv_iload_n hx hb dX11_ways_24 rfl (lv_at hl 1 rfl) ?_
          refine lv_isub hx hb dX11_ways_25 ?_
          refine my_bei (v := nI (A - T)) (pk_sub hTA) ?_
          refine lv_iload hx hb dX11_ways_26 (lv_at hl 3 rfl) ?_
          refine lv_iadd hx hb dX11_ways_28 ?_
          refine my_bei (v := nI (A - T + (k + 1))) (nI_add _ _) ?_
          refine lv_i2l hx hb dX11_ways_29 rfl ?_
          refine my_bel (v := lN (A - T + (k + 1))) (nI_l (by omega)) ?_
          refine lv_lmul hx hb dX11_ways_30 ?_
          refine my_bel (v := lN (wv A T k * (A - T + (k + 1)))) (lN_mul _ _) ?_
          refine lv_iload hx hb dX11_ways_31 (lv_at hl 3 rfl) ?_
          refine lv_i2l hx hb dX11_ways_33 rfl ?_
          refine my_bel (v := lN (k + 1)) (nI_l (by omega)) ?_
          refine lv_ldiv hx hb dX11_ways_34 (lN_ne0 (by omega) (by omega)) ?_
          refine my_bel (v := lN (wv A T (k + 1))) (pk_lDiv (wv_m hA hTA hk) (by omega) (by omega)) ?_
          refine lv_lstore_n (lv' := [(2, .long (lN (wv A T (k + 1)))), (0, .int (nI A)), (1, .int (nI T)), (4, .int (nI (k + 1)))]) hx hb dX11_ways_35 rfl hl (by decide) rfl (fun ls hl => ?_)
          refine lv_iinc (v := nI (k + 1 + 1)) (lv' := [(4, .int (nI (k + 1 + 1))), (2, .long (lN (wv A T (k + 1)))), (0, .int (nI A)), (1, .int (nI T))]) hx hb dX11_ways_36 hl (k := 3) rfl (nI_1 (k + 1)) (by decide) rfl (fun ls hl => ?_)
          refine lv_goto (tgt := 16) hx hb dX11_ways_39 (by decide) ?_
          exact ih_1 (k + 1) _ (hkT) (by omega) (lv_sub hl [2, 3, 1, 0] rfl)
    exact key1 (T + 1) 0 _ (Nat.zero_le _) (by omega) (lv_sub hl [2, 3, 1, 0] rfl)
  · refine lv_lconst (v := 0) hx hb dX11_ways_9 (by decide) ?_
    exact W.lret (v := 0) hx hb hr (fun t ht hW => ⟨_, rfl, (by rw [show wz A T = 0 from if_neg (fun z => c_6 (nI_le z (by omega)))]; rfl), ht⟩) (fun _ h => absurd h List.not_mem_nil) dX11_ways_10
set_option maxHeartbeats 4000000 in
set_option maxRecDepth 100000 in
theorem e_cdv (l : Launch) (G : gW) (g : Nat → Nat) (hg : gOK g) (f : Nat → va_E) (S : Nat) (T : Nat)  (hSb : S < 2 ^ 63) (hTb : T < 2 ^ 63) : Met l yX2_commonDivisor (wsT yX2_commonDivisor cX2_commonDivisor 11 (some .long)) ({ frames := 0, cells := 0, slots := 0, locals := 0 }) (bP G g f [.long (lN S), .long (lN T)]) (rQl (fun z9 => z9 = lN (cdv 200 S T))) 0 0 fr0 := by
  refine Met.ofW (cc := cX2_commonDivisor) (maxL := 11) (ret := (some .long)) (by decide) rfl ?_
  intro p e s m args below meth c s₁ B hml hv
  obtain ⟨rfl, hP, hG⟩ := hv
  have hx := B.exec
  have hb := B.bytes
  have hr := B.returns
  have hts := my_hts (atoms_spec (ws := wsT yX2_commonDivisor cX2_commonDivisor 11 (some .long)) B.pre)
  have hown : s.vm.findClass RX2 = some m.cls := findClass_of_methodNamed B.named
  have hlocks := B.notSynchronized
  have hl := lv_entry ([.long (lN S), .long (lN T)]) (n := 11) (Nat.le_of_ble_eq_true rfl)
  rw [lg_entry_eq]
  generalize (lg_sl ([.long (lN S), .long (lN T)]) ++ List.replicate (11 - (lg_sl ([.long (lN S), .long (lN T)])).length) Slot.unset).toArray = ls at hl ⊢
  have hl : lv_has ls 11 [(0, .long (lN S)), (2, .long (lN T))] := hl
  refine lv_lload_n hx hb dX2_commonDivisor_0 rfl (lv_at hl 0 rfl) ?_
  refine lv_lstore (lv' := [(4, .long (lN S)), (0, .long (lN S)), (2, .long (lN T))]) hx hb dX2_commonDivisor_1 hl (by decide) rfl (fun ls hl => ?_)
  refine lv_lload_n hx hb dX2_commonDivisor_3 rfl (lv_at hl 2 rfl) ?_
  refine lv_lstore (lv' := [(6, .long (lN T)), (4, .long (lN S)), (0, .long (lN S)), (2, .long (lN T))]) hx hb dX2_commonDivisor_4 hl (by decide) rfl (fun ls hl => ?_)
  refine lv_iconst (v := 0) hx hb dX2_commonDivisor_6 (by decide) ?_
  refine lv_istore (lv' := [(8, .int 0), (6, .long (lN T)), (4, .long (lN S)), (0, .long (lN S)), (2, .long (lN T))]) hx hb dX2_commonDivisor_7 hl (by decide) rfl (fun ls hl => ?_)
  have key1 : ∀ (n9_1 : Nat) (x : Nat) (y : Nat) (k : Nat) (ls : Array Slot), (x < 2 ^ 63) → (y < 2 ^ 63) → (k ≤ 200) → (cdv (200 - k) x y = cdv 200 S T) → 200 - k < n9_1 → lv_has ls 11 [(4, .long (lN x)), (6, .long (lN y)), (8, .int (nI k))] → W p l e (headSpec (wsT yX2_commonDivisor cX2_commonDivisor 11 (some .long)) ({ frames := 0, cells := 0, slots := 0, locals := 0 })).room s m ([.long (lN S), .long (lN T)] : List Value).toArray below meth c s.heap [] 0 0 (MQ below (rQl (fun z9 => z9 = lN (cdv 200 S T))) ([.long (lN S), .long (lN T)] : List Value).toArray s 0 0 fr0) (F0 m 9 ls []) := by
    intro n9_1
    induction n9_1 with
    | zero => intro x y k ls hxb hyb hk hv9 hn9_1; exact absurd hn9_1 (Nat.not_lt_zero _)
    | succ n9_1 ih_1 =>
      intro x y k ls hxb hyb hk hv9 hn9_1 hl
      refine lv_iload hx hb dX2_commonDivisor_9 (lv_at hl 2 rfl) ?_
      refine lv_sipush (v := 200) hx hb dX2_commonDivisor_11 (by decide) ?_
      refine lv_icmp_ge (tgt := 45) hx hb dX2_commonDivisor_14 (by decide) (fun c_14 => ?_) (fun c_14 => ?_)
      · refine lv_lload hx hb dX2_commonDivisor_45 (lv_at hl 0 rfl) ?_
        exact W.lret (v := lN x) hx hb hr (fun t ht hW => ⟨_, rfl, (by have h : 200 ≤ k := (nI_leI (a := 200) (by omega) (by omega)).mp c_14; rw [← hv9, show 200 - k = 0 by omega]; rfl), ht⟩) (fun _ h => absurd h List.not_mem_nil) dX2_commonDivisor_47
      · have hk2 : k < 200 := by
          have h : ¬ 200 ≤ k := fun z => c_14 (nI_le (a := 200) z (by omega))
          omega
        refine lv_lload hx hb dX2_commonDivisor_17 (lv_at hl 1 rfl) ?_
        refine lv_lconst (v := 0) hx hb dX2_commonDivisor_19 (by decide) ?_
        refine W.lcmp hx hb dX2_commonDivisor_20 ?_
        refine lv_if_eq (tgt := 45) hx hb dX2_commonDivisor_21 (by decide) (fun c_21 => ?_) (fun c_21 => ?_)
        · refine lv_lload hx hb dX2_commonDivisor_45 (lv_at hl 0 rfl) ?_
          exact W.lret (v := lN x) hx hb hr (fun t ht hW => ⟨_, rfl, (by have h : y = 0 := (lcz hyb).mp c_21; subst h; rw [← hv9, cdv_0]), ht⟩) (fun _ h => absurd h List.not_mem_nil) dX2_commonDivisor_47
        · have hy0 : 0 < y := by
            have h : ¬ y = 0 := fun z => c_21 ((lcz hyb).mpr z)
            omega
          refine lv_lload hx hb dX2_commonDivisor_24 (lv_at hl 0 rfl) ?_
          refine lv_lload hx hb dX2_commonDivisor_26 (lv_at hl 1 rfl) ?_
          refine lv_lrem hx hb dX2_commonDivisor_28 (lN_ne0 hy0 hyb) ?_
          refine my_bel (v := lN (x % y)) (pk_lRem hxb hy0 hyb) ?_
          refine lv_lstore (lv' := [(9, .long (lN (x % y))), (4, .long (lN x)), (6, .long (lN y)), (8, .int (nI k))]) hx hb dX2_commonDivisor_29 hl (by decide) rfl (fun ls hl => ?_)
          refine lv_lload hx hb dX2_commonDivisor_31 (lv_at hl 2 rfl) ?_
          refine lv_lstore (lv' := [(4, .long (lN y)), (9, .long (lN (x % y))), (6, .long (lN y)), (8, .int (nI k))]) hx hb dX2_commonDivisor_33 hl (by decide) rfl (fun ls hl => ?_)
          refine lv_lload hx hb dX2_commonDivisor_35 (lv_at hl 1 rfl) ?_
          refine lv_lstore (lv' := [(6, .long (lN (x % y))), (4, .long (lN y)), (9, .long (lN (x % y))), (8, .int (nI k))]) hx hb dX2_commonDivisor_37 hl (by decide) rfl (fun ls hl => ?_)
          refine lv_iinc (v := nI (k + 1)) (lv' := [(8, .int (nI (k + 1))), (6, .long (lN (x % y))), (4, .long (lN y)), (9, .long (lN (x % y)))]) hx hb dX2_commonDivisor_39 hl (k := 3) rfl (nI_1 k) (by decide) rfl (fun ls hl => ?_)
          refine lv_goto (tgt := 9) hx hb dX2_commonDivisor_42 (by decide) ?_
          exact ih_1 y (x % y) (k + 1) _ (hyb) (Nat.lt_trans (Nat.mod_lt _ hy0) hyb) (by omega) (by rw [← hv9, show 200 - k = (200 - (k + 1)) + 1 by omega, cdv_s hy0]) (by omega) (lv_sub hl [2, 1, 0] rfl)
  exact key1 (200 + 1) S T 0 _ (hSb) (hTb) (Nat.zero_le _) (rfl) (by omega) (lv_sub hl [2, 1, 0] rfl)
set_option maxHeartbeats 4000000 in
set_option maxRecDepth 100000 in
theorem e_become (l : Launch) (G : gW) (g : Nat → Nat) (hg : gOK g) (f : Nat → va_E) (ab : Int64) (be : Int64) (S : Nat) (T : Nat) (hfc6 : f 6 = eO 2 [.long ab, .long be]) (hSb : S < 2 ^ 63) (hTb : T < 2 ^ 63) (hT0 : 0 < T) : Met l yX2_become (wsT yX2_become cX2_become 7 (some .int)) ({ frames := 1, cells := 0, slots := 0, locals := 30 }) (bP G g f [.ref (g 6), .long (lN S), .long (lN T)]) (bQi G g (fun (z9 : Int32) (f' : Nat → va_E) => ∃ ab9 : Int64, ∃ be9 : Int64, z9 = zo S ∧ f' 6 = eO 2 [.long ab9, .long be9] ∧ ∀ j, j ≠ 6 → f' j = f j)) 0 0 (gA g) := by
  refine Met.ofW (cc := cX2_become) (maxL := 7) (ret := (some .int)) (by decide) rfl ?_
  intro p e s m args below meth c s₁ B hml hv
  obtain ⟨rfl, hP, hG⟩ := hv
  have hx := B.exec
  have hb := B.bytes
  have hr := B.returns
  have hts := my_hts (atoms_spec (ws := wsT yX2_become cX2_become 7 (some .int)) B.pre)
  have hown : s.vm.findClass RX2 = some m.cls := findClass_of_methodNamed B.named
  have hlocks := B.notSynchronized
  have hS : va_S (gA g) s.heap s.heap [] := va_S.rf
  have hl := lv_entry ([.ref (g 6), .long (lN S), .long (lN T)]) (n := 7) (Nat.le_of_ble_eq_true rfl)
  rw [lg_entry_eq]
  generalize (lg_sl ([.ref (g 6), .long (lN S), .long (lN T)]) ++ List.replicate (7 - (lg_sl ([.ref (g 6), .long (lN S), .long (lN T)])).length) Slot.unset).toArray = ls at hl ⊢
  have hl : lv_has ls 7 [(0, .ref (g 6)), (1, .long (lN S)), (3, .long (lN T))] := hl
  refine lv_lload_n hx hb dX2_become_0 rfl (lv_at hl 1 rfl) ?_
  refine lv_lload_n hx hb dX2_become_1 rfl (lv_at hl 2 rfl) ?_
  refine rd_calll (va_runS (As := [.long (lN S), .long (lN T)]) (rest := []) ⟨hx, hb, hml, hown, hts⟩ (e_cdv l G g hg f S T  (by first | assumption | omega | decide) (by first | assumption | omega | decide)) (my_cwS hts ok_X2_commonDivisor w_768 rfl rfl ⟨Nat.le_of_ble_eq_true rfl, Nat.le_of_ble_eq_true rfl⟩) ⟨bP.blind, fun U hU hW => ⟨rfl, by rw [hU]; exact hP, kG.warm hW hG⟩⟩ rfl rfl hl.1 rfl (lv_room (Nat.le_of_ble_eq_true rfl)) dX2_become_2 ⟨Nat.le_of_ble_eq_true rfl, Nat.le_of_ble_eq_true rfl⟩) (fun r hr9 => ?_)
  subst hr9
  refine lv_lstore (lv' := [(5, .long (lN (cdv 200 S T))), (0, .ref (g 6)), (1, .long (lN S)), (3, .long (lN T))]) hx hb dX2_become_5 hl (by decide) rfl (fun ls hl => ?_)
  refine lv_lload_n hx hb dX2_become_7 rfl (lv_at hl 2 rfl) ?_
  refine lv_lconst (v := 0) hx hb dX2_become_8 (by decide) ?_
  refine W.lcmp hx hb dX2_become_9 ?_
  have hgb : cdv 200 S T < 2 ^ 63 := cdv_b _ _ _ _ hSb hTb
  refine lv_if_le (tgt := 26) hx hb dX2_become_10 (by decide) (fun c_10 => ?_) (fun c_10 => ?_)
  · refine lv_aload_n hx hb dX2_become_26 rfl (lv_at hl 1 rfl) ?_
    refine lv_lconst (v := 0) hx hb dX2_become_27 (by decide) ?_
    refine va_put (D := G.1) (ci := 2) (v := .long 0) (ty := .long) (C := RX2) (T := TX2) (N := 2) hx hb hts inlX2 tyX2 tyX2_ok nmX2 hown hG.1 hP (wl_D hg f) hS 6 (wl_at (by decide) hfc6) rfl 0 (by decide) (hts (.fieldLink RX2 7 "SwornLists$Fraction" "above" "J") w_99) (fun _ h9 => h9) rfl (by decide +kernel) rfl rfl (Nat.le_of_ble_eq_true rfl) dX2_become_28 (fun H locs hP _ hS => ?_)
    obtain ⟨f_1, hP, e_1, o_1⟩ := b_put (by decide) hP
    have hfc6 : f_1 6 = eO 2 [.long 0, .long be] := e_1
    refine lv_aload_n hx hb dX2_become_31 rfl (lv_at hl 1 rfl) ?_
    refine lv_lconst (v := 1) hx hb dX2_become_32 (by decide) ?_
    refine va_put (D := G.1) (ci := 2) (v := .long 1) (ty := .long) (C := RX2) (T := TX2) (N := 2) hx hb hts inlX2 tyX2 tyX2_ok nmX2 hown hG.1 hP (wl_D hg f_1) hS 6 (wl_at (by decide) hfc6) rfl 1 (by decide) (hts (.fieldLink RX2 13 "SwornLists$Fraction" "below" "J") w_100) (fun _ h9 => h9) rfl (by decide +kernel) rfl rfl (Nat.le_of_ble_eq_true rfl) dX2_become_33 (fun H locs hP _ hS => ?_)
    obtain ⟨f_2, hP, e_2, o_2⟩ := b_put (by decide) hP
    have hfc6 : f_2 6 = eO 2 [.long 0, .long 1] := e_2
    refine lv_iconst (v := 0) hx hb dX2_become_36 (by decide) ?_
    exact W.iret (v := 0) hx hb hr (fun t ht hW => ⟨⟨_, f_2, rfl, (⟨0, 1, (show zo S = 0 from if_pos ((lcl hSb).mp c_10)).symm, hfc6, fun j hj => ((o_2 j (by omega))).trans (o_1 j (by omega))⟩), by rw [ht]; exact hP⟩, hS.F ht⟩) hS.2.2 dX2_become_37
  · refine lv_lload_n hx hb dX2_become_13 rfl (lv_at hl 3 rfl) ?_
    refine lv_lconst (v := 0) hx hb dX2_become_14 (by decide) ?_
    refine W.lcmp hx hb dX2_become_15 ?_
    refine lv_if_le (tgt := 26) hx hb dX2_become_16 (by decide) (fun c_16 => absurd c_16 (fun z => absurd ((lcl hTb).mp z) (by omega))) (fun c_16 => ?_)
    have hS0 : 0 < S := by
      have h : ¬ S = 0 := fun z => c_10 ((lcl hSb).mpr z)
      omega
    have hg0 : 0 < cdv 200 S T := cdv_p _ _ _ hS0
    refine lv_lload hx hb dX2_become_19 (lv_at hl 0 rfl) ?_
    refine lv_lconst (v := 0) hx hb dX2_become_21 (by decide) ?_
    refine W.lcmp hx hb dX2_become_22 ?_
    refine lv_if_gt (tgt := 38) hx hb dX2_become_23 (by decide) (fun c_23 => ?_) (fun c_23 => absurd ((lcg hgb).mpr hg0) c_23)
    refine lv_aload_n hx hb dX2_become_38 rfl (lv_at hl 1 rfl) ?_
    refine lv_lload_n hx hb dX2_become_39 rfl (lv_at hl 2 rfl) ?_
    refine lv_lload hx hb dX2_become_40 (lv_at hl 0 rfl) ?_
    refine lv_ldiv hx hb dX2_become_42 (lN_ne0 hg0 hgb) ?_
    refine va_put (D := G.1) (ci := 2) (v := .long ((lN S) / (lN (cdv 200 S T)))) (ty := .long) (C := RX2) (T := TX2) (N := 2) hx hb hts inlX2 tyX2 tyX2_ok nmX2 hown hG.1 hP (wl_D hg f) hS 6 (wl_at (by decide) hfc6) rfl 0 (by decide) (hts (.fieldLink RX2 7 "SwornLists$Fraction" "above" "J") w_99) (fun _ h9 => h9) rfl (by decide +kernel) rfl rfl (Nat.le_of_ble_eq_true rfl) dX2_become_43 (fun H locs hP _ hS => ?_)
    obtain ⟨f_3, hP, e_3, o_3⟩ := b_put (by decide) hP
    have hfc6 : f_3 6 = eO 2 [.long ((lN S) / (lN (cdv 200 S T))), .long be] := e_3
    refine lv_aload_n hx hb dX2_become_46 rfl (lv_at hl 1 rfl) ?_
    refine lv_lload_n hx hb dX2_become_47 rfl (lv_at hl 3 rfl) ?_
    refine lv_lload hx hb dX2_become_48 (lv_at hl 0 rfl) ?_
    refine lv_ldiv hx hb dX2_become_50 (lN_ne0 hg0 hgb) ?_
    refine va_put (D := G.1) (ci := 2) (v := .long ((lN T) / (lN (cdv 200 S T)))) (ty := .long) (C := RX2) (T := TX2) (N := 2) hx hb hts inlX2 tyX2 tyX2_ok nmX2 hown hG.1 hP (wl_D hg f_3) hS 6 (wl_at (by decide) hfc6) rfl 1 (by decide) (hts (.fieldLink RX2 13 "SwornLists$Fraction" "below" "J") w_100) (fun _ h9 => h9) rfl (by decide +kernel) rfl rfl (Nat.le_of_ble_eq_true rfl) dX2_become_51 (fun H locs hP _ hS => ?_)
    obtain ⟨f_4, hP, e_4, o_4⟩ := b_put (by decide) hP
    have hfc6 : f_4 6 = eO 2 [.long ((lN S) / (lN (cdv 200 S T))), .long ((lN T) / (lN (cdv 200 S T)))] := e_4
    refine lv_iconst (v := 1) hx hb dX2_become_54 (by decide) ?_
    exact W.iret (v := 1) hx hb hr (fun t ht hW => ⟨⟨_, f_4, rfl, (⟨((lN S) / (lN (cdv 200 S T))), ((lN T) / (lN (cdv 200 S T))), (show zo S = 1 from if_neg (by omega)).symm, hfc6, fun j hj => ((o_4 j (by omega))).trans (o_3 j (by omega))⟩), by rw [ht]; exact hP⟩, hS.F ht⟩) hS.2.2 dX2_become_55
set_option maxHeartbeats 4000000 in
set_option maxRecDepth 100000 in
theorem e_gcd (l : Launch) (G : gW) (g : Nat → Nat) (hg : gOK g) (f : Nat → va_E) (S : Nat) (T : Nat)  (hSb : S < 2 ^ 63) (hTb : T < 2 ^ 63) : Met l yX11_divisor (wsT yX11_divisor cX11_divisor 10 (some .long)) ({ frames := 0, cells := 0, slots := 0, locals := 0 }) (bP G g f [.long (lN S), .long (lN T)]) (rQl (fun z9 => z9 = lN (Nat.gcd S T))) 0 0 fr0 := by
  refine Met.ofW (cc := cX11_divisor) (maxL := 10) (ret := (some .long)) (by decide) rfl ?_
  intro p e s m args below meth c s₁ B hml hv
  obtain ⟨rfl, hP, hG⟩ := hv
  have hx := B.exec
  have hb := B.bytes
  have hr := B.returns
  have hts := my_hts (atoms_spec (ws := wsT yX11_divisor cX11_divisor 10 (some .long)) B.pre)
  have hown : s.vm.findClass RX11 = some m.cls := findClass_of_methodNamed B.named
  have hlocks := B.notSynchronized
  have hl := lv_entry ([.long (lN S), .long (lN T)]) (n := 10) (Nat.le_of_ble_eq_true rfl)
  rw [lg_entry_eq]
  generalize (lg_sl ([.long (lN S), .long (lN T)]) ++ List.replicate (10 - (lg_sl ([.long (lN S), .long (lN T)])).length) Slot.unset).toArray = ls at hl ⊢
  have hl : lv_has ls 10 [(0, .long (lN S)), (2, .long (lN T))] := hl
  refine lv_lload_n hx hb dX11_divisor_0 rfl (lv_at hl 0 rfl) ?_
  refine lv_lstore (lv' := [(4, .long (lN S)), (0, .long (lN S)), (2, .long (lN T))]) hx hb dX11_divisor_1 hl (by decide) rfl (fun ls hl => ?_)
  refine lv_lload_n hx hb dX11_divisor_3 rfl (lv_at hl 2 rfl) ?_
  refine lv_lstore (lv' := [(6, .long (lN T)), (4, .long (lN S)), (0, .long (lN S)), (2, .long (lN T))]) hx hb dX11_divisor_4 hl (by decide) rfl (fun ls hl => ?_)
  have key1 : ∀ (n9_1 : Nat) (x : Nat) (y : Nat) (ls : Array Slot), (x < 2 ^ 63) → (y < 2 ^ 63) → (Nat.gcd x y = Nat.gcd S T) → y < n9_1 → lv_has ls 10 [(4, .long (lN x)), (6, .long (lN y))] → W p l e (headSpec (wsT yX11_divisor cX11_divisor 10 (some .long)) ({ frames := 0, cells := 0, slots := 0, locals := 0 })).room s m ([.long (lN S), .long (lN T)] : List Value).toArray below meth c s.heap [] 0 0 (MQ below (rQl (fun z9 => z9 = lN (Nat.gcd S T))) ([.long (lN S), .long (lN T)] : List Value).toArray s 0 0 fr0) (F0 m 6 ls []) := by
    intro n9_1
    induction n9_1 with
    | zero => intro x y ls hxb hyb hv9 hn9_1; exact absurd hn9_1 (Nat.not_lt_zero _)
    | succ n9_1 ih_1 =>
      intro x y ls hxb hyb hv9 hn9_1 hl
      refine lv_lload hx hb dX11_divisor_6 (lv_at hl 1 rfl) ?_
      refine lv_lconst (v := 0) hx hb dX11_divisor_8 (by decide) ?_
      refine W.lcmp hx hb dX11_divisor_9 ?_
      refine lv_if_eq (tgt := 31) hx hb dX11_divisor_10 (by decide) (fun c_10 => ?_) (fun c_10 => ?_)
      · refine lv_lload hx hb dX11_divisor_31 (lv_at hl 0 rfl) ?_
        exact W.lret (v := lN x) hx hb hr (fun t ht hW => ⟨_, rfl, (by have h : y = 0 := (lcz hyb).mp c_10; subst h; rw [← hv9, Nat.gcd_zero_right]), ht⟩) (fun _ h => absurd h List.not_mem_nil) dX11_divisor_33
      · have hy0 : 0 < y := by
          have h : ¬ y = 0 := fun z => c_10 ((lcz hyb).mpr z)
          omega
        refine lv_lload hx hb dX11_divisor_13 (lv_at hl 0 rfl) ?_
        refine lv_lload hx hb dX11_divisor_15 (lv_at hl 1 rfl) ?_
        refine lv_lrem hx hb dX11_divisor_17 (lN_ne0 hy0 hyb) ?_
        refine my_bel (v := lN (x % y)) (pk_lRem hxb hy0 hyb) ?_
        refine lv_lstore (lv' := [(8, .long (lN (x % y))), (4, .long (lN x)), (6, .long (lN y))]) hx hb dX11_divisor_18 hl (by decide) rfl (fun ls hl => ?_)
        refine lv_lload hx hb dX11_divisor_20 (lv_at hl 2 rfl) ?_
        refine lv_lstore (lv' := [(4, .long (lN y)), (8, .long (lN (x % y))), (6, .long (lN y))]) hx hb dX11_divisor_22 hl (by decide) rfl (fun ls hl => ?_)
        refine lv_lload hx hb dX11_divisor_24 (lv_at hl 1 rfl) ?_
        refine lv_lstore (lv' := [(6, .long (lN (x % y))), (4, .long (lN y)), (8, .long (lN (x % y)))]) hx hb dX11_divisor_26 hl (by decide) rfl (fun ls hl => ?_)
        refine lv_goto (tgt := 6) hx hb dX11_divisor_28 (by decide) ?_
        exact ih_1 y (x % y) _ (hyb) (Nat.lt_trans (Nat.mod_lt _ hy0) hyb) (by rw [← hv9, Nat.gcd_comm x y, Nat.gcd_rec y x, Nat.gcd_comm]) (by have := Nat.mod_lt x hy0; omega) (lv_sub hl [1, 0] rfl)
  exact key1 (T + 1) S T _ (hSb) (hTb) (rfl) (by omega) (lv_sub hl [1, 0] rfl)
set_option maxHeartbeats 4000000 in
set_option maxRecDepth 100000 in
theorem e_told (l : Launch) (G : gW) (g : Nat → Nat) (hg : gOK g) (f : Nat → va_E) (ab2 : Int64) (be2 : Int64) (sn : Int32) (wn : Int32) (sa : Int32) (ly : Int32) (rdy : Int32) (fd : Nat) (S : Nat) (T : Nat) (hmo : f 315 = eO 10 [.ref (g 316), .ref (g 317), .ref (g 318), .long ab2, .long be2, .int sn, .ref (g 319), .ref (g 320), .int wn, .ref (g 321), .ref (g 322), .int sa, .int ly, .int rdy, .int (nI fd), .ref (g 323), .ref (g 324), .ref (g 325), .ref (g 326), .ref (g 327), .ref (g 328), .ref (g 329), .ref (g 330), .ref (g 331), .ref (g 332)]) (hSb : S < 2 ^ 63) (hTb : T < 2 ^ 63) (hT0 : 0 < T) : Met l yX11_told (wsT yX11_told cX11_told 7 (some .int)) ({ frames := 1, cells := 0, slots := 0, locals := 29 }) (bP G g f [.ref (g 315), .long (lN S), .long (lN T)]) (bQi G g (fun (z9 : Int32) (f' : Nat → va_E) => ∃ ab9 : Int64, ∃ be9 : Int64, z9 = zo S ∧ f' 315 = eO 10 [.ref (g 316), .ref (g 317), .ref (g 318), .long ab9, .long be9, .int sn, .ref (g 319), .ref (g 320), .int wn, .ref (g 321), .ref (g 322), .int sa, .int ly, .int rdy, .int (nI fd), .ref (g 323), .ref (g 324), .ref (g 325), .ref (g 326), .ref (g 327), .ref (g 328), .ref (g 329), .ref (g 330), .ref (g 331), .ref (g 332)] ∧ ∀ j, j ≠ 315 → f' j = f j)) 0 0 (gA g) := by
  refine Met.ofW (cc := cX11_told) (maxL := 7) (ret := (some .int)) (by decide) rfl ?_
  intro p e s m args below meth c s₁ B hml hv
  obtain ⟨rfl, hP, hG⟩ := hv
  have hx := B.exec
  have hb := B.bytes
  have hr := B.returns
  have hts := my_hts (atoms_spec (ws := wsT yX11_told cX11_told 7 (some .int)) B.pre)
  have hown : s.vm.findClass RX11 = some m.cls := findClass_of_methodNamed B.named
  have hlocks := B.notSynchronized
  have hS : va_S (gA g) s.heap s.heap [] := va_S.rf
  have hl := lv_entry ([.ref (g 315), .long (lN S), .long (lN T)]) (n := 7) (Nat.le_of_ble_eq_true rfl)
  rw [lg_entry_eq]
  generalize (lg_sl ([.ref (g 315), .long (lN S), .long (lN T)]) ++ List.replicate (7 - (lg_sl ([.ref (g 315), .long (lN S), .long (lN T)])).length) Slot.unset).toArray = ls at hl ⊢
  have hl : lv_has ls 7 [(0, .ref (g 315)), (1, .long (lN S)), (3, .long (lN T))] := hl
  refine lv_lload_n hx hb dX11_told_0 rfl (lv_at hl 1 rfl) ?_
  refine lv_lconst (v := 0) hx hb dX11_told_1 (by decide) ?_
  refine W.lcmp hx hb dX11_told_2 ?_
  refine lv_if_eq (tgt := 12) hx hb dX11_told_3 (by decide) (fun c_3 => ?_) (fun c_3 => ?_)
  · refine lv_iconst (v := 0) hx hb dX11_told_12 (by decide) ?_
    exact W.iret (v := 0) hx hb hr (fun t ht hW => ⟨⟨_, f, rfl, (⟨ab2, be2, (show zo S = 0 from if_pos ((lcz hSb).mp c_3)).symm, hmo, fun j hj => rfl⟩), by rw [ht]; exact hP⟩, hS.F ht⟩) hS.2.2 dX11_told_13
  · refine lv_lload_n hx hb dX11_told_6 rfl (lv_at hl 2 rfl) ?_
    refine lv_lconst (v := 0) hx hb dX11_told_7 (by decide) ?_
    refine W.lcmp hx hb dX11_told_8 ?_
    refine lv_if_ne (tgt := 14) hx hb dX11_told_9 (by decide) (fun c_9 => ?_) (fun c_9 => absurd c_9 (fun z => absurd ((lcz hTb).mp z) (by omega)))
    have hS0 : 0 < S := by
      have h : ¬ S = 0 := fun z => c_3 ((lcz hSb).mpr z)
      omega
    have hg0 : 0 < Nat.gcd S T := Nat.gcd_pos_of_pos_left _ hS0
    have hgb : Nat.gcd S T < 2 ^ 63 := Nat.lt_of_le_of_lt (Nat.le_of_dvd hS0 (Nat.gcd_dvd_left S T)) hSb
    refine lv_lload_n hx hb dX11_told_14 rfl (lv_at hl 1 rfl) ?_
    refine lv_lload_n hx hb dX11_told_15 rfl (lv_at hl 2 rfl) ?_
    refine rd_calll (va_runS (As := [.long (lN S), .long (lN T)]) (rest := []) ⟨hx, hb, hml, hown, hts⟩ (e_gcd l G g hg f S T  (by first | assumption | omega | decide) (by first | assumption | omega | decide)) (my_cwS hts ok_X11_divisor w_784 rfl rfl ⟨Nat.le_of_ble_eq_true rfl, Nat.le_of_ble_eq_true rfl⟩) ⟨bP.blind, fun U hU hW => ⟨rfl, by rw [hU]; exact hP, kG.warm hW hG⟩⟩ rfl rfl hl.1 rfl (lv_room (Nat.le_of_ble_eq_true rfl)) dX11_told_16 ⟨Nat.le_of_ble_eq_true rfl, Nat.le_of_ble_eq_true rfl⟩) (fun r hr9 => ?_)
    subst hr9
    refine lv_lstore (lv' := [(5, .long (lN (Nat.gcd S T))), (0, .ref (g 315)), (1, .long (lN S)), (3, .long (lN T))]) hx hb dX11_told_19 hl (by decide) rfl (fun ls hl => ?_)
    refine lv_aload_n hx hb dX11_told_21 rfl (lv_at hl 1 rfl) ?_
    refine lv_lload_n hx hb dX11_told_22 rfl (lv_at hl 2 rfl) ?_
    refine lv_lload hx hb dX11_told_23 (lv_at hl 0 rfl) ?_
    refine lv_ldiv hx hb dX11_told_25 (lN_ne0 hg0 hgb) ?_
    refine va_put (D := G.1) (ci := 10) (v := .long ((lN S) / (lN (Nat.gcd S T)))) (ty := .long) (C := RX11) (T := TX11) (N := 25) hx hb hts inlX11 tyX11 tyX11_ok nmX11 hown hG.1 hP (wl_D hg f) hS 315 (wl_at (by decide) hmo) rfl 3 (by decide) (hts (.fieldLink RX11 238 "SwornListsModel" "above" "J") w_783) (fun _ h9 => h9) rfl (by decide +kernel) rfl rfl (Nat.le_of_ble_eq_true rfl) dX11_told_26 (fun H locs hP _ hS => ?_)
    obtain ⟨f_1, hP, e_1, o_1⟩ := b_put (by decide) hP
    have hmo : f_1 315 = eO 10 [.ref (g 316), .ref (g 317), .ref (g 318), .long ((lN S) / (lN (Nat.gcd S T))), .long be2, .int sn, .ref (g 319), .ref (g 320), .int wn, .ref (g 321), .ref (g 322), .int sa, .int ly, .int rdy, .int (nI fd), .ref (g 323), .ref (g 324), .ref (g 325), .ref (g 326), .ref (g 327), .ref (g 328), .ref (g 329), .ref (g 330), .ref (g 331), .ref (g 332)] := e_1
    refine lv_aload_n hx hb dX11_told_29 rfl (lv_at hl 1 rfl) ?_
    refine lv_lload_n hx hb dX11_told_30 rfl (lv_at hl 3 rfl) ?_
    refine lv_lload hx hb dX11_told_31 (lv_at hl 0 rfl) ?_
    refine lv_ldiv hx hb dX11_told_33 (lN_ne0 hg0 hgb) ?_
    refine va_put (D := G.1) (ci := 10) (v := .long ((lN T) / (lN (Nat.gcd S T)))) (ty := .long) (C := RX11) (T := TX11) (N := 25) hx hb hts inlX11 tyX11 tyX11_ok nmX11 hown hG.1 hP (wl_D hg f_1) hS 315 (wl_at (by decide) hmo) rfl 4 (by decide) (hts (.fieldLink RX11 63 "SwornListsModel" "below" "J") w_129) (fun _ h9 => h9) rfl (by decide +kernel) rfl rfl (Nat.le_of_ble_eq_true rfl) dX11_told_34 (fun H locs hP _ hS => ?_)
    obtain ⟨f_2, hP, e_2, o_2⟩ := b_put (by decide) hP
    have hmo : f_2 315 = eO 10 [.ref (g 316), .ref (g 317), .ref (g 318), .long ((lN S) / (lN (Nat.gcd S T))), .long ((lN T) / (lN (Nat.gcd S T))), .int sn, .ref (g 319), .ref (g 320), .int wn, .ref (g 321), .ref (g 322), .int sa, .int ly, .int rdy, .int (nI fd), .ref (g 323), .ref (g 324), .ref (g 325), .ref (g 326), .ref (g 327), .ref (g 328), .ref (g 329), .ref (g 330), .ref (g 331), .ref (g 332)] := e_2
    refine lv_iconst (v := 1) hx hb dX11_told_37 (by decide) ?_
    exact W.iret (v := 1) hx hb hr (fun t ht hW => ⟨⟨_, f_2, rfl, (⟨((lN S) / (lN (Nat.gcd S T))), ((lN T) / (lN (Nat.gcd S T))), (show zo S = 1 from if_neg (by omega)).symm, hmo, fun j hj => ((o_2 j (by omega))).trans (o_1 j (by omega))⟩), by rw [ht]; exact hP⟩, hS.F ht⟩) hS.2.2 dX11_told_38
set_option maxHeartbeats 4000000 in
set_option maxRecDepth 100000 in
theorem n_chanceE (l : Launch) (G : gW) (g : Nat → Nat) (hg : gOK g) (f : Nat → va_E) (se : Nat) (hf : Nat → Option Nat) (imf : Nat → Option Nat) (kf : Nat → Int32) (mc : Nat) (op : Int32) (cm : Int32) (wu : Int32) (mk : Nat → Int32) (ab : Int64) (be : Int64) (mn : Nat) (le : Int32) (wt : Nat → Int32) (ww : Nat → Int32) (wb : Nat → Int32) (wf : Nat → Int32) (vv : Nat → Int64) (pay : Int32) (fine : Int32) (np : Nat) (dp : Nat → Int32) (nf : Nat) (df : Nat → Int32) (nr : Nat) (dr : Nat → Int32) (na : Nat) (da : Nat → Int32) (nt : Nat) (ct : Nat → Int32) (lf : Nat → Option Nat) (tf : Nat → Option Nat) (a1 : Int32) (a2 : Int32) (a3 : Int32) (a4 : Int32) (hx0 : f 0 = eO 9 [.ref (g 1), .ref (g 36), .ref (g 2), .ref (g 3), .ref (g 4), .ref (g 6), .ref (g 7)]) (hctc : f 1 = eO 1 [.ref (g 36), .ref (g 12), .ref (g 13), .ref (g 15), .int (nI se)]) (hhs : f 12 = eA G 4 10 hf) (him : f 2 = eA G 3 2 imf) (hkp : f 3 = eZ G 2 kf) (hrd : f 4 = eO 4 [.ref (g 5), .int (nI mc), .int op, .int cm, .int wu]) (hmk : f 5 = eI G 50 mk) (hfc6 : f 6 = eO 2 [.long ab, .long be]) (hwt : f 7 = eO 8 [.ref (g 8), .ref (g 9), .ref (g 10), .ref (g 11), .int (nI mn), .int le]) (hw8 : f 8 = eI G 6 wt) (hw9 : f 9 = eI G 6 ww) (hw10 : f 10 = eI G 6 wb) (hw11 : f 11 = eI G 6 wf) (hvl : f 15 = eJ G 50 vv) (hbk : f 36 = eO 0 [.ref (g 37), .ref (g 39), .ref (g 41), .ref (g 43), .ref (g 45), .ref (g 47), .ref (g 112), .int pay, .int fine]) (hpr : f 37 = eO 5 [.int (nI 30), .int (nI 4), .ref (g 38), .int (nI np)]) (hpd : f 38 = eI G (30 * 4) dp) (hfr : f 39 = eO 5 [.int (nI 40), .int (nI 3), .ref (g 40), .int (nI nf)]) (hfd : f 40 = eI G (40 * 3) df) (hor : f 41 = eO 5 [.int (nI 4), .int (nI 3), .ref (g 42), .int (nI nr)]) (hod : f 42 = eI G (4 * 3) dr) (har : f 43 = eO 5 [.int (nI 20), .int (nI 3), .ref (g 44), .int (nI na)]) (had : f 44 = eI G (20 * 3) da) (htr : f 45 = eO 5 [.int (nI 10), .int (nI 70), .ref (g 46), .int (nI nt)]) (hct : f 46 = eI G (10 * 70) ct) (hla : f 47 = eO 6 [.ref (g 48), .ref (g 49)]) (hlaa : f 48 = eA G 5 20 lf) (hts0 : f 112 = eO 6 [.ref (g 113), .ref (g 114)]) (htsa : f 113 = eA G 5 4 tf) (hse : se ≤ 10) (hhf : ∀ i, i < 10 → hf i = some (g (2 * i + 16))) (him0 : imf 0 = some (g 129)) (him1 : imf 1 = some (g 222)) (hmc : mc ≤ 50) (hmn : mn ≤ 6) (hnp : np ≤ 30) (hnf : nf ≤ 40) (hnr : nr ≤ 4) (hna : na ≤ 20) (hnt : nt ≤ 10) (hlf : ∀ z, z < 20 → lf z = some (g (47 + 3 * z + 5))) (htf : ∀ z, z < 4 → tf z = some (g (112 + 3 * z + 5))) (hH : ∀ i, i < 10 → okH G g f (2 * i + 16)) (hSp : okH G g f 13) (hL : ∀ i, i < 20 → okT G g f (3 * i + 52)) (hT : ∀ i, i < 4 → okT G g f (3 * i + 117)) (hB1 : okB G g f 129) (hB2 : okB G g f 222) : Met l yX10_chance (wsT yX10_chance cX10_chance 8 (some .int)) ({ frames := 2, cells := 0, slots := 0, locals := 56 }) (bP G g f [.ref (g 0), .int a1, .int a2, .int a3, .int a4]) (bQi G g (fun (z9 : Int32) (f' : Nat → va_E) => z9 = chA a1 a2 a3 a4 ∧ (cI G g f') ∧ ∀ j, 315 ≤ j → f' j = f j)) 0 0 (gA g) := by
  refine Met.ofW (cc := cX10_chance) (maxL := 8) (ret := (some .int)) (by decide) rfl ?_
  intro p e s m args below meth c s₁ B hml hv
  obtain ⟨rfl, hP, hG⟩ := hv
  have hx := B.exec
  have hb := B.bytes
  have hr := B.returns
  have hts := my_hts (atoms_spec (ws := wsT yX10_chance cX10_chance 8 (some .int)) B.pre)
  have hown : s.vm.findClass RX10 = some m.cls := findClass_of_methodNamed B.named
  have hlocks := B.notSynchronized
  have hS : va_S (gA g) s.heap s.heap [] := va_S.rf
  have hl := lv_entry ([.ref (g 0), .int a1, .int a2, .int a3, .int a4]) (n := 8) (Nat.le_of_ble_eq_true rfl)
  rw [lg_entry_eq]
  generalize (lg_sl ([.ref (g 0), .int a1, .int a2, .int a3, .int a4]) ++ List.replicate (8 - (lg_sl ([.ref (g 0), .int a1, .int a2, .int a3, .int a4])).length) Slot.unset).toArray = ls at hl ⊢
  have hl : lv_has ls 8 [(0, .ref (g 0)), (1, .int a1), (2, .int a2), (3, .int a3), (4, .int a4)] := hl
  refine lv_iload_n hx hb dX10_chance_0 rfl (lv_at hl 1 rfl) ?_
  refine lv_iconst (v := 0) hx hb dX10_chance_1 (by decide) ?_
  refine lv_bipush (v := 40) hx hb dX10_chance_2 (by decide) ?_
  refine rd_calli (va_runS (As := [.int a1, .int 0, .int 40]) (rest := []) ⟨hx, hb, hml, hown, hts⟩ (s_within l G g hg f a1 0 40  ) (my_cwS hts ok_X10_within w_134 rfl rfl ⟨Nat.le_of_ble_eq_true rfl, Nat.le_of_ble_eq_true rfl⟩) ⟨bP.blind, fun U hU hW => ⟨rfl, by rw [hU]; exact hP, kG.warm hW hG⟩⟩ rfl rfl hl.1 rfl (lv_room (Nat.le_of_ble_eq_true rfl)) dX10_chance_4 ⟨Nat.le_of_ble_eq_true rfl, Nat.le_of_ble_eq_true rfl⟩) (fun r hr9 => ?_)
  subst hr9
  refine my_ifeq (tgt := 39) hx hb dX10_chance_7 (by decide) (fun c_7 => ?_) (fun c_7 => ?_)
  · refine lv_bipush (v := (-2)) hx hb dX10_chance_39 (by decide) ?_
    exact W.iret (v := (-2)) hx hb hr (fun t ht hW => ⟨⟨_, f, rfl, (⟨(show chA a1 a2 a3 a4 = -2 from if_neg (fun z => c_7 z.1)).symm, ⟨se, hf, imf, kf, mc, op, cm, wu, mk, ab, be, mn, le, wt, ww, wb, wf, vv, pay, fine, np, dp, nf, df, nr, dr, na, da, nt, ct, lf, tf, hx0, hctc, hhs, him, hkp, hrd, hmk, hfc6, hwt, hw8, hw9, hw10, hw11, hvl, hbk, hpr, hpd, hfr, hfd, hor, hod, har, had, htr, hct, hla, hlaa, hts0, htsa, by omega, hhf, him0, him1, by omega, by omega, by omega, by omega, by omega, by omega, by omega, hlf, htf, hH, hSp, hL, hT, hB1, hB2⟩, fun j hj => rfl⟩), by rw [ht]; exact hP⟩, hS.F ht⟩) hS.2.2 dX10_chance_41
  · refine lv_iload_n hx hb dX10_chance_10 rfl (lv_at hl 2 rfl) ?_
    refine lv_iconst (v := 0) hx hb dX10_chance_11 (by decide) ?_
    refine lv_iload_n hx hb dX10_chance_12 rfl (lv_at hl 1 rfl) ?_
    refine rd_calli (va_runS (As := [.int a2, .int 0, .int a1]) (rest := []) ⟨hx, hb, hml, hown, hts⟩ (s_within l G g hg f a2 0 a1  ) (my_cwS hts ok_X10_within w_134 rfl rfl ⟨Nat.le_of_ble_eq_true rfl, Nat.le_of_ble_eq_true rfl⟩) ⟨bP.blind, fun U hU hW => ⟨rfl, by rw [hU]; exact hP, kG.warm hW hG⟩⟩ rfl rfl hl.1 rfl (lv_room (Nat.le_of_ble_eq_true rfl)) dX10_chance_13 ⟨Nat.le_of_ble_eq_true rfl, Nat.le_of_ble_eq_true rfl⟩) (fun r hr9 => ?_)
    subst hr9
    refine my_ifeq (tgt := 39) hx hb dX10_chance_16 (by decide) (fun c_16 => ?_) (fun c_16 => ?_)
    · refine lv_bipush (v := (-2)) hx hb dX10_chance_39 (by decide) ?_
      exact W.iret (v := (-2)) hx hb hr (fun t ht hW => ⟨⟨_, f, rfl, (⟨(show chA a1 a2 a3 a4 = -2 from if_neg (fun z => c_16 z.2.1)).symm, ⟨se, hf, imf, kf, mc, op, cm, wu, mk, ab, be, mn, le, wt, ww, wb, wf, vv, pay, fine, np, dp, nf, df, nr, dr, na, da, nt, ct, lf, tf, hx0, hctc, hhs, him, hkp, hrd, hmk, hfc6, hwt, hw8, hw9, hw10, hw11, hvl, hbk, hpr, hpd, hfr, hfd, hor, hod, har, had, htr, hct, hla, hlaa, hts0, htsa, by omega, hhf, him0, him1, by omega, by omega, by omega, by omega, by omega, by omega, by omega, hlf, htf, hH, hSp, hL, hT, hB1, hB2⟩, fun j hj => rfl⟩), by rw [ht]; exact hP⟩, hS.F ht⟩) hS.2.2 dX10_chance_41
    · refine lv_iload_n hx hb dX10_chance_19 rfl (lv_at hl 3 rfl) ?_
      refine lv_iconst (v := 0) hx hb dX10_chance_20 (by decide) ?_
      refine lv_iload_n hx hb dX10_chance_21 rfl (lv_at hl 1 rfl) ?_
      refine rd_calli (va_runS (As := [.int a3, .int 0, .int a1]) (rest := []) ⟨hx, hb, hml, hown, hts⟩ (s_within l G g hg f a3 0 a1  ) (my_cwS hts ok_X10_within w_134 rfl rfl ⟨Nat.le_of_ble_eq_true rfl, Nat.le_of_ble_eq_true rfl⟩) ⟨bP.blind, fun U hU hW => ⟨rfl, by rw [hU]; exact hP, kG.warm hW hG⟩⟩ rfl rfl hl.1 rfl (lv_room (Nat.le_of_ble_eq_true rfl)) dX10_chance_22 ⟨Nat.le_of_ble_eq_true rfl, Nat.le_of_ble_eq_true rfl⟩) (fun r hr9 => ?_)
      subst hr9
      refine my_ifeq (tgt := 39) hx hb dX10_chance_25 (by decide) (fun c_25 => ?_) (fun c_25 => ?_)
      · refine lv_bipush (v := (-2)) hx hb dX10_chance_39 (by decide) ?_
        exact W.iret (v := (-2)) hx hb hr (fun t ht hW => ⟨⟨_, f, rfl, (⟨(show chA a1 a2 a3 a4 = -2 from if_neg (fun z => c_25 z.2.2.1)).symm, ⟨se, hf, imf, kf, mc, op, cm, wu, mk, ab, be, mn, le, wt, ww, wb, wf, vv, pay, fine, np, dp, nf, df, nr, dr, na, da, nt, ct, lf, tf, hx0, hctc, hhs, him, hkp, hrd, hmk, hfc6, hwt, hw8, hw9, hw10, hw11, hvl, hbk, hpr, hpd, hfr, hfd, hor, hod, har, had, htr, hct, hla, hlaa, hts0, htsa, by omega, hhf, him0, him1, by omega, by omega, by omega, by omega, by omega, by omega, by omega, hlf, htf, hH, hSp, hL, hT, hB1, hB2⟩, fun j hj => rfl⟩), by rw [ht]; exact hP⟩, hS.F ht⟩) hS.2.2 dX10_chance_41
      · refine lv_iload hx hb dX10_chance_28 (lv_at hl 4 rfl) ?_
        refine lv_iconst (v := 0) hx hb dX10_chance_30 (by decide) ?_
        refine lv_bipush (v := 40) hx hb dX10_chance_31 (by decide) ?_
        refine rd_calli (va_runS (As := [.int a4, .int 0, .int 40]) (rest := []) ⟨hx, hb, hml, hown, hts⟩ (s_within l G g hg f a4 0 40  ) (my_cwS hts ok_X10_within w_134 rfl rfl ⟨Nat.le_of_ble_eq_true rfl, Nat.le_of_ble_eq_true rfl⟩) ⟨bP.blind, fun U hU hW => ⟨rfl, by rw [hU]; exact hP, kG.warm hW hG⟩⟩ rfl rfl hl.1 rfl (lv_room (Nat.le_of_ble_eq_true rfl)) dX10_chance_33 ⟨Nat.le_of_ble_eq_true rfl, Nat.le_of_ble_eq_true rfl⟩) (fun r hr9 => ?_)
        subst hr9
        refine my_ifne (tgt := 42) hx hb dX10_chance_36 (by decide) (fun c_36 => ?_) (fun c_36 => ?_)
        · obtain ⟨N, hN, e1⟩ := inB_nat (B := 40) (by decide) c_7
          subst e1
          obtain ⟨K, hK, e2⟩ := inB_nat (by omega) c_16
          subst e2
          obtain ⟨M, hM, e3⟩ := inB_nat (by omega) c_25
          subst e3
          obtain ⟨D, hD4, e4⟩ := inB_nat (B := 40) (by decide) c_36
          subst e4
          have hSv : chS (nI N) (nI K) (nI M) (nI D) = sm N K M 42 D 0 := by unfold chS; rw [nI_clamp (by omega), nI_clamp (by omega), nI_clamp (by omega), nI_clamp (by omega)]
          refine lv_lconst (v := 0) hx hb dX10_chance_42 (by decide) ?_
          refine my_bel (v := lN 0) (rfl) ?_
          refine lv_lstore (lv' := [(5, .long (lN 0)), (0, .ref (g 0)), (1, .int (nI N)), (2, .int (nI K)), (3, .int (nI M)), (4, .int (nI D))]) hx hb dX10_chance_43 hl (by decide) rfl (fun ls hl => ?_)
          refine lv_iload hx hb dX10_chance_45 (lv_at hl 5 rfl) ?_
          refine lv_istore (lv' := [(7, .int (nI D)), (5, .long (lN 0)), (0, .ref (g 0)), (1, .int (nI N)), (2, .int (nI K)), (3, .int (nI M)), (4, .int (nI D))]) hx hb dX10_chance_47 hl (by decide) rfl (fun ls hl => ?_)
          have key1 : ∀ (n9_1 : Nat) (f5 : Nat) (i : Nat) (z : Nat) (f_1 : Nat → va_E) (H : Heap) (locs : List Loc) (ls : Array Slot), (sm N K M f5 i z = sm N K M 42 D 0) → (M + 1 ≤ f5 + i) → (i ≤ 41) → (z ≤ i * 1099511627776) → (∀ i, i < 10 → okH G g f_1 (2 * i + 16)) → (okH G g f_1 13) → (∀ i, i < 20 → okT G g f_1 (3 * i + 52)) → (∀ i, i < 4 → okT G g f_1 (3 * i + 117)) → (okB G g f_1 129) → (okB G g f_1 222) → f5 < n9_1 → f_1 0 = eO 9 [.ref (g 1), .ref (g 36), .ref (g 2), .ref (g 3), .ref (g 4), .ref (g 6), .ref (g 7)] → f_1 1 = eO 1 [.ref (g 36), .ref (g 12), .ref (g 13), .ref (g 15), .int (nI se)] → f_1 12 = eA G 4 10 hf → f_1 2 = eA G 3 2 imf → f_1 3 = eZ G 2 kf → f_1 4 = eO 4 [.ref (g 5), .int (nI mc), .int op, .int cm, .int wu] → f_1 5 = eI G 50 mk → f_1 6 = eO 2 [.long ab, .long be] → f_1 7 = eO 8 [.ref (g 8), .ref (g 9), .ref (g 10), .ref (g 11), .int (nI mn), .int le] → f_1 8 = eI G 6 wt → f_1 9 = eI G 6 ww → f_1 10 = eI G 6 wb → f_1 11 = eI G 6 wf → f_1 15 = eJ G 50 vv → f_1 36 = eO 0 [.ref (g 37), .ref (g 39), .ref (g 41), .ref (g 43), .ref (g 45), .ref (g 47), .ref (g 112), .int pay, .int fine] → f_1 37 = eO 5 [.int (nI 30), .int (nI 4), .ref (g 38), .int (nI np)] → f_1 38 = eI G (30 * 4) dp → f_1 39 = eO 5 [.int (nI 40), .int (nI 3), .ref (g 40), .int (nI nf)] → f_1 40 = eI G (40 * 3) df → f_1 41 = eO 5 [.int (nI 4), .int (nI 3), .ref (g 42), .int (nI nr)] → f_1 42 = eI G (4 * 3) dr → f_1 43 = eO 5 [.int (nI 20), .int (nI 3), .ref (g 44), .int (nI na)] → f_1 44 = eI G (20 * 3) da → f_1 45 = eO 5 [.int (nI 10), .int (nI 70), .ref (g 46), .int (nI nt)] → f_1 46 = eI G (10 * 70) ct → f_1 47 = eO 6 [.ref (g 48), .ref (g 49)] → f_1 48 = eA G 5 20 lf → f_1 112 = eO 6 [.ref (g 113), .ref (g 114)] → f_1 113 = eA G 5 4 tf → (∀ j, (j < 333 ∨ 333 ≤ j) → f_1 j = f j) → va_P G.1 vwCl (wl g f_1) H → va_S (gA g) s.heap H locs → lv_has ls 8 [(0, .ref (g 0)), (1, .int (nI N)), (2, .int (nI K)), (3, .int (nI M)), (5, .long (lN z)), (7, .int (nI i))] → W p l e (headSpec (wsT yX10_chance cX10_chance 8 (some .int)) ({ frames := 2, cells := 0, slots := 0, locals := 56 })).room s m ([.ref (g 0), .int (nI N), .int (nI K), .int (nI M), .int (nI D)] : List Value).toArray below meth c H locs 0 0 (MQ below (bQi G g (fun (z9 : Int32) (f' : Nat → va_E) => z9 = chA (nI N) (nI K) (nI M) (nI D) ∧ (cI G g f') ∧ ∀ j, 315 ≤ j → f' j = f j)) ([.ref (g 0), .int (nI N), .int (nI K), .int (nI M), .int (nI D)] : List Value).toArray s 0 0 (gA g)) (F0 m 49 ls []) := by
            intro n9_1
            induction n9_1 with
            | zero => intro f5 i z f_1 H locs ls hv9 hf5 hi hz hH hSp hL hT hB1 hB2 hn9_1; exact absurd hn9_1 (Nat.not_lt_zero _)
            | succ n9_1 ih_1 =>
              intro f5 i z f_1 H locs ls hv9 hf5 hi hz hH hSp hL hT hB1 hB2 hn9_1 hx0 hctc hhs him hkp hrd hmk hfc6 hwt hw8 hw9 hw10 hw11 hvl hbk hpr hpd hfr hfd hor hod har had htr hct hla hlaa hts0 htsa o_1 hP hS hl
              refine lv_iload hx hb dX10_chance_49 (lv_at hl 5 rfl) ?_
              refine lv_iload_n hx hb dX10_chance_51 rfl (lv_at hl 3 rfl) ?_
              refine lv_icmp_gt (tgt := 83) hx hb dX10_chance_52 (by decide) (fun c_52 => ?_) (fun c_52 => ?_)
              · have hMi : M < i := (nI_ltI (by omega) (by omega)).mp c_52
                have hz0 : z = sm N K M 42 D 0 := by rw [← hv9, sm_end hMi]
                have hzb : z < 2 ^ 63 := by omega
                have hwb : wz N M < 2 ^ 63 := by have := wz_s (T := M) hN; omega
                have hwp : 0 < wz N M := wz_p hN hM
                refine lv_aload_n hx hb dX10_chance_83 rfl (lv_at hl 0 rfl) ?_
                refine va_get (D := G.1) (ci := 9) (v := .ref (g 6)) (C := RX10) (T := TX10) (N := 7) hx hb hts inlX10 hown hG.1 hP 0 (wl_at (by decide) hx0) rfl 5 (by decide) (hts (.fieldLink RX10 41 "SwornLists" "fraction" "LSwornLists$Fraction;") w_28) (fun _ h9 => h9) rfl dX10_chance_84 ?_
                refine lv_lload hx hb dX10_chance_87 (lv_at hl 4 rfl) ?_
                refine lv_iload_n hx hb dX10_chance_89 rfl (lv_at hl 1 rfl) ?_
                refine lv_iload_n hx hb dX10_chance_90 rfl (lv_at hl 3 rfl) ?_
                refine rd_calll (va_runS (As := [.int (nI N), .int (nI M)]) (rest := [.long (lN z), .ref (g 6)]) ⟨hx, hb, hml, hown, hts⟩ (e_ways l G g hg f_1 N M  (by first | assumption | omega | decide) (by first | assumption | omega | decide)) (my_cwS hts ok_X10_ways w_761 rfl rfl ⟨Nat.le_of_ble_eq_true rfl, Nat.le_of_ble_eq_true rfl⟩) ⟨bP.blind, fun U hU hW => ⟨rfl, by rw [hU]; exact hP, kG.warm hW hG⟩⟩ rfl rfl hl.1 rfl (lv_room (Nat.le_of_ble_eq_true rfl)) dX10_chance_91 ⟨Nat.le_of_ble_eq_true rfl, Nat.le_of_ble_eq_true rfl⟩) (fun r hr9 => ?_)
                subst hr9
                refine b_calli (va_runV (As := [.long (lN z), .long (lN (wz N M))]) (rest := []) ⟨hx, hb, hml, hown, hts⟩ (e_become l G g hg f_1 ab be z (wz N M) hfc6 (by first | assumption | omega | decide) (by first | assumption | omega | decide) (by first | assumption | omega | decide)) (my_cwV hts ok_X2_become w_764 rfl rfl ⟨Nat.le_of_ble_eq_true rfl, Nat.le_of_ble_eq_true rfl⟩) ⟨bP.blind, va_recv hG.1 hP (ci := 2) (q0 := 6) rfl (wl_at (by decide) hfc6), fun U hU hW => ⟨rfl, by rw [hU]; exact hP, kG.warm hW hG⟩⟩ rfl rfl hl.1 rfl (lv_room (Nat.le_of_ble_eq_true rfl)) dX10_chance_94 ⟨Nat.le_of_ble_eq_true rfl, Nat.le_of_ble_eq_true rfl⟩) hS (fun v2 f_2 H locs hq9 hP hS => ?_)
                obtain ⟨ab93, be94, rfl, hq_2_0, o_2⟩ := hq9
                have hfc6 : f_2 6 = eO 2 [.long ab93, .long be94] := hq_2_0
                have hx0 : f_2 0 = eO 9 [.ref (g 1), .ref (g 36), .ref (g 2), .ref (g 3), .ref (g 4), .ref (g 6), .ref (g 7)] := ((o_2 0 (by first | decide | omega))).trans hx0
                have hctc : f_2 1 = eO 1 [.ref (g 36), .ref (g 12), .ref (g 13), .ref (g 15), .int (nI se)] := ((o_2 1 (by first | decide | omega))).trans hctc
                have hhs : f_2 12 = eA G 4 10 hf := ((o_2 12 (by first | decide | omega))).trans hhs
                have him : f_2 2 = eA G 3 2 imf := ((o_2 2 (by first | decide | omega))).trans him
                have hkp : f_2 3 = eZ G 2 kf := ((o_2 3 (by first | decide | omega))).trans hkp
                have hrd : f_2 4 = eO 4 [.ref (g 5), .int (nI mc), .int op, .int cm, .int wu] := ((o_2 4 (by first | decide | omega))).trans hrd
                have hmk : f_2 5 = eI G 50 mk := ((o_2 5 (by first | decide | omega))).trans hmk
                have hwt : f_2 7 = eO 8 [.ref (g 8), .ref (g 9), .ref (g 10), .ref (g 11), .int (nI mn), .int le] := ((o_2 7 (by first | decide | omega))).trans hwt
                have hw8 : f_2 8 = eI G 6 wt := ((o_2 8 (by first | decide | omega))).trans hw8
                have hw9 : f_2 9 = eI G 6 ww := ((o_2 9 (by first | decide | omega))).trans hw9
                have hw10 : f_2 10 = eI G 6 wb := ((o_2 10 (by first | decide | omega))).trans hw10
                have hw11 : f_2 11 = eI G 6 wf := ((o_2 11 (by first | decide | omega))).trans hw11
                have hvl : f_2 15 = eJ G 50 vv := ((o_2 15 (by first | decide | omega))).trans hvl
                have hbk : f_2 36 = eO 0 [.ref (g 37), .ref (g 39), .ref (g 41), .ref (g 43), .ref (g 45), .ref (g 47), .ref (g 112), .int pay, .int fine] := ((o_2 36 (by first | decide | omega))).trans hbk
                have hpr : f_2 37 = eO 5 [.int (nI 30), .int (nI 4), .ref (g 38), .int (nI np)] := ((o_2 37 (by first | decide | omega))).trans hpr
                have hpd : f_2 38 = eI G (30 * 4) dp := ((o_2 38 (by first | decide | omega))).trans hpd
                have hfr : f_2 39 = eO 5 [.int (nI 40), .int (nI 3), .ref (g 40), .int (nI nf)] := ((o_2 39 (by first | decide | omega))).trans hfr
                have hfd : f_2 40 = eI G (40 * 3) df := ((o_2 40 (by first | decide | omega))).trans hfd
                have hor : f_2 41 = eO 5 [.int (nI 4), .int (nI 3), .ref (g 42), .int (nI nr)] := ((o_2 41 (by first | decide | omega))).trans hor
                have hod : f_2 42 = eI G (4 * 3) dr := ((o_2 42 (by first | decide | omega))).trans hod
                have har : f_2 43 = eO 5 [.int (nI 20), .int (nI 3), .ref (g 44), .int (nI na)] := ((o_2 43 (by first | decide | omega))).trans har
                have had : f_2 44 = eI G (20 * 3) da := ((o_2 44 (by first | decide | omega))).trans had
                have htr : f_2 45 = eO 5 [.int (nI 10), .int (nI 70), .ref (g 46), .int (nI nt)] := ((o_2 45 (by first | decide | omega))).trans htr
                have hct : f_2 46 = eI G (10 * 70) ct := ((o_2 46 (by first | decide | omega))).trans hct
                have hla : f_2 47 = eO 6 [.ref (g 48), .ref (g 49)] := ((o_2 47 (by first | decide | omega))).trans hla
                have hlaa : f_2 48 = eA G 5 20 lf := ((o_2 48 (by first | decide | omega))).trans hlaa
                have hts0 : f_2 112 = eO 6 [.ref (g 113), .ref (g 114)] := ((o_2 112 (by first | decide | omega))).trans hts0
                have htsa : f_2 113 = eA G 5 4 tf := ((o_2 113 (by first | decide | omega))).trans htsa
                have hH : ∀ i, i < 10 → okH G g f_2 (2 * i + 16) := fun z hz => okH_fr (hH z hz) (o_2 _ (by omega)) (o_2 _ (by omega))
                have hSp : okH G g f_2 13 := okH_fr hSp (o_2 _ (by omega)) (o_2 _ (by omega))
                have hL : ∀ i, i < 20 → okT G g f_2 (3 * i + 52) := fun z hz => okT_fr (hL z hz) (o_2 _ (by omega)) (o_2 _ (by omega)) (o_2 _ (by omega))
                have hT : ∀ i, i < 4 → okT G g f_2 (3 * i + 117) := fun z hz => okT_fr (hT z hz) (o_2 _ (by omega)) (o_2 _ (by omega)) (o_2 _ (by omega))
                have hB1 : okB G g f_2 129 := okB_fr hB1 (fun j _ _ => o_2 j (by omega))
                have hB2 : okB G g f_2 222 := okB_fr hB2 (fun j _ _ => o_2 j (by omega))
                exact W.iret (v := zo z) hx hb hr (fun t ht hW => ⟨⟨_, f_2, rfl, (⟨(show chA (nI N) (nI K) (nI M) (nI D) = zo z by unfold chA; rw [if_pos ⟨c_7, c_16, c_25, c_36⟩, hSv, ← hz0]).symm, ⟨se, hf, imf, kf, mc, op, cm, wu, mk, ab93, be94, mn, le, wt, ww, wb, wf, vv, pay, fine, np, dp, nf, df, nr, dr, na, da, nt, ct, lf, tf, hx0, hctc, hhs, him, hkp, hrd, hmk, hfc6, hwt, hw8, hw9, hw10, hw11, hvl, hbk, hpr, hpd, hfr, hfd, hor, hod, har, had, htr, hct, hla, hlaa, hts0, htsa, by omega, hhf, him0, him1, by omega, by omega, by omega, by omega, by omega, by omega, by omega, hlf, htf, hH, hSp, hL, hT, hB1, hB2⟩, fun j hj => ((o_2 j (by omega))).trans (o_1 j (by omega))⟩), by rw [ht]; exact hP⟩, hS.F ht⟩) hS.2.2 dX10_chance_97
              · have hiM : i ≤ M := by
                  have h : ¬ M < i := fun z => c_52 (nI_lt z (by omega))
                  omega
                obtain ⟨f9, hf9⟩ : ∃ f9, f5 = f9 + 1 := ⟨f5 - 1, by omega⟩
                subst hf9
                refine lv_lload hx hb dX10_chance_55 (lv_at hl 4 rfl) ?_
                refine lv_iload_n hx hb dX10_chance_57 rfl (lv_at hl 2 rfl) ?_
                refine lv_iload hx hb dX10_chance_58 (lv_at hl 5 rfl) ?_
                refine rd_calll (va_runS (As := [.int (nI K), .int (nI i)]) (rest := [.long (lN z)]) ⟨hx, hb, hml, hown, hts⟩ (e_ways l G g hg f_1 K i  (by first | assumption | omega | decide) (by first | assumption | omega | decide)) (my_cwS hts ok_X10_ways w_761 rfl rfl ⟨Nat.le_of_ble_eq_true rfl, Nat.le_of_ble_eq_true rfl⟩) ⟨bP.blind, fun U hU hW => ⟨rfl, by rw [hU]; exact hP, kG.warm hW hG⟩⟩ rfl rfl hl.1 rfl (lv_room (Nat.le_of_ble_eq_true rfl)) dX10_chance_60 ⟨Nat.le_of_ble_eq_true rfl, Nat.le_of_ble_eq_true rfl⟩) (fun r hr9 => ?_)
                subst hr9
                refine lv_iload_n hx hb dX10_chance_63 rfl (lv_at hl 1 rfl) ?_
                refine lv_iload_n hx hb dX10_chance_64 rfl (lv_at hl 2 rfl) ?_
                refine lv_isub hx hb dX10_chance_65 ?_
                refine my_bei (v := nI (N - K)) (pk_sub hK) ?_
                refine lv_iload_n hx hb dX10_chance_66 rfl (lv_at hl 3 rfl) ?_
                refine lv_iload hx hb dX10_chance_67 (lv_at hl 5 rfl) ?_
                refine lv_isub hx hb dX10_chance_69 ?_
                refine my_bei (v := nI (M - i)) (pk_sub hiM) ?_
                refine rd_calll (va_runS (As := [.int (nI (N - K)), .int (nI (M - i))]) (rest := [.long (lN (wz K i)), .long (lN z)]) ⟨hx, hb, hml, hown, hts⟩ (e_ways l G g hg f_1 (N - K) (M - i)  (by first | assumption | omega | decide) (by first | assumption | omega | decide)) (my_cwS hts ok_X10_ways w_761 rfl rfl ⟨Nat.le_of_ble_eq_true rfl, Nat.le_of_ble_eq_true rfl⟩) ⟨bP.blind, fun U hU hW => ⟨rfl, by rw [hU]; exact hP, kG.warm hW hG⟩⟩ rfl rfl hl.1 rfl (lv_room (Nat.le_of_ble_eq_true rfl)) dX10_chance_70 ⟨Nat.le_of_ble_eq_true rfl, Nat.le_of_ble_eq_true rfl⟩) (fun r hr9 => ?_)
                subst hr9
                refine lv_lmul hx hb dX10_chance_73 ?_
                refine my_bel (v := lN (wz K i * wz (N - K) (M - i))) (lN_mul _ _) ?_
                refine lv_ladd hx hb dX10_chance_74 ?_
                refine my_bel (v := lN (z + wz K i * wz (N - K) (M - i))) (lN_add _ _) ?_
                refine lv_lstore (lv' := [(5, .long (lN (z + wz K i * wz (N - K) (M - i)))), (0, .ref (g 0)), (1, .int (nI N)), (2, .int (nI K)), (3, .int (nI M)), (7, .int (nI i))]) hx hb dX10_chance_75 hl (by decide) rfl (fun ls hl => ?_)
                refine lv_iinc (v := nI (i + 1)) (lv' := [(7, .int (nI (i + 1))), (5, .long (lN (z + wz K i * wz (N - K) (M - i)))), (0, .ref (g 0)), (1, .int (nI N)), (2, .int (nI K)), (3, .int (nI M))]) hx hb dX10_chance_77 hl (k := 5) rfl (nI_1 i) (by decide) rfl (fun ls hl => ?_)
                refine lv_goto (tgt := 49) hx hb dX10_chance_80 (by decide) ?_
                exact ih_1 f9 (i + 1) (z + wz K i * wz (N - K) (M - i)) f_1 _ _ _ (by rw [← hv9, sm_step hiM]) (by omega) (by omega) (by have := wz_m (i := i) (j := M - i) hN hK; omega) (hH) (hSp) (hL) (hT) (hB1) (hB2) (by omega) (hx0) (hctc) (hhs) (him) (hkp) (hrd) (hmk) (hfc6) (hwt) (hw8) (hw9) (hw10) (hw11) (hvl) (hbk) (hpr) (hpd) (hfr) (hfd) (hor) (hod) (har) (had) (htr) (hct) (hla) (hlaa) (hts0) (htsa) (fun j hj => (o_1 j (by omega))) hP hS (lv_sub hl [2, 3, 4, 5, 1, 0] rfl)
          exact key1 (42 + 1) 42 D 0 f _ _ _ (rfl) (by omega) (by omega) (Nat.zero_le _) (hH) (hSp) (hL) (hT) (hB1) (hB2) (by omega) (hx0) (hctc) (hhs) (him) (hkp) (hrd) (hmk) (hfc6) (hwt) (hw8) (hw9) (hw10) (hw11) (hvl) (hbk) (hpr) (hpd) (hfr) (hfd) (hor) (hod) (har) (had) (htr) (hct) (hla) (hlaa) (hts0) (htsa) (fun j _ => rfl) hP hS (lv_sub hl [2, 3, 4, 5, 1, 0] rfl)
        · refine lv_bipush (v := (-2)) hx hb dX10_chance_39 (by decide) ?_
          exact W.iret (v := (-2)) hx hb hr (fun t ht hW => ⟨⟨_, f, rfl, (⟨(show chA a1 a2 a3 a4 = -2 from if_neg (fun z => c_36 z.2.2.2)).symm, ⟨se, hf, imf, kf, mc, op, cm, wu, mk, ab, be, mn, le, wt, ww, wb, wf, vv, pay, fine, np, dp, nf, df, nr, dr, na, da, nt, ct, lf, tf, hx0, hctc, hhs, him, hkp, hrd, hmk, hfc6, hwt, hw8, hw9, hw10, hw11, hvl, hbk, hpr, hpd, hfr, hfd, hor, hod, har, had, htr, hct, hla, hlaa, hts0, htsa, by omega, hhf, him0, him1, by omega, by omega, by omega, by omega, by omega, by omega, by omega, hlf, htf, hH, hSp, hL, hT, hB1, hB2⟩, fun j hj => rfl⟩), by rw [ht]; exact hP⟩, hS.F ht⟩) hS.2.2 dX10_chance_41
theorem m_chanceE (l : Launch) (G : gW) (g : Nat → Nat) (hg : gOK g) (f : Nat → va_E) (a1 : Int32) (a2 : Int32) (a3 : Int32) (a4 : Int32) (hI : cI G g f) : Met l yX10_chance (wsT yX10_chance cX10_chance 8 (some .int)) ({ frames := 2, cells := 0, slots := 0, locals := 56 }) (bP G g f [.ref (g 0), .int a1, .int a2, .int a3, .int a4]) (bQi G g (fun (z9 : Int32) (f' : Nat → va_E) => z9 = chA a1 a2 a3 a4 ∧ (cI G g f') ∧ ∀ j, 315 ≤ j → f' j = f j)) 0 0 (gA g) := cI_elim hI (fun se hf imf kf mc op cm wu mk ab be mn le wt ww wb wf vv pay fine np dp nf df nr dr na da nt ct lf tf hx0 hctc hhs him hkp hrd hmk hfc6 hwt hw8 hw9 hw10 hw11 hvl hbk hpr hpd hfr hfd hor hod har had htr hct hla hlaa hts0 htsa hse hhf him0 him1 hmc hmn hnp hnf hnr hna hnt hlf htf hH hSp hL hT hB1 hB2 => n_chanceE l G g hg f se hf imf kf mc op cm wu mk ab be mn le wt ww wb wf vv pay fine np dp nf df nr dr na da nt ct lf tf a1 a2 a3 a4 hx0 hctc hhs him hkp hrd hmk hfc6 hwt hw8 hw9 hw10 hw11 hvl hbk hpr hpd hfr hfd hor hod har had htr hct hla hlaa hts0 htsa hse hhf him0 him1 hmc hmn hnp hnf hnr hna hnt hlf htf hH hSp hL hT hB1 hB2)
set_option maxHeartbeats 4000000 in
set_option maxRecDepth 100000 in
theorem n2_chanceE (l : Launch) (G : gW) (g : Nat → Nat) (hg : gOK g) (f : Nat → va_E) (ab2 : Int64) (be2 : Int64) (sn : Int32) (wn : Int32) (sa : Int32) (ly : Int32) (rdy : Int32) (fd : Nat) (ss : Nat → Int32) (np : Nat) (nf : Nat) (nr : Nat) (na : Nat) (nt : Nat) (im : Nat → Int32) (kq : Nat → Int32) (sp : Nat → Int32) (wi : Nat → Int32) (wa : Nat → Int32) (va : Nat → Int64) (bo : Nat → Int32) (ju : Nat → Int32) (dr : Nat → Int32) (dn : Nat → Int32) (sl : Nat → Int32) (ax : Nat → Int32) (lf : Nat → Int32) (wh : Nat → Int32) (w6 : Nat → Int32) (b6 : Nat → Int32) (a1 : Int32) (a2 : Int32) (a3 : Int32) (a4 : Int32) (hmo : f 315 = eO 10 [.ref (g 316), .ref (g 317), .ref (g 318), .long ab2, .long be2, .int sn, .ref (g 319), .ref (g 320), .int wn, .ref (g 321), .ref (g 322), .int sa, .int ly, .int rdy, .int (nI fd), .ref (g 323), .ref (g 324), .ref (g 325), .ref (g 326), .ref (g 327), .ref (g 328), .ref (g 329), .ref (g 330), .ref (g 331), .ref (g 332)]) (hss_ : f 316 = eI G 2246 ss) (him_ : f 317 = eI G 4492 im) (hkq_ : f 318 = eZ G 2 kq) (hsp_ : f 319 = eI G 70 sp) (hwi_ : f 320 = eI G 70 wi) (hwa_ : f 321 = eI G 70 wa) (hva_ : f 322 = eJ G 70 va) (hbo_ : f 323 = eI G 11 bo) (hju_ : f 324 = eI G 11 ju) (hdr_ : f 325 = eI G 264 dr) (hdn_ : f 326 = eI G 11 dn) (hsl_ : f 327 = eI G 330 sl) (hax_ : f 328 = eI G 44 ax) (hlf_ : f 329 = eI G 30 lf) (hwh_ : f 330 = eI G 6 wh) (hw6_ : f 331 = eI G 6 w6) (hb6_ : f 332 = eI G 6 b6) (hst : stOK ss np nf nr na nt) (hfo : fd ≤ 10) (hdn : ∀ k, k < 11 → ∃ d, d ≤ 24 ∧ dn k = nI d) (hi0 : stI im 0) (hi1 : stI im 2246) : Met l yX11_chance (wsT yX11_chance cX11_chance 8 (some .int)) ({ frames := 2, cells := 0, slots := 0, locals := 55 }) (bP G g f [.ref (g 315), .int a1, .int a2, .int a3, .int a4]) (bQi G g (fun (z9 : Int32) (f' : Nat → va_E) => z9 = chA a1 a2 a3 a4 ∧ (mI G g f') ∧ ∀ j, j < 315 → f' j = f j)) 0 0 (gA g) := by
  refine Met.ofW (cc := cX11_chance) (maxL := 8) (ret := (some .int)) (by decide) rfl ?_
  intro p e s m args below meth c s₁ B hml hv
  obtain ⟨rfl, hP, hG⟩ := hv
  have hx := B.exec
  have hb := B.bytes
  have hr := B.returns
  have hts := my_hts (atoms_spec (ws := wsT yX11_chance cX11_chance 8 (some .int)) B.pre)
  have hown : s.vm.findClass RX11 = some m.cls := findClass_of_methodNamed B.named
  have hlocks := B.notSynchronized
  have hS : va_S (gA g) s.heap s.heap [] := va_S.rf
  have hl := lv_entry ([.ref (g 315), .int a1, .int a2, .int a3, .int a4]) (n := 8) (Nat.le_of_ble_eq_true rfl)
  rw [lg_entry_eq]
  generalize (lg_sl ([.ref (g 315), .int a1, .int a2, .int a3, .int a4]) ++ List.replicate (8 - (lg_sl ([.ref (g 315), .int a1, .int a2, .int a3, .int a4])).length) Slot.unset).toArray = ls at hl ⊢
  have hl : lv_has ls 8 [(0, .ref (g 315)), (1, .int a1), (2, .int a2), (3, .int a3), (4, .int a4)] := hl
  have hc0 := hst.c0
  have hc1 := hst.c1
  have hc2 := hst.c2
  have hc3 := hst.c3
  have hc4 := hst.c4
  refine lv_iload_n hx hb dX11_chance_0 rfl (lv_at hl 1 rfl) ?_
  refine lv_i2l hx hb dX11_chance_1 rfl ?_
  refine lv_lconst (v := 0) hx hb dX11_chance_2 (by decide) ?_
  refine my_bel (v := Int32.toInt64 0) (by decide) ?_
  refine lv_ldc2 (v := 40) hx hb hown (hts (.constantLong RX11 241 (40)) w_775) dX11_chance_3 ?_
  refine my_bel (v := Int32.toInt64 40) (by decide) ?_
  refine rd_calli (va_runS (As := [.long (Int32.toInt64 a1), .long (Int32.toInt64 0), .long (Int32.toInt64 40)]) (rest := []) ⟨hx, hb, hml, hown, hts⟩ (r_in l G g hg f a1 0 40  ) (my_cwS hts ok_X11_in w_162 rfl rfl ⟨Nat.le_of_ble_eq_true rfl, Nat.le_of_ble_eq_true rfl⟩) ⟨bP.blind, fun U hU hW => ⟨rfl, by rw [hU]; exact hP, kG.warm hW hG⟩⟩ rfl rfl hl.1 rfl (lv_room (Nat.le_of_ble_eq_true rfl)) dX11_chance_6 ⟨Nat.le_of_ble_eq_true rfl, Nat.le_of_ble_eq_true rfl⟩) (fun r hr9 => ?_)
  subst hr9
  refine my_ifeq (tgt := 47) hx hb dX11_chance_9 (by decide) (fun c_9 => ?_) (fun c_9 => ?_)
  · refine lv_bipush (v := (-2)) hx hb dX11_chance_47 (by decide) ?_
    exact W.iret (v := (-2)) hx hb hr (fun t ht hW => ⟨⟨_, f, rfl, (⟨(show chA a1 a2 a3 a4 = -2 from if_neg (fun z => c_9 z.1)).symm, ⟨ab2, be2, sn, wn, sa, ly, rdy, fd, ss, np, nf, nr, na, nt, im, kq, sp, wi, wa, va, bo, ju, dr, dn, sl, ax, lf, wh, w6, b6, hmo, hss_, him_, hkq_, hsp_, hwi_, hwa_, hva_, hbo_, hju_, hdr_, hdn_, hsl_, hax_, hlf_, hwh_, hw6_, hb6_, hst, by omega, hdn, hi0, hi1⟩, fun j hj => rfl⟩), by rw [ht]; exact hP⟩, hS.F ht⟩) hS.2.2 dX11_chance_49
  · refine lv_iload_n hx hb dX11_chance_12 rfl (lv_at hl 2 rfl) ?_
    refine lv_i2l hx hb dX11_chance_13 rfl ?_
    refine lv_lconst (v := 0) hx hb dX11_chance_14 (by decide) ?_
    refine my_bel (v := Int32.toInt64 0) (by decide) ?_
    refine lv_iload_n hx hb dX11_chance_15 rfl (lv_at hl 1 rfl) ?_
    refine lv_i2l hx hb dX11_chance_16 rfl ?_
    refine rd_calli (va_runS (As := [.long (Int32.toInt64 a2), .long (Int32.toInt64 0), .long (Int32.toInt64 a1)]) (rest := []) ⟨hx, hb, hml, hown, hts⟩ (r_in l G g hg f a2 0 a1  ) (my_cwS hts ok_X11_in w_162 rfl rfl ⟨Nat.le_of_ble_eq_true rfl, Nat.le_of_ble_eq_true rfl⟩) ⟨bP.blind, fun U hU hW => ⟨rfl, by rw [hU]; exact hP, kG.warm hW hG⟩⟩ rfl rfl hl.1 rfl (lv_room (Nat.le_of_ble_eq_true rfl)) dX11_chance_17 ⟨Nat.le_of_ble_eq_true rfl, Nat.le_of_ble_eq_true rfl⟩) (fun r hr9 => ?_)
    subst hr9
    refine my_ifeq (tgt := 47) hx hb dX11_chance_20 (by decide) (fun c_20 => ?_) (fun c_20 => ?_)
    · refine lv_bipush (v := (-2)) hx hb dX11_chance_47 (by decide) ?_
      exact W.iret (v := (-2)) hx hb hr (fun t ht hW => ⟨⟨_, f, rfl, (⟨(show chA a1 a2 a3 a4 = -2 from if_neg (fun z => c_20 z.2.1)).symm, ⟨ab2, be2, sn, wn, sa, ly, rdy, fd, ss, np, nf, nr, na, nt, im, kq, sp, wi, wa, va, bo, ju, dr, dn, sl, ax, lf, wh, w6, b6, hmo, hss_, him_, hkq_, hsp_, hwi_, hwa_, hva_, hbo_, hju_, hdr_, hdn_, hsl_, hax_, hlf_, hwh_, hw6_, hb6_, hst, by omega, hdn, hi0, hi1⟩, fun j hj => rfl⟩), by rw [ht]; exact hP⟩, hS.F ht⟩) hS.2.2 dX11_chance_49
    · refine lv_iload_n hx hb dX11_chance_23 rfl (lv_at hl 3 rfl) ?_
      refine lv_i2l hx hb dX11_chance_24 rfl ?_
      refine lv_lconst (v := 0) hx hb dX11_chance_25 (by decide) ?_
      refine my_bel (v := Int32.toInt64 0) (by decide) ?_
      refine lv_iload_n hx hb dX11_chance_26 rfl (lv_at hl 1 rfl) ?_
      refine lv_i2l hx hb dX11_chance_27 rfl ?_
      refine rd_calli (va_runS (As := [.long (Int32.toInt64 a3), .long (Int32.toInt64 0), .long (Int32.toInt64 a1)]) (rest := []) ⟨hx, hb, hml, hown, hts⟩ (r_in l G g hg f a3 0 a1  ) (my_cwS hts ok_X11_in w_162 rfl rfl ⟨Nat.le_of_ble_eq_true rfl, Nat.le_of_ble_eq_true rfl⟩) ⟨bP.blind, fun U hU hW => ⟨rfl, by rw [hU]; exact hP, kG.warm hW hG⟩⟩ rfl rfl hl.1 rfl (lv_room (Nat.le_of_ble_eq_true rfl)) dX11_chance_28 ⟨Nat.le_of_ble_eq_true rfl, Nat.le_of_ble_eq_true rfl⟩) (fun r hr9 => ?_)
      subst hr9
      refine my_ifeq (tgt := 47) hx hb dX11_chance_31 (by decide) (fun c_31 => ?_) (fun c_31 => ?_)
      · refine lv_bipush (v := (-2)) hx hb dX11_chance_47 (by decide) ?_
        exact W.iret (v := (-2)) hx hb hr (fun t ht hW => ⟨⟨_, f, rfl, (⟨(show chA a1 a2 a3 a4 = -2 from if_neg (fun z => c_31 z.2.2.1)).symm, ⟨ab2, be2, sn, wn, sa, ly, rdy, fd, ss, np, nf, nr, na, nt, im, kq, sp, wi, wa, va, bo, ju, dr, dn, sl, ax, lf, wh, w6, b6, hmo, hss_, him_, hkq_, hsp_, hwi_, hwa_, hva_, hbo_, hju_, hdr_, hdn_, hsl_, hax_, hlf_, hwh_, hw6_, hb6_, hst, by omega, hdn, hi0, hi1⟩, fun j hj => rfl⟩), by rw [ht]; exact hP⟩, hS.F ht⟩) hS.2.2 dX11_chance_49
      · refine lv_iload hx hb dX11_chance_34 (lv_at hl 4 rfl) ?_
        refine lv_i2l hx hb dX11_chance_36 rfl ?_
        refine lv_lconst (v := 0) hx hb dX11_chance_37 (by decide) ?_
        refine my_bel (v := Int32.toInt64 0) (by decide) ?_
        refine lv_ldc2 (v := 40) hx hb hown (hts (.constantLong RX11 241 (40)) w_775) dX11_chance_38 ?_
        refine my_bel (v := Int32.toInt64 40) (by decide) ?_
        refine rd_calli (va_runS (As := [.long (Int32.toInt64 a4), .long (Int32.toInt64 0), .long (Int32.toInt64 40)]) (rest := []) ⟨hx, hb, hml, hown, hts⟩ (r_in l G g hg f a4 0 40  ) (my_cwS hts ok_X11_in w_162 rfl rfl ⟨Nat.le_of_ble_eq_true rfl, Nat.le_of_ble_eq_true rfl⟩) ⟨bP.blind, fun U hU hW => ⟨rfl, by rw [hU]; exact hP, kG.warm hW hG⟩⟩ rfl rfl hl.1 rfl (lv_room (Nat.le_of_ble_eq_true rfl)) dX11_chance_41 ⟨Nat.le_of_ble_eq_true rfl, Nat.le_of_ble_eq_true rfl⟩) (fun r hr9 => ?_)
        subst hr9
        refine my_ifne (tgt := 50) hx hb dX11_chance_44 (by decide) (fun c_44 => ?_) (fun c_44 => ?_)
        · obtain ⟨N, hN, e1⟩ := inB_nat (B := 40) (by decide) c_9
          subst e1
          obtain ⟨K, hK, e2⟩ := inB_nat (by omega) c_20
          subst e2
          obtain ⟨M, hM, e3⟩ := inB_nat (by omega) c_31
          subst e3
          obtain ⟨D, hD4, e4⟩ := inB_nat (B := 40) (by decide) c_44
          subst e4
          have hSv : chS (nI N) (nI K) (nI M) (nI D) = sm N K M 42 D 0 := by unfold chS; rw [nI_clamp (by omega), nI_clamp (by omega), nI_clamp (by omega), nI_clamp (by omega)]
          refine lv_lconst (v := 0) hx hb dX11_chance_50 (by decide) ?_
          refine my_bel (v := lN 0) (rfl) ?_
          refine lv_lstore (lv' := [(5, .long (lN 0)), (0, .ref (g 315)), (1, .int (nI N)), (2, .int (nI K)), (3, .int (nI M)), (4, .int (nI D))]) hx hb dX11_chance_51 hl (by decide) rfl (fun ls hl => ?_)
          refine lv_iload hx hb dX11_chance_53 (lv_at hl 5 rfl) ?_
          refine lv_istore (lv' := [(7, .int (nI D)), (5, .long (lN 0)), (0, .ref (g 315)), (1, .int (nI N)), (2, .int (nI K)), (3, .int (nI M)), (4, .int (nI D))]) hx hb dX11_chance_55 hl (by decide) rfl (fun ls hl => ?_)
          have key1 : ∀ (n9_1 : Nat) (f5 : Nat) (i : Nat) (z : Nat) (f_1 : Nat → va_E) (H : Heap) (locs : List Loc) (ls : Array Slot), (sm N K M f5 i z = sm N K M 42 D 0) → (M + 1 ≤ f5 + i) → (i ≤ 41) → (z ≤ i * 1099511627776) → f5 < n9_1 → f_1 315 = eO 10 [.ref (g 316), .ref (g 317), .ref (g 318), .long ab2, .long be2, .int sn, .ref (g 319), .ref (g 320), .int wn, .ref (g 321), .ref (g 322), .int sa, .int ly, .int rdy, .int (nI fd), .ref (g 323), .ref (g 324), .ref (g 325), .ref (g 326), .ref (g 327), .ref (g 328), .ref (g 329), .ref (g 330), .ref (g 331), .ref (g 332)] → f_1 316 = eI G 2246 ss → f_1 317 = eI G 4492 im → f_1 318 = eZ G 2 kq → f_1 319 = eI G 70 sp → f_1 320 = eI G 70 wi → f_1 321 = eI G 70 wa → f_1 322 = eJ G 70 va → f_1 323 = eI G 11 bo → f_1 324 = eI G 11 ju → f_1 325 = eI G 264 dr → f_1 326 = eI G 11 dn → f_1 327 = eI G 330 sl → f_1 328 = eI G 44 ax → f_1 329 = eI G 30 lf → f_1 330 = eI G 6 wh → f_1 331 = eI G 6 w6 → f_1 332 = eI G 6 b6 → (∀ j, (j < 333 ∨ 333 ≤ j) → f_1 j = f j) → va_P G.1 vwCl (wl g f_1) H → va_S (gA g) s.heap H locs → lv_has ls 8 [(0, .ref (g 315)), (1, .int (nI N)), (2, .int (nI K)), (3, .int (nI M)), (5, .long (lN z)), (7, .int (nI i))] → W p l e (headSpec (wsT yX11_chance cX11_chance 8 (some .int)) ({ frames := 2, cells := 0, slots := 0, locals := 55 })).room s m ([.ref (g 315), .int (nI N), .int (nI K), .int (nI M), .int (nI D)] : List Value).toArray below meth c H locs 0 0 (MQ below (bQi G g (fun (z9 : Int32) (f' : Nat → va_E) => z9 = chA (nI N) (nI K) (nI M) (nI D) ∧ (mI G g f') ∧ ∀ j, j < 315 → f' j = f j)) ([.ref (g 315), .int (nI N), .int (nI K), .int (nI M), .int (nI D)] : List Value).toArray s 0 0 (gA g)) (F0 m 57 ls []) := by
            intro n9_1
            induction n9_1 with
            | zero => intro f5 i z f_1 H locs ls hv9 hf5 hi hz hn9_1; exact absurd hn9_1 (Nat.not_lt_zero _)
            | succ n9_1 ih_1 =>
              intro f5 i z f_1 H locs ls hv9 hf5 hi hz hn9_1 hmo hss_ him_ hkq_ hsp_ hwi_ hwa_ hva_ hbo_ hju_ hdr_ hdn_ hsl_ hax_ hlf_ hwh_ hw6_ hb6_ o_1 hP hS hl
              refine lv_iload hx hb dX11_chance_57 (lv_at hl 5 rfl) ?_
              refine lv_iload_n hx hb dX11_chance_59 rfl (lv_at hl 3 rfl) ?_
              refine lv_icmp_gt (tgt := 91) hx hb dX11_chance_60 (by decide) (fun c_60 => ?_) (fun c_60 => ?_)
              · have k_60 : M < i := (nI_ltI (a := M) (b := i) (by omega) (by omega)).mp c_60
                have hMi : M < i := (nI_ltI (by omega) (by omega)).mp c_60
                have hz0 : z = sm N K M 42 D 0 := by rw [← hv9, sm_end hMi]
                have hzb : z < 2 ^ 63 := by omega
                have hwb : wz N M < 2 ^ 63 := by have := wz_s (T := M) hN; omega
                have hwp : 0 < wz N M := wz_p hN hM
                refine lv_aload_n hx hb dX11_chance_91 rfl (lv_at hl 0 rfl) ?_
                refine lv_lload hx hb dX11_chance_92 (lv_at hl 4 rfl) ?_
                refine lv_iload_n hx hb dX11_chance_94 rfl (lv_at hl 1 rfl) ?_
                refine lv_iload_n hx hb dX11_chance_95 rfl (lv_at hl 3 rfl) ?_
                refine rd_calll (va_runS (As := [.int (nI N), .int (nI M)]) (rest := [.long (lN z), .ref (g 315)]) ⟨hx, hb, hml, hown, hts⟩ (e2_ways l G g hg f_1 N M  (by first | assumption | omega | decide) (by first | assumption | omega | decide)) (my_cwS hts ok_X11_ways w_776 rfl rfl ⟨Nat.le_of_ble_eq_true rfl, Nat.le_of_ble_eq_true rfl⟩) ⟨bP.blind, fun U hU hW => ⟨rfl, by rw [hU]; exact hP, kG.warm hW hG⟩⟩ rfl rfl hl.1 rfl (lv_room (Nat.le_of_ble_eq_true rfl)) dX11_chance_96 ⟨Nat.le_of_ble_eq_true rfl, Nat.le_of_ble_eq_true rfl⟩) (fun r hr9 => ?_)
                subst hr9
                refine b_calli (va_runV (As := [.long (lN z), .long (lN (wz N M))]) (rest := []) ⟨hx, hb, hml, hown, hts⟩ (e_told l G g hg f_1 ab2 be2 sn wn sa ly rdy fd z (wz N M) hmo (by first | assumption | omega | decide) (by first | assumption | omega | decide) (by first | assumption | omega | decide)) (my_cwV hts ok_X11_told w_779 rfl rfl ⟨Nat.le_of_ble_eq_true rfl, Nat.le_of_ble_eq_true rfl⟩) ⟨bP.blind, va_recv hG.1 hP (ci := 10) (q0 := 315) rfl (wl_at (by decide) hmo), fun U hU hW => ⟨rfl, by rw [hU]; exact hP, kG.warm hW hG⟩⟩ rfl rfl hl.1 rfl (lv_room (Nat.le_of_ble_eq_true rfl)) dX11_chance_99 ⟨Nat.le_of_ble_eq_true rfl, Nat.le_of_ble_eq_true rfl⟩) hS (fun v2 f_2 H locs hq9 hP hS => ?_)
                obtain ⟨ab93, be94, rfl, hq_2_0, o_2⟩ := hq9
                have hmo : f_2 315 = eO 10 [.ref (g 316), .ref (g 317), .ref (g 318), .long ab93, .long be94, .int sn, .ref (g 319), .ref (g 320), .int wn, .ref (g 321), .ref (g 322), .int sa, .int ly, .int rdy, .int (nI fd), .ref (g 323), .ref (g 324), .ref (g 325), .ref (g 326), .ref (g 327), .ref (g 328), .ref (g 329), .ref (g 330), .ref (g 331), .ref (g 332)] := hq_2_0
                have hss_ : f_2 316 = eI G 2246 ss := ((o_2 316 (by first | decide | omega))).trans hss_
                have him_ : f_2 317 = eI G 4492 im := ((o_2 317 (by first | decide | omega))).trans him_
                have hkq_ : f_2 318 = eZ G 2 kq := ((o_2 318 (by first | decide | omega))).trans hkq_
                have hsp_ : f_2 319 = eI G 70 sp := ((o_2 319 (by first | decide | omega))).trans hsp_
                have hwi_ : f_2 320 = eI G 70 wi := ((o_2 320 (by first | decide | omega))).trans hwi_
                have hwa_ : f_2 321 = eI G 70 wa := ((o_2 321 (by first | decide | omega))).trans hwa_
                have hva_ : f_2 322 = eJ G 70 va := ((o_2 322 (by first | decide | omega))).trans hva_
                have hbo_ : f_2 323 = eI G 11 bo := ((o_2 323 (by first | decide | omega))).trans hbo_
                have hju_ : f_2 324 = eI G 11 ju := ((o_2 324 (by first | decide | omega))).trans hju_
                have hdr_ : f_2 325 = eI G 264 dr := ((o_2 325 (by first | decide | omega))).trans hdr_
                have hdn_ : f_2 326 = eI G 11 dn := ((o_2 326 (by first | decide | omega))).trans hdn_
                have hsl_ : f_2 327 = eI G 330 sl := ((o_2 327 (by first | decide | omega))).trans hsl_
                have hax_ : f_2 328 = eI G 44 ax := ((o_2 328 (by first | decide | omega))).trans hax_
                have hlf_ : f_2 329 = eI G 30 lf := ((o_2 329 (by first | decide | omega))).trans hlf_
                have hwh_ : f_2 330 = eI G 6 wh := ((o_2 330 (by first | decide | omega))).trans hwh_
                have hw6_ : f_2 331 = eI G 6 w6 := ((o_2 331 (by first | decide | omega))).trans hw6_
                have hb6_ : f_2 332 = eI G 6 b6 := ((o_2 332 (by first | decide | omega))).trans hb6_
                exact W.iret (v := zo z) hx hb hr (fun t ht hW => ⟨⟨_, f_2, rfl, (⟨(show chA (nI N) (nI K) (nI M) (nI D) = zo z by unfold chA; rw [if_pos ⟨c_9, c_20, c_31, c_44⟩, hSv, ← hz0]).symm, ⟨ab93, be94, sn, wn, sa, ly, rdy, fd, ss, np, nf, nr, na, nt, im, kq, sp, wi, wa, va, bo, ju, dr, dn, sl, ax, lf, wh, w6, b6, hmo, hss_, him_, hkq_, hsp_, hwi_, hwa_, hva_, hbo_, hju_, hdr_, hdn_, hsl_, hax_, hlf_, hwh_, hw6_, hb6_, hst, by omega, hdn, hi0, hi1⟩, fun j hj => ((o_2 j (by omega))).trans (o_1 j (by omega))⟩), by rw [ht]; exact hP⟩, hS.F ht⟩) hS.2.2 dX11_chance_102
              · have k_60 : ¬ M < i := fun z9 => c_60 ((nI_ltI (a := M) (b := i) (by omega) (by omega)).mpr z9)
                have hiM : i ≤ M := by
                  have h : ¬ M < i := fun z => c_60 (nI_lt z (by omega))
                  omega
                obtain ⟨f9, hf9⟩ : ∃ f9, f5 = f9 + 1 := ⟨f5 - 1, by omega⟩
                subst hf9
                refine lv_lload hx hb dX11_chance_63 (lv_at hl 4 rfl) ?_
                refine lv_iload_n hx hb dX11_chance_65 rfl (lv_at hl 2 rfl) ?_
                refine lv_iload hx hb dX11_chance_66 (lv_at hl 5 rfl) ?_
                refine rd_calll (va_runS (As := [.int (nI K), .int (nI i)]) (rest := [.long (lN z)]) ⟨hx, hb, hml, hown, hts⟩ (e2_ways l G g hg f_1 K i  (by first | assumption | omega | decide) (by first | assumption | omega | decide)) (my_cwS hts ok_X11_ways w_776 rfl rfl ⟨Nat.le_of_ble_eq_true rfl, Nat.le_of_ble_eq_true rfl⟩) ⟨bP.blind, fun U hU hW => ⟨rfl, by rw [hU]; exact hP, kG.warm hW hG⟩⟩ rfl rfl hl.1 rfl (lv_room (Nat.le_of_ble_eq_true rfl)) dX11_chance_68 ⟨Nat.le_of_ble_eq_true rfl, Nat.le_of_ble_eq_true rfl⟩) (fun r hr9 => ?_)
                subst hr9
                refine lv_iload_n hx hb dX11_chance_71 rfl (lv_at hl 1 rfl) ?_
                refine lv_iload_n hx hb dX11_chance_72 rfl (lv_at hl 2 rfl) ?_
                refine lv_isub hx hb dX11_chance_73 ?_
                refine my_bei (v := nI (N - K)) (pk_sub hK) ?_
                refine lv_iload_n hx hb dX11_chance_74 rfl (lv_at hl 3 rfl) ?_
                refine lv_iload hx hb dX11_chance_75 (lv_at hl 5 rfl) ?_
                refine lv_isub hx hb dX11_chance_77 ?_
                refine my_bei (v := nI (M - i)) (pk_sub hiM) ?_
                refine rd_calll (va_runS (As := [.int (nI (N - K)), .int (nI (M - i))]) (rest := [.long (lN (wz K i)), .long (lN z)]) ⟨hx, hb, hml, hown, hts⟩ (e2_ways l G g hg f_1 (N - K) (M - i)  (by first | assumption | omega | decide) (by first | assumption | omega | decide)) (my_cwS hts ok_X11_ways w_776 rfl rfl ⟨Nat.le_of_ble_eq_true rfl, Nat.le_of_ble_eq_true rfl⟩) ⟨bP.blind, fun U hU hW => ⟨rfl, by rw [hU]; exact hP, kG.warm hW hG⟩⟩ rfl rfl hl.1 rfl (lv_room (Nat.le_of_ble_eq_true rfl)) dX11_chance_78 ⟨Nat.le_of_ble_eq_true rfl, Nat.le_of_ble_eq_true rfl⟩) (fun r hr9 => ?_)
                subst hr9
                refine lv_lmul hx hb dX11_chance_81 ?_
                refine my_bel (v := lN (wz K i * wz (N - K) (M - i))) (lN_mul _ _) ?_
                refine lv_ladd hx hb dX11_chance_82 ?_
                refine my_bel (v := lN (z + wz K i * wz (N - K) (M - i))) (lN_add _ _) ?_
                refine lv_lstore (lv' := [(5, .long (lN (z + wz K i * wz (N - K) (M - i)))), (0, .ref (g 315)), (1, .int (nI N)), (2, .int (nI K)), (3, .int (nI M)), (7, .int (nI i))]) hx hb dX11_chance_83 hl (by decide) rfl (fun ls hl => ?_)
                refine lv_iinc (v := nI (i + 1)) (lv' := [(7, .int (nI (i + 1))), (5, .long (lN (z + wz K i * wz (N - K) (M - i)))), (0, .ref (g 315)), (1, .int (nI N)), (2, .int (nI K)), (3, .int (nI M))]) hx hb dX11_chance_85 hl (k := 5) rfl (nI_1 i) (by decide) rfl (fun ls hl => ?_)
                refine lv_goto (tgt := 57) hx hb dX11_chance_88 (by decide) ?_
                exact ih_1 f9 (i + 1) (z + wz K i * wz (N - K) (M - i)) f_1 _ _ _ (by rw [← hv9, sm_step hiM]) (by omega) (by omega) (by have := wz_m (i := i) (j := M - i) hN hK; omega) (by omega) (hmo) (hss_) (him_) (hkq_) (hsp_) (hwi_) (hwa_) (hva_) (hbo_) (hju_) (hdr_) (hdn_) (hsl_) (hax_) (hlf_) (hwh_) (hw6_) (hb6_) (fun j hj => (o_1 j (by omega))) hP hS (lv_sub hl [2, 3, 4, 5, 1, 0] rfl)
          exact key1 (42 + 1) 42 D 0 f _ _ _ (rfl) (by omega) (by omega) (Nat.zero_le _) (by omega) (hmo) (hss_) (him_) (hkq_) (hsp_) (hwi_) (hwa_) (hva_) (hbo_) (hju_) (hdr_) (hdn_) (hsl_) (hax_) (hlf_) (hwh_) (hw6_) (hb6_) (fun j _ => rfl) hP hS (lv_sub hl [2, 3, 4, 5, 1, 0] rfl)
        · refine lv_bipush (v := (-2)) hx hb dX11_chance_47 (by decide) ?_
          exact W.iret (v := (-2)) hx hb hr (fun t ht hW => ⟨⟨_, f, rfl, (⟨(show chA a1 a2 a3 a4 = -2 from if_neg (fun z => c_44 z.2.2.2)).symm, ⟨ab2, be2, sn, wn, sa, ly, rdy, fd, ss, np, nf, nr, na, nt, im, kq, sp, wi, wa, va, bo, ju, dr, dn, sl, ax, lf, wh, w6, b6, hmo, hss_, him_, hkq_, hsp_, hwi_, hwa_, hva_, hbo_, hju_, hdr_, hdn_, hsl_, hax_, hlf_, hwh_, hw6_, hb6_, hst, by omega, hdn, hi0, hi1⟩, fun j hj => rfl⟩), by rw [ht]; exact hP⟩, hS.F ht⟩) hS.2.2 dX11_chance_49
theorem m2_chanceE (l : Launch) (G : gW) (g : Nat → Nat) (hg : gOK g) (f : Nat → va_E) (a1 : Int32) (a2 : Int32) (a3 : Int32) (a4 : Int32) (hI : mI G g f) : Met l yX11_chance (wsT yX11_chance cX11_chance 8 (some .int)) ({ frames := 2, cells := 0, slots := 0, locals := 55 }) (bP G g f [.ref (g 315), .int a1, .int a2, .int a3, .int a4]) (bQi G g (fun (z9 : Int32) (f' : Nat → va_E) => z9 = chA a1 a2 a3 a4 ∧ (mI G g f') ∧ ∀ j, j < 315 → f' j = f j)) 0 0 (gA g) := mI_elim hI (fun ab2 be2 sn wn sa ly rdy fd ss np nf nr na nt im kq sp wi wa va bo ju dr dn sl ax lf wh w6 b6 hmo hss_ him_ hkq_ hsp_ hwi_ hwa_ hva_ hbo_ hju_ hdr_ hdn_ hsl_ hax_ hlf_ hwh_ hw6_ hb6_ hst hfo hdn hi0 hi1 => n2_chanceE l G g hg f ab2 be2 sn wn sa ly rdy fd ss np nf nr na nt im kq sp wi wa va bo ju dr dn sl ax lf wh w6 b6 a1 a2 a3 a4 hmo hss_ him_ hkq_ hsp_ hwi_ hwa_ hva_ hbo_ hju_ hdr_ hdn_ hsl_ hax_ hlf_ hwh_ hw6_ hb6_ hst hfo hdn hi0 hi1)

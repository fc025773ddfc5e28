theorem bvn {v : Nat} (hv : v < 2 ^ 31) : (nI v).toBitVec.toNat = v := by
  show (Int32.ofNat v).toBitVec.toNat = v
  rw [Int32.toBitVec_ofNat', BitVec.toNat_ofNat, Nat.mod_eq_of_lt (by omega)]
theorem and_1 {v : Nat} (hv : v < 2 ^ 31) : nI v &&& 1 = nI (v % 2) := by
  apply Int32.toBitVec_inj.mp
  apply BitVec.eq_of_toNat_eq
  rw [bvn (by omega), Int32.toBitVec_and, BitVec.toNat_and, bvn hv]
  show v &&& 1 = v % 2
  exact Nat.and_one_is_mod v
theorem smod_t : ∀ t, t < 31 → ((BitVec.ofNat 32 t).smod 32).toNat = t := by decide
theorem shr_t {v t : Nat} (hv : v < 2 ^ 31) (ht : t < 31) : nI v >>> (nI t &&& 31) = nI (v / 2 ^ t) := by
  have h1 : (nI t &&& 31).toBitVec = BitVec.ofNat 32 t := by
    apply BitVec.eq_of_toNat_eq
    rw [Int32.toBitVec_and, BitVec.toNat_and, bvn (by omega), BitVec.toNat_ofNat, Nat.mod_eq_of_lt (by omega)]
    show t &&& 31 = t
    have := Nat.and_two_pow_sub_one_eq_mod t 5
    rw [show (31 : Nat) = 2 ^ 5 - 1 from rfl, this, Nat.mod_eq_of_lt (by omega)]
  apply Int32.toBitVec_inj.mp
  rw [Int32.toBitVec_shiftRight, h1]
  apply BitVec.eq_of_toNat_eq
  show ((nI v).toBitVec.sshiftRight ((BitVec.ofNat 32 t).smod 32).toNat).toNat = _
  have h2 : v / 2 ^ t < 2 ^ 31 := Nat.lt_of_le_of_lt (Nat.div_le_self _ _) hv
  have hm : (nI v).toBitVec.msb = false := by
    rw [BitVec.msb_eq_false_iff_two_mul_lt, bvn hv]
    omega
  rw [smod_t t ht, BitVec.toNat_sshiftRight, hm, bvn hv, bvn h2]
  exact Nat.shiftRight_eq_div_pow v t
theorem shr_1 {v : Nat} (hv : v < 2 ^ 31) : nI v >>> (1 &&& 31) = nI (v / 2) := shr_t (t := 1) hv (by decide)
def pcn : Nat → Nat → Nat
  | 0, _ => 0
  | k + 1, v => v % 2 + pcn k (v / 2)
theorem pcn_0 : ∀ k, pcn k 0 = 0 := by
  intro k
  induction k with
  | zero => rfl
  | succ k ih => show 0 % 2 + pcn k (0 / 2) = 0; rw [show 0 / 2 = 0 from rfl, ih]
theorem pcn_s {k v : Nat} : pcn (k + 1) v = v % 2 + pcn k (v / 2) := rfl
theorem pow_h {v k : Nat} (h : v < 2 ^ (31 - k)) (h0 : 0 < v) (hk : k ≤ 31) : k < 31 ∧ v / 2 < 2 ^ (31 - (k + 1)) := by
  have hk2 : k < 31 := by
    rcases Nat.lt_or_ge k 31 with z | z
    · exact z
    · rw [show 31 - k = 0 by omega] at h
      exact absurd h (by omega)
  refine ⟨hk2, ?_⟩
  rw [show 31 - k = (31 - (k + 1)) + 1 by omega, Nat.pow_succ] at h
  omega
theorem pow_b {v k : Nat} (h : v < 2 ^ (31 - k)) : v < 2 ^ 31 := Nat.lt_of_lt_of_le h (Nat.pow_le_pow_right (by decide) (by omega))
theorem ok_X11_draws : okV yX11_draws cX11_draws 7 none 2 := ⟨⟨w_573, w_5, ⟨by decide +kernel, by decide +kernel, by decide +kernel⟩⟩, trivial, w_571, w_572⟩
theorem ok_X11_strikes : okV yX11_strikes cX11_strikes 9 (some .int) 3 := ⟨⟨w_579, w_5, ⟨by decide +kernel, by decide +kernel, by decide +kernel⟩⟩, trivial, w_577, w_578⟩
theorem ok_X11_tries : okV yX11_tries cX11_tries 13 none 4 := ⟨⟨w_531, w_5, ⟨by decide +kernel, by decide +kernel, by decide +kernel⟩⟩, trivial, w_529, w_530⟩
theorem ok_X11_seats : okV yX11_seats cX11_seats 10 none 3 := ⟨⟨w_583, w_5, ⟨by decide +kernel, by decide +kernel, by decide +kernel⟩⟩, trivial, w_581, w_582⟩
theorem ok_X11_finds : okV yX11_finds cX11_finds 2 none 0 := ⟨⟨w_526, w_5, ⟨by decide +kernel, by decide +kernel, by decide +kernel⟩⟩, trivial, w_524, w_525⟩
theorem ok_X11_isTrial : okV yX11_isTrial cX11_isTrial 2 (some .boolean) 1 := ⟨⟨w_683, w_5, ⟨by decide +kernel, by decide +kernel, by decide +kernel⟩⟩, trivial, w_681, w_682⟩
set_option maxHeartbeats 4000000 in
set_option maxRecDepth 100000 in
theorem r_sizeOf (l : Launch) (G : gW) (g : Nat → Nat) (hg : gOK g) (f : Nat → va_E) (n : Int32)   : Met l yX11_sizeOf (wsT yX11_sizeOf cX11_sizeOf 3 (some .int)) ({ frames := 0, cells := 0, slots := 0, locals := 0 }) (bP G g f [.int n]) (rQi (fun z9 => ∃ c9 : Nat, z9 = nI c9 ∧ (c9 ≤ 31) ∧ (∀ S8, S8 < 2 ^ 31 → n = nI S8 → c9 = pcn 31 S8))) 0 0 fr0 := by
  refine Met.ofW (cc := cX11_sizeOf) (maxL := 3) (ret := (some .int)) (by decide) rfl ?_
  intro p e s m args below meth c s₁ B hml hv
  obtain ⟨rfl, hP, hG⟩ := hv
  have hx := B.exec
  have hb := B.bytes
  have hr := B.returns
  have hts := my_hts (atoms_spec (ws := wsT yX11_sizeOf cX11_sizeOf 3 (some .int)) B.pre)
  have hown : s.vm.findClass RX11 = some m.cls := findClass_of_methodNamed B.named
  have hlocks := B.notSynchronized
  have hl := lv_entry ([.int n]) (n := 3) (Nat.le_of_ble_eq_true rfl)
  rw [lg_entry_eq]
  generalize (lg_sl ([.int n]) ++ List.replicate (3 - (lg_sl ([.int n])).length) Slot.unset).toArray = ls at hl ⊢
  have hl : lv_has ls 3 [(0, .int n)] := hl
  by_cases hn0 : n < 0
  · refine lv_iconst (v := 0) hx hb dX11_sizeOf_0 (by decide) ?_
    refine lv_istore_n (lv' := [(1, .int 0), (0, .int n)]) hx hb dX11_sizeOf_1 rfl hl (by decide) rfl (fun ls hl => ?_)
    refine lv_iload_n hx hb dX11_sizeOf_2 rfl (lv_at hl 1 rfl) ?_
    refine lv_istore_n (lv' := [(2, .int n), (1, .int 0), (0, .int n)]) hx hb dX11_sizeOf_3 rfl hl (by decide) rfl (fun ls hl => ?_)
    refine lv_iload_n hx hb dX11_sizeOf_4 rfl (lv_at hl 0 rfl) ?_
    refine lv_if_le (tgt := 21) hx hb dX11_sizeOf_5 (by decide) (fun c_5 => ?_) (fun c_5 => absurd (Int32.le_of_lt hn0) c_5)
    refine lv_iload_n hx hb dX11_sizeOf_21 rfl (lv_at hl 1 rfl) ?_
    exact W.iret (v := 0) hx hb hr (fun t ht hW => ⟨_, rfl, (⟨0, rfl, by omega, fun S hS h => absurd hn0 (by rw [h]; exact nI_pos hS)⟩), ht⟩) (fun _ h => absurd h List.not_mem_nil) dX11_sizeOf_22
  · obtain ⟨S, hS, rfl⟩ := nI_of hn0
    refine lv_iconst (v := 0) hx hb dX11_sizeOf_0 (by decide) ?_
    refine lv_istore_n (lv' := [(1, .int 0), (0, .int (nI S))]) hx hb dX11_sizeOf_1 rfl hl (by decide) rfl (fun ls hl => ?_)
    refine lv_iload_n hx hb dX11_sizeOf_2 rfl (lv_at hl 1 rfl) ?_
    refine lv_istore_n (lv' := [(2, .int (nI S)), (1, .int 0), (0, .int (nI S))]) hx hb dX11_sizeOf_3 rfl hl (by decide) rfl (fun ls hl => ?_)
    have key1 : ∀ (n9_1 : Nat) (k : Nat) (V : Nat) (c1 : Nat) (ls : Array Slot), (k ≤ 31) → (V < 2 ^ (31 - k)) → (c1 ≤ k) → (c1 + pcn (31 - k) V = pcn 31 S) → 31 - k < n9_1 → lv_has ls 3 [(1, .int (nI c1)), (2, .int (nI V))] → W p l e (headSpec (wsT yX11_sizeOf cX11_sizeOf 3 (some .int)) ({ frames := 0, cells := 0, slots := 0, locals := 0 })).room s m ([.int (nI S)] : List Value).toArray below meth c s.heap [] 0 0 (MQ below (rQi (fun z9 => ∃ c9 : Nat, z9 = nI c9 ∧ (c9 ≤ 31) ∧ (∀ S8, S8 < 2 ^ 31 → (nI S) = nI S8 → c9 = pcn 31 S8))) ([.int (nI S)] : List Value).toArray s 0 0 fr0) (F0 m 4 ls []) := by
      intro n9_1
      induction n9_1 with
      | zero => intro k V c1 ls hk hV hc1 hpc hn9_1; exact absurd hn9_1 (Nat.not_lt_zero _)
      | succ n9_1 ih_1 =>
        intro k V c1 ls hk hV hc1 hpc hn9_1 hl
        refine lv_iload_n hx hb dX11_sizeOf_4 rfl (lv_at hl 1 rfl) ?_
        have hVb := pow_b hV
        refine lv_if_le (tgt := 21) hx hb dX11_sizeOf_5 (by decide) (fun c_5 => ?_) (fun c_5 => ?_)
        · have k_5 : V ≤ 0 := (nI_leI (a := V) (b := 0) (by omega) (by omega)).mp c_5
          refine lv_iload_n hx hb dX11_sizeOf_21 rfl (lv_at hl 0 rfl) ?_
          exact W.iret (v := nI c1) hx hb hr (fun t ht hW => ⟨_, rfl, (⟨c1, rfl, by omega, fun S9 hS9 h => by
      have h8 : S = S9 := (nI_eq hS hS9).mp h
      rw [show V = 0 by omega, pcn_0] at hpc
      rw [← h8]; omega⟩), ht⟩) (fun _ h => absurd h List.not_mem_nil) dX11_sizeOf_22
        · have k_5 : ¬ V ≤ 0 := fun z9 => c_5 ((nI_leI (a := V) (b := 0) (by omega) (by omega)).mpr z9)
          have hpw := pow_h hV (by omega) hk
          have hpw1 := hpw.1
          refine lv_iload_n hx hb dX11_sizeOf_8 rfl (lv_at hl 0 rfl) ?_
          refine lv_iload_n hx hb dX11_sizeOf_9 rfl (lv_at hl 1 rfl) ?_
          refine lv_iconst (v := 1) hx hb dX11_sizeOf_10 (by decide) ?_
          refine lv_iand hx hb dX11_sizeOf_11 ?_
          refine my_bei (v := nI (V % 2)) (and_1 (by omega)) ?_
          refine lv_iadd hx hb dX11_sizeOf_12 ?_
          refine my_bei (v := nI (c1 + (V % 2))) (nI_add c1 (V % 2)) ?_
          refine lv_istore_n (lv' := [(1, .int (nI (c1 + (V % 2)))), (2, .int (nI V))]) hx hb dX11_sizeOf_13 rfl hl (by decide) rfl (fun ls hl => ?_)
          refine lv_iload_n hx hb dX11_sizeOf_14 rfl (lv_at hl 1 rfl) ?_
          refine lv_iconst (v := 1) hx hb dX11_sizeOf_15 (by decide) ?_
          refine lv_ishr hx hb dX11_sizeOf_16 ?_
          refine my_bei (v := nI (V / 2)) (shr_1 (by omega)) ?_
          refine lv_istore_n (lv' := [(2, .int (nI (V / 2))), (1, .int (nI (c1 + (V % 2))))]) hx hb dX11_sizeOf_17 rfl hl (by decide) rfl (fun ls hl => ?_)
          refine lv_goto (tgt := 4) hx hb dX11_sizeOf_18 (by decide) ?_
          exact ih_1 (k + 1) (V / 2) (c1 + V % 2) _ (by omega) (hpw.2) (by omega) (by rw [show 31 - k = (31 - (k + 1)) + 1 by omega, pcn_s] at hpc; omega) (by omega) (lv_sub hl [1, 0] rfl)
    exact key1 (31 + 1) 0 S 0 _ (Nat.zero_le _) (hS) (Nat.le_refl _) (Nat.zero_add _) (by omega) (lv_sub hl [1, 0] rfl)

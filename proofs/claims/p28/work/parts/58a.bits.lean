/-- the bit of a number -/
def bt (x : Int32) (n : Nat) : Bool := x.toBitVec.getLsbD n
theorem bt_and {a b : Int32} {n : Nat} : bt (a &&& b) n = (bt a n && bt b n) := by
  unfold bt; rw [Int32.toBitVec_and, BitVec.getLsbD_and]
theorem bt_or {a b : Int32} {n : Nat} : bt (a ||| b) n = (bt a n || bt b n) := by
  unfold bt; rw [Int32.toBitVec_or, BitVec.getLsbD_or]
theorem bt_xor {a b : Int32} {n : Nat} : bt (a ^^^ b) n = (bt a n ^^ bt b n) := by
  unfold bt; rw [Int32.toBitVec_xor, BitVec.getLsbD_xor]
theorem bt_m1 {n : Nat} (h : n < 32) : bt (-1) n = true := by
  unfold bt; rw [show (-1 : Int32).toBitVec = BitVec.allOnes 32 from rfl, BitVec.getLsbD_allOnes, decide_eq_true h]
theorem bt_not {a : Int32} {n : Nat} (h : n < 32) : bt (a ^^^ (-1)) n = !bt a n := by rw [bt_xor, bt_m1 h, Bool.xor_true]
theorem bt_ge {a : Int32} {n : Nat} (h : 32 ≤ n) : bt a n = false := BitVec.getLsbD_of_ge _ _ h
theorem bt_zero {n : Nat} : bt 0 n = false := by
  unfold bt; rw [show (0 : Int32).toBitVec = 0#32 from rfl, BitVec.getLsbD_zero]
theorem bt_ext {a b : Int32} (h : ∀ n, n < 32 → bt a n = bt b n) : a = b := by
  apply Int32.toBitVec_inj.mp
  apply BitVec.eq_of_getLsbD_eq
  intro i hi
  exact h i hi
theorem sh_ix {k : Nat} (h : k < 32) : nI k &&& 31 = nI k := by
  have : ∀ k : Fin 32, nI k.1 &&& 31 = nI k.1 := by decide
  exact this ⟨k, h⟩
theorem sh_sm {k : Nat} (h : k < 32) : (nI k).toBitVec.smod 32 = BitVec.ofNat 32 k := by
  have : ∀ k : Fin 32, (nI k.1).toBitVec.smod 32 = BitVec.ofNat 32 k.1 := by decide
  exact this ⟨k, h⟩
theorem bt_one {k n : Nat} (hk : k < 32) : bt ((1 : Int32) <<< (nI k &&& 31)) n = (decide (n < 32) && decide (n = k)) := by
  unfold bt
  rw [sh_ix hk, Int32.toBitVec_shiftLeft, sh_sm hk, BitVec.shiftLeft_eq', BitVec.getLsbD_shiftLeft, BitVec.toNat_ofNat, Nat.mod_eq_of_lt (show k < 2 ^ 32 by omega), show (1 : Int32).toBitVec = 1#32 from rfl, BitVec.getLsbD_one]
  by_cases h : n = k
  · subst h; simp
  · simp only [h, decide_false, Bool.and_false]
    by_cases h2 : n < k
    · simp [h2]
    · have : ¬ n - k = 0 := by omega
      simp [this]
theorem bt_shr {x : Int32} {k n : Nat} (hk : k < 32) (h : k + n < 32) : bt (x >>> (nI k &&& 31)) n = bt x (k + n) := by
  unfold bt
  rw [sh_ix hk, Int32.toBitVec_shiftRight, sh_sm hk, BitVec.sshiftRight_eq', BitVec.getLsbD_sshiftRight, BitVec.toNat_ofNat, Nat.mod_eq_of_lt (show k < 2 ^ 32 by omega)]
  simp [h, show ¬ 32 ≤ n by omega]
theorem bt_1 {n : Nat} : bt 1 n = decide (n = 0) := by
  unfold bt; rw [show (1 : Int32).toBitVec = 1#32 from rfl, BitVec.getLsbD_one]; simp
theorem and1 {y : Int32} : y &&& 1 = if bt y 0 = true then 1 else 0 := by
  apply bt_ext
  intro n hn
  rw [bt_and, bt_1]
  by_cases h : n = 0
  · subst h; cases hb : bt y 0 <;> simp [bt_1, bt_zero]
  · cases hb : bt y 0 <;> simp [bt_1, bt_zero, h]
theorem sr_bt {x : Int32} {k : Nat} (hk : k < 32) : x >>> (nI k &&& 31) &&& 1 = if bt x k = true then 1 else 0 := by
  rw [and1, bt_shr hk (by omega), Nat.add_zero]
theorem sr_iff {x : Int32} {k : Nat} (hk : k < 32) : x >>> (nI k &&& 31) &&& 1 = 1 ↔ bt x k = true := by
  rw [sr_bt hk]; cases bt x k <;> simp
theorem hbt_bt {x : Int32} {k : Nat} (hk : k < 32) : hbt x (nI k) = bt x k := by
  unfold hbt
  cases hb : bt x k
  · apply decide_eq_false
    intro h; apply h; apply bt_ext
    intro n hn
    rw [bt_and, bt_one hk, bt_zero]
    by_cases e : n = k
    · subst e; simp [hb]
    · simp [e]
  · apply decide_eq_true
    intro h
    have h2 : bt (x &&& ((1 : Int32) <<< (nI k &&& 31))) k = true := by rw [bt_and, bt_one hk, hb]; simp [hk]
    rw [h, bt_zero] at h2; exact Bool.noConfusion h2
theorem lowm {k : Nat} (hk : k ≤ 31) : ((1 : Int32) <<< (nI k &&& 31)) - 1 = Int32.ofNat (2 ^ k - 1) := by
  have : ∀ k : Fin 32, ((1 : Int32) <<< (nI k.1 &&& 31)) - 1 = Int32.ofNat (2 ^ k.1 - 1) := by decide
  exact this ⟨k, by omega⟩
theorem bt_low {k n : Nat} (hk : k ≤ 31) : bt (((1 : Int32) <<< (nI k &&& 31)) - 1) n = decide (n < k) := by
  unfold bt
  rw [lowm hk, show (Int32.ofNat (2 ^ k - 1)).toBitVec = BitVec.ofNat 32 (2 ^ k - 1) from rfl, BitVec.getLsbD_ofNat, Nat.testBit_two_pow_sub_one]
  by_cases h : n < k
  · simp [h, show n < 32 by omega]
  · simp [h]
theorem bt_nat {x : Int32} {k : Nat} (hk : k ≤ 31) (h : ∀ n, k ≤ n → bt x n = false) : x.toInt = x.toBitVec.toNat ∧ x.toBitVec.toNat < 2 ^ k := by
  have h1 : x.toBitVec.toNat < 2 ^ k := by
    apply Nat.lt_pow_two_of_testBit
    intro i hi
    have := h i hi
    rw [bt, BitVec.getLsbD] at this
    exact this
  have h2 : 2 ^ k ≤ 2 ^ 31 := Nat.pow_le_pow_right (by decide) hk
  exact ⟨by rw [← Int32.toInt_toBitVec, BitVec.toInt_eq_toNat_of_lt (by omega)], h1⟩
theorem bt_in {x : Int32} {k : Nat} (hk : k ≤ 30) : inB 0 x (((1 : Int32) <<< (nI k &&& 31)) - 1) = true ↔ ∀ n, k ≤ n → bt x n = false := by
  have hp : 2 ^ k ≤ 2 ^ 30 := Nat.pow_le_pow_right (by decide) hk
  have h1 : 1 ≤ 2 ^ k := Nat.one_le_two_pow
  have em : (((1 : Int32) <<< (nI k &&& 31)) - 1).toInt = (2 ^ k - 1 : Nat) := by
    rw [lowm (by omega)]; exact nI_toInt (n := 2 ^ k - 1) (by omega)
  constructor
  · intro h n hn
    obtain ⟨ha, hb⟩ := of_decide_eq_true h
    rw [Int32.le_iff_toInt_le] at ha hb
    rw [em] at hb
    have h0 : (0 : Int32).toInt = 0 := rfl
    rw [h0] at ha
    have e : x.toInt = x.toBitVec.toNat := by
      rw [← Int32.toInt_toBitVec] at ha ⊢
      exact BitVec.toInt_eq_toNat_of_lt (by have := BitVec.toInt_pos_iff.mp ha; omega)
    rw [bt, BitVec.getLsbD]
    apply Nat.testBit_lt_two_pow
    have : 2 ^ k ≤ 2 ^ n := Nat.pow_le_pow_right (by decide) hn
    omega
  · intro h
    obtain ⟨e, hl⟩ := bt_nat (by omega) h
    apply decide_eq_true
    rw [Int32.le_iff_toInt_le, Int32.le_iff_toInt_le, em, e]
    exact ⟨by show (0 : Int) ≤ _; omega, by omega⟩
theorem bt_out {x : Int32} {k : Nat} (hk : k ≤ 31) : x &&& ((((1 : Int32) <<< (nI k &&& 31)) - 1) ^^^ (-1)) = 0 ↔ ∀ n, k ≤ n → bt x n = false := by
  constructor
  · intro h n hn
    by_cases h32 : n < 32
    · have : bt (x &&& ((((1 : Int32) <<< (nI k &&& 31)) - 1) ^^^ (-1))) n = false := by rw [h, bt_zero]
      rw [bt_and, bt_not h32, bt_low hk] at this
      simpa [show ¬ n < k by omega] using this
    · exact bt_ge (by omega)
  · intro h
    apply bt_ext
    intro n hn
    rw [bt_and, bt_not hn, bt_low hk, bt_zero]
    by_cases e : n < k
    · simp [e]
    · simp [h n (by omega)]


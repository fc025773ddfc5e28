/-! ===== how many bits: Integer.bitCount, told as a number ===== -/
/-- how many of the first n bits are set -/
def cnt (x : Int32) : Nat → Nat
  | 0 => 0
  | n + 1 => cnt x n + (if bt x n = true then 1 else 0)
def pc8 (b : Nat) : Nat := b % 2 + b / 2 % 2 + b / 4 % 2 + b / 8 % 2 + b / 16 % 2 + b / 32 % 2 + b / 64 % 2 + b / 128 % 2
theorem land8 (n m M : Nat) (hm : m < 256) : n &&& (m + 256 * M) = (n % 256 &&& m) + 256 * (n / 256 &&& M) := by
  have h1 : (n &&& (m + 256 * M)) % 2 ^ 8 = n % 2 ^ 8 &&& (m + 256 * M) % 2 ^ 8 := Nat.and_mod_two_pow
  have h2 : (n &&& (m + 256 * M)) / 2 ^ 8 = n / 2 ^ 8 &&& (m + 256 * M) / 2 ^ 8 := Nat.and_div_two_pow
  have e1 : (m + 256 * M) % 2 ^ 8 = m := by omega
  have e2 : (m + 256 * M) / 2 ^ 8 = M := by omega
  rw [e1] at h1
  rw [e2] at h2
  have h3 := Nat.div_add_mod (n &&& (m + 256 * M)) (2 ^ 8)
  rw [h1, h2] at h3
  rw [← h3]
  show 256 * (n / 256 &&& M) + (n % 256 &&& m) = _
  omega
theorem by1 : ∀ b, b < 256 → ∀ r, r < 2 → (b / 2 + 128 * r) &&& 85 = b / 2 &&& 85 := by decide +kernel
theorem by2 : ∀ b, b < 256 → ∀ r, r < 4 → (b / 4 + 64 * r) &&& 51 = b / 4 &&& 51 := by decide +kernel
def yb (b : Nat) : Nat := b - (b / 2 &&& 85)
def zb (b : Nat) : Nat := (yb b &&& 51) + (yb b / 4 &&& 51)
theorem by3 : ∀ b, b < 256 → (b / 2 &&& 85) ≤ b ∧ yb b < 256 ∧ zb b % 16 ≤ 4 ∧ zb b / 16 ≤ 4 ∧ zb b % 16 + zb b / 16 = pc8 b := by decide +kernel
theorem and15 (n : Nat) : n &&& 15 = n % 16 := Nat.and_two_pow_sub_one_eq_mod n 4
theorem and63n (n : Nat) : n &&& 63 = n % 64 := Nat.and_two_pow_sub_one_eq_mod n 6
/-- four bytes -/
def qb4 (a b c d : Nat) : Nat := a + 256 * (b + 256 * (c + 256 * d))
theorem bd_A {b X : Nat} (hb : b < 256) : (b + 256 * X) / 2 % 256 = b / 2 + 128 * (X % 2) := by omega
theorem bd_A2 {b X : Nat} (hb : b < 256) : (b + 256 * X) / 2 / 256 = X / 2 := by omega
theorem bd_B {b X : Nat} (hb : b < 256) : (b + 256 * X) / 4 % 256 = b / 4 + 64 * (X % 4) := by omega
theorem bd_B2 {b X : Nat} (hb : b < 256) : (b + 256 * X) / 4 / 256 = X / 4 := by omega
theorem bd_C {b X : Nat} (hb : b < 256) : (b + 256 * X) % 256 = b := by omega
theorem bd_C2 {b X : Nat} (hb : b < 256) : (b + 256 * X) / 256 = X := by omega
theorem bc_A {b X M : Nat} (hb : b < 256) : (b + 256 * X) / 2 &&& (85 + 256 * M) = (b / 2 &&& 85) + 256 * (X / 2 &&& M) := by
  rw [land8 _ 85 M (by decide), bd_A hb, bd_A2 hb, by1 b hb _ (Nat.mod_lt _ (by decide))]
theorem bc_B {b X M : Nat} (hb : b < 256) : (b + 256 * X) / 4 &&& (51 + 256 * M) = (b / 4 &&& 51) + 256 * (X / 4 &&& M) := by
  rw [land8 _ 51 M (by decide), bd_B hb, bd_B2 hb, by2 b hb _ (Nat.mod_lt _ (by decide))]
theorem bc_C {b X M : Nat} (hb : b < 256) : (b + 256 * X) &&& (51 + 256 * M) = (b &&& 51) + 256 * (X &&& M) := by
  rw [land8 _ 51 M (by decide), bd_C hb, bd_C2 hb]
theorem qb4A {a b c d : Nat} (ha : a < 256) (hb : b < 256) (hc : c < 256) : qb4 a b c d / 2 &&& 1431655765 = qb4 (a / 2 &&& 85) (b / 2 &&& 85) (c / 2 &&& 85) (d / 2 &&& 85) := by
  rw [show (1431655765 : Nat) = 85 + 256 * (85 + 256 * (85 + 256 * 85)) from rfl]
  unfold qb4
  rw [bc_A ha, bc_A hb, bc_A hc]
theorem qb4B {a b c d : Nat} (ha : a < 256) (hb : b < 256) (hc : c < 256) : qb4 a b c d / 4 &&& 858993459 = qb4 (a / 4 &&& 51) (b / 4 &&& 51) (c / 4 &&& 51) (d / 4 &&& 51) := by
  rw [show (858993459 : Nat) = 51 + 256 * (51 + 256 * (51 + 256 * 51)) from rfl]
  unfold qb4
  rw [bc_B ha, bc_B hb, bc_B hc]
theorem qb4C {a b c d : Nat} (ha : a < 256) (hb : b < 256) (hc : c < 256) : qb4 a b c d &&& 858993459 = qb4 (a &&& 51) (b &&& 51) (c &&& 51) (d &&& 51) := by
  rw [show (858993459 : Nat) = 51 + 256 * (51 + 256 * (51 + 256 * 51)) from rfl]
  unfold qb4
  rw [bc_C ha, bc_C hb, bc_C hc]
theorem sbS {a x B Y : Nat} (h : x ≤ a) (h2 : Y ≤ B) : x + 256 * Y ≤ a + 256 * B ∧ a + 256 * B - (x + 256 * Y) = (a - x) + 256 * (B - Y) := by omega
theorem qb4sub {a b c d x y z w : Nat} (h0 : x ≤ a) (h1 : y ≤ b) (h2 : z ≤ c) (h3 : w ≤ d) : qb4 x y z w ≤ qb4 a b c d ∧ qb4 a b c d - qb4 x y z w = qb4 (a - x) (b - y) (c - z) (d - w) := by
  obtain ⟨p1, e1⟩ := sbS h2 h3
  obtain ⟨p2, e2⟩ := sbS h1 p1
  obtain ⟨p3, e3⟩ := sbS h0 p2
  exact ⟨p3, e3.trans (by rw [e2, e1]; rfl)⟩
theorem adS {a x B Y : Nat} : (a + 256 * B) + (x + 256 * Y) = (a + x) + 256 * (B + Y) := by omega
theorem qb4add {a b c d x y z w : Nat} : qb4 a b c d + qb4 x y z w = qb4 (a + x) (b + y) (c + z) (d + w) := by
  unfold qb4
  rw [adS, adS, adS]
theorem bd_D {l h X : Nat} (hl : l ≤ 4) : (l + 16 * h + 256 * X) / 16 = h + 16 * X := by omega
theorem bd_D2 {l h X r D : Nat} (hX : X = r + 16 * D) : (l + 16 * h + 256 * X) + (h + 16 * X) = ((l + h) + 16 * (h + r)) + 256 * (X + D) := by omega
theorem bd_D3 {p q : Nat} (hp : p ≤ 8) (hq : q ≤ 8) : p + 16 * q < 256 ∧ (p + 16 * q) % 16 = p := by omega
theorem bc_D {l h X M : Nat} (hl : l ≤ 4) (hh : h ≤ 4) (hX : X % 16 ≤ 4) : ((l + 16 * h + 256 * X) + (l + 16 * h + 256 * X) / 16) &&& (15 + 256 * M) = (l + h) + 256 * ((X + X / 16) &&& M) := by
  obtain ⟨p1, p2⟩ := bd_D3 (p := l + h) (q := h + X % 16) (by omega) (by omega)
  rw [bd_D hl, bd_D2 (r := X % 16) (D := X / 16) (Nat.mod_add_div X 16).symm, land8 _ 15 M (by decide), bd_C p1, bd_C2 p1, and15, p2]
theorem lo4 {l h X : Nat} (hl : l ≤ 4) : (l + 16 * h + 256 * X) % 16 = l := by omega
theorem bc_D0 {l h : Nat} (hl : l ≤ 4) (hh : h ≤ 4) : ((l + 16 * h) + (l + 16 * h) / 16) &&& 15 = l + h := by
  rw [and15]
  omega
theorem qb4D {l0 l1 l2 l3 h0 h1 h2 h3 : Nat} (a0 : l0 ≤ 4) (a1 : l1 ≤ 4) (a2 : l2 ≤ 4) (a3 : l3 ≤ 4) (c0 : h0 ≤ 4) (c1 : h1 ≤ 4) (c2 : h2 ≤ 4) (c3 : h3 ≤ 4) : (qb4 (l0 + 16 * h0) (l1 + 16 * h1) (l2 + 16 * h2) (l3 + 16 * h3) + qb4 (l0 + 16 * h0) (l1 + 16 * h1) (l2 + 16 * h2) (l3 + 16 * h3) / 16) &&& 252645135 = qb4 (l0 + h0) (l1 + h1) (l2 + h2) (l3 + h3) := by
  rw [show (252645135 : Nat) = 15 + 256 * (15 + 256 * (15 + 256 * 15)) from rfl]
  unfold qb4
  rw [bc_D a0 c0 (by rw [lo4 a1]; exact a1), bc_D a1 c1 (by rw [lo4 a2]; exact a2), bc_D a2 c2 (by omega), bc_D0 a3 c3]
theorem qb4le {a b c d m : Nat} (h0 : a ≤ m) (h1 : b ≤ m) (h2 : c ≤ m) (h3 : d ≤ m) : qb4 a b c d ≤ 16843009 * m := by
  unfold qb4
  omega
theorem bd_E {a X : Nat} (ha : a < 65536) : (a + 65536 * X) / 65536 = X := by omega
theorem qb4E {a b c d : Nat} (h0 : a ≤ 8) (h1 : b ≤ 8) (h2 : c ≤ 8) (h3 : d ≤ 8) : qb4 a b c d + qb4 a b c d / 256 = ((a + b) + 256 * (b + c)) + 65536 * ((c + d) + 256 * d) := by
  unfold qb4
  rw [bd_C2 (by omega)]
  omega
theorem qb4F {a b c d V : Nat} (h0 : a ≤ 8) (h1 : b ≤ 8) (h2 : c ≤ 8) (h3 : d ≤ 8) (hV : V = ((a + b) + 256 * (b + c)) + 65536 * ((c + d) + 256 * d)) : V < 2 ^ 32 ∧ V + V / 65536 < 2 ^ 32 ∧ (V + V / 65536) &&& 63 = a + b + c + d := by
  have e : V / 65536 = (c + d) + 256 * d := by rw [hV, bd_E (by omega)]
  have e2 : V + V / 65536 = (a + b + c + d) + 64 * (4 * (b + c) + 1024 * (c + d) + 262144 * d + 4 * d) := by rw [e, hV]; omega
  refine ⟨by rw [hV]; omega, by rw [e2]; omega, ?_⟩
  rw [and63n, e2, Nat.add_mul_mod_self_left, Nat.mod_eq_of_lt (by omega)]
/-- the steps of bitCount, in numbers -/
theorem bcN {b0 b1 b2 b3 X : Nat} (h0 : b0 < 256) (h1 : b1 < 256) (h2 : b2 < 256) (h3 : b3 < 256) (hX : X = qb4 b0 b1 b2 b3) :
    (X / 2 &&& 1431655765) ≤ X ∧ ∃ Y, Y = X - (X / 2 &&& 1431655765) ∧ ∃ Z, Z = (Y &&& 858993459) + (Y / 4 &&& 858993459) ∧ Z < 2 ^ 32 ∧ Z + Z / 16 < 2 ^ 32 ∧ ∃ U, U = (Z + Z / 16) &&& 252645135 ∧ U + U / 256 < 2 ^ 32 ∧ (U + U / 256) + (U + U / 256) / 65536 < 2 ^ 32 ∧ ((U + U / 256) + (U + U / 256) / 65536) &&& 63 = pc8 b0 + pc8 b1 + pc8 b2 + pc8 b3 := by
  obtain ⟨p0, q0, r0, s0, t0⟩ := by3 b0 h0
  obtain ⟨p1, q1, r1, s1, t1⟩ := by3 b1 h1
  obtain ⟨p2, q2, r2, s2, t2⟩ := by3 b2 h2
  obtain ⟨p3, q3, r3, s3, t3⟩ := by3 b3 h3
  have e1 := qb4A (d := b3) h0 h1 h2
  obtain ⟨g1, g2⟩ := qb4sub p0 p1 p2 p3
  subst hX
  refine ⟨by rw [e1]; exact g1, _, rfl, ?_⟩
  have eY : qb4 b0 b1 b2 b3 - (qb4 b0 b1 b2 b3 / 2 &&& 1431655765) = qb4 (yb b0) (yb b1) (yb b2) (yb b3) := by rw [e1]; exact g2
  rw [eY]
  refine ⟨_, rfl, ?_⟩
  have eZ : (qb4 (yb b0) (yb b1) (yb b2) (yb b3) &&& 858993459) + (qb4 (yb b0) (yb b1) (yb b2) (yb b3) / 4 &&& 858993459) = qb4 (zb b0 % 16 + 16 * (zb b0 / 16)) (zb b1 % 16 + 16 * (zb b1 / 16)) (zb b2 % 16 + 16 * (zb b2 / 16)) (zb b3 % 16 + 16 * (zb b3 / 16)) := by
    rw [qb4C q0 q1 q2, qb4B q0 q1 q2, qb4add, Nat.mod_add_div, Nat.mod_add_div, Nat.mod_add_div, Nat.mod_add_div]
    rfl
  rw [eZ]
  have eU := qb4D r0 r1 r2 r3 s0 s1 s2 s3
  rw [t0, t1, t2, t3] at eU
  have k0 : ∀ {m n : Nat}, m ≤ 4 → n ≤ 4 → m + 16 * n ≤ 68 := fun h h' => by omega
  have hz := qb4le (k0 r0 s0) (k0 r1 s1) (k0 r2 s2) (k0 r3 s3)
  generalize qb4 (zb b0 % 16 + 16 * (zb b0 / 16)) (zb b1 % 16 + 16 * (zb b1 / 16)) (zb b2 % 16 + 16 * (zb b2 / 16)) (zb b3 % 16 + 16 * (zb b3 / 16)) = Z at hz eU
  have u0 : pc8 b0 ≤ 8 := by rw [← t0]; exact Nat.add_le_add r0 s0
  have u1 : pc8 b1 ≤ 8 := by rw [← t1]; exact Nat.add_le_add r1 s1
  have u2 : pc8 b2 ≤ 8 := by rw [← t2]; exact Nat.add_le_add r2 s2
  have u3 : pc8 b3 ≤ 8 := by rw [← t3]; exact Nat.add_le_add r3 s3
  obtain ⟨f1, f2, f3⟩ := qb4F u0 u1 u2 u3 (qb4E u0 u1 u2 u3)
  have z1 : Z < 2 ^ 32 := Nat.lt_of_le_of_lt hz (by decide)
  have z2 : Z + Z / 16 < 2 ^ 32 := Nat.lt_of_le_of_lt (Nat.add_le_add hz (Nat.le_trans (Nat.div_le_self _ _) hz)) (by decide)
  refine ⟨z1, z2, _, rfl, ?_⟩
  rw [eU]
  exact ⟨f1, f2, f3⟩
theorem toN_sub {a b : Int32} (h : b.toBitVec.toNat ≤ a.toBitVec.toNat) : (a - b).toBitVec.toNat = a.toBitVec.toNat - b.toBitVec.toNat := by
  rw [Int32.toBitVec_sub, BitVec.toNat_sub]
  have := a.toBitVec.isLt
  omega
theorem toN_add {a b : Int32} (h : a.toBitVec.toNat + b.toBitVec.toNat < 2 ^ 32) : (a + b).toBitVec.toNat = a.toBitVec.toNat + b.toBitVec.toNat := by
  rw [Int32.toBitVec_add, BitVec.toNat_add, Nat.mod_eq_of_lt h]
theorem toN_and {a b : Int32} : (a &&& b).toBitVec.toNat = a.toBitVec.toNat &&& b.toBitVec.toNat := by
  rw [Int32.toBitVec_and, BitVec.toNat_and]
def ush (x : Int32) (k : Int32) : Int32 := (Int32.toUInt32 x >>> (Int32.toUInt32 k &&& Int32.toUInt32 31)).toInt32
theorem toN_ush {x k : Int32} {n : Nat} (h : ((k.toUInt32 &&& Int32.toUInt32 31).toBitVec % 32).toNat = n) : (ush x k).toBitVec.toNat = x.toBitVec.toNat / 2 ^ n := pk_ushr x k n h
def bc1 (n : Int32) : Int32 := n - (ush n 1 &&& 1431655765)
def bc2 (n : Int32) : Int32 := (bc1 n &&& 858993459) + (ush (bc1 n) 2 &&& 858993459)
def bc3 (n : Int32) : Int32 := (bc2 n + ush (bc2 n) 4) &&& 252645135
def bc4 (n : Int32) : Int32 := bc3 n + ush (bc3 n) 8
def bc5 (n : Int32) : Int32 := bc4 n + ush (bc4 n) 16
theorem pc8_at (X k : Nat) : pc8 (X / 2 ^ k % 256) = X / 2 ^ k % 2 + X / 2 ^ (k + 1) % 2 + X / 2 ^ (k + 2) % 2 + X / 2 ^ (k + 3) % 2 + X / 2 ^ (k + 4) % 2 + X / 2 ^ (k + 5) % 2 + X / 2 ^ (k + 6) % 2 + X / 2 ^ (k + 7) % 2 := by
  have e : ∀ i, X / 2 ^ (k + i) = X / 2 ^ k / 2 ^ i := fun i => by rw [Nat.pow_add, Nat.div_div_eq_div_mul]
  rw [e 1, e 2, e 3, e 4, e 5, e 6, e 7]
  generalize X / 2 ^ k = Y
  unfold pc8
  have a0 : Y % 256 % 2 = Y % 2 := by omega
  have a1 : Y % 256 / 2 % 2 = Y / 2 ^ 1 % 2 := by omega
  have a2 : Y % 256 / 4 % 2 = Y / 2 ^ 2 % 2 := by omega
  have a3 : Y % 256 / 8 % 2 = Y / 2 ^ 3 % 2 := by omega
  have a4 : Y % 256 / 16 % 2 = Y / 2 ^ 4 % 2 := by omega
  have a5 : Y % 256 / 32 % 2 = Y / 2 ^ 5 % 2 := by omega
  have a6 : Y % 256 / 64 % 2 = Y / 2 ^ 6 % 2 := by omega
  have a7 : Y % 256 / 128 % 2 = Y / 2 ^ 7 % 2 := by omega
  rw [a0, a1, a2, a3, a4, a5, a6, a7]
theorem cnt_32 (x : Int32) : cnt x 32 = pc8 (x.toBitVec.toNat % 256) + pc8 (x.toBitVec.toNat / 256 % 256) + pc8 (x.toBitVec.toNat / 65536 % 256) + pc8 (x.toBitVec.toNat / 16777216) := by
  have hb : ∀ n, (if bt x n = true then 1 else 0) = x.toBitVec.toNat / 2 ^ n % 2 := by
    intro n
    unfold bt
    rw [BitVec.getLsbD, Nat.testBit_eq_decide_div_mod_eq]
    by_cases h : x.toBitVec.toNat / 2 ^ n % 2 = 1
    · rw [decide_eq_true h, if_pos rfl, h]
    · rw [decide_eq_false h, if_neg (by decide)]; omega
  have hs : ∀ n, cnt x (n + 1) = cnt x n + x.toBitVec.toNat / 2 ^ n % 2 := fun n => by
    show cnt x n + (if bt x n = true then 1 else 0) = _
    rw [hb]
  have h8 : ∀ k, cnt x (k + 8) = cnt x k + pc8 (x.toBitVec.toNat / 2 ^ k % 256) := fun k => by
    rw [pc8_at, show k + 8 = k + 7 + 1 from rfl, hs (k + 7), show k + 7 = k + 6 + 1 from rfl, hs (k + 6), show k + 6 = k + 5 + 1 from rfl, hs (k + 5), show k + 5 = k + 4 + 1 from rfl, hs (k + 4), show k + 4 = k + 3 + 1 from rfl, hs (k + 3), show k + 3 = k + 2 + 1 from rfl, hs (k + 2), show k + 2 = k + 1 + 1 from rfl, hs (k + 1), hs k]
    simp only [Nat.add_assoc]
  have hlt := x.toBitVec.isLt
  have e0 := h8 0
  have e1 := h8 8
  have e2 := h8 16
  have e3 := h8 24
  rw [show x.toBitVec.toNat / 2 ^ 0 % 256 = x.toBitVec.toNat % 256 by rw [Nat.pow_zero, Nat.div_one]] at e0
  rw [show x.toBitVec.toNat / 2 ^ 24 % 256 = x.toBitVec.toNat / 16777216 from Nat.mod_eq_of_lt (Nat.div_lt_of_lt_mul (Nat.lt_of_lt_of_le hlt (by decide)))] at e3
  have a : cnt x 32 = cnt x 24 + pc8 (x.toBitVec.toNat / 16777216) := e3
  have b : cnt x 24 = cnt x 16 + pc8 (x.toBitVec.toNat / 65536 % 256) := e2
  have c : cnt x 16 = cnt x 8 + pc8 (x.toBitVec.toNat / 256 % 256) := e1
  have d : cnt x 8 = pc8 (x.toBitVec.toNat % 256) := e0.trans (Nat.zero_add _)
  rw [a, b, c, d]
theorem cnt_le {x : Int32} : ∀ n, cnt x n ≤ n := by
  intro n
  induction n with
  | zero => exact Nat.le_refl _
  | succ n ih =>
    show cnt x n + (if bt x n = true then 1 else 0) ≤ n + 1
    split <;> omega
theorem bc_eq (x : Int32) : bc5 x &&& 63 = nI (cnt x 32) := by
  have hlt := x.toBitVec.isLt
  have hc := cnt_32 x
  have hle := cnt_le (x := x) 32
  apply Int32.toBitVec_inj.mp
  apply BitVec.eq_of_toNat_eq
  rw [bvn (v := cnt x 32) (by omega), toN_and, show (63 : Int32).toBitVec.toNat = 63 from rfl]
  have n1 : (1431655765 : Int32).toBitVec.toNat = 1431655765 := by decide
  have n2 : (858993459 : Int32).toBitVec.toNat = 858993459 := by decide
  have n3 : (252645135 : Int32).toBitVec.toNat = 252645135 := by decide
  have u1 : (ush x 1).toBitVec.toNat = x.toBitVec.toNat / 2 := toN_ush (n := 1) (by decide)
  have u2 : (ush (bc1 x) 2).toBitVec.toNat = (bc1 x).toBitVec.toNat / 4 := toN_ush (n := 2) (by decide)
  have u3 : (ush (bc2 x) 4).toBitVec.toNat = (bc2 x).toBitVec.toNat / 16 := toN_ush (n := 4) (by decide)
  have u4 : (ush (bc3 x) 8).toBitVec.toNat = (bc3 x).toBitVec.toNat / 256 := toN_ush (n := 8) (by decide)
  have u5 : (ush (bc4 x) 16).toBitVec.toNat = (bc4 x).toBitVec.toNat / 65536 := toN_ush (n := 16) (by decide)
  have hq : x.toBitVec.toNat = qb4 (x.toBitVec.toNat % 256) (x.toBitVec.toNat / 256 % 256) (x.toBitVec.toNat / 65536 % 256) (x.toBitVec.toNat / 16777216) := by
    generalize x.toBitVec.toNat = X
    have e2 : X / 65536 = X / 256 / 256 := (Nat.div_div_eq_div_mul X 256 256).symm
    have e3 : X / 16777216 = X / 256 / 256 / 256 := by rw [Nat.div_div_eq_div_mul, Nat.div_div_eq_div_mul]
    rw [e2, e3]
    unfold qb4
    rw [Nat.mod_add_div, Nat.mod_add_div, Nat.mod_add_div]
  obtain ⟨g1, Y, hY, Z, hZ, g3, g4, U, hU, g5, g6, g7⟩ := bcN (Nat.mod_lt _ (by decide)) (Nat.mod_lt _ (by decide)) (Nat.mod_lt _ (by decide)) (Nat.div_lt_of_lt_mul (Nat.lt_of_lt_of_le hlt (by decide))) hq
  have t1 : (bc1 x).toBitVec.toNat = Y := by
    unfold bc1
    rw [toN_sub (by rw [toN_and, u1, n1]; exact g1), toN_and, u1, n1, hY]
  rw [t1] at u2
  have t2 : (bc2 x).toBitVec.toNat = Z := by
    unfold bc2
    rw [toN_add (by rw [toN_and, toN_and, u2, n2, t1, ← hZ]; exact g3), toN_and, toN_and, u2, n2, t1, hZ]
  rw [t2] at u3
  have t3 : (bc3 x).toBitVec.toNat = U := by
    unfold bc3
    rw [toN_and, toN_add (by rw [u3, t2]; exact g4), u3, n3, t2, hU]
  rw [t3] at u4
  have t4 : (bc4 x).toBitVec.toNat = U + U / 256 := by
    unfold bc4
    rw [toN_add (by rw [u4, t3]; exact g5), u4, t3]
  rw [t4] at u5
  have t5 : (bc5 x).toBitVec.toNat = (U + U / 256) + (U + U / 256) / 65536 := by
    unfold bc5
    rw [toN_add (by rw [u5, t4]; exact g6), u5, t4]
  rw [t5, hc]
  exact g7


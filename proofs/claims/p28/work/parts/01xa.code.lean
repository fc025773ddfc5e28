def bq (c : ByteArray) (p a : Nat) : Prop := (Reader.u1 : Decoder Nat) c p = .ok (a, p + 1)
theorem bq_at {c : ByteArray} {p : Nat} {b : UInt8} (h : c.data.toList[p]? = some b) : bq c p b.toNat := by
  obtain ⟨h1, h2⟩ := List.getElem?_eq_some_iff.mp h
  have hp : p < c.size := by simpa using h1
  have e : c[p]'hp = b := h2
  unfold bq
  show (do if h : p < c.size then do set (p + 1); pure c[p].toNat else throw (HasTruncated.truncated p) : Decoder Nat) c p = _
  rw [dif_pos hp, e]
  rfl
theorem bq_ms {c : ByteArray} {O N j a : Nat} {L : List Nat} (h : ((c.data.toList.drop O).take N).map UInt8.toNat = L) (hj : L[j]? = some a) : bq c (O + j) a := by
  rw [← h, List.getElem?_map] at hj
  cases hb : ((c.data.toList.drop O).take N)[j]? with
  | none => rw [hb] at hj; cases hj
  | some b =>
    rw [hb] at hj
    have hj : b.toNat = a := Option.some.inj hj
    have h2 : c.data.toList[O + j]? = some b := by
      rw [List.getElem?_take] at hb
      split at hb
      · rw [List.getElem?_drop] at hb; exact hb
      · cases hb
    rw [← hj]
    exact bq_at h2
theorem bi_u1 {α : Type} {c : ByteArray} {p a : Nat} (k : Nat → Decoder α) (h : bq c p a) : ((Reader.u1 : Decoder Nat) >>= k) c p = k a c (p + 1) := by
  have h : (Reader.u1 : Decoder Nat) c p = .ok (a, p + 1) := h
  show Except.bind ((Reader.u1 : Decoder Nat) c p) _ = _
  rw [h]
  rfl
theorem bi_s1 {α : Type} {c : ByteArray} {p a : Nat} {v : Int} (k : Int → Decoder α) (h : bq c p a) (hv : Reader.signed 8 a = v) : ((Reader.s1 : Decoder Int) >>= k) c p = k v c (p + 1) := by
  have h : (Reader.u1 : Decoder Nat) c p = .ok (a, p + 1) := h
  have h2 : (Reader.s1 : Decoder Int) c p = .ok (v, p + 1) := by
    show Except.bind ((Reader.u1 : Decoder Nat) c p) _ = _
    rw [h, ← hv]
    rfl
  show Except.bind ((Reader.s1 : Decoder Int) c p) _ = _
  rw [h2]
  rfl
theorem u2_at {c : ByteArray} {p a b : Nat} (h : bq c p a) (h1 : bq c (p + 1) b) : (Reader.u2 : Decoder Nat) c p = .ok (a * 256 + b, p + 1 + 1) := (bi_u1 _ h).trans ((bi_u1 _ h1).trans rfl)
theorem bi_u2 {α : Type} {c : ByteArray} {p a b v : Nat} (k : Nat → Decoder α) (h : bq c p a) (h1 : bq c (p + 1) b) (hv : a * 256 + b = v) : ((Reader.u2 : Decoder Nat) >>= k) c p = k v c (p + 1 + 1) := by
  show Except.bind ((Reader.u2 : Decoder Nat) c p) _ = _
  rw [u2_at h h1, hv]
  rfl
theorem bi_s2 {α : Type} {c : ByteArray} {p a b : Nat} {v : Int} (k : Int → Decoder α) (h : bq c p a) (h1 : bq c (p + 1) b) (hv : Reader.signed 16 (a * 256 + b) = v) : ((Reader.s2 : Decoder Int) >>= k) c p = k v c (p + 1 + 1) := by
  have h2 : (Reader.s2 : Decoder Int) c p = .ok (v, p + 1 + 1) := by
    show Except.bind ((Reader.u2 : Decoder Nat) c p) _ = _
    rw [u2_at h h1, ← hv]
    rfl
  show Except.bind ((Reader.s2 : Decoder Int) c p) _ = _
  rw [h2]
  rfl
def eN : List Nat → Nat
  | [] => 0
  | b :: l => b + 256 * eN l
theorem eN_at : ∀ (L : List Nat) (_ : ∀ x, x ∈ L → x < 256) (j : Nat) (_ : j < L.length), L[j]? = some (Nat.mod (Nat.div (eN L) (Nat.pow 256 j)) 256)
  | [], _, _, hj => absurd hj (Nat.not_lt_zero _)
  | b :: l, hb, 0, _ => by
    have h := hb b (List.mem_cons_self)
    show some b = some ((b + 256 * eN l) / 256 ^ 0 % 256)
    rw [Nat.pow_zero, Nat.div_one, Nat.add_mul_mod_self_left, Nat.mod_eq_of_lt h]
  | b :: l, hb, j + 1, hj => by
    have h := hb b (List.mem_cons_self)
    have ih := eN_at l (fun x hx => hb x (List.mem_cons_of_mem _ hx)) j (Nat.lt_of_succ_lt_succ hj)
    show l[j]? = some ((b + 256 * eN l) / 256 ^ (j + 1) % 256)
    rw [ih, Nat.pow_succ, Nat.mul_comm (256 ^ j) 256, ← Nat.div_div_eq_div_mul, Nat.add_mul_div_left b (eN l) (by decide : 0 < 256), Nat.div_eq_of_lt h, Nat.zero_add]
    rfl
theorem bq_nm {c : ByteArray} {O N j a E : Nat} (h : ((c.data.toList.drop O).take N).length = N ∧ eN (((c.data.toList.drop O).take N).map UInt8.toNat) = E) (hj : Nat.ble (j + 1) N = true) (ha : Nat.mod (Nat.div E (Nat.pow 256 j)) 256 = a) : bq c (O + j) a := by
  refine bq_ms (L := ((c.data.toList.drop O).take N).map UInt8.toNat) rfl ?_
  rw [eN_at _ (fun x hx => by obtain ⟨b, _, e⟩ := List.mem_map.mp hx; rw [← e]; exact UInt8.toNat_lt b) j (by rw [List.length_map, h.1]; exact Nat.le_of_ble_eq_true hj), h.2, ha]
theorem dq_of {c : ByteArray} {p n m : Nat} {i : Instr} (h : Decoder.instr p c p = .ok (i, n)) (e : n = p + m) : decode c p = .ok (i, m) := by
  show Except.bind (Decoder.instr p c p) _ = _
  rw [h, e]
  show Except.ok (i, p + m - p) = _
  rw [Nat.add_sub_cancel_left]
set_option maxRecDepth 20000 in
theorem dc_1 {c : ByteArray} {p : Nat} (h : bq c p 1) : decode c p = .ok (.aconst_null, 1) := dq_of (n := p + 1) ((bi_u1 _ h).trans rfl) rfl
set_option maxRecDepth 20000 in
theorem dc_2 {c : ByteArray} {p : Nat} (h : bq c p 2) : decode c p = .ok (.iconst (-1), 1) := dq_of (n := p + 1) ((bi_u1 _ h).trans rfl) rfl
set_option maxRecDepth 20000 in
theorem dc_3 {c : ByteArray} {p : Nat} (h : bq c p 3) : decode c p = .ok (.iconst 0, 1) := dq_of (n := p + 1) ((bi_u1 _ h).trans rfl) rfl
set_option maxRecDepth 20000 in
theorem dc_4 {c : ByteArray} {p : Nat} (h : bq c p 4) : decode c p = .ok (.iconst 1, 1) := dq_of (n := p + 1) ((bi_u1 _ h).trans rfl) rfl
set_option maxRecDepth 20000 in
theorem dc_5 {c : ByteArray} {p : Nat} (h : bq c p 5) : decode c p = .ok (.iconst 2, 1) := dq_of (n := p + 1) ((bi_u1 _ h).trans rfl) rfl
set_option maxRecDepth 20000 in
theorem dc_6 {c : ByteArray} {p : Nat} (h : bq c p 6) : decode c p = .ok (.iconst 3, 1) := dq_of (n := p + 1) ((bi_u1 _ h).trans rfl) rfl
set_option maxRecDepth 20000 in
theorem dc_7 {c : ByteArray} {p : Nat} (h : bq c p 7) : decode c p = .ok (.iconst 4, 1) := dq_of (n := p + 1) ((bi_u1 _ h).trans rfl) rfl
set_option maxRecDepth 20000 in
theorem dc_8 {c : ByteArray} {p : Nat} (h : bq c p 8) : decode c p = .ok (.iconst 5, 1) := dq_of (n := p + 1) ((bi_u1 _ h).trans rfl) rfl
set_option maxRecDepth 20000 in
theorem dc_9 {c : ByteArray} {p : Nat} (h : bq c p 9) : decode c p = .ok (.lconst 0, 1) := dq_of (n := p + 1) ((bi_u1 _ h).trans rfl) rfl
set_option maxRecDepth 20000 in
theorem dc_10 {c : ByteArray} {p : Nat} (h : bq c p 10) : decode c p = .ok (.lconst 1, 1) := dq_of (n := p + 1) ((bi_u1 _ h).trans rfl) rfl
set_option maxRecDepth 20000 in
theorem dc_16 {c : ByteArray} {p x : Nat} {v : Int} (h : bq c p 16) (h1 : bq c (p + 1) x) (hv : Reader.signed 8 x = v) : decode c p = .ok (.bipush v, 2) := dq_of (n := p + 1 + 1) ((bi_u1 _ h).trans ((bi_s1 _ h1 hv).trans rfl)) rfl
set_option maxRecDepth 20000 in
theorem dc_17 {c : ByteArray} {p x y : Nat} {v : Int} (h : bq c p 17) (h1 : bq c (p + 1) x) (h2 : bq c (p + 1 + 1) y) (hv : Reader.signed 16 (x * 256 + y) = v) : decode c p = .ok (.sipush v, 3) := dq_of (n := p + 1 + 1 + 1) ((bi_u1 _ h).trans ((bi_s2 _ h1 h2 hv).trans rfl)) rfl
set_option maxRecDepth 20000 in
theorem dc_18 {c : ByteArray} {p x : Nat} (h : bq c p 18) (h1 : bq c (p + 1) x) : decode c p = .ok (.ldc x, 2) := dq_of (n := p + 1 + 1) ((bi_u1 _ h).trans ((bi_u1 _ h1).trans rfl)) rfl
set_option maxRecDepth 20000 in
theorem dc_19 {c : ByteArray} {p x y v : Nat} (h : bq c p 19) (h1 : bq c (p + 1) x) (h2 : bq c (p + 1 + 1) y) (hv : x * 256 + y = v) : decode c p = .ok (.ldc_w v, 3) := dq_of (n := p + 1 + 1 + 1) ((bi_u1 _ h).trans ((bi_u2 _ h1 h2 hv).trans rfl)) rfl
set_option maxRecDepth 20000 in
theorem dc_20 {c : ByteArray} {p x y v : Nat} (h : bq c p 20) (h1 : bq c (p + 1) x) (h2 : bq c (p + 1 + 1) y) (hv : x * 256 + y = v) : decode c p = .ok (.ldc2_w v, 3) := dq_of (n := p + 1 + 1 + 1) ((bi_u1 _ h).trans ((bi_u2 _ h1 h2 hv).trans rfl)) rfl
set_option maxRecDepth 20000 in
theorem dc_21 {c : ByteArray} {p x : Nat} (h : bq c p 21) (h1 : bq c (p + 1) x) : decode c p = .ok (.iload x, 2) := dq_of (n := p + 1 + 1) ((bi_u1 _ h).trans ((bi_u1 _ h1).trans rfl)) rfl
set_option maxRecDepth 20000 in
theorem dc_22 {c : ByteArray} {p x : Nat} (h : bq c p 22) (h1 : bq c (p + 1) x) : decode c p = .ok (.lload x, 2) := dq_of (n := p + 1 + 1) ((bi_u1 _ h).trans ((bi_u1 _ h1).trans rfl)) rfl
set_option maxRecDepth 20000 in
theorem dc_25 {c : ByteArray} {p x : Nat} (h : bq c p 25) (h1 : bq c (p + 1) x) : decode c p = .ok (.aload x, 2) := dq_of (n := p + 1 + 1) ((bi_u1 _ h).trans ((bi_u1 _ h1).trans rfl)) rfl
set_option maxRecDepth 20000 in
theorem dc_26 {c : ByteArray} {p : Nat} (h : bq c p 26) : decode c p = .ok (.iload_n 0, 1) := dq_of (n := p + 1) ((bi_u1 _ h).trans rfl) rfl
set_option maxRecDepth 20000 in
theorem dc_27 {c : ByteArray} {p : Nat} (h : bq c p 27) : decode c p = .ok (.iload_n 1, 1) := dq_of (n := p + 1) ((bi_u1 _ h).trans rfl) rfl
set_option maxRecDepth 20000 in
theorem dc_28 {c : ByteArray} {p : Nat} (h : bq c p 28) : decode c p = .ok (.iload_n 2, 1) := dq_of (n := p + 1) ((bi_u1 _ h).trans rfl) rfl
set_option maxRecDepth 20000 in
theorem dc_29 {c : ByteArray} {p : Nat} (h : bq c p 29) : decode c p = .ok (.iload_n 3, 1) := dq_of (n := p + 1) ((bi_u1 _ h).trans rfl) rfl
set_option maxRecDepth 20000 in
theorem dc_30 {c : ByteArray} {p : Nat} (h : bq c p 30) : decode c p = .ok (.lload_n 0, 1) := dq_of (n := p + 1) ((bi_u1 _ h).trans rfl) rfl
set_option maxRecDepth 20000 in
theorem dc_31 {c : ByteArray} {p : Nat} (h : bq c p 31) : decode c p = .ok (.lload_n 1, 1) := dq_of (n := p + 1) ((bi_u1 _ h).trans rfl) rfl
set_option maxRecDepth 20000 in
theorem dc_32 {c : ByteArray} {p : Nat} (h : bq c p 32) : decode c p = .ok (.lload_n 2, 1) := dq_of (n := p + 1) ((bi_u1 _ h).trans rfl) rfl
set_option maxRecDepth 20000 in
theorem dc_33 {c : ByteArray} {p : Nat} (h : bq c p 33) : decode c p = .ok (.lload_n 3, 1) := dq_of (n := p + 1) ((bi_u1 _ h).trans rfl) rfl
set_option maxRecDepth 20000 in
theorem dc_42 {c : ByteArray} {p : Nat} (h : bq c p 42) : decode c p = .ok (.aload_n 0, 1) := dq_of (n := p + 1) ((bi_u1 _ h).trans rfl) rfl
set_option maxRecDepth 20000 in
theorem dc_43 {c : ByteArray} {p : Nat} (h : bq c p 43) : decode c p = .ok (.aload_n 1, 1) := dq_of (n := p + 1) ((bi_u1 _ h).trans rfl) rfl
set_option maxRecDepth 20000 in
theorem dc_44 {c : ByteArray} {p : Nat} (h : bq c p 44) : decode c p = .ok (.aload_n 2, 1) := dq_of (n := p + 1) ((bi_u1 _ h).trans rfl) rfl
set_option maxRecDepth 20000 in
theorem dc_45 {c : ByteArray} {p : Nat} (h : bq c p 45) : decode c p = .ok (.aload_n 3, 1) := dq_of (n := p + 1) ((bi_u1 _ h).trans rfl) rfl
set_option maxRecDepth 20000 in
theorem dc_46 {c : ByteArray} {p : Nat} (h : bq c p 46) : decode c p = .ok (.iaload, 1) := dq_of (n := p + 1) ((bi_u1 _ h).trans rfl) rfl
set_option maxRecDepth 20000 in
theorem dc_47 {c : ByteArray} {p : Nat} (h : bq c p 47) : decode c p = .ok (.laload, 1) := dq_of (n := p + 1) ((bi_u1 _ h).trans rfl) rfl
set_option maxRecDepth 20000 in
theorem dc_50 {c : ByteArray} {p : Nat} (h : bq c p 50) : decode c p = .ok (.aaload, 1) := dq_of (n := p + 1) ((bi_u1 _ h).trans rfl) rfl
set_option maxRecDepth 20000 in
theorem dc_51 {c : ByteArray} {p : Nat} (h : bq c p 51) : decode c p = .ok (.baload, 1) := dq_of (n := p + 1) ((bi_u1 _ h).trans rfl) rfl
set_option maxRecDepth 20000 in
theorem dc_54 {c : ByteArray} {p x : Nat} (h : bq c p 54) (h1 : bq c (p + 1) x) : decode c p = .ok (.istore x, 2) := dq_of (n := p + 1 + 1) ((bi_u1 _ h).trans ((bi_u1 _ h1).trans rfl)) rfl
set_option maxRecDepth 20000 in
theorem dc_55 {c : ByteArray} {p x : Nat} (h : bq c p 55) (h1 : bq c (p + 1) x) : decode c p = .ok (.lstore x, 2) := dq_of (n := p + 1 + 1) ((bi_u1 _ h).trans ((bi_u1 _ h1).trans rfl)) rfl
set_option maxRecDepth 20000 in
theorem dc_58 {c : ByteArray} {p x : Nat} (h : bq c p 58) (h1 : bq c (p + 1) x) : decode c p = .ok (.astore x, 2) := dq_of (n := p + 1 + 1) ((bi_u1 _ h).trans ((bi_u1 _ h1).trans rfl)) rfl
set_option maxRecDepth 20000 in
theorem dc_59 {c : ByteArray} {p : Nat} (h : bq c p 59) : decode c p = .ok (.istore_n 0, 1) := dq_of (n := p + 1) ((bi_u1 _ h).trans rfl) rfl
set_option maxRecDepth 20000 in
theorem dc_60 {c : ByteArray} {p : Nat} (h : bq c p 60) : decode c p = .ok (.istore_n 1, 1) := dq_of (n := p + 1) ((bi_u1 _ h).trans rfl) rfl
set_option maxRecDepth 20000 in
theorem dc_61 {c : ByteArray} {p : Nat} (h : bq c p 61) : decode c p = .ok (.istore_n 2, 1) := dq_of (n := p + 1) ((bi_u1 _ h).trans rfl) rfl
set_option maxRecDepth 20000 in
theorem dc_62 {c : ByteArray} {p : Nat} (h : bq c p 62) : decode c p = .ok (.istore_n 3, 1) := dq_of (n := p + 1) ((bi_u1 _ h).trans rfl) rfl
set_option maxRecDepth 20000 in
theorem dc_64 {c : ByteArray} {p : Nat} (h : bq c p 64) : decode c p = .ok (.lstore_n 1, 1) := dq_of (n := p + 1) ((bi_u1 _ h).trans rfl) rfl
set_option maxRecDepth 20000 in
theorem dc_65 {c : ByteArray} {p : Nat} (h : bq c p 65) : decode c p = .ok (.lstore_n 2, 1) := dq_of (n := p + 1) ((bi_u1 _ h).trans rfl) rfl
set_option maxRecDepth 20000 in
theorem dc_76 {c : ByteArray} {p : Nat} (h : bq c p 76) : decode c p = .ok (.astore_n 1, 1) := dq_of (n := p + 1) ((bi_u1 _ h).trans rfl) rfl
set_option maxRecDepth 20000 in
theorem dc_77 {c : ByteArray} {p : Nat} (h : bq c p 77) : decode c p = .ok (.astore_n 2, 1) := dq_of (n := p + 1) ((bi_u1 _ h).trans rfl) rfl
set_option maxRecDepth 20000 in
theorem dc_79 {c : ByteArray} {p : Nat} (h : bq c p 79) : decode c p = .ok (.iastore, 1) := dq_of (n := p + 1) ((bi_u1 _ h).trans rfl) rfl
set_option maxRecDepth 20000 in
theorem dc_80 {c : ByteArray} {p : Nat} (h : bq c p 80) : decode c p = .ok (.lastore, 1) := dq_of (n := p + 1) ((bi_u1 _ h).trans rfl) rfl
set_option maxRecDepth 20000 in
theorem dc_83 {c : ByteArray} {p : Nat} (h : bq c p 83) : decode c p = .ok (.aastore, 1) := dq_of (n := p + 1) ((bi_u1 _ h).trans rfl) rfl
set_option maxRecDepth 20000 in
theorem dc_84 {c : ByteArray} {p : Nat} (h : bq c p 84) : decode c p = .ok (.bastore, 1) := dq_of (n := p + 1) ((bi_u1 _ h).trans rfl) rfl
set_option maxRecDepth 20000 in
theorem dc_87 {c : ByteArray} {p : Nat} (h : bq c p 87) : decode c p = .ok (.pop, 1) := dq_of (n := p + 1) ((bi_u1 _ h).trans rfl) rfl
set_option maxRecDepth 20000 in
theorem dc_88 {c : ByteArray} {p : Nat} (h : bq c p 88) : decode c p = .ok (.pop2, 1) := dq_of (n := p + 1) ((bi_u1 _ h).trans rfl) rfl
set_option maxRecDepth 20000 in
theorem dc_89 {c : ByteArray} {p : Nat} (h : bq c p 89) : decode c p = .ok (.dup, 1) := dq_of (n := p + 1) ((bi_u1 _ h).trans rfl) rfl
set_option maxRecDepth 20000 in
theorem dc_92 {c : ByteArray} {p : Nat} (h : bq c p 92) : decode c p = .ok (.dup2, 1) := dq_of (n := p + 1) ((bi_u1 _ h).trans rfl) rfl
set_option maxRecDepth 20000 in
theorem dc_96 {c : ByteArray} {p : Nat} (h : bq c p 96) : decode c p = .ok (.iadd, 1) := dq_of (n := p + 1) ((bi_u1 _ h).trans rfl) rfl
set_option maxRecDepth 20000 in
theorem dc_97 {c : ByteArray} {p : Nat} (h : bq c p 97) : decode c p = .ok (.ladd, 1) := dq_of (n := p + 1) ((bi_u1 _ h).trans rfl) rfl
set_option maxRecDepth 20000 in
theorem dc_100 {c : ByteArray} {p : Nat} (h : bq c p 100) : decode c p = .ok (.isub, 1) := dq_of (n := p + 1) ((bi_u1 _ h).trans rfl) rfl
set_option maxRecDepth 20000 in
theorem dc_101 {c : ByteArray} {p : Nat} (h : bq c p 101) : decode c p = .ok (.lsub, 1) := dq_of (n := p + 1) ((bi_u1 _ h).trans rfl) rfl
set_option maxRecDepth 20000 in
theorem dc_104 {c : ByteArray} {p : Nat} (h : bq c p 104) : decode c p = .ok (.imul, 1) := dq_of (n := p + 1) ((bi_u1 _ h).trans rfl) rfl
set_option maxRecDepth 20000 in
theorem dc_105 {c : ByteArray} {p : Nat} (h : bq c p 105) : decode c p = .ok (.lmul, 1) := dq_of (n := p + 1) ((bi_u1 _ h).trans rfl) rfl
set_option maxRecDepth 20000 in
theorem dc_108 {c : ByteArray} {p : Nat} (h : bq c p 108) : decode c p = .ok (.idiv, 1) := dq_of (n := p + 1) ((bi_u1 _ h).trans rfl) rfl
set_option maxRecDepth 20000 in
theorem dc_109 {c : ByteArray} {p : Nat} (h : bq c p 109) : decode c p = .ok (.ldiv, 1) := dq_of (n := p + 1) ((bi_u1 _ h).trans rfl) rfl
set_option maxRecDepth 20000 in
theorem dc_112 {c : ByteArray} {p : Nat} (h : bq c p 112) : decode c p = .ok (.irem, 1) := dq_of (n := p + 1) ((bi_u1 _ h).trans rfl) rfl
set_option maxRecDepth 20000 in
theorem dc_113 {c : ByteArray} {p : Nat} (h : bq c p 113) : decode c p = .ok (.lrem, 1) := dq_of (n := p + 1) ((bi_u1 _ h).trans rfl) rfl
set_option maxRecDepth 20000 in
theorem dc_116 {c : ByteArray} {p : Nat} (h : bq c p 116) : decode c p = .ok (.ineg, 1) := dq_of (n := p + 1) ((bi_u1 _ h).trans rfl) rfl
set_option maxRecDepth 20000 in
theorem dc_117 {c : ByteArray} {p : Nat} (h : bq c p 117) : decode c p = .ok (.lneg, 1) := dq_of (n := p + 1) ((bi_u1 _ h).trans rfl) rfl
set_option maxRecDepth 20000 in
theorem dc_120 {c : ByteArray} {p : Nat} (h : bq c p 120) : decode c p = .ok (.ishl, 1) := dq_of (n := p + 1) ((bi_u1 _ h).trans rfl) rfl
set_option maxRecDepth 20000 in
theorem dc_122 {c : ByteArray} {p : Nat} (h : bq c p 122) : decode c p = .ok (.ishr, 1) := dq_of (n := p + 1) ((bi_u1 _ h).trans rfl) rfl
set_option maxRecDepth 20000 in
theorem dc_124 {c : ByteArray} {p : Nat} (h : bq c p 124) : decode c p = .ok (.iushr, 1) := dq_of (n := p + 1) ((bi_u1 _ h).trans rfl) rfl
set_option maxRecDepth 20000 in
theorem dc_126 {c : ByteArray} {p : Nat} (h : bq c p 126) : decode c p = .ok (.iand, 1) := dq_of (n := p + 1) ((bi_u1 _ h).trans rfl) rfl
set_option maxRecDepth 20000 in
theorem dc_128 {c : ByteArray} {p : Nat} (h : bq c p 128) : decode c p = .ok (.ior, 1) := dq_of (n := p + 1) ((bi_u1 _ h).trans rfl) rfl
set_option maxRecDepth 20000 in
theorem dc_130 {c : ByteArray} {p : Nat} (h : bq c p 130) : decode c p = .ok (.ixor, 1) := dq_of (n := p + 1) ((bi_u1 _ h).trans rfl) rfl
set_option maxRecDepth 20000 in
theorem dc_132 {c : ByteArray} {p x y : Nat} {v : Int} (h : bq c p 132) (h1 : bq c (p + 1) x) (h2 : bq c (p + 1 + 1) y) (hv : Reader.signed 8 y = v) : decode c p = .ok (.iinc x v, 3) := dq_of (n := p + 1 + 1 + 1) ((bi_u1 _ h).trans ((bi_u1 _ h1).trans ((bi_s1 _ h2 hv).trans rfl))) rfl
set_option maxRecDepth 20000 in
theorem dc_133 {c : ByteArray} {p : Nat} (h : bq c p 133) : decode c p = .ok (.i2l, 1) := dq_of (n := p + 1) ((bi_u1 _ h).trans rfl) rfl
set_option maxRecDepth 20000 in
theorem dc_148 {c : ByteArray} {p : Nat} (h : bq c p 148) : decode c p = .ok (.lcmp, 1) := dq_of (n := p + 1) ((bi_u1 _ h).trans rfl) rfl
set_option maxRecDepth 20000 in
theorem dc_153 {c : ByteArray} {p x y : Nat} {v : Int} (h : bq c p 153) (h1 : bq c (p + 1) x) (h2 : bq c (p + 1 + 1) y) (hv : Reader.signed 16 (x * 256 + y) = v) : decode c p = .ok (.ifCond .eq v, 3) := dq_of (n := p + 1 + 1 + 1) ((bi_u1 _ h).trans ((bi_s2 _ h1 h2 hv).trans rfl)) rfl
set_option maxRecDepth 20000 in
theorem dc_154 {c : ByteArray} {p x y : Nat} {v : Int} (h : bq c p 154) (h1 : bq c (p + 1) x) (h2 : bq c (p + 1 + 1) y) (hv : Reader.signed 16 (x * 256 + y) = v) : decode c p = .ok (.ifCond .ne v, 3) := dq_of (n := p + 1 + 1 + 1) ((bi_u1 _ h).trans ((bi_s2 _ h1 h2 hv).trans rfl)) rfl
set_option maxRecDepth 20000 in
theorem dc_155 {c : ByteArray} {p x y : Nat} {v : Int} (h : bq c p 155) (h1 : bq c (p + 1) x) (h2 : bq c (p + 1 + 1) y) (hv : Reader.signed 16 (x * 256 + y) = v) : decode c p = .ok (.ifCond .lt v, 3) := dq_of (n := p + 1 + 1 + 1) ((bi_u1 _ h).trans ((bi_s2 _ h1 h2 hv).trans rfl)) rfl
set_option maxRecDepth 20000 in
theorem dc_156 {c : ByteArray} {p x y : Nat} {v : Int} (h : bq c p 156) (h1 : bq c (p + 1) x) (h2 : bq c (p + 1 + 1) y) (hv : Reader.signed 16 (x * 256 + y) = v) : decode c p = .ok (.ifCond .ge v, 3) := dq_of (n := p + 1 + 1 + 1) ((bi_u1 _ h).trans ((bi_s2 _ h1 h2 hv).trans rfl)) rfl
set_option maxRecDepth 20000 in
theorem dc_157 {c : ByteArray} {p x y : Nat} {v : Int} (h : bq c p 157) (h1 : bq c (p + 1) x) (h2 : bq c (p + 1 + 1) y) (hv : Reader.signed 16 (x * 256 + y) = v) : decode c p = .ok (.ifCond .gt v, 3) := dq_of (n := p + 1 + 1 + 1) ((bi_u1 _ h).trans ((bi_s2 _ h1 h2 hv).trans rfl)) rfl
set_option maxRecDepth 20000 in
theorem dc_158 {c : ByteArray} {p x y : Nat} {v : Int} (h : bq c p 158) (h1 : bq c (p + 1) x) (h2 : bq c (p + 1 + 1) y) (hv : Reader.signed 16 (x * 256 + y) = v) : decode c p = .ok (.ifCond .le v, 3) := dq_of (n := p + 1 + 1 + 1) ((bi_u1 _ h).trans ((bi_s2 _ h1 h2 hv).trans rfl)) rfl
set_option maxRecDepth 20000 in
theorem dc_159 {c : ByteArray} {p x y : Nat} {v : Int} (h : bq c p 159) (h1 : bq c (p + 1) x) (h2 : bq c (p + 1 + 1) y) (hv : Reader.signed 16 (x * 256 + y) = v) : decode c p = .ok (.if_icmp .eq v, 3) := dq_of (n := p + 1 + 1 + 1) ((bi_u1 _ h).trans ((bi_s2 _ h1 h2 hv).trans rfl)) rfl
set_option maxRecDepth 20000 in
theorem dc_160 {c : ByteArray} {p x y : Nat} {v : Int} (h : bq c p 160) (h1 : bq c (p + 1) x) (h2 : bq c (p + 1 + 1) y) (hv : Reader.signed 16 (x * 256 + y) = v) : decode c p = .ok (.if_icmp .ne v, 3) := dq_of (n := p + 1 + 1 + 1) ((bi_u1 _ h).trans ((bi_s2 _ h1 h2 hv).trans rfl)) rfl
set_option maxRecDepth 20000 in
theorem dc_161 {c : ByteArray} {p x y : Nat} {v : Int} (h : bq c p 161) (h1 : bq c (p + 1) x) (h2 : bq c (p + 1 + 1) y) (hv : Reader.signed 16 (x * 256 + y) = v) : decode c p = .ok (.if_icmp .lt v, 3) := dq_of (n := p + 1 + 1 + 1) ((bi_u1 _ h).trans ((bi_s2 _ h1 h2 hv).trans rfl)) rfl
set_option maxRecDepth 20000 in
theorem dc_162 {c : ByteArray} {p x y : Nat} {v : Int} (h : bq c p 162) (h1 : bq c (p + 1) x) (h2 : bq c (p + 1 + 1) y) (hv : Reader.signed 16 (x * 256 + y) = v) : decode c p = .ok (.if_icmp .ge v, 3) := dq_of (n := p + 1 + 1 + 1) ((bi_u1 _ h).trans ((bi_s2 _ h1 h2 hv).trans rfl)) rfl
set_option maxRecDepth 20000 in
theorem dc_163 {c : ByteArray} {p x y : Nat} {v : Int} (h : bq c p 163) (h1 : bq c (p + 1) x) (h2 : bq c (p + 1 + 1) y) (hv : Reader.signed 16 (x * 256 + y) = v) : decode c p = .ok (.if_icmp .gt v, 3) := dq_of (n := p + 1 + 1 + 1) ((bi_u1 _ h).trans ((bi_s2 _ h1 h2 hv).trans rfl)) rfl
set_option maxRecDepth 20000 in
theorem dc_164 {c : ByteArray} {p x y : Nat} {v : Int} (h : bq c p 164) (h1 : bq c (p + 1) x) (h2 : bq c (p + 1 + 1) y) (hv : Reader.signed 16 (x * 256 + y) = v) : decode c p = .ok (.if_icmp .le v, 3) := dq_of (n := p + 1 + 1 + 1) ((bi_u1 _ h).trans ((bi_s2 _ h1 h2 hv).trans rfl)) rfl
set_option maxRecDepth 20000 in
theorem dc_167 {c : ByteArray} {p x y : Nat} {v : Int} (h : bq c p 167) (h1 : bq c (p + 1) x) (h2 : bq c (p + 1 + 1) y) (hv : Reader.signed 16 (x * 256 + y) = v) : decode c p = .ok (.goto v, 3) := dq_of (n := p + 1 + 1 + 1) ((bi_u1 _ h).trans ((bi_s2 _ h1 h2 hv).trans rfl)) rfl
set_option maxRecDepth 20000 in
theorem dc_172 {c : ByteArray} {p : Nat} (h : bq c p 172) : decode c p = .ok (.ireturn, 1) := dq_of (n := p + 1) ((bi_u1 _ h).trans rfl) rfl
set_option maxRecDepth 20000 in
theorem dc_173 {c : ByteArray} {p : Nat} (h : bq c p 173) : decode c p = .ok (.lreturn, 1) := dq_of (n := p + 1) ((bi_u1 _ h).trans rfl) rfl
set_option maxRecDepth 20000 in
theorem dc_176 {c : ByteArray} {p : Nat} (h : bq c p 176) : decode c p = .ok (.areturn, 1) := dq_of (n := p + 1) ((bi_u1 _ h).trans rfl) rfl
set_option maxRecDepth 20000 in
theorem dc_177 {c : ByteArray} {p : Nat} (h : bq c p 177) : decode c p = .ok (.return_, 1) := dq_of (n := p + 1) ((bi_u1 _ h).trans rfl) rfl
set_option maxRecDepth 20000 in
theorem dc_180 {c : ByteArray} {p x y v : Nat} (h : bq c p 180) (h1 : bq c (p + 1) x) (h2 : bq c (p + 1 + 1) y) (hv : x * 256 + y = v) : decode c p = .ok (.getfield v, 3) := dq_of (n := p + 1 + 1 + 1) ((bi_u1 _ h).trans ((bi_u2 _ h1 h2 hv).trans rfl)) rfl
set_option maxRecDepth 20000 in
theorem dc_181 {c : ByteArray} {p x y v : Nat} (h : bq c p 181) (h1 : bq c (p + 1) x) (h2 : bq c (p + 1 + 1) y) (hv : x * 256 + y = v) : decode c p = .ok (.putfield v, 3) := dq_of (n := p + 1 + 1 + 1) ((bi_u1 _ h).trans ((bi_u2 _ h1 h2 hv).trans rfl)) rfl
set_option maxRecDepth 20000 in
theorem dc_182 {c : ByteArray} {p x y v : Nat} (h : bq c p 182) (h1 : bq c (p + 1) x) (h2 : bq c (p + 1 + 1) y) (hv : x * 256 + y = v) : decode c p = .ok (.invokevirtual v, 3) := dq_of (n := p + 1 + 1 + 1) ((bi_u1 _ h).trans ((bi_u2 _ h1 h2 hv).trans rfl)) rfl
set_option maxRecDepth 20000 in
theorem dc_183 {c : ByteArray} {p x y v : Nat} (h : bq c p 183) (h1 : bq c (p + 1) x) (h2 : bq c (p + 1 + 1) y) (hv : x * 256 + y = v) : decode c p = .ok (.invokespecial v, 3) := dq_of (n := p + 1 + 1 + 1) ((bi_u1 _ h).trans ((bi_u2 _ h1 h2 hv).trans rfl)) rfl
set_option maxRecDepth 20000 in
theorem dc_184 {c : ByteArray} {p x y v : Nat} (h : bq c p 184) (h1 : bq c (p + 1) x) (h2 : bq c (p + 1 + 1) y) (hv : x * 256 + y = v) : decode c p = .ok (.invokestatic v, 3) := dq_of (n := p + 1 + 1 + 1) ((bi_u1 _ h).trans ((bi_u2 _ h1 h2 hv).trans rfl)) rfl
set_option maxRecDepth 20000 in
theorem dc_187 {c : ByteArray} {p x y v : Nat} (h : bq c p 187) (h1 : bq c (p + 1) x) (h2 : bq c (p + 1 + 1) y) (hv : x * 256 + y = v) : decode c p = .ok (.new v, 3) := dq_of (n := p + 1 + 1 + 1) ((bi_u1 _ h).trans ((bi_u2 _ h1 h2 hv).trans rfl)) rfl
set_option maxRecDepth 20000 in
theorem dc_188_4 {c : ByteArray} {p : Nat} (h : bq c p 188) (h1 : bq c (p + 1) 4) : decode c p = .ok (.newarray .boolean, 2) := dq_of (n := p + 1 + 1) ((bi_u1 _ h).trans ((bi_u1 _ h1).trans rfl)) rfl
set_option maxRecDepth 20000 in
theorem dc_188_10 {c : ByteArray} {p : Nat} (h : bq c p 188) (h1 : bq c (p + 1) 10) : decode c p = .ok (.newarray .int, 2) := dq_of (n := p + 1 + 1) ((bi_u1 _ h).trans ((bi_u1 _ h1).trans rfl)) rfl
set_option maxRecDepth 20000 in
theorem dc_188_11 {c : ByteArray} {p : Nat} (h : bq c p 188) (h1 : bq c (p + 1) 11) : decode c p = .ok (.newarray .long, 2) := dq_of (n := p + 1 + 1) ((bi_u1 _ h).trans ((bi_u1 _ h1).trans rfl)) rfl
set_option maxRecDepth 20000 in
theorem dc_189 {c : ByteArray} {p x y v : Nat} (h : bq c p 189) (h1 : bq c (p + 1) x) (h2 : bq c (p + 1 + 1) y) (hv : x * 256 + y = v) : decode c p = .ok (.anewarray v, 3) := dq_of (n := p + 1 + 1 + 1) ((bi_u1 _ h).trans ((bi_u2 _ h1 h2 hv).trans rfl)) rfl
set_option maxRecDepth 20000 in
theorem dc_190 {c : ByteArray} {p : Nat} (h : bq c p 190) : decode c p = .ok (.arraylength, 1) := dq_of (n := p + 1) ((bi_u1 _ h).trans rfl) rfl
set_option maxRecDepth 20000 in
theorem dc_199 {c : ByteArray} {p x y : Nat} {v : Int} (h : bq c p 199) (h1 : bq c (p + 1) x) (h2 : bq c (p + 1 + 1) y) (hv : Reader.signed 16 (x * 256 + y) = v) : decode c p = .ok (.ifnonnull v, 3) := dq_of (n := p + 1 + 1 + 1) ((bi_u1 _ h).trans ((bi_s2 _ h1 h2 hv).trans rfl)) rfl


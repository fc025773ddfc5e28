/-! ===== the reference's rows of a hearing ===== -/
theorem lk_pos {od : Nat → Nat} {lk : Nat → Int32} {lf : Int32} {n p : Nat} (h0 : 0 ≤ lk p) : ¬ lk p ≤ lkL lk (lkP od lk lf n) := fun z => by
  have h : lk p ≤ -1 := by
    cases hb : lkP od lk lf n with
    | none => rw [hb] at z; exact z
    | some q => rw [hb] at z; exact Int32.le_trans z (lkP_s n q hb).2.2
  exact absurd (i32_lt0.mpr h) (Int32.not_lt.mpr h0)
theorem paF_or {pas a : Int32} {ks c : Nat} : ∀ n, paF pas ks (a, c) n = (a ||| (paF pas ks (0, c) n).1, (paF pas ks (0, c) n).2) := by
  intro n
  induction n with
  | zero => show (a, c) = (a ||| 0, c); rw [or0]
  | succ n ih =>
    by_cases h : (paF pas ks (0, c) n).2 < ks ∧ bt pas n = true
    · rw [paF_y h, paF_y (x0 := (a, c)) (by rw [ih]; exact h), ih]
      have e : (a ||| (paF pas ks (0, c) n).1) ||| b1 n = a ||| ((paF pas ks (0, c) n).1 ||| b1 n) := bt_ext (fun k hk => by rw [bt_or, bt_or, bt_or, bt_or, Bool.or_assoc])
      rw [e]
    · rw [paF_n h, paF_n (x0 := (a, c)) (by rw [ih]; exact h), ih]
theorem pcn_top : ∀ k v : Nat, pcn (k + 1) v = pcn k v + v / 2 ^ k % 2 := by
  intro k
  induction k with
  | zero => intro v; show v % 2 + 0 = 0 + v / 1 % 2; rw [Nat.div_one]; omega
  | succ k ih =>
    intro v
    rw [pcn_s, ih (v / 2), pcn_s (k := k) (v := v), Nat.div_div_eq_div_mul, show 2 * 2 ^ k = 2 ^ (k + 1) by rw [Nat.pow_succ]; omega]
    omega
theorem cnt_pcn {S : Nat} (hS : S < 2 ^ 31) : ∀ n, n ≤ 31 → cnt (nI S) n = pcn n S := by
  intro n
  induction n with
  | zero => intro _; rfl
  | succ n ih =>
    intro hn
    rw [pcn_top, ← ih (by omega)]
    have e : bt (nI S) n = decide (S / 2 ^ n % 2 = 1) := by
      show (Int32.ofNat S).toBitVec.getLsbD n = _
      rw [Int32.toBitVec_ofNat', BitVec.getLsbD_ofNat, decide_eq_true (by omega), Bool.true_and, Nat.testBit_eq_decide_div_mod_eq]
    show cnt (nI S) n + (if bt (nI S) n = true then 1 else 0) = _
    rw [e]
    by_cases h : S / 2 ^ n % 2 = 1
    · rw [if_pos (decide_eq_true h), h]
    · rw [if_neg (by rw [decide_eq_false h]; decide)]; omega
/-- as many as the reference counts -/
theorem size_ok {x : Int32} {c : Nat} (hx : ∀ k, 30 ≤ k → bt x k = false) (h : ∀ S8 : Nat, S8 < 2 ^ 31 → x = nI S8 → c = pcn 31 S8) : c = cnt x 32 := by
  obtain ⟨e1, e2⟩ := bt_nat (k := 30) (by decide) hx
  have e3 : x = nI x.toBitVec.toNat := by
    apply Int32.toInt_inj.mp
    rw [nI_toInt (by omega)]; exact e1
  have h1 := h x.toBitVec.toNat (by omega) e3
  have h2 := cnt_pcn (S := x.toBitVec.toNat) (by omega) 31 (by omega)
  rw [← e3] at h2
  rw [h1, ← h2]
  exact (cnt_up (n := 31) 1 (fun k h1 _ => hx k (by omega))).symm
theorem paF_hi {pas : Int32} {ks c : Nat} : ∀ n, n ≤ 30 → ∀ k, 30 ≤ k → bt (paF pas ks (0, c) n).1 k = false := by
  intro n
  induction n with
  | zero => intro _ k _; exact bt_zero
  | succ n ih =>
    intro hn k hk
    by_cases h : (paF pas ks (0, c) n).2 < ks ∧ bt pas n = true
    · rw [paF_y h]
      show bt ((paF pas ks (0, c) n).1 ||| b1 n) k = false
      rw [bt_or, ih (by omega) k hk, bt_b1 (by omega), decide_eq_false (show ¬ k = n by omega), Bool.and_false]; rfl
    · rw [paF_n h]; exact ih (by omega) k hk
/-! the whole row -/
def hU (box pas : Int32) (R : Nat → Int32) : Int32 := (paF pas (R 2).toNatClampNeg (0, (hJ box R).2) 30).1
def slZ (box pas : Int32) (R : Nat → Int32) (p : Nat) : Int32 :=
  if (hW box pas R).2 < (R 2).toNatClampNeg then slV box (hCa box R) (hMi box R) (hX box R) p
  else if bt (hJ box R).1 p = true then 5 else if bt (hU box pas R) p = true then 7 else slV box (hCa box R) (hMi box R) (hX box R) p
def hPs (box pas : Int32) (R : Nat → Int32) : Nat := if (hW box pas R).2 < (R 2).toNatClampNeg then 0 else cnt (hU box pas R) 32
def rQ (bo ju dr dn sl ax : Nat → Int32) (to : Nat) (box pas : Int32) (R : Nat → Int32) : Prop :=
  bo to = box ∧ ju to = hSw box pas R ∧ dn to = nI (hM box R) ∧ (∀ k, k < hM box R → dr (k + 24 * to) = nI (drP box (R 7) k)) ∧ (∀ p, p < 30 → sl (p + 30 * to) = slZ box pas R p) ∧
  ax (4 * to) = nI (hPs box pas R) ∧ ax (4 * to + 1) = nI (cnt (hX box R).1 32) ∧ ax (4 * to + 2) = nI (cnt (hX box R).2 32) ∧ ax (4 * to + 3) = lotF (R 7) (hM box R)
theorem rQ_fr {bo ju dr dn sl ax bo' ju' dr' dn' sl' ax' : Nat → Int32} {k : Nat} {box pas : Int32} {R : Nat → Int32} (h : rQ bo ju dr dn sl ax k box pas R) (h1 : bo' k = bo k) (h2 : ju' k = ju k) (h3 : dn' k = dn k) (h4 : ∀ z, z < 24 → dr' (z + 24 * k) = dr (z + 24 * k)) (h5 : ∀ z, z < 30 → sl' (z + 30 * k) = sl (z + 30 * k)) (h6 : ∀ z, z < 4 → ax' (4 * k + z) = ax (4 * k + z)) (hm : (R 8).toNatClampNeg ≤ 24) : rQ bo' ju' dr' dn' sl' ax' k box pas R := by
  obtain ⟨a1, a2, a3, a4, a5, a6, a7, a8, a9⟩ := h
  exact ⟨h1.trans a1, h2.trans a2, h3.trans a3, fun z hz => (h4 z (by unfold hM at hz; omega)).trans (a4 z hz), fun z hz => (h5 z hz).trans (a5 z hz), (h6 0 (by omega)).trans a6, (h6 1 (by omega)).trans a7, (h6 2 (by omega)).trans a8, (h6 3 (by omega)).trans a9⟩
/-- a trial's row in the reference, in the class's order -/
def kS (ss : Nat → Int32) (t c : Nat) : Int32 := if c < 10 then ss (10 * t + c + 1546) else ss (60 * t + (c - 10) + 1646)
theorem kS_lk {ss : Nat → Int32} {t sd : Nat} : (fun p => kS ss t (30 * sd + p + 10)) = (fun p => ss (30 * sd + 60 * t + p + 1646)) := by
  funext p
  unfold kS
  rw [if_neg (by omega), Nat.add_sub_cancel, show 60 * t + (30 * sd + p) + 1646 = 30 * sd + 60 * t + p + 1646 by omega]
theorem and_m1 (x : Int32) : x &&& (-1) = x := bt_ext (fun k hk => by rw [bt_and, bt_m1 hk, Bool.and_true])
theorem and_n0 {x : Int32} : x = x &&& ((0 : Int32) ^^^ (-1)) := bt_ext (fun k hk => by rw [bt_and, bt_not hk, bt_zero]; simp)
theorem nor_and {x a b : Int32} : (x &&& (a ^^^ (-1))) &&& (b ^^^ (-1)) = x &&& ((a ||| b) ^^^ (-1)) := bt_ext (fun k hk => by rw [bt_and, bt_and, bt_and, bt_not hk, bt_not hk, bt_not hk, bt_or, Bool.not_or, Bool.and_assoc])
theorem pas_ref {w0 box kb fit : Int32} (h : w0 &&& (kb ^^^ (-1)) = fit) : (w0 &&& (box ^^^ (-1))) &&& (kb ^^^ (-1)) = pasV fit box := bt_ext (fun k hk => by
  unfold pasV
  rw [← h, bt_and, bt_and, bt_and, bt_and, bt_not hk, bt_not hk, Bool.and_assoc, Bool.and_assoc, Bool.and_comm (!bt box k)])
/-- the slips while those drawn are gone through -/
def slD (box cj r9 : Int32) (p : Nat) : Int32 := if bt box p = true then (if bt cj p = true then (if bt r9 p = true then 2 else 6) else 1) else 0
theorem slD_0 {box r9 : Int32} {p : Nat} : slD box 0 r9 p = if bt box p = true then 1 else 0 := by
  unfold slD
  rw [if_neg (c := bt 0 p = true) (by rw [bt_zero]; decide)]
theorem slD_s {box cj r9 : Int32} {z p : Nat} (hz : z < 30) (hp : p < 30) (hb : bt box z = true) : slD box (cj ||| b1 z) r9 p = if p = z then (if bt r9 z = true then 2 else 6) else slD box cj r9 p := by
  by_cases e : p = z
  · rw [if_pos e, e]
    unfold slD
    rw [if_pos hb, if_pos (by rw [bt_or, bt_b1 (by omega), decide_eq_true (by omega), decide_eq_true rfl]; simp)]
  · rw [if_neg e]
    unfold slD
    rw [bt_or, bt_b1 (by omega), decide_eq_false e, Bool.and_false, Bool.or_false]
theorem slD_V {box ca r9 : Int32} {p : Nat} : slD box ca r9 p = slV box ca (ca &&& r9) (0, 0) p := by
  rw [slV_0]
  unfold slD
  by_cases h1 : bt box p = true
  · rw [if_pos h1, if_pos h1]
    by_cases h2 : bt ca p = true
    · rw [if_pos h2, if_pos h2, bt_and, h2, Bool.true_and]
    · rw [if_neg h2, if_neg h2]
  · rw [if_neg h1, if_neg h1]
theorem drC_in {box o0 : Int32} {j : Nat} (hj : j ≤ cnt box 30) {p : Nat} (h : bt (drC box o0 j) p = true) : bt box p = true := by
  obtain ⟨i, hi, e⟩ := (drC_bt j hj).mp h
  rw [← e]
  exact (dr_in (by omega)).2.1
theorem lf_x {ca mi : Int32} {x : Int32 × Int32} {p : Nat} (hp : p < 32) (h : bt (lfV ca mi x) p = true) : bt x.1 p = false ∧ bt x.2 p = false := by
  unfold lfV at h
  simp only [bt_and, bt_not hp, Bool.and_eq_true, Bool.not_eq_true'] at h
  exact ⟨h.1.2, h.2⟩
/-- how the reference strikes: the turns' choice -/
def rPk (ss : Nat → Int32) (t : Nat) (opn : Nat → Nat) (d : Nat) (sd : Nat) (lf : Int32) : Option Nat := lkP opn (fun p => ss (30 * sd + 60 * t + p + 1646)) lf d
theorem rPk_mono {ss : Nat → Int32} {t d : Nat} {opn : Nat → Nat} {ca mi : Int32} : ∀ s (x : Int32 × Int32) u o, rPk ss t opn d s (lfV ca mi x) = none → rPk ss t opn d s (lfV ca mi (stN u x o)) = none :=
  fun _ _ _ _ h => lkP_mono h lfV_mono
theorem rPk_h {ss : Nat → Int32} {t : Nat} {box : Int32} : rPk ss t (drP box (kS ss t 7)) (hM box (kS ss t)) = hPk box (kS ss t) := by
  funext sd lf
  unfold rPk hPk
  rw [kS_lk]
theorem ax_if {C : Prop} [Decidable C] {x y : Int32} {m : Nat} (h0 : C → x = y) (h1 : ¬ C → x = nI m) (h2 : y = 0) : x = nI (if C then 0 else m) := by
  by_cases e : C
  · rw [if_pos e, h0 e, h2]; rfl
  · rw [if_neg e, h1 e]
theorem rQ_mk {bo ju dr dn sl ax sl0 : Nat → Int32} {to t sq q4 ks : Nat} {box pas : Int32} {ss : Nat → Int32} {x : Int32 × Int32} (h8 : ss (10 * t + 1554) = nI sq) (b8 : sq ≤ 24) (h6 : ss (10 * t + 1552) = nI q4) (b6 : q4 ≤ 4) (h2 : ss (10 * t + 1548) = nI ks) (b2 : ks ≤ 8)
    (hx : x = stX (rPk ss t (drP box (ss (10 * t + 1553))) (min sq (cnt box 30))) (drC box (ss (10 * t + 1553)) (min sq (cnt box 30))) (drC box (ss (10 * t + 1553)) (min sq (cnt box 30)) &&& ss (10 * t + 1555)) (2 * q4))
    (e1 : bo to = box) (e3 : dn to = nI (min sq (cnt box 30))) (e4 : ∀ k, k < min sq (cnt box 30) → dr (k + 24 * to) = nI (drP box (ss (10 * t + 1553)) k))
    (e0 : ∀ p, p < 30 → sl0 (p + 30 * to) = slV box (drC box (ss (10 * t + 1553)) (min sq (cnt box 30))) (drC box (ss (10 * t + 1553)) (min sq (cnt box 30)) &&& ss (10 * t + 1555)) x p)
    (e2 : ju to = if (paF pas ks (seF (drP box (ss (10 * t + 1553))) (lfV (drC box (ss (10 * t + 1553)) (min sq (cnt box 30))) (drC box (ss (10 * t + 1553)) (min sq (cnt box 30)) &&& ss (10 * t + 1555)) x) ks (min sq (cnt box 30))) 30).2 < ks then 0 else (paF pas ks (seF (drP box (ss (10 * t + 1553))) (lfV (drC box (ss (10 * t + 1553)) (min sq (cnt box 30))) (drC box (ss (10 * t + 1553)) (min sq (cnt box 30)) &&& ss (10 * t + 1555)) x) ks (min sq (cnt box 30))) 30).1)
    (e5 : ∀ p, p < 30 → sl (p + 30 * to) = if (paF pas ks (seF (drP box (ss (10 * t + 1553))) (lfV (drC box (ss (10 * t + 1553)) (min sq (cnt box 30))) (drC box (ss (10 * t + 1553)) (min sq (cnt box 30)) &&& ss (10 * t + 1555)) x) ks (min sq (cnt box 30))) 30).2 < ks then sl0 (p + 30 * to) else (if bt (seF (drP box (ss (10 * t + 1553))) (lfV (drC box (ss (10 * t + 1553)) (min sq (cnt box 30))) (drC box (ss (10 * t + 1553)) (min sq (cnt box 30)) &&& ss (10 * t + 1555)) x) ks (min sq (cnt box 30))).1 p = true then 5 else if bt (paF pas ks (0, (seF (drP box (ss (10 * t + 1553))) (lfV (drC box (ss (10 * t + 1553)) (min sq (cnt box 30))) (drC box (ss (10 * t + 1553)) (min sq (cnt box 30)) &&& ss (10 * t + 1555)) x) ks (min sq (cnt box 30))).2) 30).1 p = true then 7 else sl0 (p + 30 * to)))
    (e6 : ax (4 * to) = nI (if (paF pas ks (seF (drP box (ss (10 * t + 1553))) (lfV (drC box (ss (10 * t + 1553)) (min sq (cnt box 30))) (drC box (ss (10 * t + 1553)) (min sq (cnt box 30)) &&& ss (10 * t + 1555)) x) ks (min sq (cnt box 30))) 30).2 < ks then 0 else cnt (paF pas ks (0, (seF (drP box (ss (10 * t + 1553))) (lfV (drC box (ss (10 * t + 1553)) (min sq (cnt box 30))) (drC box (ss (10 * t + 1553)) (min sq (cnt box 30)) &&& ss (10 * t + 1555)) x) ks (min sq (cnt box 30))).2) 30).1 32))
    (e7 : ax (4 * to + 1) = nI (cnt x.1 32)) (e8 : ax (4 * to + 2) = nI (cnt x.2 32)) (e9 : ax (4 * to + 3) = lotF (ss (10 * t + 1553)) (min sq (cnt box 30))) : rQ bo ju dr dn sl ax to box pas (kS ss t) := by
  have E8 : (kS ss t 8).toNatClampNeg = sq := nI_b9 h8 (by omega)
  have E6 : (kS ss t 6).toNatClampNeg = q4 := nI_b9 h6 (by omega)
  have E2 : (kS ss t 2).toNatClampNeg = ks := nI_b9 h2 (by omega)
  clear h8 h6 h2 b8 b6 b2
  subst E8 E6 E2
  have hx : x = hX box (kS ss t) := by
    rw [hx]
    unfold hX
    rw [← rPk_h]
    rfl
  subst hx
  refine ⟨e1, e2, e3, e4, fun p hp => ?_, e6, e7, e8, e9⟩
  rw [e5 p hp, e0 p hp]
  rfl
/-! what both sides say of a person's slip, and of the figures -/
theorem paF_in {pas : Int32} {ks c q : Nat} : ∀ n, n ≤ 30 → bt (paF pas ks (0, c) n).1 q = true → q < n ∧ bt pas q = true := by
  intro n
  induction n with
  | zero => intro _ h; have h : bt 0 q = true := h; rw [bt_zero] at h; cases h
  | succ n ih =>
    intro hn h
    by_cases hc : (paF pas ks (0, c) n).2 < ks ∧ bt pas n = true
    · rw [paF_y hc] at h
      have h : bt ((paF pas ks (0, c) n).1 ||| b1 n) q = true := h
      rw [bt_or, bt_b1 (by omega), Bool.or_eq_true, Bool.and_eq_true, decide_eq_true_iff, decide_eq_true_iff] at h
      rcases h with h | ⟨_, h⟩
      · exact ⟨by have := (ih (by omega) h).1; omega, (ih (by omega) h).2⟩
      · rw [h]; exact ⟨by omega, hc.2⟩
    · rw [paF_n hc] at h
      exact ⟨by have := (ih (by omega) h).1; omega, (ih (by omega) h).2⟩
theorem hJ_in {box : Int32} {R : Nat → Int32} {q : Nat} (h : bt (hJ box R).1 q = true) : bt (hLf box R) q = true := by
  have hm : hM box R ≤ cnt box 30 := Nat.min_le_right _ _
  exact ((seF_ok (od := drP box (R 7)) (lf := hLf box R) (k := (R 2).toNatClampNeg) (m := hM box R) (fun i hi => (dr_in (by omega)).1) (fun i j h1 h2 => dr_inj h1 (by omega)) (hM box R) (Nat.le_refl _)).1 q h).1
theorem hLf_in {box : Int32} {R : Nat → Int32} {q : Nat} (hq : q < 32) (h : bt (hLf box R) q = true) : bt box q = true ∧ bt (hCa box R) q = true ∧ bt (hMi box R) q = false ∧ bt (hX box R).1 q = false ∧ bt (hX box R).2 q = false := by
  unfold hLf lfV at h
  simp only [bt_and, bt_not hq, Bool.and_eq_true, Bool.not_eq_true'] at h
  exact ⟨drC_in (Nat.min_le_right _ _) h.1.1.1, h.1.1.1, h.1.1.2, h.1.2, h.2⟩
theorem hSw_split {box pas : Int32} {R : Nat → Int32} (h : ¬ (hW box pas R).2 < (R 2).toNatClampNeg) : hSw box pas R = (hJ box R).1 ||| hU box pas R := by
  unfold hSw
  rw [if_neg h]
  unfold hW hU
  rw [show hJ box R = ((hJ box R).1, (hJ box R).2) from rfl, paF_or]
/-- the class's standing -/
def stZ (box ca mi : Int32) (x : Int32 × Int32) (sw : Int32) (p : Nat) : Int32 :=
  if ¬ bt box p = true then (if bt sw p = true then 7 else 0) else if ¬ bt ca p = true then 1 else if bt mi p = true then 2 else if bt x.1 p = true then 3 else if bt x.2 p = true then 4 else if bt sw p = true then 5 else 6
theorem slZ_stZ {box fit : Int32} {R : Nat → Int32} {p : Nat} (hp : p < 30) : slZ box (pasV fit box) R p = stZ box (hCa box R) (hMi box R) (hX box R) (hSw box (pasV fit box) R) p := by
  have hv : ∀ sw, bt sw p = false → slV box (hCa box R) (hMi box R) (hX box R) p = stZ box (hCa box R) (hMi box R) (hX box R) sw p := fun sw hs => by
    unfold slV stZ
    rw [hs]
    cases bt box p <;> cases bt (hCa box R) p <;> rfl
  unfold slZ
  by_cases h : (hW box (pasV fit box) R).2 < (R 2).toNatClampNeg
  · rw [if_pos h]
    refine hv _ ?_
    unfold hSw
    rw [if_pos h, bt_zero]
  · rw [if_neg h]
    have hs := hSw_split h
    by_cases h1 : bt (hJ box R).1 p = true
    · obtain ⟨a1, a2, a3, a4, a5⟩ := hLf_in (by omega) (hJ_in h1)
      rw [if_pos h1]
      unfold stZ
      rw [hs, bt_or, h1, a1, a2, a3, a4, a5]
      rfl
    · rw [if_neg h1]
      by_cases h2 : bt (hU box (pasV fit box) R) p = true
      · have h3 := (paF_in 30 (by omega) h2).2
        unfold pasV at h3
        rw [bt_and, bt_not (by omega), Bool.and_eq_true, Bool.not_eq_true'] at h3
        rw [if_pos h2]
        unfold stZ
        rw [hs, bt_or, h2, h3.2, Bool.or_true]
        rfl
      · rw [if_neg h2]
        refine hv _ ?_
        rw [hs, bt_or, eq_false_of_ne_true h1, eq_false_of_ne_true h2]
        rfl
theorem hPs_ok {box fit : Int32} {R : Nat → Int32} : hPs box (pasV fit box) R = cnt (hSw box (pasV fit box) R &&& (box ^^^ (-1))) 32 := by
  unfold hPs
  by_cases h : (hW box (pasV fit box) R).2 < (R 2).toNatClampNeg
  · rw [if_pos h]
    unfold hSw
    rw [if_pos h, show (0 : Int32) &&& (box ^^^ (-1)) = 0 from bt_ext (fun k hk => by rw [bt_and, bt_zero]; rfl)]
    exact (cnt_0 32).symm
  · rw [if_neg h, hSw_split h]
    congr 1
    apply bt_ext
    intro k hk
    rw [bt_and, bt_or, bt_not hk]
    cases h1 : bt (hJ box R).1 k with
    | true =>
      have hb := (hLf_in hk (hJ_in h1)).1
      cases h2 : bt (hU box (pasV fit box) R) k with
      | true =>
        have h3 := (paF_in 30 (by omega) h2).2
        unfold pasV at h3
        rw [bt_and, bt_not hk, hb, Bool.and_eq_true] at h3
        cases h3.2
      | false => rw [hb]; rfl
    | false =>
      cases h2 : bt (hU box (pasV fit box) R) k with
      | true =>
        have h3 := (paF_in 30 (by omega) h2).2
        unfold pasV at h3
        rw [bt_and, bt_not hk, Bool.and_eq_true] at h3
        rw [h3.2]; rfl
      | false => rfl


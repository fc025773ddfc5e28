/-! ===== who may sit, who is in the box, a hearing whole ===== -/
/-- of some people those of whom a law tells a truth; where there is no law: d -/
def trV (np : Nat) (nv : Nat → Int32 → Int64) (d am : Int32) : Option (List (Int32 × Int32)) → Int32
  | none => d
  | some l => sO (fun p => bt am p && decide (¬ (ev (nv p) l).headD 0 = 0)) np
theorem trV_hi {np : Nat} {nv : Nat → Int32 → Int64} {d am : Int32} {o : Option (List (Int32 × Int32))} (hnp : np ≤ 30) (hd : ∀ k, 30 ≤ k → bt d k = false) : ∀ k, 30 ≤ k → bt (trV np nv d am o) k = false := by
  intro k hk
  cases o with
  | none => exact hd k hk
  | some l =>
    show bt (sO (fun p => bt am p && decide (¬ (ev (nv p) l).headD 0 = 0)) np) k = false
    rw [bt_sO np k (by omega), decide_eq_false (by omega), Bool.false_and]
theorem trV_congr {np : Nat} {nv nv' : Nat → Int32 → Int64} {d am : Int32} {o : Option (List (Int32 × Int32))} (h : ∀ p, p < np → nv p = nv' p) : trV np nv d am o = trV np nv' d am o := by
  cases o with
  | none => rfl
  | some l => exact sO_congr np (fun k hk => by rw [h k hk])
/-- a letter's value, out of the first n trials -/
def nvF (P T : Nat → Nat → Int32) (J : Nat → Int32) (day : Int32) (n p : Nat) : Int32 → Int64 := ltk P (satN T J day p n) (sinV T J day p n) p day
theorem nvF_stop {P T : Nat → Nat → Int32} {J : Nat → Int32} {day : Int32} {t n p : Nat} (htn : t ≤ n) (h : ∀ o, t ≤ o → o < n → ¬ T o 0 < day) : nvF P T J day n p = nvF P T J day t p := by
  obtain ⟨d, rfl⟩ : ∃ d, n = t + d := ⟨n - t, by omega⟩
  obtain ⟨e1, e2⟩ := sat_stop (T := T) (J := J) (day := day) (p := p) (t := t) d h
  unfold nvF
  rw [e1, e2]
theorem nvF_congr {P P' T T' : Nat → Nat → Int32} {J J' : Nat → Int32} {day : Int32} {n p : Nat} (hP : ∀ c, c < 4 → P p c = P' p c) (hT : ∀ o, o < n → T o 0 = T' o 0) (hJ : ∀ o, o < n → J o = J' o) : nvF P T J day n p = nvF P' T' J' day n p := by
  obtain ⟨e1, e2⟩ := sat_congr (T := T) (T' := T') (J := J) (J' := J') (day := day) (p := p) n hT hJ
  unfold nvF
  rw [e1, e2]
  funext k
  unfold ltk lts
  rw [hP 0 (by omega), hP 1 (by omega), hP 2 (by omega), hP 3 (by omega)]
def clV (np : Nat) (kin bz : Int32) : Int32 := ((((1 : Int32) <<< (nI np &&& 31)) - 1) &&& (kin ^^^ (-1))) &&& (bz ^^^ (-1))
theorem clV_hi {np : Nat} {kin bz : Int32} (hnp : np ≤ 30) : ∀ k, 30 ≤ k → bt (clV np kin bz) k = false := by
  intro k hk
  unfold clV
  rw [bt_and, bt_and, bt_low (by omega), decide_eq_false (by omega), Bool.false_and, Bool.false_and]
def fitV (np : Nat) (nv : Nat → Int32 → Int64) (kin bz : Int32) (o : Option (List (Int32 × Int32))) : Int32 := trV np nv (clV np kin bz) (clV np kin bz) o
def liV (fit roll trade : Int32) : Int32 := (fit &&& roll) &&& trade
def boxV (np : Nat) (nv : Nat → Int32 → Int64) (fit roll trade : Int32) (o : Option (List (Int32 × Int32))) : Int32 := liV fit roll trade &&& (trV np nv 0 (liV fit roll trade) o ^^^ (-1))
def pasV (fit box : Int32) : Int32 := fit &&& (box ^^^ (-1))
theorem boxV_hi {np : Nat} {nv : Nat → Int32 → Int64} {kin bz fit roll trade : Int32} {o o' : Option (List (Int32 × Int32))} (hnp : np ≤ 30) (hf : fitV np nv kin bz o' = fit) : ∀ k, 30 ≤ k → bt (boxV np nv fit roll trade o) k = false := by
  intro k hk
  unfold boxV liV
  rw [bt_and, bt_and, bt_and, ← hf]
  unfold fitV
  rw [trV_hi hnp (clV_hi hnp) k hk, Bool.false_and, Bool.false_and, Bool.false_and]
/-- who may pass in isn't among those drawn -/
theorem pas_lf {fit box r mi : Int32} {x : Int32 × Int32} {m : Nat} (hm : m ≤ cnt box 30) : ∀ q, bt (pasV fit box) q = true → bt (lfV (drC box r m) mi x) q = false := by
  intro q h
  unfold pasV at h
  rw [bt_and, Bool.and_eq_true] at h
  cases hb : bt (lfV (drC box r m) mi x) q with
  | false => rfl
  | true =>
    have h1 : bt (drC box r m) q = true := by
      unfold lfV at hb
      rw [bt_and, bt_and, bt_and, Bool.and_eq_true, Bool.and_eq_true, Bool.and_eq_true] at hb
      exact hb.1.1.1
    obtain ⟨i, hi, e⟩ := (drC_bt m hm).mp h1
    have h2 := (dr_in (box := box) (o0 := r) (j := i) (by omega)).2.1
    rw [e] at h2
    have h3 := h.2
    by_cases hq : q < 32
    · rw [bt_not hq, h2] at h3; cases h3
    · rw [bt_ge (by omega)] at h2; cases h2
/-- a hearing of the class that is as it must be -/
def okQ (G : gW) (g : Nat → Nat) (f : Nat → va_E) (k : Nat) (box pas : Int32) (R : Nat → Int32) : Prop := ∃ od : Nat → Int32, f k = eO 3 [.ref (g (k + 1)), .int (nI (hM box R)), .int (lotF (R 7) (hM box R)), .int box, .int (hCa box R), .int (hMi box R), .int (hX box R).1, .int (hX box R).2, .int (hSw box pas R)] ∧ f (k + 1) = eI G 24 od ∧ ∀ i, i < hM box R → od i = nI (drP box (R 7) i)
theorem okQ_fr {G : gW} {g : Nat → Nat} {f f' : Nat → va_E} {k : Nat} {box pas : Int32} {R : Nat → Int32} (h : okQ G g f k box pas R) (e1 : f' k = f k) (e2 : f' (k + 1) = f (k + 1)) : okQ G g f' k box pas R := by
  obtain ⟨od, h1, h2, h3⟩ := h
  exact ⟨od, e1.trans h1, e2.trans h2, h3⟩
theorem okQ_mk {G : gW} {g : Nat → Nat} {f : Nat → va_E} {k q8 q6 ks : Nat} {box pas : Int32} {R od : Nat → Int32} (h8 : R 8 = nI q8) (b8 : q8 ≤ 24) (h6 : R 6 = nI q6) (b6 : q6 ≤ 4) (h2 : R 2 = nI ks) (b2 : ks ≤ 8)
    (e1 : f k = eO 3 [.ref (g (k + 1)), .int (nI (min q8 (cnt box 30))), .int (lotF (R 7) (min q8 (cnt box 30))), .int box, .int (drC box (R 7) (min q8 (cnt box 30))), .int (drC box (R 7) (min q8 (cnt box 30)) &&& R 9),
      .int (stX (fun sd lf => lkP (drP box (R 7)) (fun p => R (30 * sd + p + 10)) lf (min q8 (cnt box 30))) (drC box (R 7) (min q8 (cnt box 30))) (drC box (R 7) (min q8 (cnt box 30)) &&& R 9) (2 * q6)).1,
      .int (stX (fun sd lf => lkP (drP box (R 7)) (fun p => R (30 * sd + p + 10)) lf (min q8 (cnt box 30))) (drC box (R 7) (min q8 (cnt box 30))) (drC box (R 7) (min q8 (cnt box 30)) &&& R 9) (2 * q6)).2,
      .int (if (paF pas ks (seF (drP box (R 7)) (lfV (drC box (R 7) (min q8 (cnt box 30))) (drC box (R 7) (min q8 (cnt box 30)) &&& R 9) (stX (fun sd lf => lkP (drP box (R 7)) (fun p => R (30 * sd + p + 10)) lf (min q8 (cnt box 30))) (drC box (R 7) (min q8 (cnt box 30))) (drC box (R 7) (min q8 (cnt box 30)) &&& R 9) (2 * q6))) ks (min q8 (cnt box 30))) 30).2 < ks then 0 else (paF pas ks (seF (drP box (R 7)) (lfV (drC box (R 7) (min q8 (cnt box 30))) (drC box (R 7) (min q8 (cnt box 30)) &&& R 9) (stX (fun sd lf => lkP (drP box (R 7)) (fun p => R (30 * sd + p + 10)) lf (min q8 (cnt box 30))) (drC box (R 7) (min q8 (cnt box 30))) (drC box (R 7) (min q8 (cnt box 30)) &&& R 9) (2 * q6))) ks (min q8 (cnt box 30))) 30).1)])
    (e2 : f (k + 1) = eI G 24 od) (e3 : ∀ i, i < min q8 (cnt box 30) → od i = nI (drP box (R 7) i)) : okQ G g f k box pas R := by
  have E8 := nI_b9 h8 (by omega)
  have E6 := nI_b9 h6 (by omega)
  have E2 := nI_b9 h2 (by omega)
  clear h8 h6 h2 b8 b6 b2
  subst E8 E6 E2
  exact ⟨od, e1, e2, e3⟩
theorem okQ.okZ {G : gW} {g : Nat → Nat} {f : Nat → va_E} {k : Nat} {box pas : Int32} {R : Nat → Int32} (h : okQ G g f k box pas R) (b8 : (R 8).toNatClampNeg ≤ 24) : okZ G g f k (hSw box pas R) := by
  obtain ⟨od, h1, h2, _⟩ := h
  exact ⟨_, _, _, _, _, _, _, od, h1, h2, by unfold hM; omega⟩
/-! the whole of a trial's hearing, by what was told and by who sat in the trials ahead -/
def fitT (np nf : Nat) (P F T : Nat → Nat → Int32) (J : Nat → Int32) (n t : Nat) (o : Option (List (Int32 × Int32))) : Int32 := fitV np (nvF P T J (T t 0) n) (knV F (T t 3) (T t 4) (T t 0) nf) (bzV T J t t) o
def trdV (np : Nat) (P : Nat → Nat → Int32) (c : Int32) : Int32 := sO (fun i => decide (c = -1) || decide (P i 1 = c)) np
def boxT (np nf nr : Nat) (P F R T : Nat → Nat → Int32) (J : Nat → Int32) (n t : Nat) (o o' : Option (List (Int32 × Int32))) : Int32 := boxV np (nvF P T J (T t 0) n) (fitT np nf P F T J n t o) (rlV np nr R (T t 0)) (trdV np P (T t 5)) o'
theorem fitT_stop {np nf : Nat} {P F T : Nat → Nat → Int32} {J : Nat → Int32} {n t : Nat} {o : Option (List (Int32 × Int32))} (htn : t ≤ n) (h : ∀ q, t ≤ q → q < n → ¬ T q 0 < T t 0) : fitT np nf P F T J n t o = fitT np nf P F T J t t o := by
  unfold fitT fitV
  exact trV_congr (fun p _ => nvF_stop htn h)
theorem boxT_stop {np nf nr : Nat} {P F R T : Nat → Nat → Int32} {J : Nat → Int32} {n t : Nat} {o o' : Option (List (Int32 × Int32))} (htn : t ≤ n) (h : ∀ q, t ≤ q → q < n → ¬ T q 0 < T t 0) : boxT np nf nr P F R T J n t o o' = boxT np nf nr P F R T J t t o o' := by
  unfold boxT
  rw [fitT_stop htn h]
  unfold boxV
  rw [trV_congr (fun p _ => nvF_stop (P := P) (J := J) (p := p) htn h)]
theorem fitT_congr {np nf : Nat} {P P' F F' T T' : Nat → Nat → Int32} {J J' : Nat → Int32} {t : Nat} {o : Option (List (Int32 × Int32))} (hP : ∀ p, p < np → ∀ c, c < 4 → P p c = P' p c) (hF : ∀ i, i < nf → ∀ c, c < 3 → F i c = F' i c) (hT : ∀ q, q ≤ t → ∀ c, c < 10 → T q c = T' q c) (hJ : ∀ q, q < t → J q = J' q) : fitT np nf P F T J t t o = fitT np nf P' F' T' J' t t o := by
  unfold fitT fitV
  rw [hT t (Nat.le_refl _) 0 (by omega), hT t (Nat.le_refl _) 3 (by omega), hT t (Nat.le_refl _) 4 (by omega), knV_congr (F := F) (F' := F') nf hF,
    bzV_congr (T := T) (T' := T') (J := J) (J' := J') (t := t) (hT t (Nat.le_refl _) 0 (by omega)) t (fun q hq => ⟨hT q (by omega) 0 (by omega), hT q (by omega) 1 (by omega), hJ q hq⟩)]
  exact trV_congr (fun p hp => nvF_congr (hP p hp) (fun q hq => hT q (by omega) 0 (by omega)) hJ)
theorem trdV_congr {np : Nat} {P P' : Nat → Nat → Int32} {c : Int32} (hP : ∀ p, p < np → ∀ c, c < 4 → P p c = P' p c) : trdV np P c = trdV np P' c :=
  sO_congr np (fun k hk => by rw [hP k hk 1 (by omega)])
theorem boxT_congr {np nf nr : Nat} {P P' F F' R R' T T' : Nat → Nat → Int32} {J J' : Nat → Int32} {t : Nat} {o o' : Option (List (Int32 × Int32))} (hP : ∀ p, p < np → ∀ c, c < 4 → P p c = P' p c) (hF : ∀ i, i < nf → ∀ c, c < 3 → F i c = F' i c) (hR : ∀ i, i < nr → ∀ c, c < 3 → R i c = R' i c) (hT : ∀ q, q ≤ t → ∀ c, c < 10 → T q c = T' q c) (hJ : ∀ q, q < t → J q = J' q) : boxT np nf nr P F R T J t t o o' = boxT np nf nr P' F' R' T' J' t t o o' := by
  unfold boxT
  rw [fitT_congr (o := o) hP hF hT hJ, hT t (Nat.le_refl _) 0 (by omega), hT t (Nat.le_refl _) 5 (by omega), rlV_congr (R := R) (R' := R') hR, trdV_congr hP]
  unfold boxV
  rw [trV_congr (nv := nvF P T J (T' t 0) t) (nv' := nvF P' T' J' (T' t 0) t) (fun p hp => nvF_congr (hP p hp) (fun q hq => hT q (by omega) 0 (by omega)) hJ)]
/-- who sits in trial t, out of those ahead -/
def swT (np nf nr na : Nat) (P F R A T : Nat → Nat → Int32) (K : Nat → Nat → Int32) (LO : Nat → List (Int32 × Int32)) (J : Nat → Int32) (t : Nat) : Int32 :=
  hSw (boxT np nf nr P F R T J t t ((fcB A 0 (T t 0) na).map LO) ((fcB A 1 (T t 0) na).map LO)) (pasV (fitT np nf P F T J t t ((fcB A 0 (T t 0) na).map LO)) (boxT np nf nr P F R T J t t ((fcB A 0 (T t 0) na).map LO) ((fcB A 1 (T t 0) na).map LO))) (K t)
/-! the juries one after the other -/
def jl (W : (Nat → Int32) → Nat → Int32) : Nat → Nat → Int32
  | 0 => fun _ => 0
  | t + 1 => upN (jl W t) t (W (jl W t) t)
def jT (W : (Nat → Int32) → Nat → Int32) (t : Nat) : Int32 := jl W (t + 1) t
theorem jl_lt {W : (Nat → Int32) → Nat → Int32} {q : Nat} : ∀ n, q < n → jl W n q = jT W q := by
  intro n
  induction n with
  | zero => intro h; exact absurd h (Nat.not_lt_zero _)
  | succ n ih =>
    intro h
    by_cases e : q = n
    · rw [e]; rfl
    · show upN (jl W n) n (W (jl W n) n) q = _
      rw [upN_o e]
      exact ih (by omega)
theorem jT_eq {W : (Nat → Int32) → Nat → Int32} {t : Nat} (hW : ∀ J J', (∀ q, q < t → J q = J' q) → W J t = W J' t) : jT W t = W (jT W) t := by
  show upN (jl W t) t (W (jl W t) t) t = _
  rw [upN_s]
  exact hW _ _ (fun q hq => jl_lt t hq)
theorem jl_congr {W W' : (Nat → Int32) → Nat → Int32} {n : Nat} (h : ∀ J t, t < n → W J t = W' J t) : ∀ t, t ≤ n → jl W t = jl W' t := by
  intro t
  induction t with
  | zero => intro _; rfl
  | succ t ih =>
    intro ht
    show upN (jl W t) t (W (jl W t) t) = upN (jl W' t) t (W' (jl W' t) t)
    rw [ih (by omega), h _ t (by omega)]
theorem jT_congr {W W' : (Nat → Int32) → Nat → Int32} {n : Nat} (h : ∀ J t, t < n → W J t = W' J t) {t : Nat} (ht : t < n) : jT W t = jT W' t := by
  unfold jT
  rw [jl_congr h (t + 1) (by omega)]
theorem stX_congr {pk pk' : Nat → Int32 → Option Nat} {ca mi : Int32} (h : ∀ sd, sd < 2 → pk sd = pk' sd) : ∀ u, stX pk ca mi u = stX pk' ca mi u := by
  intro u
  induction u with
  | zero => rfl
  | succ u ih =>
    show stN u (stX pk ca mi u) (pk (u % 2) (lfV ca mi (stX pk ca mi u))) = stN u (stX pk' ca mi u) (pk' (u % 2) (lfV ca mi (stX pk' ca mi u)))
    rw [ih, h (u % 2) (Nat.mod_lt _ (by decide))]
theorem h_congr {box : Int32} {R R' : Nat → Int32} (h : ∀ c, c < 70 → R c = R' c) : hM box R = hM box R' ∧ hCa box R = hCa box R' ∧ hMi box R = hMi box R' ∧ hX box R = hX box R' ∧ hJ box R = hJ box R' ∧ (∀ pas, hW box pas R = hW box pas R') ∧ ∀ pas, hSw box pas R = hSw box pas R' := by
  have hp : ∀ (od : Nat → Nat) (sd : Nat) (lf : Int32), sd < 2 → ∀ n, (∀ i, i < n → od i < 30) → lkP od (fun p => R (30 * sd + p + 10)) lf n = lkP od (fun p => R' (30 * sd + p + 10)) lf n := by
    intro od sd lf hsd n
    induction n with
    | zero => intro _; rfl
    | succ n ih =>
      intro ho
      have e := ih (fun i hi => ho i (by omega))
      have h1 := ho n (by omega)
      show (if bt lf (od n) = true ∧ R (30 * sd + od n + 10) ≤ lkL (fun p => R (30 * sd + p + 10)) (lkP od (fun p => R (30 * sd + p + 10)) lf n) then some (od n) else lkP od (fun p => R (30 * sd + p + 10)) lf n) = (if bt lf (od n) = true ∧ R' (30 * sd + od n + 10) ≤ lkL (fun p => R' (30 * sd + p + 10)) (lkP od (fun p => R' (30 * sd + p + 10)) lf n) then some (od n) else lkP od (fun p => R' (30 * sd + p + 10)) lf n)
      have e2 : lkL (fun p => R (30 * sd + p + 10)) (lkP od (fun p => R' (30 * sd + p + 10)) lf n) = lkL (fun p => R' (30 * sd + p + 10)) (lkP od (fun p => R' (30 * sd + p + 10)) lf n) := by
        cases hb : lkP od (fun p => R' (30 * sd + p + 10)) lf n with
        | none => rfl
        | some p =>
          obtain ⟨⟨i, hi, e9⟩, _⟩ := lkP_s n p hb
          have h9 := ho i (by omega)
          exact h _ (by omega)
      rw [e, e2, h (30 * sd + od n + 10) (by omega)]
  have em : hM box R = hM box R' := by unfold hM; rw [h 8 (by omega)]
  have eo : ∀ i, i < hM box R' → drP box (R' 7) i < 30 := fun i hi => (dr_in (by unfold hM at hi; omega)).1
  have eca : hCa box R = hCa box R' := by unfold hCa; rw [em, h 7 (by omega)]
  have emi : hMi box R = hMi box R' := by unfold hMi; rw [eca, h 9 (by omega)]
  have epk : ∀ sd, sd < 2 → hPk box R sd = hPk box R' sd := fun sd hsd => by
    funext lf
    unfold hPk
    rw [em, h 7 (by omega)]
    exact hp _ sd lf hsd _ eo
  have ex : hX box R = hX box R' := by
    unfold hX
    rw [eca, emi, h 6 (by omega)]
    exact stX_congr epk _
  have el : hLf box R = hLf box R' := by unfold hLf; rw [eca, emi, ex]
  have ej : hJ box R = hJ box R' := by unfold hJ; rw [el, em, h 7 (by omega), h 2 (by omega)]
  have ew : ∀ pas, hW box pas R = hW box pas R' := fun pas => by unfold hW; rw [ej, h 2 (by omega)]
  exact ⟨em, eca, emi, ex, ej, ew, fun pas => by unfold hSw; rw [ew, h 2 (by omega)]⟩
theorem okQ_congr {G : gW} {g : Nat → Nat} {f : Nat → va_E} {k : Nat} {box pas : Int32} {R R' : Nat → Int32} (h : ∀ c, c < 70 → R c = R' c) (hq : okQ G g f k box pas R) : okQ G g f k box pas R' := by
  obtain ⟨od, h1, h2, h3⟩ := hq
  obtain ⟨e1, e2, e3, e4, _, _, e7⟩ := h_congr (box := box) h
  refine ⟨od, ?_, h2, ?_⟩
  · rw [← e1, ← e2, ← e3, ← e4, ← e7, ← h 7 (by omega)]; exact h1
  · rw [← e1, ← h 7 (by omega)]; exact h3
/-! the same was told: the same hearings -/
section HC
variable {np nf nr na n : Nat} {P P' F F' R R' A A' T T' K K' : Nat → Nat → Int32} {LO LO' : Nat → List (Int32 × Int32)}
theorem lw_congr {s day : Int32} (hA : ∀ i, i < na → ∀ c, c < 3 → A i c = A' i c) (hL : ∀ z, z < na → LO z = LO' z) : (fcB A s day na).map LO = (fcB A' s day na).map LO' := by
  rw [fcB_congr (A := A) (A' := A') hA na (Nat.le_refl _)]
  cases h : fcB A' s day na with
  | none => rfl
  | some z => show some (LO z) = some (LO' z); rw [hL z (fcB_lt _ _ h)]
theorem swT_congr {J : Nat → Int32} {t : Nat} (hP : ∀ p, p < np → ∀ c, c < 4 → P p c = P' p c) (hF : ∀ i, i < nf → ∀ c, c < 3 → F i c = F' i c) (hR : ∀ i, i < nr → ∀ c, c < 3 → R i c = R' i c) (hA : ∀ i, i < na → ∀ c, c < 3 → A i c = A' i c) (hL : ∀ z, z < na → LO z = LO' z) (hT : ∀ q, q ≤ t → ∀ c, c < 10 → T q c = T' q c) (hK : ∀ c, c < 70 → K t c = K' t c) : swT np nf nr na P F R A T K LO J t = swT np nf nr na P' F' R' A' T' K' LO' J t := by
  unfold swT
  rw [fitT_congr (T := T) (T' := T') (J := J) (J' := J) hP hF hT (fun _ _ => rfl), boxT_congr (T := T) (T' := T') (J := J) (J' := J) hP hF hR hT (fun _ _ => rfl), hT t (Nat.le_refl _) 0 (by omega), lw_congr (s := 0) hA hL, lw_congr (s := 1) hA hL]
  exact (h_congr hK).2.2.2.2.2.2 _
theorem hear_congr (hP : ∀ p, p < np → ∀ c, c < 4 → P p c = P' p c) (hF : ∀ i, i < nf → ∀ c, c < 3 → F i c = F' i c) (hR : ∀ i, i < nr → ∀ c, c < 3 → R i c = R' i c) (hA : ∀ i, i < na → ∀ c, c < 3 → A i c = A' i c) (hL : ∀ z, z < na → LO z = LO' z) (hT : ∀ q, q < n → ∀ c, c < 10 → T q c = T' q c) (hK : ∀ q, q < n → ∀ c, c < 70 → K q c = K' q c) {t : Nat} (ht : t < n) :
    jT (swT np nf nr na P F R A T K LO) t = jT (swT np nf nr na P' F' R' A' T' K' LO') t ∧
    fitT np nf P F T (jT (swT np nf nr na P F R A T K LO)) t t ((fcB A 0 (T t 0) na).map LO) = fitT np nf P' F' T' (jT (swT np nf nr na P' F' R' A' T' K' LO')) t t ((fcB A' 0 (T' t 0) na).map LO') ∧
    boxT np nf nr P F R T (jT (swT np nf nr na P F R A T K LO)) t t ((fcB A 0 (T t 0) na).map LO) ((fcB A 1 (T t 0) na).map LO) = boxT np nf nr P' F' R' T' (jT (swT np nf nr na P' F' R' A' T' K' LO')) t t ((fcB A' 0 (T' t 0) na).map LO') ((fcB A' 1 (T' t 0) na).map LO') := by
  have hJ : ∀ q, q < n → jT (swT np nf nr na P F R A T K LO) q = jT (swT np nf nr na P' F' R' A' T' K' LO') q := fun q hq =>
    jT_congr (n := n) (fun J u hu => swT_congr hP hF hR hA hL (fun o ho => hT o (by omega)) (hK u hu)) hq
  have h0 := hT t ht 0 (by omega)
  refine ⟨hJ t ht, ?_, ?_⟩
  · rw [h0, lw_congr (s := 0) hA hL]
    exact fitT_congr hP hF (fun o ho => hT o (by omega)) (fun o ho => hJ o (by omega))
  · rw [h0, lw_congr (s := 0) hA hL, lw_congr (s := 1) hA hL]
    exact boxT_congr hP hF hR (fun o ho => hT o (by omega)) (fun o ho => hJ o (by omega))
end HC


/-! ===== the class's juries, by what was told ===== -/
def cW (np nf nr na : Nat) (dp df dr da ct : Nat → Int32) (LL : Nat → Nat) (LG : Nat → Nat → Int32) : (Nat → Int32) → Nat → Int32 := swT np nf nr na (fun i c => dp (4 * i + c)) (fun i c => df (3 * i + c)) (fun i c => dr (3 * i + c)) (fun i c => da (3 * i + c)) (fun t c => ct (70 * t + c)) (fun t c => ct (70 * t + c)) (fun z => rdO (LL z) (LG z))
def cJr (np nf nr na : Nat) (dp df dr da ct : Nat → Int32) (LL : Nat → Nat) (LG : Nat → Nat → Int32) : Nat → Int32 := jT (cW np nf nr na dp df dr da ct LL LG)
def cLw (na : Nat) (da ct : Nat → Int32) (LL : Nat → Nat) (LG : Nat → Nat → Int32) (s : Int32) (t : Nat) : Option (List (Int32 × Int32)) := (fcB (fun i c => da (3 * i + c)) s (ct (70 * t + 0)) na).map (fun z => rdO (LL z) (LG z))
def cFt (np nf nr na : Nat) (dp df dr da ct : Nat → Int32) (LL : Nat → Nat) (LG : Nat → Nat → Int32) (t : Nat) : Int32 := fitT np nf (fun i c => dp (4 * i + c)) (fun i c => df (3 * i + c)) (fun t c => ct (70 * t + c)) (cJr np nf nr na dp df dr da ct LL LG) t t (cLw na da ct LL LG 0 t)
def cBx (np nf nr na : Nat) (dp df dr da ct : Nat → Int32) (LL : Nat → Nat) (LG : Nat → Nat → Int32) (t : Nat) : Int32 := boxT np nf nr (fun i c => dp (4 * i + c)) (fun i c => df (3 * i + c)) (fun i c => dr (3 * i + c)) (fun t c => ct (70 * t + c)) (cJr np nf nr na dp df dr da ct LL LG) t t (cLw na da ct LL LG 0 t) (cLw na da ct LL LG 1 t)
/-- hearing z of the class is as it must be -/
def cHz (G : gW) (g : Nat → Nat) (f : Nat → va_E) (np nf nr na : Nat) (dp df dr da ct : Nat → Int32) (LL : Nat → Nat) (LG : Nat → Nat → Int32) (z : Nat) : Prop := okQ G g f (2 * z + 16) (cBx np nf nr na dp df dr da ct LL LG z) (pasV (cFt np nf nr na dp df dr da ct LL LG z) (cBx np nf nr na dp df dr da ct LL LG z)) (fun c => ct (70 * z + c))
section CJ
variable {np nf nr na : Nat} {dp df dr da ct : Nat → Int32} {LL : Nat → Nat} {LG : Nat → Nat → Int32} {t : Nat}
theorem cJr_eq : cJr np nf nr na dp df dr da ct LL LG t = hSw (cBx np nf nr na dp df dr da ct LL LG t) (pasV (cFt np nf nr na dp df dr da ct LL LG t) (cBx np nf nr na dp df dr da ct LL LG t)) (fun c => ct (70 * t + c)) := by
  refine (jT_eq (W := cW np nf nr na dp df dr da ct LL LG) (t := t) (fun J J' h => ?_)).trans rfl
  show swT _ _ _ _ _ _ _ _ _ _ _ J t = swT _ _ _ _ _ _ _ _ _ _ _ J' t
  unfold swT
  rw [fitT_congr (J := J) (J' := J') (fun _ _ _ _ => rfl) (fun _ _ _ _ => rfl) (fun _ _ _ _ => rfl) h, boxT_congr (J := J) (J' := J') (fun _ _ _ _ => rfl) (fun _ _ _ _ => rfl) (fun _ _ _ _ => rfl) (fun _ _ _ _ => rfl) h]
theorem cFt_at {sw : Nat → Int32} {nt : Nat} {o : Option (List (Int32 × Int32))} (ho : cLw na da ct LL LG 0 t = o) (htn : t ≤ nt) (hday : ∀ b, t ≤ b → b < nt → ¬ ct (70 * b + 0) < ct (70 * t + 0)) (hJ : ∀ q, q < t → sw q = cJr np nf nr na dp df dr da ct LL LG q) : fitT np nf (fun i c => dp (4 * i + c)) (fun i c => df (3 * i + c)) (fun t c => ct (70 * t + c)) sw nt t o = cFt np nf nr na dp df dr da ct LL LG t := by
  unfold cFt
  rw [ho, fitT_stop htn hday]
  exact fitT_congr (fun _ _ _ _ => rfl) (fun _ _ _ _ => rfl) (fun _ _ _ _ => rfl) hJ
theorem cBx_at {sw : Nat → Int32} {nt : Nat} {o o' : Option (List (Int32 × Int32))} (ho : cLw na da ct LL LG 0 t = o) (ho' : cLw na da ct LL LG 1 t = o') (htn : t ≤ nt) (hday : ∀ b, t ≤ b → b < nt → ¬ ct (70 * b + 0) < ct (70 * t + 0)) (hJ : ∀ q, q < t → sw q = cJr np nf nr na dp df dr da ct LL LG q) : boxT np nf nr (fun i c => dp (4 * i + c)) (fun i c => df (3 * i + c)) (fun i c => dr (3 * i + c)) (fun t c => ct (70 * t + c)) sw nt t o o' = cBx np nf nr na dp df dr da ct LL LG t := by
  unfold cBx
  rw [ho, ho', boxT_stop htn hday]
  exact boxT_congr (fun _ _ _ _ => rfl) (fun _ _ _ _ => rfl) (fun _ _ _ _ => rfl) (fun _ _ _ _ => rfl) hJ
theorem cBx_at' {sw : Nat → Int32} {nt : Nat} {o o' : Option (List (Int32 × Int32))} (ho : cLw na da ct LL LG 0 t = o) (ho' : cLw na da ct LL LG 1 t = o') (htn : t ≤ nt) (hday : ∀ b, t ≤ b → b < nt → ¬ ct (70 * b + 0) < ct (70 * t + 0)) (hJ : ∀ q, q < t → sw q = cJr np nf nr na dp df dr da ct LL LG q) : boxV np (nvF (fun i c => dp (4 * i + c)) (fun t c => ct (70 * t + c)) sw (ct (70 * t + 0)) nt) (cFt np nf nr na dp df dr da ct LL LG t) (rlV np nr (fun i c => dr (3 * i + c)) (ct (70 * t + 0))) (trdV np (fun i c => dp (4 * i + c)) (ct (70 * t + 5))) o' = cBx np nf nr na dp df dr da ct LL LG t := by
  rw [← cFt_at (o := o) ho htn hday hJ]
  exact cBx_at ho ho' htn hday hJ
theorem cBx_hi (hnp : np ≤ 30) : ∀ k, 30 ≤ k → bt (cBx np nf nr na dp df dr da ct LL LG t) k = false := boxV_hi hnp rfl
theorem okZ_J {G : gW} {g : Nat → Nat} {f : Nat → va_E} {i nt : Nat} (hi : i ≤ nt) (hH : ∀ z, z < 10 → okH G g f (2 * z + 16)) (hQ : ∀ z, z < i → cHz G g f np nf nr na dp df dr da ct LL LG z) (h8 : ∀ z, z < nt → (ct (70 * z + 8)).toNatClampNeg ≤ 24) : ∃ sw : Nat → Int32, (∀ z, z < 10 → okZ G g f (2 * z + 16) (sw z)) ∧ ∀ z, z < i → sw z = cJr np nf nr na dp df dr da ct LL LG z := by
  have h1 : ∀ z, ∃ w : Int32, (z < 10 → okZ G g f (2 * z + 16) w) ∧ (z < i → w = cJr np nf nr na dp df dr da ct LL LG z) := fun z => by
    by_cases hz : z < i
    · exact ⟨_, fun _ => okQ.okZ (hQ z hz) (h8 z (by omega)), fun _ => cJr_eq.symm⟩
    · by_cases hz2 : z < 10
      · obtain ⟨sl, lo, ib, ca, mi, s0, s1, sw, od, h1, h2, h3⟩ := hH z hz2
        exact ⟨sw, fun _ => ⟨sl, lo, ib, ca, mi, s0, s1, od, h1, h2, h3⟩, fun q => absurd q hz⟩
      · exact ⟨0, fun q => absurd q hz2, fun q => absurd q hz⟩
  obtain ⟨sw, h2⟩ := Classical.skolem.mp h1
  exact ⟨sw, fun z hz => (h2 z).1 hz, fun z hz => (h2 z).2 hz⟩
end CJ
theorem cLw_0 {na : Nat} {da ct : Nat → Int32} {LL : Nat → Nat} {LG : Nat → Nat → Int32} {s day : Int32} {t : Nat} (hd : ct (70 * t + 0) = day) (h : fcB (fun i c => da (3 * i + c)) s day na = none) : cLw na da ct LL LG s t = none := by
  unfold cLw; rw [hd, h]; rfl
theorem cLw_1 {na : Nat} {da ct : Nat → Int32} {LL : Nat → Nat} {LG : Nat → Nat → Int32} {s day : Int32} {t i : Nat} (hd : ct (70 * t + 0) = day) (h : fcB (fun i c => da (3 * i + c)) s day na = some i) : cLw na da ct LL LG s t = some (rdO (LL i) (LG i)) := by
  unfold cLw; rw [hd, h]; rfl
theorem ltx_go {G : gW} {g : Nat → Nat} {f : Nat → va_E} {k ln : Nat} {sg : Nat → Int32} {B : Prop} (h : ltx G g f k ln sg B) (hB : B) : ∃ (sc : Nat) (sp : Nat → Int32), isT G g f k ln sc sg sp ∧ stk sp sc = (rdO ln sg).map cdp ∧ (rdO ln sg).length = sc ∧ dpl (rdO ln sg) = some 1 ∧ okO (rdO ln sg) := by
  obtain ⟨sc, sp, h1, h2⟩ := h
  obtain ⟨h3, h4⟩ := h2 hB
  have h5 := rdO_good h1.2.2.2.1 h3
  refine ⟨sc, sp, h1, h4, ?_, h5.1, h5.2⟩
  have h6 := congrArg List.length h4
  rw [stk_len, List.length_map] at h6
  exact h6.symm
/-- a hearing stays as it must be while no row up to its own changes -/
theorem cHz_ct {G : gW} {g : Nat → Nat} {f : Nat → va_E} {np nf nr na z : Nat} {dp df dr da ct ct' : Nat → Int32} {LL : Nat → Nat} {LG : Nat → Nat → Int32} (h : cHz G g f np nf nr na dp df dr da ct LL LG z) (e : ∀ q, q ≤ z → ∀ c, c < 70 → ct (70 * q + c) = ct' (70 * q + c)) : cHz G g f np nf nr na dp df dr da ct' LL LG z := by
  obtain ⟨_, h2, h3⟩ := hear_congr (np := np) (nf := nf) (nr := nr) (na := na) (n := z + 1) (P := fun i c => dp (4 * i + c)) (P' := fun i c => dp (4 * i + c)) (F := fun i c => df (3 * i + c)) (F' := fun i c => df (3 * i + c)) (R := fun i c => dr (3 * i + c)) (R' := fun i c => dr (3 * i + c)) (A := fun i c => da (3 * i + c)) (A' := fun i c => da (3 * i + c)) (T := fun t c => ct (70 * t + c)) (T' := fun t c => ct' (70 * t + c)) (K := fun t c => ct (70 * t + c)) (K' := fun t c => ct' (70 * t + c)) (LO := fun z => rdO (LL z) (LG z)) (LO' := fun z => rdO (LL z) (LG z)) (fun _ _ _ _ => rfl) (fun _ _ _ _ => rfl) (fun _ _ _ _ => rfl) (fun _ _ _ _ => rfl) (fun _ _ => rfl) (fun q hq c hc => e q (by omega) c (by omega)) (fun q hq c hc => e q (by omega) c hc) (t := z) (by omega)
  have h2 : cFt np nf nr na dp df dr da ct LL LG z = cFt np nf nr na dp df dr da ct' LL LG z := h2
  have h3 : cBx np nf nr na dp df dr da ct LL LG z = cBx np nf nr na dp df dr da ct' LL LG z := h3
  unfold cHz at h ⊢
  rw [← h2, ← h3]
  exact okQ_congr (fun c hc => e z (Nat.le_refl _) c hc) h


theorem cI_0 {G : gW} {g : Nat → Nat} {f : Nat → va_E} (h : cI G g f) : f 0 = eO 9 [.ref (g 1), .ref (g 36), .ref (g 2), .ref (g 3), .ref (g 4), .ref (g 6), .ref (g 7)] := cI_elim h (fun se hf imf kf mc op cm wu mk ab be mn le wt ww wb wf vv pay fine np dp nf df nr dr na da nt ct lf tf hx0 hctc hhs him hkp hrd hmk hfc6 hwt hw8 hw9 hw10 hw11 hvl hbk hpr hpd hfr hfd hor hod har had htr hct hla hlaa hts0 htsa hse hhf him0 him1 hmc hmn hnp hnf hnr hna hnt hlf htf hH hSp hL hT hB1 hB2 => hx0)
theorem mI_0 {G : gW} {g : Nat → Nat} {f : Nat → va_E} (h : mI G g f) : ∃ fs, f 315 = eO 10 fs := mI_elim h (fun ab2 be2 sn wn sa ly rdy fd ss np nf nr na nt im kq sp wi wa va bo ju dr dn sl ax lf wh w6 b6 hmo hss_ him_ hkq_ hsp_ hwi_ hwa_ hva_ hbo_ hju_ hdr_ hdn_ hsl_ hax_ hlf_ hwh_ hw6_ hb6_ hst hfo hdn hi0 hi1 => ⟨_, hmo⟩)
theorem cI_fr {G : gW} {g : Nat → Nat} {f f' : Nat → va_E} (h : cI G g f) (fr : ∀ j, j < 315 → f' j = f j) : cI G g f' := cI_elim h (fun se hf imf kf mc op cm wu mk ab be mn le wt ww wb wf vv pay fine np dp nf df nr dr na da nt ct lf tf hx0 hctc hhs him hkp hrd hmk hfc6 hwt hw8 hw9 hw10 hw11 hvl hbk hpr hpd hfr hfd hor hod har had htr hct hla hlaa hts0 htsa hse hhf him0 him1 hmc hmn hnp hnf hnr hna hnt hlf htf hH hSp hL hT hB1 hB2 => ⟨se, hf, imf, kf, mc, op, cm, wu, mk, ab, be, mn, le, wt, ww, wb, wf, vv, pay, fine, np, dp, nf, df, nr, dr, na, da, nt, ct, lf, tf, (fr _ (by decide)).trans hx0, (fr _ (by decide)).trans hctc, (fr _ (by decide)).trans hhs, (fr _ (by decide)).trans him, (fr _ (by decide)).trans hkp, (fr _ (by decide)).trans hrd, (fr _ (by decide)).trans hmk, (fr _ (by decide)).trans hfc6, (fr _ (by decide)).trans hwt, (fr _ (by decide)).trans hw8, (fr _ (by decide)).trans hw9, (fr _ (by decide)).trans hw10, (fr _ (by decide)).trans hw11, (fr _ (by decide)).trans hvl, (fr _ (by decide)).trans hbk, (fr _ (by decide)).trans hpr, (fr _ (by decide)).trans hpd, (fr _ (by decide)).trans hfr, (fr _ (by decide)).trans hfd, (fr _ (by decide)).trans hor, (fr _ (by decide)).trans hod, (fr _ (by decide)).trans har, (fr _ (by decide)).trans had, (fr _ (by decide)).trans htr, (fr _ (by decide)).trans hct, (fr _ (by decide)).trans hla, (fr _ (by decide)).trans hlaa, (fr _ (by decide)).trans hts0, (fr _ (by decide)).trans htsa, hse, hhf, him0, him1, hmc, hmn, hnp, hnf, hnr, hna, hnt, hlf, htf, (fun z hz => okH_fr (hH z hz) (fr _ (by omega)) (fr _ (by omega))), (okH_fr hSp (fr _ (by omega)) (fr _ (by omega))), (fun z hz => okT_fr (hL z hz) (fr _ (by omega)) (fr _ (by omega)) (fr _ (by omega))), (fun z hz => okT_fr (hT z hz) (fr _ (by omega)) (fr _ (by omega)) (fr _ (by omega))), (okB_fr hB1 (fun j _ _ => fr j (by omega))), (okB_fr hB2 (fun j _ _ => fr j (by omega)))⟩)
theorem mI_fr {G : gW} {g : Nat → Nat} {f f' : Nat → va_E} (h : mI G g f) (fr : ∀ j, 315 ≤ j → f' j = f j) : mI G g f' := mI_elim h (fun ab2 be2 sn wn sa ly rdy fd ss np nf nr na nt im kq sp wi wa va bo ju dr dn sl ax lf wh w6 b6 hmo hss_ him_ hkq_ hsp_ hwi_ hwa_ hva_ hbo_ hju_ hdr_ hdn_ hsl_ hax_ hlf_ hwh_ hw6_ hb6_ hst hfo hdn hi0 hi1 => ⟨ab2, be2, sn, wn, sa, ly, rdy, fd, ss, np, nf, nr, na, nt, im, kq, sp, wi, wa, va, bo, ju, dr, dn, sl, ax, lf, wh, w6, b6, (fr _ (by decide)).trans hmo, (fr _ (by decide)).trans hss_, (fr _ (by decide)).trans him_, (fr _ (by decide)).trans hkq_, (fr _ (by decide)).trans hsp_, (fr _ (by decide)).trans hwi_, (fr _ (by decide)).trans hwa_, (fr _ (by decide)).trans hva_, (fr _ (by decide)).trans hbo_, (fr _ (by decide)).trans hju_, (fr _ (by decide)).trans hdr_, (fr _ (by decide)).trans hdn_, (fr _ (by decide)).trans hsl_, (fr _ (by decide)).trans hax_, (fr _ (by decide)).trans hlf_, (fr _ (by decide)).trans hwh_, (fr _ (by decide)).trans hw6_, (fr _ (by decide)).trans hb6_, hst, hfo, hdn, hi0, hi1⟩)
section MYL
variable {p : Program} {l : Launch} {e : Env} {R : Room} {s : State} {m : MethodId} {args : Array Value} {below : List Frame} {meth : Method} {c : Code} {H : Heap} {locs : List Loc} {cells slots : Nat} {Q : State → Prop}
variable {pc : Nat} {ls : Array Slot} {rest st0 : List Value} {a : Array Value} {H0 : Heap} {G : gW} {g : Nat → Nat} {A0 : Nat → Prop}
theorem bL_calli (hsub : ∀ q, gA g q → A0 q) {post : Int32 → (Nat → va_E) → Prop} (hr : va_Run p l e R s m args below meth c H locs cells slots 0 0 (F0 m pc ls st0) rest (bQi G g post a) (gA g)) (hS : va_S A0 H0 H locs)
    (kk : ∀ (r : Int32) (f' : Nat → va_E) (H1 : Heap) (locs1 : List Loc), post r f' → va_P G.1 vwCl (wl g f') H1 → va_S A0 H0 H1 locs1 → W p l e R s m args below meth c H1 locs1 cells slots Q (F0 m (pc + 3) ls (.int r :: rest))) : W p l e R s m args below meth c H locs cells slots Q (F0 m pc ls st0) := by
  intro T hT X
  obtain ⟨v, st₀, t, T', L, h0, X', hL, e1, e2, ⟨⟨r, f', hv, hp, hw⟩, hz, hk⟩, st⟩ := hr T hT X
  cases hv
  rw [h0] at hz hk
  obtain ⟨t2, a1, b1⟩ := kk r f' T'.heap (locs ++ L) hp (by rw [e1]; exact hw) ⟨Nat.le_trans hS.1 (by rw [e1]; exact hz), fun q h1 h2 => by rw [e1, hk q (Nat.lt_of_lt_of_le h1 hS.1) (fun z => h2 (hsub q z))]; exact hS.2.1 q h1 h2, fun q hq => (List.mem_append.mp hq).elim (hS.2.2 q) (fun z => hsub _ (hL q z))⟩ T' rfl X'
  exact ⟨t2, st t2 a1, b1⟩
theorem bL_calll (hsub : ∀ q, gA g q → A0 q) {post : Int64 → (Nat → va_E) → Prop} (hr : va_Run p l e R s m args below meth c H locs cells slots 0 0 (F0 m pc ls st0) rest (bQl G g post a) (gA g)) (hS : va_S A0 H0 H locs)
    (kk : ∀ (r : Int64) (f' : Nat → va_E) (H1 : Heap) (locs1 : List Loc), post r f' → va_P G.1 vwCl (wl g f') H1 → va_S A0 H0 H1 locs1 → W p l e R s m args below meth c H1 locs1 cells slots Q (F0 m (pc + 3) ls (.long r :: rest))) : W p l e R s m args below meth c H locs cells slots Q (F0 m pc ls st0) := by
  intro T hT X
  obtain ⟨v, st₀, t, T', L, h0, X', hL, e1, e2, ⟨⟨r, f', hv, hp, hw⟩, hz, hk⟩, st⟩ := hr T hT X
  cases hv
  rw [h0] at hz hk
  obtain ⟨t2, a1, b1⟩ := kk r f' T'.heap (locs ++ L) hp (by rw [e1]; exact hw) ⟨Nat.le_trans hS.1 (by rw [e1]; exact hz), fun q h1 h2 => by rw [e1, hk q (Nat.lt_of_lt_of_le h1 hS.1) (fun z => h2 (hsub q z))]; exact hS.2.1 q h1 h2, fun q hq => (List.mem_append.mp hq).elim (hS.2.2 q) (fun z => hsub _ (hL q z))⟩ T' rfl X'
  exact ⟨t2, st t2 a1, b1⟩
end MYL
/-! the places, out of the order in which the cells are made -/
def sg (j : Nat) : Nat := if j = 12 then 15 else if 13 ≤ j ∧ j ≤ 15 then j - 1 else if j = 77 then 80 else if 78 ≤ j ∧ j ≤ 80 then j - 1 else j
def pi0 (k : Nat) : Nat := if k < 2 then k else if k < 12 then k + 117 else if k < 36 then k + 83 else if k < 129 then 2 + sg (k - 36) else if k < 222 then 129 + sg (k - 129) else if k < 315 then 222 + sg (k - 222) else k
def sg1 (j : Nat) : Nat := if j = 15 then 12 else if 12 ≤ j ∧ j ≤ 14 then j + 1 else if j = 80 then 77 else if 77 ≤ j ∧ j ≤ 79 then j + 1 else j
def pi1 (k : Nat) : Nat := if k < 2 then k else if k < 95 then 36 + sg1 (k - 2) else if k < 119 then k - 83 else if k < 129 then k - 117 else if k < 222 then 129 + sg1 (k - 129) else if k < 315 then 222 + sg1 (k - 222) else k
set_option maxRecDepth 20000 in
theorem pi_ok : ∀ k, k < 333 → pi0 k < 333 ∧ pi1 (pi0 k) = k := by decide +kernel
theorem sg_t {j : Nat} (h : ¬ (12 ≤ j ∧ j ≤ 15)) (h2 : ¬ (77 ≤ j ∧ j ≤ 80)) : sg j = j := by
  unfold sg
  rw [if_neg (by omega), if_neg (by omega), if_neg (by omega), if_neg (by omega)]
theorem pi_b0 {j : Nat} (h : j < 93) : pi0 (36 + j) = 2 + sg j := by
  unfold pi0
  rw [if_neg (by omega), if_neg (by omega), if_neg (by omega), if_pos (by omega), show 36 + j - 36 = j by omega]
theorem pi_b1 {j : Nat} (h : j < 93) : pi0 (129 + j) = 129 + sg j := by
  unfold pi0
  rw [if_neg (by omega), if_neg (by omega), if_neg (by omega), if_neg (by omega), if_pos (by omega), show 129 + j - 129 = j by omega]
theorem pi_b2 {j : Nat} (h : j < 93) : pi0 (222 + j) = 222 + sg j := by
  unfold pi0
  rw [if_neg (by omega), if_neg (by omega), if_neg (by omega), if_neg (by omega), if_neg (by omega), if_pos (by omega), show 222 + j - 222 = j by omega]
theorem pi_h {j : Nat} (h1 : 12 ≤ j) (h : j < 36) : pi0 j = j + 83 := by
  unfold pi0
  rw [if_neg (by omega), if_neg (by omega), if_pos (by omega)]
theorem isT_pi {G : gW} {g : Nat → Nat} {f : Nat → va_E} {π : Nat → Nat} {k k0 ln sc : Nat} {sg0 sp0 : Nat → Int32} (h : isT G g f k0 ln sc sg0 sp0) (e0 : π k = k0) (e1 : π (k + 1) = k0 + 1) (e2 : π (k + 2) = k0 + 2) : isT G (fun k => g (π k)) (fun k => f (π k)) k ln sc sg0 sp0 := by
  refine ⟨?_, ?_, ?_, h.2.2.2.1, h.2.2.2.2⟩
  · show f (π k) = eO 7 [.ref (g (π (k + 1))), .ref (g (π (k + 2))), .int (nI ln), .int (nI sc)]
    rw [e0, e1, e2]; exact h.1
  · show f (π (k + 1)) = _
    rw [e1]; exact h.2.1
  · show f (π (k + 2)) = _
    rw [e2]; exact h.2.2.1
theorem okH_pi {G : gW} {g : Nat → Nat} {f : Nat → va_E} {π : Nat → Nat} {k k0 : Nat} (h : nH G g f k0) (e0 : π k = k0) (e1 : π (k + 1) = k0 + 1) : okH G (fun k => g (π k)) (fun k => f (π k)) k := by
  refine ⟨0, 0, 0, 0, 0, 0, 0, 0, fun _ => 0, ?_, ?_, by omega⟩
  · show f (π k) = eO 3 [.ref (g (π (k + 1))), _, _, _, _, _, _, _, _]
    rw [e0, e1]; exact h.1
  · show f (π (k + 1)) = _
    rw [e1]; exact h.2
theorem okB_of {G : gW} {g : Nat → Nat} {f : Nat → va_E} {π : Nat → Nat} {b b0 : Nat} (h : nB G g f b0) (e : ∀ j, j < 93 → π (b + j) = b0 + sg j) : okB G (fun k => g (π k)) (fun k => f (π k)) b := by
  obtain ⟨h0, r1, d1, r3, d3, r5, d5, r7, d7, r9, d9, ⟨l0, ⟨lf, l1, l2⟩, l3⟩, ⟨t0, ⟨tf, t1, t2⟩, t3⟩⟩ := h
  have eb : π b = b0 := e 0 (by decide)
  have et : ∀ z, z < 20 → ∀ c, c < 3 → π (3 * z + (b + 11) + 5 + c) = b0 + 11 + 3 * z + 5 + c := fun z hz c hc => by
    rw [show 3 * z + (b + 11) + 5 + c = b + (3 * z + 16 + c) by omega, e _ (by omega), sg_t (by omega) (by omega)]; omega
  have ew : ∀ z, z < 4 → ∀ c, c < 3 → π (3 * z + (b + 76) + 5 + c) = b0 + 76 + 3 * z + 5 + c := fun z hz c hc => by
    rw [show 3 * z + (b + 76) + 5 + c = b + (3 * z + 81 + c) by omega, e _ (by omega), sg_t (by omega) (by omega)]; omega
  refine ⟨5, 20, 0, fun _ => 0, 0, fun _ => 0, 0, fun _ => 0, 0, fun _ => 0, 0, fun _ => 0, lf, tf, ?_, ?_, ?_, ?_, ?_, ?_, ?_, ?_, ?_, ?_, ?_, ?_, ?_, ?_, ?_, by omega, by omega, by omega, by omega, by omega, ?_, ?_, fun z hz => (isT_pi (l3 z hz) (et z hz 0 (by decide)) (et z hz 1 (by decide)) (et z hz 2 (by decide))).ok, fun z hz => (isT_pi (t3 z hz) (ew z hz 0 (by decide)) (ew z hz 1 (by decide)) (ew z hz 2 (by decide))).ok⟩
  · show f (π b) = eO 0 [.ref (g (π (b + 1))), .ref (g (π (b + 3))), .ref (g (π (b + 5))), .ref (g (π (b + 7))), .ref (g (π (b + 9))), .ref (g (π (b + 11))), .ref (g (π (b + 76))), .int 5, .int 20]
    rw [eb, e 1 (by decide), e 3 (by decide), e 5 (by decide), e 7 (by decide), e 9 (by decide), e 11 (by decide), e 76 (by decide)]; exact h0
  · show f (π (b + 1)) = eO 5 [.int (nI 30), .int (nI 4), .ref (g (π (b + 2))), .int (nI 0)]
    rw [e 1 (by decide), e 2 (by decide)]; exact r1
  · show f (π (b + 2)) = _
    rw [e 2 (by decide)]; exact d1
  · show f (π (b + 3)) = eO 5 [.int (nI 40), .int (nI 3), .ref (g (π (b + 4))), .int (nI 0)]
    rw [e 3 (by decide), e 4 (by decide)]; exact r3
  · show f (π (b + 4)) = _
    rw [e 4 (by decide)]; exact d3
  · show f (π (b + 5)) = eO 5 [.int (nI 4), .int (nI 3), .ref (g (π (b + 6))), .int (nI 0)]
    rw [e 5 (by decide), e 6 (by decide)]; exact r5
  · show f (π (b + 6)) = _
    rw [e 6 (by decide)]; exact d5
  · show f (π (b + 7)) = eO 5 [.int (nI 20), .int (nI 3), .ref (g (π (b + 8))), .int (nI 0)]
    rw [e 7 (by decide), e 8 (by decide)]; exact r7
  · show f (π (b + 8)) = _
    rw [e 8 (by decide)]; exact d7
  · show f (π (b + 9)) = eO 5 [.int (nI 10), .int (nI 70), .ref (g (π (b + 10))), .int (nI 0)]
    rw [e 9 (by decide), e 10 (by decide)]; exact r9
  · show f (π (b + 10)) = _
    rw [e 10 (by decide)]; exact d9
  · show f (π (b + 11)) = eO 6 [.ref (g (π (b + 12))), .ref (g (π (b + 13)))]
    rw [e 11 (by decide), e 12 (by decide), e 13 (by decide)]; exact l0
  · show f (π (b + 12)) = _
    rw [e 12 (by decide)]; exact l1
  · show f (π (b + 76)) = eO 6 [.ref (g (π (b + 77))), .ref (g (π (b + 78)))]
    rw [e 76 (by decide), e 77 (by decide), e 78 (by decide)]; exact t0
  · show f (π (b + 77)) = _
    rw [e 77 (by decide)]; exact t1
  · intro z hz
    show lf z = some (g (π (b + 11 + 3 * z + 5)))
    rw [l2 z hz, show b + 11 + 3 * z + 5 = 3 * z + (b + 11) + 5 + 0 by omega, et z hz 0 (by decide)]
  · intro z hz
    show tf z = some (g (π (b + 76 + 3 * z + 5)))
    rw [t2 z hz, show b + 76 + 3 * z + 5 = 3 * z + (b + 76) + 5 + 0 by omega, ew z hz 0 (by decide)]
theorem nX_gf {G : gW} {g g' : Nat → Nat} {f f' : Nat → va_E} {k : Nat} (h : nX G g f k) (hg : ∀ j, j < k + 315 → g' j = g j) (hf : ∀ j, k ≤ j → j < k + 315 → f' j = f j) : nX G g' f' k := by
  obtain ⟨h0, h1, ⟨t, h2, h3⟩, h4, h5, h6, h7, h8, h9, h10, h11, h12, h13⟩ := h
  have ff : ∀ {o : Nat} {e : va_E}, o < 315 → f (k + o) = e → f' (k + o) = e := fun ho h => (hf _ (by omega) (by omega)).trans h
  refine ⟨?_, nC_gf h1 (fun j hj => hg j (by omega)) (fun j a c => hf j (by omega) (by omega)), ⟨t, ff (by decide) h2, fun z hz => ?_⟩, ff (by decide) h4, ?_, ff (by decide) h6, ff (by decide) h7, ?_, ff (by decide) h9, ff (by decide) h10, ff (by decide) h11, ff (by decide) h12, fun z hz => nB_gf (h13 z hz) (fun j hj => hg j (by omega)) (fun j a c => hf j (by omega) (by omega))⟩
  · rw [hf k (by omega) (by omega), h0, hg (k + 1) (by omega), hg (k + 2) (by omega), hg (k + 119) (by omega), hg (k + 120) (by omega), hg (k + 121) (by omega), hg (k + 123) (by omega), hg (k + 124) (by omega)]
  · rw [h3 z hz, hg _ (by omega)]
  · rw [hf (k + 121) (by omega) (by omega), h5, hg (k + 122) (by omega)]
  · rw [hf (k + 124) (by omega) (by omega), h8, hg (k + 125) (by omega), hg (k + 126) (by omega), hg (k + 127) (by omega), hg (k + 128) (by omega)]

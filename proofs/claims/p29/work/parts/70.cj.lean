def mkN (a b c u d : Nat) : Nat → Nat
  | 0 => a
  | 1 => b
  | 2 => c
  | 3 => u
  | _ => d
def mkE (a b c u d : Nat → Int32) : Nat → Nat → Int32
  | 0 => a
  | 1 => b
  | 2 => c
  | 3 => u
  | _ => d
def mkP (a b : Int32) : Nat → Int32
  | 0 => a
  | _ => b
/-- two books were told the same -/
def eqD (N : Nat → Nat) (E : Nat → Nat → Int32) (P : Nat → Int32) (T : Nat → Nat) (S : Nat → Nat → Int32) (W : Nat → Nat) (X : Nat → Nat → Int32) (N' : Nat → Nat) (E' : Nat → Nat → Int32) (P' : Nat → Int32) (T' : Nat → Nat) (S' : Nat → Nat → Int32) (W' : Nat → Nat) (X' : Nat → Nat → Int32) : Prop := N 3 = N' 3 ∧ (∀ i, i < 60 → E 3 i = E' 3 i) ∧ (∀ z, z < 20 → W z = W' z) ∧ (∀ z, z < 20 → ∀ q, q < 50 → X z q = X' z q) ∧ N 0 = N' 0 ∧ N 1 = N' 1 ∧ N 2 = N' 2 ∧ N 4 = N' 4 ∧ (∀ i, i < 120 → E 0 i = E' 0 i) ∧ (∀ i, i < 120 → E 1 i = E' 1 i) ∧ (∀ i, i < 12 → E 2 i = E' 2 i) ∧ (∀ i, i < 700 → E 4 i = E' 4 i) ∧ P 0 = P' 0 ∧ P 1 = P' 1 ∧ (∀ z, z < 4 → T z = T' z) ∧ ∀ z, z < 4 → ∀ q, q < 50 → S z q = S' z q
theorem txt_sk {G : gW} {g : Nat → Nat} {f : Nat → va_E} {N : Nat} {P : Nat → Nat} {L : Nat → Nat} {S : Nat → Nat → Int32} (h : ∀ z, z < N → txt G g f (P z) (L z) (S z)) : ∃ (cl : Nat → Nat) (sl : Nat → Nat → Int32), ∀ z, z < N → isT G g f (P z) (L z) (cl z) (S z) (sl z) := by
  have h1 : ∀ z, ∃ sc : Nat, ∃ sp : Nat → Int32, z < N → isT G g f (P z) (L z) sc (S z) sp := fun z => by
    by_cases hz : z < N
    · obtain ⟨sc, sp, hh⟩ := h z hz
      exact ⟨sc, sp, fun _ => hh⟩
    · exact ⟨0, fun _ => 0, fun q => absurd q hz⟩
  obtain ⟨cl, h2⟩ := Classical.skolem.mp h1
  obtain ⟨sl, h3⟩ := Classical.skolem.mp h2
  exact ⟨cl, sl, h3⟩
theorem okT_of_txt {G : gW} {g : Nat → Nat} {f : Nat → va_E} {k ln : Nat} {sg : Nat → Int32} (h : txt G g f k ln sg) : okT G g f k := by
  obtain ⟨sc, sp, h⟩ := h
  exact ⟨_, sc, _, sp, h⟩
/-- a book at place b that holds what is told -/
def bkD (G : gW) (g : Nat → Nat) (f : Nat → va_E) (b : Nat) (N : Nat → Nat) (E : Nat → Nat → Int32) (P : Nat → Int32) (T : Nat → Nat) (S : Nat → Nat → Int32) (W : Nat → Nat) (X : Nat → Nat → Int32) : Prop := ∃ lf : Nat → Option Nat, ∃ tf : Nat → Option Nat, f b = eO 0 [.ref (g (b + 1)), .ref (g (b + 3)), .ref (g (b + 5)), .ref (g (b + 7)), .ref (g (b + 9)), .ref (g (b + 11)), .ref (g (b + 76)), .int (P 0), .int (P 1)] ∧ f (b + 1) = eO 5 [.int (nI 30), .int (nI 4), .ref (g (b + 2)), .int (nI (N 0))] ∧ f (b + 2) = eI G (30 * 4) (E 0) ∧ f (b + 3) = eO 5 [.int (nI 40), .int (nI 3), .ref (g (b + 4)), .int (nI (N 1))] ∧ f (b + 4) = eI G (40 * 3) (E 1) ∧ f (b + 5) = eO 5 [.int (nI 4), .int (nI 3), .ref (g (b + 6)), .int (nI (N 2))] ∧ f (b + 6) = eI G (4 * 3) (E 2) ∧ f (b + 7) = eO 5 [.int (nI 20), .int (nI 3), .ref (g (b + 8)), .int (nI (N 3))] ∧ f (b + 8) = eI G (20 * 3) (E 3) ∧ f (b + 9) = eO 5 [.int (nI 10), .int (nI 70), .ref (g (b + 10)), .int (nI (N 4))] ∧ f (b + 10) = eI G (10 * 70) (E 4) ∧ f (b + 11) = eO 6 [.ref (g (b + 12)), .ref (g (b + 13))] ∧ f (b + 12) = eA G 5 20 lf ∧ f (b + 76) = eO 6 [.ref (g (b + 77)), .ref (g (b + 78))] ∧ f (b + 77) = eA G 5 4 tf ∧ ((N 0) ≤ 30) ∧ ((N 1) ≤ 40) ∧ ((N 2) ≤ 4) ∧ ((N 3) ≤ 20) ∧ ((N 4) ≤ 10) ∧ (∀ z, z < 20 → lf z = some (g (b + 11 + 3 * z + 5))) ∧ (∀ z, z < 4 → tf z = some (g (b + 76 + 3 * z + 5))) ∧ (∀ z, z < 20 → ltx G g f (3 * z + (b + 11) + 5) (W z) (X z) (z < N 3)) ∧ (∀ z, z < 4 → txt G g f (3 * z + (b + 76) + 5) (T z) (S z))
theorem bkD_fr {G : gW} {g : Nat → Nat} {f f' : Nat → va_E} {b : Nat} {N : Nat → Nat} {E : Nat → Nat → Int32} {P : Nat → Int32} {T : Nat → Nat} {S : Nat → Nat → Int32} {W : Nat → Nat} {X : Nat → Nat → Int32} (h : bkD G g f b N E P T S W X) (fr : ∀ j, b ≤ j → j < b + 93 → f' j = f j) : bkD G g f' b N E P T S W X := by
  obtain ⟨lf, tf, hbk, hpr, hpd, hfr, hfd, hrr, hrd, har, had, htr, htd, hsl, hal, hsw, haw, hnp, hnf, hnr, hna, hnt, hlf, htf, hKl, hKw⟩ := h
  exact ⟨lf, tf, (fr _ (by omega) (by omega)).trans hbk, (fr _ (by omega) (by omega)).trans hpr, (fr _ (by omega) (by omega)).trans hpd, (fr _ (by omega) (by omega)).trans hfr, (fr _ (by omega) (by omega)).trans hfd, (fr _ (by omega) (by omega)).trans hrr, (fr _ (by omega) (by omega)).trans hrd, (fr _ (by omega) (by omega)).trans har, (fr _ (by omega) (by omega)).trans had, (fr _ (by omega) (by omega)).trans htr, (fr _ (by omega) (by omega)).trans htd, (fr _ (by omega) (by omega)).trans hsl, (fr _ (by omega) (by omega)).trans hal, (fr _ (by omega) (by omega)).trans hsw, (fr _ (by omega) (by omega)).trans haw, hnp, hnf, hnr, hna, hnt, hlf, htf, fun z hz => ltx_fr (hKl z hz) (fr _ (by omega) (by omega)) (fr _ (by omega) (by omega)) (fr _ (by omega) (by omega)), fun z hz => txt_fr (hKw z hz) (fr _ (by omega) (by omega)) (fr _ (by omega) (by omega)) (fr _ (by omega) (by omega))⟩
/-- the class's object, with what was told -/
def cJ (G : gW) (g : Nat → Nat) (f : Nat → va_E) (np : Nat) (dp : Nat → Int32) (nf : Nat) (df : Nat → Int32) (nr : Nat) (dr : Nat → Int32) (nt : Nat) (ct : Nat → Int32) (pay : Int32) (fine : Int32) (kf : Nat → Int32) (na : Nat) (da : Nat → Int32) (TL : Nat → Nat) (TG : Nat → Nat → Int32) (LL : Nat → Nat) (LG : Nat → Nat → Int32) (N1 : Nat → Nat) (E1 : Nat → Nat → Int32) (P1 : Nat → Int32) (L1 : Nat → Nat) (S1 : Nat → Nat → Int32) (W1 : Nat → Nat) (X1 : Nat → Nat → Int32) (N2 : Nat → Nat) (E2 : Nat → Nat → Int32) (P2 : Nat → Int32) (L2 : Nat → Nat) (S2 : Nat → Nat → Int32) (W2 : Nat → Nat) (X2 : Nat → Nat → Int32) : Prop := ∃ se : Nat, ∃ hf : Nat → Option Nat, ∃ imf : Nat → Option Nat, ∃ mc : Nat, ∃ op : Int32, ∃ cm : Int32, ∃ wu : Int32, ∃ mk : Nat → Int32, ∃ ab : Int64, ∃ be : Int64, ∃ mn : Nat, ∃ le : Int32, ∃ wt : Nat → Int32, ∃ ww : Nat → Int32, ∃ wb : Nat → Int32, ∃ wf : Nat → Int32, ∃ vv : Nat → Int64, ∃ lf : Nat → Option Nat, ∃ tf : Nat → Option Nat, f 0 = eO 9 [.ref (g 1), .ref (g 36), .ref (g 2), .ref (g 3), .ref (g 4), .ref (g 6), .ref (g 7)] ∧ f 1 = eO 1 [.ref (g 36), .ref (g 12), .ref (g 13), .ref (g 15), .int (nI se)] ∧ f 12 = eA G 4 10 hf ∧ f 2 = eA G 3 2 imf ∧ f 3 = eZ G 2 kf ∧ f 4 = eO 4 [.ref (g 5), .int (nI mc), .int op, .int cm, .int wu] ∧ f 5 = eI G 50 mk ∧ f 6 = eO 2 [.long ab, .long be] ∧ f 7 = eO 8 [.ref (g 8), .ref (g 9), .ref (g 10), .ref (g 11), .int (nI mn), .int le] ∧ f 8 = eI G 6 wt ∧ f 9 = eI G 6 ww ∧ f 10 = eI G 6 wb ∧ f 11 = eI G 6 wf ∧ f 15 = eJ G 50 vv ∧ f 36 = eO 0 [.ref (g 37), .ref (g 39), .ref (g 41), .ref (g 43), .ref (g 45), .ref (g 47), .ref (g 112), .int pay, .int fine] ∧ f 37 = eO 5 [.int (nI 30), .int (nI 4), .ref (g 38), .int (nI np)] ∧ f 38 = eI G (30 * 4) dp ∧ f 39 = eO 5 [.int (nI 40), .int (nI 3), .ref (g 40), .int (nI nf)] ∧ f 40 = eI G (40 * 3) df ∧ f 41 = eO 5 [.int (nI 4), .int (nI 3), .ref (g 42), .int (nI nr)] ∧ f 42 = eI G (4 * 3) dr ∧ f 43 = eO 5 [.int (nI 20), .int (nI 3), .ref (g 44), .int (nI na)] ∧ f 44 = eI G (20 * 3) da ∧ f 45 = eO 5 [.int (nI 10), .int (nI 70), .ref (g 46), .int (nI nt)] ∧ f 46 = eI G (10 * 70) ct ∧ f 47 = eO 6 [.ref (g 48), .ref (g 49)] ∧ f 48 = eA G 5 20 lf ∧ f 112 = eO 6 [.ref (g 113), .ref (g 114)] ∧ f 113 = eA G 5 4 tf ∧ (se ≤ 10) ∧ (∀ i, i < 10 → hf i = some (g (2 * i + 16))) ∧ (imf 0 = some (g 129)) ∧ (imf 1 = some (g 222)) ∧ (mc ≤ 50) ∧ (mn ≤ 6) ∧ (np ≤ 30) ∧ (nf ≤ 40) ∧ (nr ≤ 4) ∧ (na ≤ 20) ∧ (nt ≤ 10) ∧ (∀ z, z < 20 → lf z = some (g (47 + 3 * z + 5))) ∧ (∀ z, z < 4 → tf z = some (g (112 + 3 * z + 5))) ∧ (se ≤ nt) ∧ (∀ i, i < 10 → okH G g f (2 * i + 16)) ∧ (okH G g f 13) ∧ (∀ i, i < 20 → ltx G g f (3 * i + 52) (LL i) (LG i) (i < na)) ∧ (∀ i, i < 4 → txt G g f (3 * i + 117) (TL i) (TG i)) ∧ (bkD G g f 129 N1 E1 P1 L1 S1 W1 X1) ∧ (bkD G g f 222 N2 E2 P2 L2 S2 W2 X2) ∧ (∀ z, z < se → cHz G g f np nf nr na dp df dr da ct LL LG z)
theorem cJ_elim {G : gW} {g : Nat → Nat} {f : Nat → va_E} {np : Nat} {dp : Nat → Int32} {nf : Nat} {df : Nat → Int32} {nr : Nat} {dr : Nat → Int32} {nt : Nat} {ct : Nat → Int32} {pay : Int32} {fine : Int32} {kf : Nat → Int32} {na : Nat} {da : Nat → Int32} {TL : Nat → Nat} {TG : Nat → Nat → Int32} {LL : Nat → Nat} {LG : Nat → Nat → Int32} {N1 : Nat → Nat} {E1 : Nat → Nat → Int32} {P1 : Nat → Int32} {L1 : Nat → Nat} {S1 : Nat → Nat → Int32} {W1 : Nat → Nat} {X1 : Nat → Nat → Int32} {N2 : Nat → Nat} {E2 : Nat → Nat → Int32} {P2 : Nat → Int32} {L2 : Nat → Nat} {S2 : Nat → Nat → Int32} {W2 : Nat → Nat} {X2 : Nat → Nat → Int32} {Q : Prop} (h : cJ G g f np dp nf df nr dr nt ct pay fine kf na da TL TG LL LG N1 E1 P1 L1 S1 W1 X1 N2 E2 P2 L2 S2 W2 X2) (k : ∀ (se : Nat) (hf : Nat → Option Nat) (imf : Nat → Option Nat) (mc : Nat) (op : Int32) (cm : Int32) (wu : Int32) (mk : Nat → Int32) (ab : Int64) (be : Int64) (mn : Nat) (le : Int32) (wt : Nat → Int32) (ww : Nat → Int32) (wb : Nat → Int32) (wf : Nat → Int32) (vv : Nat → Int64) (lf : Nat → Option Nat) (tf : Nat → Option Nat), f 0 = eO 9 [.ref (g 1), .ref (g 36), .ref (g 2), .ref (g 3), .ref (g 4), .ref (g 6), .ref (g 7)] → f 1 = eO 1 [.ref (g 36), .ref (g 12), .ref (g 13), .ref (g 15), .int (nI se)] → f 12 = eA G 4 10 hf → f 2 = eA G 3 2 imf → f 3 = eZ G 2 kf → f 4 = eO 4 [.ref (g 5), .int (nI mc), .int op, .int cm, .int wu] → f 5 = eI G 50 mk → f 6 = eO 2 [.long ab, .long be] → f 7 = eO 8 [.ref (g 8), .ref (g 9), .ref (g 10), .ref (g 11), .int (nI mn), .int le] → f 8 = eI G 6 wt → f 9 = eI G 6 ww → f 10 = eI G 6 wb → f 11 = eI G 6 wf → f 15 = eJ G 50 vv → f 36 = eO 0 [.ref (g 37), .ref (g 39), .ref (g 41), .ref (g 43), .ref (g 45), .ref (g 47), .ref (g 112), .int pay, .int fine] → f 37 = eO 5 [.int (nI 30), .int (nI 4), .ref (g 38), .int (nI np)] → f 38 = eI G (30 * 4) dp → f 39 = eO 5 [.int (nI 40), .int (nI 3), .ref (g 40), .int (nI nf)] → f 40 = eI G (40 * 3) df → f 41 = eO 5 [.int (nI 4), .int (nI 3), .ref (g 42), .int (nI nr)] → f 42 = eI G (4 * 3) dr → f 43 = eO 5 [.int (nI 20), .int (nI 3), .ref (g 44), .int (nI na)] → f 44 = eI G (20 * 3) da → f 45 = eO 5 [.int (nI 10), .int (nI 70), .ref (g 46), .int (nI nt)] → f 46 = eI G (10 * 70) ct → f 47 = eO 6 [.ref (g 48), .ref (g 49)] → f 48 = eA G 5 20 lf → f 112 = eO 6 [.ref (g 113), .ref (g 114)] → f 113 = eA G 5 4 tf → (se ≤ 10) → (∀ i, i < 10 → hf i = some (g (2 * i + 16))) → (imf 0 = some (g 129)) → (imf 1 = some (g 222)) → (mc ≤ 50) → (mn ≤ 6) → (np ≤ 30) → (nf ≤ 40) → (nr ≤ 4) → (na ≤ 20) → (nt ≤ 10) → (∀ z, z < 20 → lf z = some (g (47 + 3 * z + 5))) → (∀ z, z < 4 → tf z = some (g (112 + 3 * z + 5))) → (se ≤ nt) → (∀ i, i < 10 → okH G g f (2 * i + 16)) → (okH G g f 13) → (∀ i, i < 20 → ltx G g f (3 * i + 52) (LL i) (LG i) (i < na)) → (∀ i, i < 4 → txt G g f (3 * i + 117) (TL i) (TG i)) → (bkD G g f 129 N1 E1 P1 L1 S1 W1 X1) → (bkD G g f 222 N2 E2 P2 L2 S2 W2 X2) → (∀ z, z < se → cHz G g f np nf nr na dp df dr da ct LL LG z) → Q) : Q := by
  obtain ⟨se, hf, imf, mc, op, cm, wu, mk, ab, be, mn, le, wt, ww, wb, wf, vv, lf, tf, hx0, hctc, hhs, him, hkp, hrd, hmk, hfc6, hwt, hw8, hw9, hw10, hw11, hvl, hbk, hpr, hpd, hfr, hfd, hor, hod, har, had, htr, hct, hla, hlaa, hts0, htsa, hse, hhf, him0, him1, hmc, hmn, hnp, hnf, hnr, hna, hnt, hlf, htf, hsn, hH, hSp, hL, hT, hB1, hB2, hQ⟩ := h
  exact k se hf imf mc op cm wu mk ab be mn le wt ww wb wf vv lf tf hx0 hctc hhs him hkp hrd hmk hfc6 hwt hw8 hw9 hw10 hw11 hvl hbk hpr hpd hfr hfd hor hod har had htr hct hla hlaa hts0 htsa hse hhf him0 him1 hmc hmn hnp hnf hnr hna hnt hlf htf hsn hH hSp hL hT hB1 hB2 hQ
def ndB (ct : Nat → Int32) (nt : Nat) (n : Int32) : Bool := decide (inB 0 n 9999 = true ∧ (nt = 0 ∨ ¬ n < atv ct nt 70 (nI nt - 1) 0))
set_option maxHeartbeats 4000000 in
set_option maxRecDepth 100000 in
theorem m_isNextDayE (l : Launch) (G : gW) (g : Nat → Nat) (hg : gOK g) (f : Nat → va_E) (pay : Int32) (fine : Int32) (nt : Nat) (ct : Nat → Int32) (n : Int32) (hx0 : f 0 = eO 9 [.ref (g 1), .ref (g 36), .ref (g 2), .ref (g 3), .ref (g 4), .ref (g 6), .ref (g 7)]) (hbk : f 36 = eO 0 [.ref (g 37), .ref (g 39), .ref (g 41), .ref (g 43), .ref (g 45), .ref (g 47), .ref (g 112), .int pay, .int fine]) (htr : f 45 = eO 5 [.int (nI 10), .int (nI 70), .ref (g 46), .int (nI nt)]) (hct : f 46 = eI G (10 * 70) ct) (hnt : nt ≤ 10) : Met l yX10_isNextDay (wsT yX10_isNextDay cX10_isNextDay 3 (some .boolean)) ({ frames := 2, cells := 0, slots := 0, locals := 42 }) (bP G g f [.ref (g 0), .int n]) (rQi (fun z9 => z9 = b2 (ndB ct nt n = true))) 0 0 fr0 := by
  refine Met.ofW (cc := cX10_isNextDay) (maxL := 3) (ret := (some .boolean)) (by decide) rfl ?_
  intro p e s m args below meth c s₁ B hml hv
  obtain ⟨rfl, hP, hG⟩ := hv
  have hx := B.exec
  have hb := B.bytes
  have hr := B.returns
  have hts := my_hts (atoms_spec (ws := wsT yX10_isNextDay cX10_isNextDay 3 (some .boolean)) B.pre)
  have hown : s.vm.findClass RX10 = some m.cls := findClass_of_methodNamed B.named
  have hlocks := B.notSynchronized
  have hl := lv_entry ([.ref (g 0), .int n]) (n := 3) (Nat.le_of_ble_eq_true rfl)
  rw [lg_entry_eq]
  generalize (lg_sl ([.ref (g 0), .int n]) ++ List.replicate (3 - (lg_sl ([.ref (g 0), .int n])).length) Slot.unset).toArray = ls at hl ⊢
  have hl : lv_has ls 3 [(0, .ref (g 0)), (1, .int n)] := hl
  refine lv_aload_n hx hb dX10_isNextDay_0 rfl (lv_at hl 0 rfl) ?_
  refine va_get (D := G.1) (ci := 9) (v := .ref (g 36)) (C := RX10) (T := TX10) (N := 7) hx hb hts inlX10 hown hG.1 hP 0 (wl_at (by decide) hx0) rfl 1 (by decide) (hts (.fieldLink RX10 20 "SwornLists" "book" "LSwornLists$Book;") w_16) (fun _ h9 => h9) rfl dX10_isNextDay_1 ?_
  refine va_getN (D := G.1) (ci := 0) (v := .ref (g 45)) (C := RX0) (T := TX0) (N := 9) (host := RX10) hx hb hts inlX0 hown hG.1 hP 36 (wl_at (by decide) hbk) rfl 4 (by decide) (va_Nw.use rfl (hG.2.1 (.fieldLinkNest RX10 162 RX0 "trials" "LSwornLists$Rows;" RX10) (List.mem_of_getElem? (i := 7) rfl))) (fun _ h9 => h9) rfl dX10_isNextDay_4 ?_
  refine rd_calli (va_runV (As := []) (rest := []) ⟨hx, hb, hml, hown, hts⟩ (r_size l G g hg f 45 10 70 nt htr (by first | assumption | omega | decide) (by first | assumption | omega | decide) (by first | assumption | omega | decide) (by first | assumption | omega | decide)) (my_cwV hts ok_X5_size w_642 rfl rfl ⟨Nat.le_of_ble_eq_true rfl, Nat.le_of_ble_eq_true rfl⟩) ⟨bP.blind, va_recv hG.1 hP (ci := 5) (q0 := 45) rfl (wl_at (by decide) htr), fun U hU hW => ⟨rfl, by rw [hU]; exact hP, kG.warm hW hG⟩⟩ rfl rfl hl.1 rfl (lv_room (Nat.le_of_ble_eq_true rfl)) dX10_isNextDay_7 ⟨Nat.le_of_ble_eq_true rfl, Nat.le_of_ble_eq_true rfl⟩) (fun r hr9 => ?_)
  subst hr9
  refine lv_istore_n (lv' := [(2, .int (nI nt)), (0, .ref (g 0)), (1, .int n)]) hx hb dX10_isNextDay_10 rfl hl (by decide) rfl (fun ls hl => ?_)
  refine lv_iload_n hx hb dX10_isNextDay_11 rfl (lv_at hl 2 rfl) ?_
  refine rd_calli (va_runS (As := [.int n]) (rest := []) ⟨hx, hb, hml, hown, hts⟩ (s_isDay l G g hg f n  ) (my_cwS hts ok_X10_isDay w_178 rfl rfl ⟨Nat.le_of_ble_eq_true rfl, Nat.le_of_ble_eq_true rfl⟩) ⟨bP.blind, fun U hU hW => ⟨rfl, by rw [hU]; exact hP, kG.warm hW hG⟩⟩ rfl rfl hl.1 rfl (lv_room (Nat.le_of_ble_eq_true rfl)) dX10_isNextDay_12 ⟨Nat.le_of_ble_eq_true rfl, Nat.le_of_ble_eq_true rfl⟩) (fun r hr9 => ?_)
  subst hr9
  refine my_ifeq (tgt := 44) hx hb dX10_isNextDay_15 (by decide) (fun c_15 => ?_) (fun c_15 => ?_)
  · refine lv_iconst (v := 0) hx hb dX10_isNextDay_44 (by decide) ?_
    exact W.zret (v := 0) hx hb hr (rfl) (fun _ hT9 _ => ⟨_, rfl, ((b2_f (fun z => c_15 (of_decide_eq_true z).1)).symm), hT9⟩) (fun _ h => absurd h List.not_mem_nil) dX10_isNextDay_45
  · refine lv_iload_n hx hb dX10_isNextDay_18 rfl (lv_at hl 0 rfl) ?_
    refine lv_if_eq (tgt := 40) hx hb dX10_isNextDay_19 (by decide) (fun c_19 => ?_) (fun c_19 => ?_)
    · refine lv_iconst (v := 1) hx hb dX10_isNextDay_40 (by decide) ?_
      refine lv_goto (tgt := 45) hx hb dX10_isNextDay_41 (by decide) ?_
      exact W.zret (v := 1) hx hb hr (rfl) (fun _ hT9 _ => ⟨_, rfl, ((b2_t (decide_eq_true ⟨c_15, Or.inl (Nat.eq_zero_of_not_pos (fun h => nI_ne0 h (by omega) c_19))⟩)).symm), hT9⟩) (fun _ h => absurd h List.not_mem_nil) dX10_isNextDay_45
    · refine lv_iload_n hx hb dX10_isNextDay_22 rfl (lv_at hl 2 rfl) ?_
      refine lv_aload_n hx hb dX10_isNextDay_23 rfl (lv_at hl 1 rfl) ?_
      refine va_get (D := G.1) (ci := 9) (v := .ref (g 36)) (C := RX10) (T := TX10) (N := 7) hx hb hts inlX10 hown hG.1 hP 0 (wl_at (by decide) hx0) rfl 1 (by decide) (hts (.fieldLink RX10 20 "SwornLists" "book" "LSwornLists$Book;") w_16) (fun _ h9 => h9) rfl dX10_isNextDay_24 ?_
      refine va_getN (D := G.1) (ci := 0) (v := .ref (g 45)) (C := RX0) (T := TX0) (N := 9) (host := RX10) hx hb hts inlX0 hown hG.1 hP 36 (wl_at (by decide) hbk) rfl 4 (by decide) (va_Nw.use rfl (hG.2.1 (.fieldLinkNest RX10 162 RX0 "trials" "LSwornLists$Rows;" RX10) (List.mem_of_getElem? (i := 7) rfl))) (fun _ h9 => h9) rfl dX10_isNextDay_27 ?_
      refine lv_iload_n hx hb dX10_isNextDay_30 rfl (lv_at hl 0 rfl) ?_
      refine lv_iconst (v := 1) hx hb dX10_isNextDay_31 (by decide) ?_
      refine lv_isub hx hb dX10_isNextDay_32 ?_
      refine lv_iconst (v := 0) hx hb dX10_isNextDay_33 (by decide) ?_
      refine rd_calli (va_runV (As := [.int ((nI nt) - 1), .int 0]) (rest := [.int n]) ⟨hx, hb, hml, hown, hts⟩ (r_at l G g hg f 45 10 70 nt ct ((nI nt) - 1) 0 htr hct (by first | assumption | omega | decide) (by first | assumption | omega | decide) (by first | assumption | omega | decide) (by first | assumption | omega | decide)) (my_cwV hts ok_X5_at w_610 rfl rfl ⟨Nat.le_of_ble_eq_true rfl, Nat.le_of_ble_eq_true rfl⟩) ⟨bP.blind, va_recv hG.1 hP (ci := 5) (q0 := 45) rfl (wl_at (by decide) htr), fun U hU hW => ⟨rfl, by rw [hU]; exact hP, kG.warm hW hG⟩⟩ rfl rfl hl.1 rfl (lv_room (Nat.le_of_ble_eq_true rfl)) dX10_isNextDay_34 ⟨Nat.le_of_ble_eq_true rfl, Nat.le_of_ble_eq_true rfl⟩) (fun r hr9 => ?_)
      subst hr9
      refine lv_icmp_lt (tgt := 44) hx hb dX10_isNextDay_37 (by decide) (fun c_37 => ?_) (fun c_37 => ?_)
      · refine lv_iconst (v := 0) hx hb dX10_isNextDay_44 (by decide) ?_
        exact W.zret (v := 0) hx hb hr (rfl) (fun _ hT9 _ => ⟨_, rfl, ((b2_f (fun z => (of_decide_eq_true z).2.elim (fun h => c_19 (by rw [h]; rfl)) (fun h => h c_37))).symm), hT9⟩) (fun _ h => absurd h List.not_mem_nil) dX10_isNextDay_45
      · refine lv_iconst (v := 1) hx hb dX10_isNextDay_40 (by decide) ?_
        refine lv_goto (tgt := 45) hx hb dX10_isNextDay_41 (by decide) ?_
        exact W.zret (v := 1) hx hb hr (rfl) (fun _ hT9 _ => ⟨_, rfl, ((b2_t (decide_eq_true ⟨c_15, Or.inr c_37⟩)).symm), hT9⟩) (fun _ h => absurd h List.not_mem_nil) dX10_isNextDay_45
theorem row_ne9 {t q c : Nat} (hq : q < t) (hc : c < 70) (ht : t < 10) : 70 * q + c ≠ Int32.toNatClampNeg (nI t * nI 70 + 9) := by
  rw [show (9 : Int32) = nI 9 from rfl, ixQ (by omega)]; omega
theorem row_neL {t q c : Nat} {a p : Int32} {n : Nat} (h1 : inB 0 a 1 = true) (h2 : inN p n = true) (hn : n ≤ 30) (hq : q < t) (hc : c < 70) (ht : t < 10) : 70 * q + c ≠ Int32.toNatClampNeg (nI t * nI 70 + (10 + a * 30 + p)) := by
  obtain ⟨i, hi, e⟩ := inN_nat (by omega) (col_in h1 h2 hn)
  rw [e, ixQ (by omega)]; omega
theorem tr_keep {ct : Nat → Int32} {t q c : Nat} {a1 a2 a3 a4 a5 a6 a7 a8 a9 : Int32} (hq : q < t ∧ t < 10) (hc : c < 70) : (upd (upd (upd (upd (upd (upd (upd (upd (upd ct (Int32.toNatClampNeg (nI t * nI 70 + 0)) a1) (Int32.toNatClampNeg (nI t * nI 70 + 1)) a2) (Int32.toNatClampNeg (nI t * nI 70 + 2)) a3) (Int32.toNatClampNeg (nI t * nI 70 + 3)) a4) (Int32.toNatClampNeg (nI t * nI 70 + 4)) a5) (Int32.toNatClampNeg (nI t * nI 70 + 5)) a6) (Int32.toNatClampNeg (nI t * nI 70 + 6)) a7) (Int32.toNatClampNeg (nI t * nI 70 + 7)) a8) (Int32.toNatClampNeg (nI t * nI 70 + 8)) a9) (70 * q + c) = ct (70 * q + c) := by
  have e : ∀ k : Nat, k < 70 → 70 * q + c ≠ Int32.toNatClampNeg (nI t * nI 70 + nI k) := fun k hk => by rw [ixQ (by omega)]; omega
  exact (pk_un (e 8 (by decide))).trans ((pk_un (e 7 (by decide))).trans ((pk_un (e 6 (by decide))).trans ((pk_un (e 5 (by decide))).trans ((pk_un (e 4 (by decide))).trans ((pk_un (e 3 (by decide))).trans ((pk_un (e 2 (by decide))).trans ((pk_un (e 1 (by decide))).trans ((pk_un (e 0 (by decide)))))))))))
theorem fig4 {x : Int32} (h : inB 0 x 3 = true) : x = 0 ∨ x = 1 ∨ x = 2 ∨ x = 3 := by
  obtain ⟨i, hi, rfl⟩ := inB_n (b := 3) (by decide) h
  rcases (show i = 0 ∨ i = 1 ∨ i = 2 ∨ i = 3 by omega) with e | e | e | e <;> subst e
  · exact Or.inl rfl
  · exact Or.inr (Or.inl rfl)
  · exact Or.inr (Or.inr (Or.inl rfl))
  · exact Or.inr (Or.inr (Or.inr rfl))


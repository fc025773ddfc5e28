/-- a text at place k: its length and its signs -/
def txt (G : gW) (g : Nat → Nat) (f : Nat → va_E) (k ln : Nat) (sg : Nat → Int32) : Prop := ∃ (sc : Nat) (sp : Nat → Int32), isT G g f k ln sc sg sp
theorem txt_fr {G : gW} {g : Nat → Nat} {f f' : Nat → va_E} {k ln : Nat} {sg : Nat → Int32} (h : txt G g f k ln sg) (e1 : f' k = f k) (e2 : f' (k + 1) = f (k + 1)) (e3 : f' (k + 2) = f (k + 2)) : txt G g f' k ln sg := by
  obtain ⟨sc, sp, h⟩ := h
  exact ⟨sc, sp, isT_fr h e1 e2 e3⟩
/-- a law at place k: its length and its signs; where B holds it was read without a FAULT, and its steps are those that the reference emits -/
def ltx (G : gW) (g : Nat → Nat) (f : Nat → va_E) (k ln : Nat) (sg : Nat → Int32) (B : Prop) : Prop := ∃ (sc : Nat) (sp : Nat → Int32), isT G g f k ln sc sg sp ∧ (B → rdA ln sg = -1 ∧ stk sp sc = (rdO ln sg).map cdp)
theorem ltx_fr {G : gW} {g : Nat → Nat} {f f' : Nat → va_E} {k ln : Nat} {sg : Nat → Int32} {B : Prop} (h : ltx G g f k ln sg B) (e1 : f' k = f k) (e2 : f' (k + 1) = f (k + 1)) (e3 : f' (k + 2) = f (k + 2)) : ltx G g f' k ln sg B := by
  obtain ⟨sc, sp, h, hb⟩ := h
  exact ⟨sc, sp, isT_fr h e1 e2 e3, hb⟩
theorem ltx_ok {G : gW} {g : Nat → Nat} {f : Nat → va_E} {k ln : Nat} {sg : Nat → Int32} {B : Prop} (h : ltx G g f k ln sg B) : okT G g f k := by
  obtain ⟨sc, sp, h, _⟩ := h
  exact ⟨_, sc, _, sp, h⟩
theorem ltx_im {G : gW} {g : Nat → Nat} {f : Nat → va_E} {k ln : Nat} {sg : Nat → Int32} {B B' : Prop} (h : ltx G g f k ln sg B) (hb : B' → B) : ltx G g f k ln sg B' := by
  obtain ⟨sc, sp, h, q⟩ := h
  exact ⟨sc, sp, h, fun z => q (hb z)⟩
theorem ltx_sk {G : gW} {g : Nat → Nat} {f : Nat → va_E} {N : Nat} {P : Nat → Nat} {L : Nat → Nat} {S : Nat → Nat → Int32} {B : Nat → Prop} (h : ∀ z, z < N → ltx G g f (P z) (L z) (S z) (B z)) : ∃ (cl : Nat → Nat) (sl : Nat → Nat → Int32), (∀ z, z < N → isT G g f (P z) (L z) (cl z) (S z) (sl z)) ∧ ∀ z, z < N → B z → rdA (L z) (S z) = -1 ∧ stk (sl z) (cl z) = (rdO (L z) (S z)).map cdp := by
  have h1 : ∀ z, ∃ sc : Nat, ∃ sp : Nat → Int32, z < N → isT G g f (P z) (L z) sc (S z) sp ∧ (B z → rdA (L z) (S z) = -1 ∧ stk sp sc = (rdO (L z) (S z)).map cdp) := fun z => by
    by_cases hz : z < N
    · obtain ⟨sc, sp, hh, hb⟩ := h z hz
      exact ⟨sc, sp, fun _ => ⟨hh, hb⟩⟩
    · exact ⟨0, fun _ => 0, fun q => absurd q hz⟩
  obtain ⟨cl, h2⟩ := Classical.skolem.mp h1
  obtain ⟨sl, h3⟩ := Classical.skolem.mp h2
  exact ⟨cl, sl, fun z hz => (h3 z hz).1, fun z hz => (h3 z hz).2⟩
theorem stk_congr {a b : Nat → Int32} : ∀ n : Nat, (∀ i, i < n → a i = b i) → stk a n = stk b n := by
  intro n
  induction n with
  | zero => intro _; rfl
  | succ n ih =>
    intro h
    show a n :: stk a n = b n :: stk b n
    rw [h n (by omega), ih (fun i hi => h i (by omega))]
theorem ltx_cp {ln sc : Nat} {sg sg2 sp sp2 : Nat → Int32} (hln : ln ≤ 50) (hsc : sc ≤ 50) (h : ∀ i, i < 50 → sg i = sg2 i ∧ sp i = sp2 i) (hr : rdA ln sg2 = -1 ∧ stk sp2 sc = (rdO ln sg2).map cdp) : rdA ln sg = -1 ∧ stk sp sc = (rdO ln sg).map cdp := by
  have e : ∀ k, k < ln → sg k = sg2 k := fun k hk => (h k (by omega)).1
  exact ⟨(rdA_congr e).trans hr.1, by rw [stk_congr sc (fun i hi => (h i (by omega)).2), hr.2, rdO_congr e]⟩
def mkN (a b c u d : Nat) : Nat → Nat
  | 0 => a
  | 1 => b
  | 2 => c
  | 3 => u
  | _ => d
def mkE (a b c u d : Nat → Int32) : Nat → Nat → Int32
  | 0 => a
  | 1 => b
  | 2 => c
  | 3 => u
  | _ => d
def mkP (a b : Int32) : Nat → Int32
  | 0 => a
  | _ => b
/-- two books were told the same -/
def eqD (N : Nat → Nat) (E : Nat → Nat → Int32) (P : Nat → Int32) (T : Nat → Nat) (S : Nat → Nat → Int32) (W : Nat → Nat) (X : Nat → Nat → Int32) (N' : Nat → Nat) (E' : Nat → Nat → Int32) (P' : Nat → Int32) (T' : Nat → Nat) (S' : Nat → Nat → Int32) (W' : Nat → Nat) (X' : Nat → Nat → Int32) : Prop := N 3 = N' 3 ∧ (∀ i, i < 60 → E 3 i = E' 3 i) ∧ (∀ z, z < 20 → W z = W' z) ∧ (∀ z, z < 20 → ∀ q, q < 50 → X z q = X' z q) ∧ N 0 = N' 0 ∧ N 1 = N' 1 ∧ N 2 = N' 2 ∧ N 4 = N' 4 ∧ (∀ i, i < 120 → E 0 i = E' 0 i) ∧ (∀ i, i < 120 → E 1 i = E' 1 i) ∧ (∀ i, i < 12 → E 2 i = E' 2 i) ∧ (∀ i, i < 700 → E 4 i = E' 4 i) ∧ P 0 = P' 0 ∧ P 1 = P' 1 ∧ (∀ z, z < 4 → T z = T' z) ∧ ∀ z, z < 4 → ∀ q, q < 50 → S z q = S' z q
theorem txt_sk {G : gW} {g : Nat → Nat} {f : Nat → va_E} {N : Nat} {P : Nat → Nat} {L : Nat → Nat} {S : Nat → Nat → Int32} (h : ∀ z, z < N → txt G g f (P z) (L z) (S z)) : ∃ (cl : Nat → Nat) (sl : Nat → Nat → Int32), ∀ z, z < N → isT G g f (P z) (L z) (cl z) (S z) (sl z) := by
  have h1 : ∀ z, ∃ sc : Nat, ∃ sp : Nat → Int32, z < N → isT G g f (P z) (L z) sc (S z) sp := fun z => by
    by_cases hz : z < N
    · obtain ⟨sc, sp, hh⟩ := h z hz
      exact ⟨sc, sp, fun _ => hh⟩
    · exact ⟨0, fun _ => 0, fun q => absurd q hz⟩
  obtain ⟨cl, h2⟩ := Classical.skolem.mp h1
  obtain ⟨sl, h3⟩ := Classical.skolem.mp h2
  exact ⟨cl, sl, h3⟩
theorem okT_of_txt {G : gW} {g : Nat → Nat} {f : Nat → va_E} {k ln : Nat} {sg : Nat → Int32} (h : txt G g f k ln sg) : okT G g f k := by
  obtain ⟨sc, sp, h⟩ := h
  exact ⟨_, sc, _, sp, h⟩
/-- a book at place b that holds what is told -/
def bkD (G : gW) (g : Nat → Nat) (f : Nat → va_E) (b : Nat) (N : Nat → Nat) (E : Nat → Nat → Int32) (P : Nat → Int32) (T : Nat → Nat) (S : Nat → Nat → Int32) (W : Nat → Nat) (X : Nat → Nat → Int32) : Prop := ∃ lf : Nat → Option Nat, ∃ tf : Nat → Option Nat, f b = eO 0 [.ref (g (b + 1)), .ref (g (b + 3)), .ref (g (b + 5)), .ref (g (b + 7)), .ref (g (b + 9)), .ref (g (b + 11)), .ref (g (b + 76)), .int (P 0), .int (P 1)] ∧ f (b + 1) = eO 5 [.int (nI 30), .int (nI 4), .ref (g (b + 2)), .int (nI (N 0))] ∧ f (b + 2) = eI G (30 * 4) (E 0) ∧ f (b + 3) = eO 5 [.int (nI 40), .int (nI 3), .ref (g (b + 4)), .int (nI (N 1))] ∧ f (b + 4) = eI G (40 * 3) (E 1) ∧ f (b + 5) = eO 5 [.int (nI 4), .int (nI 3), .ref (g (b + 6)), .int (nI (N 2))] ∧ f (b + 6) = eI G (4 * 3) (E 2) ∧ f (b + 7) = eO 5 [.int (nI 20), .int (nI 3), .ref (g (b + 8)), .int (nI (N 3))] ∧ f (b + 8) = eI G (20 * 3) (E 3) ∧ f (b + 9) = eO 5 [.int (nI 10), .int (nI 70), .ref (g (b + 10)), .int (nI (N 4))] ∧ f (b + 10) = eI G (10 * 70) (E 4) ∧ f (b + 11) = eO 6 [.ref (g (b + 12)), .ref (g (b + 13))] ∧ f (b + 12) = eA G 5 20 lf ∧ f (b + 76) = eO 6 [.ref (g (b + 77)), .ref (g (b + 78))] ∧ f (b + 77) = eA G 5 4 tf ∧ ((N 0) ≤ 30) ∧ ((N 1) ≤ 40) ∧ ((N 2) ≤ 4) ∧ ((N 3) ≤ 20) ∧ ((N 4) ≤ 10) ∧ (∀ z, z < 20 → lf z = some (g (b + 11 + 3 * z + 5))) ∧ (∀ z, z < 4 → tf z = some (g (b + 76 + 3 * z + 5))) ∧ (∀ z, z < 20 → ltx G g f (3 * z + (b + 11) + 5) (W z) (X z) (z < N 3)) ∧ (∀ z, z < 4 → txt G g f (3 * z + (b + 76) + 5) (T z) (S z))
theorem bkD_fr {G : gW} {g : Nat → Nat} {f f' : Nat → va_E} {b : Nat} {N : Nat → Nat} {E : Nat → Nat → Int32} {P : Nat → Int32} {T : Nat → Nat} {S : Nat → Nat → Int32} {W : Nat → Nat} {X : Nat → Nat → Int32} (h : bkD G g f b N E P T S W X) (fr : ∀ j, b ≤ j → j < b + 93 → f' j = f j) : bkD G g f' b N E P T S W X := by
  obtain ⟨lf, tf, hbk, hpr, hpd, hfr, hfd, hrr, hrd, har, had, htr, htd, hsl, hal, hsw, haw, hnp, hnf, hnr, hna, hnt, hlf, htf, hKl, hKw⟩ := h
  exact ⟨lf, tf, (fr _ (by omega) (by omega)).trans hbk, (fr _ (by omega) (by omega)).trans hpr, (fr _ (by omega) (by omega)).trans hpd, (fr _ (by omega) (by omega)).trans hfr, (fr _ (by omega) (by omega)).trans hfd, (fr _ (by omega) (by omega)).trans hrr, (fr _ (by omega) (by omega)).trans hrd, (fr _ (by omega) (by omega)).trans har, (fr _ (by omega) (by omega)).trans had, (fr _ (by omega) (by omega)).trans htr, (fr _ (by omega) (by omega)).trans htd, (fr _ (by omega) (by omega)).trans hsl, (fr _ (by omega) (by omega)).trans hal, (fr _ (by omega) (by omega)).trans hsw, (fr _ (by omega) (by omega)).trans haw, hnp, hnf, hnr, hna, hnt, hlf, htf, fun z hz => ltx_fr (hKl z hz) (fr _ (by omega) (by omega)) (fr _ (by omega) (by omega)) (fr _ (by omega) (by omega)), fun z hz => txt_fr (hKw z hz) (fr _ (by omega) (by omega)) (fr _ (by omega) (by omega)) (fr _ (by omega) (by omega))⟩
/-- the class's object, with what was told -/
def cJ (G : gW) (g : Nat → Nat) (f : Nat → va_E) (np : Nat) (dp : Nat → Int32) (nf : Nat) (df : Nat → Int32) (nr : Nat) (dr : Nat → Int32) (nt : Nat) (ct : Nat → Int32) (pay : Int32) (fine : Int32) (kf : Nat → Int32) (na : Nat) (da : Nat → Int32) (TL : Nat → Nat) (TG : Nat → Nat → Int32) (LL : Nat → Nat) (LG : Nat → Nat → Int32) (N1 : Nat → Nat) (E1 : Nat → Nat → Int32) (P1 : Nat → Int32) (L1 : Nat → Nat) (S1 : Nat → Nat → Int32) (W1 : Nat → Nat) (X1 : Nat → Nat → Int32) (N2 : Nat → Nat) (E2 : Nat → Nat → Int32) (P2 : Nat → Int32) (L2 : Nat → Nat) (S2 : Nat → Nat → Int32) (W2 : Nat → Nat) (X2 : Nat → Nat → Int32) : Prop := ∃ se : Nat, ∃ hf : Nat → Option Nat, ∃ imf : Nat → Option Nat, ∃ mc : Nat, ∃ op : Int32, ∃ cm : Int32, ∃ wu : Int32, ∃ mk : Nat → Int32, ∃ ab : Int64, ∃ be : Int64, ∃ mn : Nat, ∃ le : Int32, ∃ wt : Nat → Int32, ∃ ww : Nat → Int32, ∃ wb : Nat → Int32, ∃ wf : Nat → Int32, ∃ vv : Nat → Int64, ∃ lf : Nat → Option Nat, ∃ tf : Nat → Option Nat, f 0 = eO 9 [.ref (g 1), .ref (g 36), .ref (g 2), .ref (g 3), .ref (g 4), .ref (g 6), .ref (g 7)] ∧ f 1 = eO 1 [.ref (g 36), .ref (g 12), .ref (g 13), .ref (g 15), .int (nI se)] ∧ f 12 = eA G 4 10 hf ∧ f 2 = eA G 3 2 imf ∧ f 3 = eZ G 2 kf ∧ f 4 = eO 4 [.ref (g 5), .int (nI mc), .int op, .int cm, .int wu] ∧ f 5 = eI G 50 mk ∧ f 6 = eO 2 [.long ab, .long be] ∧ f 7 = eO 8 [.ref (g 8), .ref (g 9), .ref (g 10), .ref (g 11), .int (nI mn), .int le] ∧ f 8 = eI G 6 wt ∧ f 9 = eI G 6 ww ∧ f 10 = eI G 6 wb ∧ f 11 = eI G 6 wf ∧ f 15 = eJ G 50 vv ∧ f 36 = eO 0 [.ref (g 37), .ref (g 39), .ref (g 41), .ref (g 43), .ref (g 45), .ref (g 47), .ref (g 112), .int pay, .int fine] ∧ f 37 = eO 5 [.int (nI 30), .int (nI 4), .ref (g 38), .int (nI np)] ∧ f 38 = eI G (30 * 4) dp ∧ f 39 = eO 5 [.int (nI 40), .int (nI 3), .ref (g 40), .int (nI nf)] ∧ f 40 = eI G (40 * 3) df ∧ f 41 = eO 5 [.int (nI 4), .int (nI 3), .ref (g 42), .int (nI nr)] ∧ f 42 = eI G (4 * 3) dr ∧ f 43 = eO 5 [.int (nI 20), .int (nI 3), .ref (g 44), .int (nI na)] ∧ f 44 = eI G (20 * 3) da ∧ f 45 = eO 5 [.int (nI 10), .int (nI 70), .ref (g 46), .int (nI nt)] ∧ f 46 = eI G (10 * 70) ct ∧ f 47 = eO 6 [.ref (g 48), .ref (g 49)] ∧ f 48 = eA G 5 20 lf ∧ f 112 = eO 6 [.ref (g 113), .ref (g 114)] ∧ f 113 = eA G 5 4 tf ∧ (se ≤ 10) ∧ (∀ i, i < 10 → hf i = some (g (2 * i + 16))) ∧ (imf 0 = some (g 129)) ∧ (imf 1 = some (g 222)) ∧ (mc ≤ 50) ∧ (mn ≤ 6) ∧ (np ≤ 30) ∧ (nf ≤ 40) ∧ (nr ≤ 4) ∧ (na ≤ 20) ∧ (nt ≤ 10) ∧ (∀ z, z < 20 → lf z = some (g (47 + 3 * z + 5))) ∧ (∀ z, z < 4 → tf z = some (g (112 + 3 * z + 5))) ∧ (∀ i, i < 10 → okH G g f (2 * i + 16)) ∧ (okH G g f 13) ∧ (∀ i, i < 20 → ltx G g f (3 * i + 52) (LL i) (LG i) (i < na)) ∧ (∀ i, i < 4 → txt G g f (3 * i + 117) (TL i) (TG i)) ∧ (bkD G g f 129 N1 E1 P1 L1 S1 W1 X1) ∧ (bkD G g f 222 N2 E2 P2 L2 S2 W2 X2)
theorem cJ_elim {G : gW} {g : Nat → Nat} {f : Nat → va_E} {np : Nat} {dp : Nat → Int32} {nf : Nat} {df : Nat → Int32} {nr : Nat} {dr : Nat → Int32} {nt : Nat} {ct : Nat → Int32} {pay : Int32} {fine : Int32} {kf : Nat → Int32} {na : Nat} {da : Nat → Int32} {TL : Nat → Nat} {TG : Nat → Nat → Int32} {LL : Nat → Nat} {LG : Nat → Nat → Int32} {N1 : Nat → Nat} {E1 : Nat → Nat → Int32} {P1 : Nat → Int32} {L1 : Nat → Nat} {S1 : Nat → Nat → Int32} {W1 : Nat → Nat} {X1 : Nat → Nat → Int32} {N2 : Nat → Nat} {E2 : Nat → Nat → Int32} {P2 : Nat → Int32} {L2 : Nat → Nat} {S2 : Nat → Nat → Int32} {W2 : Nat → Nat} {X2 : Nat → Nat → Int32} {Q : Prop} (h : cJ G g f np dp nf df nr dr nt ct pay fine kf na da TL TG LL LG N1 E1 P1 L1 S1 W1 X1 N2 E2 P2 L2 S2 W2 X2) (k : ∀ (se : Nat) (hf : Nat → Option Nat) (imf : Nat → Option Nat) (mc : Nat) (op : Int32) (cm : Int32) (wu : Int32) (mk : Nat → Int32) (ab : Int64) (be : Int64) (mn : Nat) (le : Int32) (wt : Nat → Int32) (ww : Nat → Int32) (wb : Nat → Int32) (wf : Nat → Int32) (vv : Nat → Int64) (lf : Nat → Option Nat) (tf : Nat → Option Nat), f 0 = eO 9 [.ref (g 1), .ref (g 36), .ref (g 2), .ref (g 3), .ref (g 4), .ref (g 6), .ref (g 7)] → f 1 = eO 1 [.ref (g 36), .ref (g 12), .ref (g 13), .ref (g 15), .int (nI se)] → f 12 = eA G 4 10 hf → f 2 = eA G 3 2 imf → f 3 = eZ G 2 kf → f 4 = eO 4 [.ref (g 5), .int (nI mc), .int op, .int cm, .int wu] → f 5 = eI G 50 mk → f 6 = eO 2 [.long ab, .long be] → f 7 = eO 8 [.ref (g 8), .ref (g 9), .ref (g 10), .ref (g 11), .int (nI mn), .int le] → f 8 = eI G 6 wt → f 9 = eI G 6 ww → f 10 = eI G 6 wb → f 11 = eI G 6 wf → f 15 = eJ G 50 vv → f 36 = eO 0 [.ref (g 37), .ref (g 39), .ref (g 41), .ref (g 43), .ref (g 45), .ref (g 47), .ref (g 112), .int pay, .int fine] → f 37 = eO 5 [.int (nI 30), .int (nI 4), .ref (g 38), .int (nI np)] → f 38 = eI G (30 * 4) dp → f 39 = eO 5 [.int (nI 40), .int (nI 3), .ref (g 40), .int (nI nf)] → f 40 = eI G (40 * 3) df → f 41 = eO 5 [.int (nI 4), .int (nI 3), .ref (g 42), .int (nI nr)] → f 42 = eI G (4 * 3) dr → f 43 = eO 5 [.int (nI 20), .int (nI 3), .ref (g 44), .int (nI na)] → f 44 = eI G (20 * 3) da → f 45 = eO 5 [.int (nI 10), .int (nI 70), .ref (g 46), .int (nI nt)] → f 46 = eI G (10 * 70) ct → f 47 = eO 6 [.ref (g 48), .ref (g 49)] → f 48 = eA G 5 20 lf → f 112 = eO 6 [.ref (g 113), .ref (g 114)] → f 113 = eA G 5 4 tf → (se ≤ 10) → (∀ i, i < 10 → hf i = some (g (2 * i + 16))) → (imf 0 = some (g 129)) → (imf 1 = some (g 222)) → (mc ≤ 50) → (mn ≤ 6) → (np ≤ 30) → (nf ≤ 40) → (nr ≤ 4) → (na ≤ 20) → (nt ≤ 10) → (∀ z, z < 20 → lf z = some (g (47 + 3 * z + 5))) → (∀ z, z < 4 → tf z = some (g (112 + 3 * z + 5))) → (∀ i, i < 10 → okH G g f (2 * i + 16)) → (okH G g f 13) → (∀ i, i < 20 → ltx G g f (3 * i + 52) (LL i) (LG i) (i < na)) → (∀ i, i < 4 → txt G g f (3 * i + 117) (TL i) (TG i)) → (bkD G g f 129 N1 E1 P1 L1 S1 W1 X1) → (bkD G g f 222 N2 E2 P2 L2 S2 W2 X2) → Q) : Q := by
  obtain ⟨se, hf, imf, mc, op, cm, wu, mk, ab, be, mn, le, wt, ww, wb, wf, vv, lf, tf, hx0, hctc, hhs, him, hkp, hrd, hmk, hfc6, hwt, hw8, hw9, hw10, hw11, hvl, hbk, hpr, hpd, hfr, hfd, hor, hod, har, had, htr, hct, hla, hlaa, hts0, htsa, hse, hhf, him0, him1, hmc, hmn, hnp, hnf, hnr, hna, hnt, hlf, htf, hH, hSp, hL, hT, hB1, hB2⟩ := h
  exact k se hf imf mc op cm wu mk ab be mn le wt ww wb wf vv lf tf hx0 hctc hhs him hkp hrd hmk hfc6 hwt hw8 hw9 hw10 hw11 hvl hbk hpr hpd hfr hfd hor hod har had htr hct hla hlaa hts0 htsa hse hhf him0 him1 hmc hmn hnp hnf hnr hna hnt hlf htf hH hSp hL hT hB1 hB2
theorem cJ_mk {G : gW} {g : Nat → Nat} {f : Nat → va_E} {np : Nat} {dp : Nat → Int32} {nf : Nat} {df : Nat → Int32} {nr : Nat} {dr : Nat → Int32} {nt : Nat} {ct : Nat → Int32} {pay : Int32} {fine : Int32} {kf : Nat → Int32} {na : Nat} {da : Nat → Int32} {TL : Nat → Nat} {TG : Nat → Nat → Int32} {LL : Nat → Nat} {LG : Nat → Nat → Int32} {N1 : Nat → Nat} {E1 : Nat → Nat → Int32} {P1 : Nat → Int32} {L1 : Nat → Nat} {S1 : Nat → Nat → Int32} {W1 : Nat → Nat} {X1 : Nat → Nat → Int32} {N2 : Nat → Nat} {E2 : Nat → Nat → Int32} {P2 : Nat → Int32} {L2 : Nat → Nat} {S2 : Nat → Nat → Int32} {W2 : Nat → Nat} {X2 : Nat → Nat → Int32} : ∀ (se : Nat) (hf : Nat → Option Nat) (imf : Nat → Option Nat) (mc : Nat) (op : Int32) (cm : Int32) (wu : Int32) (mk : Nat → Int32) (ab : Int64) (be : Int64) (mn : Nat) (le : Int32) (wt : Nat → Int32) (ww : Nat → Int32) (wb : Nat → Int32) (wf : Nat → Int32) (vv : Nat → Int64) (lf : Nat → Option Nat) (tf : Nat → Option Nat), f 0 = eO 9 [.ref (g 1), .ref (g 36), .ref (g 2), .ref (g 3), .ref (g 4), .ref (g 6), .ref (g 7)] → f 1 = eO 1 [.ref (g 36), .ref (g 12), .ref (g 13), .ref (g 15), .int (nI se)] → f 12 = eA G 4 10 hf → f 2 = eA G 3 2 imf → f 3 = eZ G 2 kf → f 4 = eO 4 [.ref (g 5), .int (nI mc), .int op, .int cm, .int wu] → f 5 = eI G 50 mk → f 6 = eO 2 [.long ab, .long be] → f 7 = eO 8 [.ref (g 8), .ref (g 9), .ref (g 10), .ref (g 11), .int (nI mn), .int le] → f 8 = eI G 6 wt → f 9 = eI G 6 ww → f 10 = eI G 6 wb → f 11 = eI G 6 wf → f 15 = eJ G 50 vv → f 36 = eO 0 [.ref (g 37), .ref (g 39), .ref (g 41), .ref (g 43), .ref (g 45), .ref (g 47), .ref (g 112), .int pay, .int fine] → f 37 = eO 5 [.int (nI 30), .int (nI 4), .ref (g 38), .int (nI np)] → f 38 = eI G (30 * 4) dp → f 39 = eO 5 [.int (nI 40), .int (nI 3), .ref (g 40), .int (nI nf)] → f 40 = eI G (40 * 3) df → f 41 = eO 5 [.int (nI 4), .int (nI 3), .ref (g 42), .int (nI nr)] → f 42 = eI G (4 * 3) dr → f 43 = eO 5 [.int (nI 20), .int (nI 3), .ref (g 44), .int (nI na)] → f 44 = eI G (20 * 3) da → f 45 = eO 5 [.int (nI 10), .int (nI 70), .ref (g 46), .int (nI nt)] → f 46 = eI G (10 * 70) ct → f 47 = eO 6 [.ref (g 48), .ref (g 49)] → f 48 = eA G 5 20 lf → f 112 = eO 6 [.ref (g 113), .ref (g 114)] → f 113 = eA G 5 4 tf → (se ≤ 10) → (∀ i, i < 10 → hf i = some (g (2 * i + 16))) → (imf 0 = some (g 129)) → (imf 1 = some (g 222)) → (mc ≤ 50) → (mn ≤ 6) → (np ≤ 30) → (nf ≤ 40) → (nr ≤ 4) → (na ≤ 20) → (nt ≤ 10) → (∀ z, z < 20 → lf z = some (g (47 + 3 * z + 5))) → (∀ z, z < 4 → tf z = some (g (112 + 3 * z + 5))) → (∀ i, i < 10 → okH G g f (2 * i + 16)) → (okH G g f 13) → (∀ i, i < 20 → ltx G g f (3 * i + 52) (LL i) (LG i) (i < na)) → (∀ i, i < 4 → txt G g f (3 * i + 117) (TL i) (TG i)) → (bkD G g f 129 N1 E1 P1 L1 S1 W1 X1) → (bkD G g f 222 N2 E2 P2 L2 S2 W2 X2) → cJ G g f np dp nf df nr dr nt ct pay fine kf na da TL TG LL LG N1 E1 P1 L1 S1 W1 X1 N2 E2 P2 L2 S2 W2 X2 := fun se hf imf mc op cm wu mk ab be mn le wt ww wb wf vv lf tf hx0 hctc hhs him hkp hrd hmk hfc6 hwt hw8 hw9 hw10 hw11 hvl hbk hpr hpd hfr hfd hor hod har had htr hct hla hlaa hts0 htsa hse hhf him0 him1 hmc hmn hnp hnf hnr hna hnt hlf htf hH hSp hL hT hB1 hB2 => ⟨se, hf, imf, mc, op, cm, wu, mk, ab, be, mn, le, wt, ww, wb, wf, vv, lf, tf, hx0, hctc, hhs, him, hkp, hrd, hmk, hfc6, hwt, hw8, hw9, hw10, hw11, hvl, hbk, hpr, hpd, hfr, hfd, hor, hod, har, had, htr, hct, hla, hlaa, hts0, htsa, hse, hhf, him0, him1, hmc, hmn, hnp, hnf, hnr, hna, hnt, hlf, htf, hH, hSp, hL, hT, hB1, hB2⟩
def ndB (ct : Nat → Int32) (nt : Nat) (n : Int32) : Bool := decide (inB 0 n 9999 = true ∧ (nt = 0 ∨ ¬ n < atv ct nt 70 (nI nt - 1) 0))
set_option maxHeartbeats 4000000 in
set_option maxRecDepth 100000 in
theorem k_everyoneE (l : Launch) (G : gW) (g : Nat → Nat) (hg : gOK g) (f : Nat → va_E) (pay : Int32) (fine : Int32) (np : Nat) (dp : Nat → Int32) (hbk : f 36 = eO 0 [.ref (g 37), .ref (g 39), .ref (g 41), .ref (g 43), .ref (g 45), .ref (g 47), .ref (g 112), .int pay, .int fine]) (hpr : f 37 = eO 5 [.int (nI 30), .int (nI 4), .ref (g 38), .int (nI np)]) (hpd : f 38 = eI G (30 * 4) dp) (hnp : np ≤ 30) : Met l yX0_everyone (wsT yX0_everyone cX0_everyone 1 (some .int)) ({ frames := 1, cells := 0, slots := 0, locals := 20 }) (bP G g f [.ref (g 36)]) (rQi (fun z9 => z9 = (1 <<< (nI np &&& 31)) - 1)) 0 0 fr0 := by
  refine Met.ofW (cc := cX0_everyone) (maxL := 1) (ret := (some .int)) (by decide) rfl ?_
  intro p e s m args below meth c s₁ B hml hv
  obtain ⟨rfl, hP, hG⟩ := hv
  have hx := B.exec
  have hb := B.bytes
  have hr := B.returns
  have hts := my_hts (atoms_spec (ws := wsT yX0_everyone cX0_everyone 1 (some .int)) B.pre)
  have hown : s.vm.findClass RX0 = some m.cls := findClass_of_methodNamed B.named
  have hlocks := B.notSynchronized
  have hl := lv_entry ([.ref (g 36)]) (n := 1) (Nat.le_of_ble_eq_true rfl)
  rw [lg_entry_eq]
  generalize (lg_sl ([.ref (g 36)]) ++ List.replicate (1 - (lg_sl ([.ref (g 36)])).length) Slot.unset).toArray = ls at hl ⊢
  have hl : lv_has ls 1 [(0, .ref (g 36))] := hl
  refine W_q8 (fun Q9 hQ9 => ?_)
  refine lv_aload_n hx hb dX0_everyone_0 rfl (lv_at hl 0 rfl) ?_
  refine va_get (D := G.1) (ci := 0) (v := .ref (g 37)) (C := RX0) (T := TX0) (N := 9) hx hb hts inlX0 hown hG.1 hP 36 (wl_at (by decide) hbk) rfl 0 (by decide) (hts (.fieldLink RX0 14 "SwornLists$Book" "people" "LSwornLists$Rows;") w_54) (fun _ h9 => h9) rfl dX0_everyone_1 ?_
  refine rd_calli (va_runV (As := []) (rest := []) ⟨hx, hb, hml, hown, hts⟩ (r_size l G g hg f 37 30 4 np hpr (by first | assumption | omega | decide) (by first | assumption | omega | decide) (by first | assumption | omega | decide) (by first | assumption | omega | decide)) (my_cwV hts ok_X5_size w_202 rfl rfl ⟨Nat.le_of_ble_eq_true rfl, Nat.le_of_ble_eq_true rfl⟩) ⟨bP.blind, va_recv hG.1 hP (ci := 5) (q0 := 37) rfl (wl_at (by decide) hpr), fun U hU hW => ⟨rfl, by rw [hU]; exact hP, kG.warm hW hG⟩⟩ rfl rfl hl.1 rfl (lv_room (Nat.le_of_ble_eq_true rfl)) dX0_everyone_4 ⟨Nat.le_of_ble_eq_true rfl, Nat.le_of_ble_eq_true rfl⟩) (fun r hr9 => ?_)
  subst hr9
  refine rd_calli (va_runSN (As := [.int (nI np)]) (rest := []) ⟨hx, hb, hml, hown, hts⟩ (s_lowBits l G g hg f (nI np)  ) (⟨my_cn hts ok_X10_lowBits.1 (hG.2.1 (.methodLinkNest RX0 62 yX10_lowBits RX10) (List.mem_of_getElem? (i := 29) rfl)) rfl rfl ⟨Nat.le_of_ble_eq_true rfl, Nat.le_of_ble_eq_true rfl⟩, hts _ ok_X10_lowBits.2.2.1, trivial⟩) ⟨bP.blind, fun U hU hW => ⟨rfl, by rw [hU]; exact hP, kG.warm hW hG⟩⟩ rfl rfl hl.1 rfl (lv_room (Nat.le_of_ble_eq_true rfl)) dX0_everyone_7 ⟨Nat.le_of_ble_eq_true rfl, Nat.le_of_ble_eq_true rfl⟩) (fun r hr9 => ?_)
  subst hr9
  refine W_q9 hQ9 ?_
  exact W.iret (v := (1 <<< ((nI np) &&& 31)) - 1) hx hb hr (fun _ hT9 _ => ⟨_, rfl, (rfl), hT9⟩) (fun _ h => absurd h List.not_mem_nil) dX0_everyone_10
set_option maxHeartbeats 4000000 in
set_option maxRecDepth 100000 in
theorem m_isNextDayE (l : Launch) (G : gW) (g : Nat → Nat) (hg : gOK g) (f : Nat → va_E) (pay : Int32) (fine : Int32) (nt : Nat) (ct : Nat → Int32) (n : Int32) (hx0 : f 0 = eO 9 [.ref (g 1), .ref (g 36), .ref (g 2), .ref (g 3), .ref (g 4), .ref (g 6), .ref (g 7)]) (hbk : f 36 = eO 0 [.ref (g 37), .ref (g 39), .ref (g 41), .ref (g 43), .ref (g 45), .ref (g 47), .ref (g 112), .int pay, .int fine]) (htr : f 45 = eO 5 [.int (nI 10), .int (nI 70), .ref (g 46), .int (nI nt)]) (hct : f 46 = eI G (10 * 70) ct) (hnt : nt ≤ 10) : Met l yX10_isNextDay (wsT yX10_isNextDay cX10_isNextDay 3 (some .boolean)) ({ frames := 2, cells := 0, slots := 0, locals := 42 }) (bP G g f [.ref (g 0), .int n]) (rQi (fun z9 => z9 = b2 (ndB ct nt n = true))) 0 0 fr0 := by
  refine Met.ofW (cc := cX10_isNextDay) (maxL := 3) (ret := (some .boolean)) (by decide) rfl ?_
  intro p e s m args below meth c s₁ B hml hv
  obtain ⟨rfl, hP, hG⟩ := hv
  have hx := B.exec
  have hb := B.bytes
  have hr := B.returns
  have hts := my_hts (atoms_spec (ws := wsT yX10_isNextDay cX10_isNextDay 3 (some .boolean)) B.pre)
  have hown : s.vm.findClass RX10 = some m.cls := findClass_of_methodNamed B.named
  have hlocks := B.notSynchronized
  have hl := lv_entry ([.ref (g 0), .int n]) (n := 3) (Nat.le_of_ble_eq_true rfl)
  rw [lg_entry_eq]
  generalize (lg_sl ([.ref (g 0), .int n]) ++ List.replicate (3 - (lg_sl ([.ref (g 0), .int n])).length) Slot.unset).toArray = ls at hl ⊢
  have hl : lv_has ls 3 [(0, .ref (g 0)), (1, .int n)] := hl
  refine W_q8 (fun Q9 hQ9 => ?_)
  refine lv_aload_n hx hb dX10_isNextDay_0 rfl (lv_at hl 0 rfl) ?_
  refine va_get (D := G.1) (ci := 9) (v := .ref (g 36)) (C := RX10) (T := TX10) (N := 7) hx hb hts inlX10 hown hG.1 hP 0 (wl_at (by decide) hx0) rfl 1 (by decide) (hts (.fieldLink RX10 20 "SwornLists" "book" "LSwornLists$Book;") w_16) (fun _ h9 => h9) rfl dX10_isNextDay_1 ?_
  refine va_getN (D := G.1) (ci := 0) (v := .ref (g 45)) (C := RX0) (T := TX0) (N := 9) (host := RX10) hx hb hts inlX0 hown hG.1 hP 36 (wl_at (by decide) hbk) rfl 4 (by decide) (va_Nw.use rfl (hG.2.1 (.fieldLinkNest RX10 162 RX0 "trials" "LSwornLists$Rows;" RX10) (List.mem_of_getElem? (i := 7) rfl))) (fun _ h9 => h9) rfl dX10_isNextDay_4 ?_
  refine rd_calli (va_runV (As := []) (rest := []) ⟨hx, hb, hml, hown, hts⟩ (r_size l G g hg f 45 10 70 nt htr (by first | assumption | omega | decide) (by first | assumption | omega | decide) (by first | assumption | omega | decide) (by first | assumption | omega | decide)) (my_cwV hts ok_X5_size w_642 rfl rfl ⟨Nat.le_of_ble_eq_true rfl, Nat.le_of_ble_eq_true rfl⟩) ⟨bP.blind, va_recv hG.1 hP (ci := 5) (q0 := 45) rfl (wl_at (by decide) htr), fun U hU hW => ⟨rfl, by rw [hU]; exact hP, kG.warm hW hG⟩⟩ rfl rfl hl.1 rfl (lv_room (Nat.le_of_ble_eq_true rfl)) dX10_isNextDay_7 ⟨Nat.le_of_ble_eq_true rfl, Nat.le_of_ble_eq_true rfl⟩) (fun r hr9 => ?_)
  subst hr9
  refine lv_istore_n (lv' := [(2, .int (nI nt)), (0, .ref (g 0)), (1, .int n)]) hx hb dX10_isNextDay_10 rfl hl (by decide) rfl (fun ls hl => ?_)
  refine lv_iload_n hx hb dX10_isNextDay_11 rfl (lv_at hl 2 rfl) ?_
  refine rd_calli (va_runS (As := [.int n]) (rest := []) ⟨hx, hb, hml, hown, hts⟩ (s_isDay l G g hg f n  ) (my_cwS hts ok_X10_isDay w_178 rfl rfl ⟨Nat.le_of_ble_eq_true rfl, Nat.le_of_ble_eq_true rfl⟩) ⟨bP.blind, fun U hU hW => ⟨rfl, by rw [hU]; exact hP, kG.warm hW hG⟩⟩ rfl rfl hl.1 rfl (lv_room (Nat.le_of_ble_eq_true rfl)) dX10_isNextDay_12 ⟨Nat.le_of_ble_eq_true rfl, Nat.le_of_ble_eq_true rfl⟩) (fun r hr9 => ?_)
  subst hr9
  refine my_ifeq (tgt := 44) hx hb dX10_isNextDay_15 (by decide) (fun c_15 => ?_) (fun c_15 => ?_)
  · refine lv_iconst (v := 0) hx hb dX10_isNextDay_44 (by decide) ?_
    refine W_q9 hQ9 ?_
    exact W.zret (v := 0) hx hb hr (rfl) (fun _ hT9 _ => ⟨_, rfl, ((b2_f (fun z => c_15 (of_decide_eq_true z).1)).symm), hT9⟩) (fun _ h => absurd h List.not_mem_nil) dX10_isNextDay_45
  · refine lv_iload_n hx hb dX10_isNextDay_18 rfl (lv_at hl 0 rfl) ?_
    refine lv_if_eq (tgt := 40) hx hb dX10_isNextDay_19 (by decide) (fun c_19 => ?_) (fun c_19 => ?_)
    · refine lv_iconst (v := 1) hx hb dX10_isNextDay_40 (by decide) ?_
      refine lv_goto (tgt := 45) hx hb dX10_isNextDay_41 (by decide) ?_
      refine W_q9 hQ9 ?_
      exact W.zret (v := 1) hx hb hr (rfl) (fun _ hT9 _ => ⟨_, rfl, ((b2_t (decide_eq_true ⟨c_15, Or.inl (Nat.eq_zero_of_not_pos (fun h => nI_ne0 h (by omega) c_19))⟩)).symm), hT9⟩) (fun _ h => absurd h List.not_mem_nil) dX10_isNextDay_45
    · refine lv_iload_n hx hb dX10_isNextDay_22 rfl (lv_at hl 2 rfl) ?_
      refine lv_aload_n hx hb dX10_isNextDay_23 rfl (lv_at hl 1 rfl) ?_
      refine va_get (D := G.1) (ci := 9) (v := .ref (g 36)) (C := RX10) (T := TX10) (N := 7) hx hb hts inlX10 hown hG.1 hP 0 (wl_at (by decide) hx0) rfl 1 (by decide) (hts (.fieldLink RX10 20 "SwornLists" "book" "LSwornLists$Book;") w_16) (fun _ h9 => h9) rfl dX10_isNextDay_24 ?_
      refine va_getN (D := G.1) (ci := 0) (v := .ref (g 45)) (C := RX0) (T := TX0) (N := 9) (host := RX10) hx hb hts inlX0 hown hG.1 hP 36 (wl_at (by decide) hbk) rfl 4 (by decide) (va_Nw.use rfl (hG.2.1 (.fieldLinkNest RX10 162 RX0 "trials" "LSwornLists$Rows;" RX10) (List.mem_of_getElem? (i := 7) rfl))) (fun _ h9 => h9) rfl dX10_isNextDay_27 ?_
      refine lv_iload_n hx hb dX10_isNextDay_30 rfl (lv_at hl 0 rfl) ?_
      refine lv_iconst (v := 1) hx hb dX10_isNextDay_31 (by decide) ?_
      refine lv_isub hx hb dX10_isNextDay_32 ?_
      refine lv_iconst (v := 0) hx hb dX10_isNextDay_33 (by decide) ?_
      refine rd_calli (va_runV (As := [.int ((nI nt) - 1), .int 0]) (rest := [.int n]) ⟨hx, hb, hml, hown, hts⟩ (r_at l G g hg f 45 10 70 nt ct ((nI nt) - 1) 0 htr hct (by first | assumption | omega | decide) (by first | assumption | omega | decide) (by first | assumption | omega | decide) (by first | assumption | omega | decide)) (my_cwV hts ok_X5_at w_610 rfl rfl ⟨Nat.le_of_ble_eq_true rfl, Nat.le_of_ble_eq_true rfl⟩) ⟨bP.blind, va_recv hG.1 hP (ci := 5) (q0 := 45) rfl (wl_at (by decide) htr), fun U hU hW => ⟨rfl, by rw [hU]; exact hP, kG.warm hW hG⟩⟩ rfl rfl hl.1 rfl (lv_room (Nat.le_of_ble_eq_true rfl)) dX10_isNextDay_34 ⟨Nat.le_of_ble_eq_true rfl, Nat.le_of_ble_eq_true rfl⟩) (fun r hr9 => ?_)
      subst hr9
      refine lv_icmp_lt (tgt := 44) hx hb dX10_isNextDay_37 (by decide) (fun c_37 => ?_) (fun c_37 => ?_)
      · refine lv_iconst (v := 0) hx hb dX10_isNextDay_44 (by decide) ?_
        refine W_q9 hQ9 ?_
        exact W.zret (v := 0) hx hb hr (rfl) (fun _ hT9 _ => ⟨_, rfl, ((b2_f (fun z => (of_decide_eq_true z).2.elim (fun h => c_19 (by rw [h]; rfl)) (fun h => h c_37))).symm), hT9⟩) (fun _ h => absurd h List.not_mem_nil) dX10_isNextDay_45
      · refine lv_iconst (v := 1) hx hb dX10_isNextDay_40 (by decide) ?_
        refine lv_goto (tgt := 45) hx hb dX10_isNextDay_41 (by decide) ?_
        refine W_q9 hQ9 ?_
        exact W.zret (v := 1) hx hb hr (rfl) (fun _ hT9 _ => ⟨_, rfl, ((b2_t (decide_eq_true ⟨c_15, Or.inr c_37⟩)).symm), hT9⟩) (fun _ h => absurd h List.not_mem_nil) dX10_isNextDay_45
set_option maxHeartbeats 4000000 in
set_option maxRecDepth 100000 in
theorem k_listedOnE (l : Launch) (G : gW) (g : Nat → Nat) (hg : gOK g) (f : Nat → va_E) (pay : Int32) (fine : Int32) (np : Nat) (dp : Nat → Int32) (nr : Nat) (dr : Nat → Int32) (n : Int32) (hbk : f 36 = eO 0 [.ref (g 37), .ref (g 39), .ref (g 41), .ref (g 43), .ref (g 45), .ref (g 47), .ref (g 112), .int pay, .int fine]) (hpr : f 37 = eO 5 [.int (nI 30), .int (nI 4), .ref (g 38), .int (nI np)]) (hpd : f 38 = eI G (30 * 4) dp) (hor : f 41 = eO 5 [.int (nI 4), .int (nI 3), .ref (g 42), .int (nI nr)]) (hod : f 42 = eI G (4 * 3) dr) (hnp : np ≤ 30) (hnr : nr ≤ 4) : Met l yX0_listedOn (wsT yX0_listedOn cX0_listedOn 5 (some .int)) ({ frames := 2, cells := 0, slots := 0, locals := 40 }) (bP G g f [.ref (g 36), .int n]) (rQi (fun z9 => z9 = rlV np nr (fun i c => dr (3 * i + c)) n)) 0 0 fr0 := by
  refine Met.ofW (cc := cX0_listedOn) (maxL := 5) (ret := (some .int)) (by decide) rfl ?_
  intro p e s m args below meth c s₁ B hml hv
  obtain ⟨rfl, hP, hG⟩ := hv
  have hx := B.exec
  have hb := B.bytes
  have hr := B.returns
  have hts := my_hts (atoms_spec (ws := wsT yX0_listedOn cX0_listedOn 5 (some .int)) B.pre)
  have hown : s.vm.findClass RX0 = some m.cls := findClass_of_methodNamed B.named
  have hlocks := B.notSynchronized
  have hl := lv_entry ([.ref (g 36), .int n]) (n := 5) (Nat.le_of_ble_eq_true rfl)
  rw [lg_entry_eq]
  generalize (lg_sl ([.ref (g 36), .int n]) ++ List.replicate (5 - (lg_sl ([.ref (g 36), .int n])).length) Slot.unset).toArray = ls at hl ⊢
  have hl : lv_has ls 5 [(0, .ref (g 36)), (1, .int n)] := hl
  refine W_q8 (fun Q9 hQ9 => ?_)
  refine lv_iconst (v := (-1)) hx hb dX0_listedOn_0 (by decide) ?_
  refine lv_istore_n (lv' := [(2, .int (-1)), (0, .ref (g 36)), (1, .int n)]) hx hb dX0_listedOn_1 rfl hl (by decide) rfl (fun ls hl => ?_)
  refine lv_iconst (v := 0) hx hb dX0_listedOn_2 (by decide) ?_
  refine lv_istore_n (lv' := [(3, .int 0), (2, .int (-1)), (0, .ref (g 36)), (1, .int n)]) hx hb dX0_listedOn_3 rfl hl (by decide) rfl (fun ls hl => ?_)
  have key1 : ∀ (n9_1 : Nat) (o1 : Option Nat) (i : Nat) (ls : Array Slot), (i ≤ nr) → (∀ z, o1 = some z → z < nr) → (rlB (fun i c => dr (3 * i + c)) n i = o1) → nr - i < n9_1 → lv_has ls 5 [(0, .ref (g 36)), (1, .int n), (2, .int (fo o1)), (3, .int (nI i))] → W p l e (headSpec (wsT yX0_listedOn cX0_listedOn 5 (some .int)) ({ frames := 2, cells := 0, slots := 0, locals := 40 })).room s m ([.ref (g 36), .int n] : List Value).toArray below meth c s.heap [] 0 0 Q9 (F0 m 4 ls []) := by
    intro n9_1
    induction n9_1 with
    | zero => intro o1 i ls hi ho hB hn9_1; exact absurd hn9_1 (Nat.not_lt_zero _)
    | succ n9_1 ih_1 =>
      intro o1 i ls hi ho hB hn9_1 hl
      refine lv_iload_n hx hb dX0_listedOn_4 rfl (lv_at hl 3 rfl) ?_
      refine lv_aload_n hx hb dX0_listedOn_5 rfl (lv_at hl 0 rfl) ?_
      refine va_get (D := G.1) (ci := 0) (v := .ref (g 41)) (C := RX0) (T := TX0) (N := 9) hx hb hts inlX0 hown hG.1 hP 36 (wl_at (by decide) hbk) rfl 2 (by decide) (hts (.fieldLink RX0 23 "SwornLists$Book" "rolls" "LSwornLists$Rows;") w_56) (fun _ h9 => h9) rfl dX0_listedOn_6 ?_
      refine rd_calli (va_runV (As := []) (rest := [.int (nI i)]) ⟨hx, hb, hml, hown, hts⟩ (r_size l G g hg f 41 4 3 nr hor (by first | assumption | omega | decide) (by first | assumption | omega | decide) (by first | assumption | omega | decide) (by first | assumption | omega | decide)) (my_cwV hts ok_X5_size w_202 rfl rfl ⟨Nat.le_of_ble_eq_true rfl, Nat.le_of_ble_eq_true rfl⟩) ⟨bP.blind, va_recv hG.1 hP (ci := 5) (q0 := 41) rfl (wl_at (by decide) hor), fun U hU hW => ⟨rfl, by rw [hU]; exact hP, kG.warm hW hG⟩⟩ rfl rfl hl.1 rfl (lv_room (Nat.le_of_ble_eq_true rfl)) dX0_listedOn_9 ⟨Nat.le_of_ble_eq_true rfl, Nat.le_of_ble_eq_true rfl⟩) (fun r hr9 => ?_)
      subst hr9
      refine lv_icmp_ge (tgt := 74) hx hb dX0_listedOn_12 (by decide) (fun c_12 => ?_) (fun c_12 => ?_)
      · have hin : i = nr := by
          have h9 := (nI_leI (by omega) (by omega)).mp c_12
          omega
        rw [hin] at hB
        refine lv_iload_n hx hb dX0_listedOn_74 rfl (lv_at hl 2 rfl) ?_
        refine lv_iconst (v := (-1)) hx hb dX0_listedOn_75 (by decide) ?_
        refine lv_icmp_ne (tgt := 86) hx hb dX0_listedOn_76 (by decide) (fun c_76 => ?_) (fun c_76 => ?_)
        · obtain ⟨b9, rfl⟩ : ∃ b, o1 = some b := by
            cases o1 with
            | none => exact absurd rfl c_76
            | some z => exact ⟨z, rfl⟩
          have hb9 := ho b9 rfl
          refine lv_aload_n hx hb dX0_listedOn_86 rfl (lv_at hl 0 rfl) ?_
          refine va_get (D := G.1) (ci := 0) (v := .ref (g 41)) (C := RX0) (T := TX0) (N := 9) hx hb hts inlX0 hown hG.1 hP 36 (wl_at (by decide) hbk) rfl 2 (by decide) (hts (.fieldLink RX0 23 "SwornLists$Book" "rolls" "LSwornLists$Rows;") w_56) (fun _ h9 => h9) rfl dX0_listedOn_87 ?_
          refine lv_iload_n hx hb dX0_listedOn_90 rfl (lv_at hl 2 rfl) ?_
          refine lv_iconst (v := 0) hx hb dX0_listedOn_91 (by decide) ?_
          refine rd_calli (va_runV (As := [.int (nI b9), .int 0]) (rest := []) ⟨hx, hb, hml, hown, hts⟩ (r_at l G g hg f 41 4 3 nr dr (nI b9) 0 hor hod (by first | assumption | omega | decide) (by first | assumption | omega | decide) (by first | assumption | omega | decide) (by first | assumption | omega | decide)) (my_cwV hts ok_X5_at w_225 rfl rfl ⟨Nat.le_of_ble_eq_true rfl, Nat.le_of_ble_eq_true rfl⟩) ⟨bP.blind, va_recv hG.1 hP (ci := 5) (q0 := 41) rfl (wl_at (by decide) hor), fun U hU hW => ⟨rfl, by rw [hU]; exact hP, kG.warm hW hG⟩⟩ rfl rfl hl.1 rfl (lv_room (Nat.le_of_ble_eq_true rfl)) dX0_listedOn_92 ⟨Nat.le_of_ble_eq_true rfl, Nat.le_of_ble_eq_true rfl⟩) (fun r hr9 => ?_)
          subst hr9
          refine my_bei (v := dr (3 * b9 + 0)) (atQ (d := dr) (w := 3) (i := b9) (c := 0) hb9 (by omega) (by omega) (by omega)) ?_
          refine W_q9 hQ9 ?_
          exact W.iret (v := dr (3 * b9 + 0)) hx hb hr (fun _ hT9 _ => ⟨_, rfl, ((rlV_1 (R := (fun i c => dr (3 * i + c))) hB).symm), hT9⟩) (fun _ h => absurd h List.not_mem_nil) dX0_listedOn_95
        · refine lv_aload_n hx hb dX0_listedOn_79 rfl (lv_at hl 0 rfl) ?_
          refine rd_calli (va_runV (As := []) (rest := []) ⟨hx, hb, hml, hown, hts⟩ (k_everyoneE l G g hg f pay fine np dp hbk hpr hpd (by first | assumption | omega | decide)) (my_cwV hts ok_X0_everyone w_229 rfl rfl ⟨Nat.le_of_ble_eq_true rfl, Nat.le_of_ble_eq_true rfl⟩) ⟨bP.blind, va_recv hG.1 hP (ci := 0) (q0 := 36) rfl (wl_at (by decide) hbk), fun U hU hW => ⟨rfl, by rw [hU]; exact hP, kG.warm hW hG⟩⟩ rfl rfl hl.1 rfl (lv_room (Nat.le_of_ble_eq_true rfl)) dX0_listedOn_80 ⟨Nat.le_of_ble_eq_true rfl, Nat.le_of_ble_eq_true rfl⟩) (fun r hr9 => ?_)
          subst hr9
          refine lv_goto (tgt := 95) hx hb dX0_listedOn_83 (by decide) ?_
          refine W_q9 hQ9 ?_
          exact W.iret (v := (1 <<< (nI np &&& 31)) - 1) hx hb hr (fun _ hT9 _ => ⟨_, rfl, ((rlV_0 (R := (fun i c => dr (3 * i + c))) (hB.trans (fo_none (by omega) ho c_76))).symm), hT9⟩) (fun _ h => absurd h List.not_mem_nil) dX0_listedOn_95
      · have hi9 : i < nr := Nat.not_le.mp (fun z => c_12 (nI_le z (by omega)))
        refine lv_aload_n hx hb dX0_listedOn_15 rfl (lv_at hl 0 rfl) ?_
        refine va_get (D := G.1) (ci := 0) (v := .ref (g 41)) (C := RX0) (T := TX0) (N := 9) hx hb hts inlX0 hown hG.1 hP 36 (wl_at (by decide) hbk) rfl 2 (by decide) (hts (.fieldLink RX0 23 "SwornLists$Book" "rolls" "LSwornLists$Rows;") w_56) (fun _ h9 => h9) rfl dX0_listedOn_16 ?_
        refine lv_iload_n hx hb dX0_listedOn_19 rfl (lv_at hl 3 rfl) ?_
        refine lv_iconst (v := 2) hx hb dX0_listedOn_20 (by decide) ?_
        refine rd_calli (va_runV (As := [.int (nI i), .int 2]) (rest := []) ⟨hx, hb, hml, hown, hts⟩ (r_at l G g hg f 41 4 3 nr dr (nI i) 2 hor hod (by first | assumption | omega | decide) (by first | assumption | omega | decide) (by first | assumption | omega | decide) (by first | assumption | omega | decide)) (my_cwV hts ok_X5_at w_225 rfl rfl ⟨Nat.le_of_ble_eq_true rfl, Nat.le_of_ble_eq_true rfl⟩) ⟨bP.blind, va_recv hG.1 hP (ci := 5) (q0 := 41) rfl (wl_at (by decide) hor), fun U hU hW => ⟨rfl, by rw [hU]; exact hP, kG.warm hW hG⟩⟩ rfl rfl hl.1 rfl (lv_room (Nat.le_of_ble_eq_true rfl)) dX0_listedOn_21 ⟨Nat.le_of_ble_eq_true rfl, Nat.le_of_ble_eq_true rfl⟩) (fun r hr9 => ?_)
        subst hr9
        refine my_bei (v := dr (3 * i + 2)) (atQ (d := dr) (w := 3) (i := i) (c := 2) hi9 (by omega) (by omega) (by omega)) ?_
        refine lv_iload_n hx hb dX0_listedOn_24 rfl (lv_at hl 1 rfl) ?_
        refine lv_icmp_gt (tgt := 32) hx hb dX0_listedOn_25 (by decide) (fun c_25 => ?_) (fun c_25 => ?_)
        · refine lv_iconst (v := 0) hx hb dX0_listedOn_32 (by decide) ?_
          refine lv_istore (lv' := [(4, .int 0), (0, .ref (g 36)), (1, .int n), (2, .int (fo o1)), (3, .int (nI i))]) hx hb dX0_listedOn_33 hl (by decide) rfl (fun ls hl => ?_)
          refine lv_iload hx hb dX0_listedOn_35 (lv_at hl 0 rfl) ?_
          refine lv_if_eq (tgt := 68) hx hb dX0_listedOn_37 (by decide) (fun c_37 => ?_) (fun c_37 => absurd (by decide) c_37)
          refine lv_iinc (v := nI (i + 1)) (lv' := [(3, .int (nI (i + 1))), (4, .int 0), (0, .ref (g 36)), (1, .int n), (2, .int (fo o1))]) hx hb dX0_listedOn_68 hl (k := 4) rfl (nI_1 i) (by decide) rfl (fun ls hl => ?_)
          refine lv_goto (tgt := 4) hx hb dX0_listedOn_71 (by decide) ?_
          exact ih_1 o1 (i + 1) _ (by omega) (ho) (rlB_n (R := (fun i c => dr (3 * i + c))) hB (rlc_k (R := (fun i c => dr (3 * i + c))) _ c_25)) (by omega) (lv_sub hl [2, 3, 4, 0] rfl)
        · refine lv_iconst (v := 1) hx hb dX0_listedOn_28 (by decide) ?_
          refine lv_goto (tgt := 33) hx hb dX0_listedOn_29 (by decide) ?_
          refine lv_istore (lv' := [(4, .int 1), (0, .ref (g 36)), (1, .int n), (2, .int (fo o1)), (3, .int (nI i))]) hx hb dX0_listedOn_33 hl (by decide) rfl (fun ls hl => ?_)
          refine lv_iload hx hb dX0_listedOn_35 (lv_at hl 0 rfl) ?_
          refine lv_if_eq (tgt := 68) hx hb dX0_listedOn_37 (by decide) (fun c_37 => absurd c_37 (by decide)) (fun c_37 => ?_)
          refine lv_iload_n hx hb dX0_listedOn_40 rfl (lv_at hl 3 rfl) ?_
          refine lv_iconst (v := (-1)) hx hb dX0_listedOn_41 (by decide) ?_
          refine lv_icmp_eq (tgt := 66) hx hb dX0_listedOn_42 (by decide) (fun c_42 => ?_) (fun c_42 => ?_)
          · refine lv_iload_n hx hb dX0_listedOn_66 rfl (lv_at hl 4 rfl) ?_
            refine lv_istore_n (lv' := [(2, .int (nI i)), (4, .int 1), (0, .ref (g 36)), (1, .int n), (3, .int (nI i))]) hx hb dX0_listedOn_67 rfl hl (by decide) rfl (fun ls hl => ?_)
            refine lv_iinc (v := nI (i + 1)) (lv' := [(3, .int (nI (i + 1))), (2, .int (nI i)), (4, .int 1), (0, .ref (g 36)), (1, .int n)]) hx hb dX0_listedOn_68 hl (k := 4) rfl (nI_1 i) (by decide) rfl (fun ls hl => ?_)
            refine lv_goto (tgt := 4) hx hb dX0_listedOn_71 (by decide) ?_
            exact ih_1 (some i) (i + 1) _ (by omega) (fun z hz => by cases hz; omega) (rlB_y (R := (fun i c => dr (3 * i + c))) (hB.trans (fo_none (by omega) ho c_42)) (rlc_0 (R := (fun i c => dr (3 * i + c))) c_25)) (by omega) (lv_sub hl [3, 4, 1, 0] rfl)
          · obtain ⟨b9, rfl⟩ : ∃ b, o1 = some b := by
              cases o1 with
              | none => exact absurd rfl c_42
              | some z => exact ⟨z, rfl⟩
            have hb9 := ho b9 rfl
            refine lv_aload_n hx hb dX0_listedOn_45 rfl (lv_at hl 1 rfl) ?_
            refine va_get (D := G.1) (ci := 0) (v := .ref (g 41)) (C := RX0) (T := TX0) (N := 9) hx hb hts inlX0 hown hG.1 hP 36 (wl_at (by decide) hbk) rfl 2 (by decide) (hts (.fieldLink RX0 23 "SwornLists$Book" "rolls" "LSwornLists$Rows;") w_56) (fun _ h9 => h9) rfl dX0_listedOn_46 ?_
            refine lv_iload_n hx hb dX0_listedOn_49 rfl (lv_at hl 4 rfl) ?_
            refine lv_iconst (v := 1) hx hb dX0_listedOn_50 (by decide) ?_
            refine rd_calli (va_runV (As := [.int (nI i), .int 1]) (rest := []) ⟨hx, hb, hml, hown, hts⟩ (r_at l G g hg f 41 4 3 nr dr (nI i) 1 hor hod (by first | assumption | omega | decide) (by first | assumption | omega | decide) (by first | assumption | omega | decide) (by first | assumption | omega | decide)) (my_cwV hts ok_X5_at w_225 rfl rfl ⟨Nat.le_of_ble_eq_true rfl, Nat.le_of_ble_eq_true rfl⟩) ⟨bP.blind, va_recv hG.1 hP (ci := 5) (q0 := 41) rfl (wl_at (by decide) hor), fun U hU hW => ⟨rfl, by rw [hU]; exact hP, kG.warm hW hG⟩⟩ rfl rfl hl.1 rfl (lv_room (Nat.le_of_ble_eq_true rfl)) dX0_listedOn_51 ⟨Nat.le_of_ble_eq_true rfl, Nat.le_of_ble_eq_true rfl⟩) (fun r hr9 => ?_)
            subst hr9
            refine my_bei (v := dr (3 * i + 1)) (atQ (d := dr) (w := 3) (i := i) (c := 1) hi9 (by omega) (by omega) (by omega)) ?_
            refine lv_aload_n hx hb dX0_listedOn_54 rfl (lv_at hl 1 rfl) ?_
            refine va_get (D := G.1) (ci := 0) (v := .ref (g 41)) (C := RX0) (T := TX0) (N := 9) hx hb hts inlX0 hown hG.1 hP 36 (wl_at (by decide) hbk) rfl 2 (by decide) (hts (.fieldLink RX0 23 "SwornLists$Book" "rolls" "LSwornLists$Rows;") w_56) (fun _ h9 => h9) rfl dX0_listedOn_55 ?_
            refine lv_iload_n hx hb dX0_listedOn_58 rfl (lv_at hl 3 rfl) ?_
            refine lv_iconst (v := 1) hx hb dX0_listedOn_59 (by decide) ?_
            refine rd_calli (va_runV (As := [.int (nI b9), .int 1]) (rest := [.int (dr (3 * i + 1))]) ⟨hx, hb, hml, hown, hts⟩ (r_at l G g hg f 41 4 3 nr dr (nI b9) 1 hor hod (by first | assumption | omega | decide) (by first | assumption | omega | decide) (by first | assumption | omega | decide) (by first | assumption | omega | decide)) (my_cwV hts ok_X5_at w_225 rfl rfl ⟨Nat.le_of_ble_eq_true rfl, Nat.le_of_ble_eq_true rfl⟩) ⟨bP.blind, va_recv hG.1 hP (ci := 5) (q0 := 41) rfl (wl_at (by decide) hor), fun U hU hW => ⟨rfl, by rw [hU]; exact hP, kG.warm hW hG⟩⟩ rfl rfl hl.1 rfl (lv_room (Nat.le_of_ble_eq_true rfl)) dX0_listedOn_60 ⟨Nat.le_of_ble_eq_true rfl, Nat.le_of_ble_eq_true rfl⟩) (fun r hr9 => ?_)
            subst hr9
            refine my_bei (v := dr (3 * b9 + 1)) (atQ (d := dr) (w := 3) (i := b9) (c := 1) hb9 (by omega) (by omega) (by omega)) ?_
            refine lv_icmp_lt (tgt := 68) hx hb dX0_listedOn_63 (by decide) (fun c_63 => ?_) (fun c_63 => ?_)
            · refine lv_iinc (v := nI (i + 1)) (lv' := [(3, .int (nI (i + 1))), (4, .int 1), (0, .ref (g 36)), (1, .int n), (2, .int (nI b9))]) hx hb dX0_listedOn_68 hl (k := 4) rfl (nI_1 i) (by decide) rfl (fun ls hl => ?_)
              refine lv_goto (tgt := 4) hx hb dX0_listedOn_71 (by decide) ?_
              exact ih_1 (some b9) (i + 1) _ (by omega) (ho) (rlB_n (R := (fun i c => dr (3 * i + c))) hB (rlc_2 (R := (fun i c => dr (3 * i + c))) c_63)) (by omega) (lv_sub hl [2, 3, 4, 0] rfl)
            · refine lv_iload_n hx hb dX0_listedOn_66 rfl (lv_at hl 4 rfl) ?_
              refine lv_istore_n (lv' := [(2, .int (nI i)), (4, .int 1), (0, .ref (g 36)), (1, .int n), (3, .int (nI i))]) hx hb dX0_listedOn_67 rfl hl (by decide) rfl (fun ls hl => ?_)
              refine lv_iinc (v := nI (i + 1)) (lv' := [(3, .int (nI (i + 1))), (2, .int (nI i)), (4, .int 1), (0, .ref (g 36)), (1, .int n)]) hx hb dX0_listedOn_68 hl (k := 4) rfl (nI_1 i) (by decide) rfl (fun ls hl => ?_)
              refine lv_goto (tgt := 4) hx hb dX0_listedOn_71 (by decide) ?_
              exact ih_1 (some i) (i + 1) _ (by omega) (fun z hz => by cases hz; omega) (rlB_y (R := (fun i c => dr (3 * i + c))) hB (rlc_1 (R := (fun i c => dr (3 * i + c))) c_25 c_63)) (by omega) (lv_sub hl [3, 4, 1, 0] rfl)
  exact key1 (nr + 1) none 0 _ (Nat.zero_le _) (fun z hz => by cases hz) (rfl) (by omega) (lv_sub hl [2, 3, 1, 0] rfl)
set_option maxHeartbeats 4000000 in
set_option maxRecDepth 100000 in
theorem k_inForceE (l : Launch) (G : gW) (g : Nat → Nat) (hg : gOK g) (f : Nat → va_E) (pay : Int32) (fine : Int32) (na : Nat) (da : Nat → Int32) (n : Int32) (q : Int32) (hbk : f 36 = eO 0 [.ref (g 37), .ref (g 39), .ref (g 41), .ref (g 43), .ref (g 45), .ref (g 47), .ref (g 112), .int pay, .int fine]) (har : f 43 = eO 5 [.int (nI 20), .int (nI 3), .ref (g 44), .int (nI na)]) (had : f 44 = eI G (20 * 3) da) (hna : na ≤ 20) : Met l yX0_inForce (wsT yX0_inForce cX0_inForce 7 (some .int)) ({ frames := 1, cells := 0, slots := 0, locals := 23 }) (bP G g f [.ref (g 36), .int n, .int q]) (rQi (fun z9 => ∃ o9 : Option Nat, z9 = fo o9 ∧ (∀ z, o9 = some z → z < na) ∧ (fcB (fun i c => da (3 * i + c)) n q na = o9))) 0 0 fr0 := by
  refine Met.ofW (cc := cX0_inForce) (maxL := 7) (ret := (some .int)) (by decide) rfl ?_
  intro p e s m args below meth c s₁ B hml hv
  obtain ⟨rfl, hP, hG⟩ := hv
  have hx := B.exec
  have hb := B.bytes
  have hr := B.returns
  have hts := my_hts (atoms_spec (ws := wsT yX0_inForce cX0_inForce 7 (some .int)) B.pre)
  have hown : s.vm.findClass RX0 = some m.cls := findClass_of_methodNamed B.named
  have hlocks := B.notSynchronized
  have hl := lv_entry ([.ref (g 36), .int n, .int q]) (n := 7) (Nat.le_of_ble_eq_true rfl)
  rw [lg_entry_eq]
  generalize (lg_sl ([.ref (g 36), .int n, .int q]) ++ List.replicate (7 - (lg_sl ([.ref (g 36), .int n, .int q])).length) Slot.unset).toArray = ls at hl ⊢
  have hl : lv_has ls 7 [(0, .ref (g 36)), (1, .int n), (2, .int q)] := hl
  refine W_q8 (fun Q9 hQ9 => ?_)
  refine lv_iconst (v := (-1)) hx hb dX0_inForce_0 (by decide) ?_
  refine lv_istore_n (lv' := [(3, .int (-1)), (0, .ref (g 36)), (1, .int n), (2, .int q)]) hx hb dX0_inForce_1 rfl hl (by decide) rfl (fun ls hl => ?_)
  refine lv_iconst (v := 0) hx hb dX0_inForce_2 (by decide) ?_
  refine lv_istore (lv' := [(4, .int 0), (3, .int (-1)), (0, .ref (g 36)), (1, .int n), (2, .int q)]) hx hb dX0_inForce_3 hl (by decide) rfl (fun ls hl => ?_)
  have key1 : ∀ (n9_1 : Nat) (o1 : Option Nat) (i : Nat) (ls : Array Slot), (i ≤ na) → (∀ z, o1 = some z → z < na) → (fcB (fun i c => da (3 * i + c)) n q i = o1) → na - i < n9_1 → lv_has ls 7 [(0, .ref (g 36)), (1, .int n), (2, .int q), (3, .int (fo o1)), (4, .int (nI i))] → W p l e (headSpec (wsT yX0_inForce cX0_inForce 7 (some .int)) ({ frames := 1, cells := 0, slots := 0, locals := 23 })).room s m ([.ref (g 36), .int n, .int q] : List Value).toArray below meth c s.heap [] 0 0 Q9 (F0 m 5 ls []) := by
    intro n9_1
    induction n9_1 with
    | zero => intro o1 i ls hi ho hB hn9_1; exact absurd hn9_1 (Nat.not_lt_zero _)
    | succ n9_1 ih_1 =>
      intro o1 i ls hi ho hB hn9_1 hl
      refine lv_iload hx hb dX0_inForce_5 (lv_at hl 4 rfl) ?_
      refine lv_aload_n hx hb dX0_inForce_7 rfl (lv_at hl 0 rfl) ?_
      refine va_get (D := G.1) (ci := 0) (v := .ref (g 43)) (C := RX0) (T := TX0) (N := 9) hx hb hts inlX0 hown hG.1 hP 36 (wl_at (by decide) hbk) rfl 3 (by decide) (hts (.fieldLink RX0 26 "SwornLists$Book" "acts" "LSwornLists$Rows;") w_57) (fun _ h9 => h9) rfl dX0_inForce_8 ?_
      refine rd_calli (va_runV (As := []) (rest := [.int (nI i)]) ⟨hx, hb, hml, hown, hts⟩ (r_size l G g hg f 43 20 3 na har (by first | assumption | omega | decide) (by first | assumption | omega | decide) (by first | assumption | omega | decide) (by first | assumption | omega | decide)) (my_cwV hts ok_X5_size w_202 rfl rfl ⟨Nat.le_of_ble_eq_true rfl, Nat.le_of_ble_eq_true rfl⟩) ⟨bP.blind, va_recv hG.1 hP (ci := 5) (q0 := 43) rfl (wl_at (by decide) har), fun U hU hW => ⟨rfl, by rw [hU]; exact hP, kG.warm hW hG⟩⟩ rfl rfl hl.1 rfl (lv_room (Nat.le_of_ble_eq_true rfl)) dX0_inForce_11 ⟨Nat.le_of_ble_eq_true rfl, Nat.le_of_ble_eq_true rfl⟩) (fun r hr9 => ?_)
      subst hr9
      refine lv_icmp_ge (tgt := 117) hx hb dX0_inForce_14 (by decide) (fun c_14 => ?_) (fun c_14 => ?_)
      · have hin : i = na := by
          have h9 := (nI_leI (by omega) (by omega)).mp c_14
          omega
        rw [hin] at hB
        refine lv_iload_n hx hb dX0_inForce_117 rfl (lv_at hl 3 rfl) ?_
        refine W_q9 hQ9 ?_
        exact W.iret (v := fo o1) hx hb hr (fun _ hT9 _ => ⟨_, rfl, (⟨o1, rfl, ho, hB⟩), hT9⟩) (fun _ h => absurd h List.not_mem_nil) dX0_inForce_118
      · have hi9 : i < na := Nat.not_le.mp (fun z => c_14 (nI_le z (by omega)))
        refine lv_aload_n hx hb dX0_inForce_17 rfl (lv_at hl 0 rfl) ?_
        refine va_get (D := G.1) (ci := 0) (v := .ref (g 43)) (C := RX0) (T := TX0) (N := 9) hx hb hts inlX0 hown hG.1 hP 36 (wl_at (by decide) hbk) rfl 3 (by decide) (hts (.fieldLink RX0 26 "SwornLists$Book" "acts" "LSwornLists$Rows;") w_57) (fun _ h9 => h9) rfl dX0_inForce_18 ?_
        refine lv_iload hx hb dX0_inForce_21 (lv_at hl 4 rfl) ?_
        refine lv_iconst (v := 2) hx hb dX0_inForce_23 (by decide) ?_
        refine rd_calli (va_runV (As := [.int (nI i), .int 2]) (rest := []) ⟨hx, hb, hml, hown, hts⟩ (r_at l G g hg f 43 20 3 na da (nI i) 2 har had (by first | assumption | omega | decide) (by first | assumption | omega | decide) (by first | assumption | omega | decide) (by first | assumption | omega | decide)) (my_cwV hts ok_X5_at w_225 rfl rfl ⟨Nat.le_of_ble_eq_true rfl, Nat.le_of_ble_eq_true rfl⟩) ⟨bP.blind, va_recv hG.1 hP (ci := 5) (q0 := 43) rfl (wl_at (by decide) har), fun U hU hW => ⟨rfl, by rw [hU]; exact hP, kG.warm hW hG⟩⟩ rfl rfl hl.1 rfl (lv_room (Nat.le_of_ble_eq_true rfl)) dX0_inForce_24 ⟨Nat.le_of_ble_eq_true rfl, Nat.le_of_ble_eq_true rfl⟩) (fun r hr9 => ?_)
        subst hr9
        refine my_bei (v := da (3 * i + 2)) (atQ (d := da) (w := 3) (i := i) (c := 2) hi9 (by omega) (by omega) (by omega)) ?_
        refine lv_istore (lv' := [(5, .int (da (3 * i + 2))), (0, .ref (g 36)), (1, .int n), (2, .int q), (3, .int (fo o1)), (4, .int (nI i))]) hx hb dX0_inForce_27 hl (by decide) rfl (fun ls hl => ?_)
        refine lv_aload_n hx hb dX0_inForce_29 rfl (lv_at hl 1 rfl) ?_
        refine va_get (D := G.1) (ci := 0) (v := .ref (g 43)) (C := RX0) (T := TX0) (N := 9) hx hb hts inlX0 hown hG.1 hP 36 (wl_at (by decide) hbk) rfl 3 (by decide) (hts (.fieldLink RX0 26 "SwornLists$Book" "acts" "LSwornLists$Rows;") w_57) (fun _ h9 => h9) rfl dX0_inForce_30 ?_
        refine lv_iload hx hb dX0_inForce_33 (lv_at hl 5 rfl) ?_
        refine lv_iconst (v := 0) hx hb dX0_inForce_35 (by decide) ?_
        refine rd_calli (va_runV (As := [.int (nI i), .int 0]) (rest := []) ⟨hx, hb, hml, hown, hts⟩ (r_at l G g hg f 43 20 3 na da (nI i) 0 har had (by first | assumption | omega | decide) (by first | assumption | omega | decide) (by first | assumption | omega | decide) (by first | assumption | omega | decide)) (my_cwV hts ok_X5_at w_225 rfl rfl ⟨Nat.le_of_ble_eq_true rfl, Nat.le_of_ble_eq_true rfl⟩) ⟨bP.blind, va_recv hG.1 hP (ci := 5) (q0 := 43) rfl (wl_at (by decide) har), fun U hU hW => ⟨rfl, by rw [hU]; exact hP, kG.warm hW hG⟩⟩ rfl rfl hl.1 rfl (lv_room (Nat.le_of_ble_eq_true rfl)) dX0_inForce_36 ⟨Nat.le_of_ble_eq_true rfl, Nat.le_of_ble_eq_true rfl⟩) (fun r hr9 => ?_)
        subst hr9
        refine my_bei (v := da (3 * i + 0)) (atQ (d := da) (w := 3) (i := i) (c := 0) hi9 (by omega) (by omega) (by omega)) ?_
        refine lv_iload_n hx hb dX0_inForce_39 rfl (lv_at hl 2 rfl) ?_
        refine lv_icmp_ne (tgt := 73) hx hb dX0_inForce_40 (by decide) (fun c_40 => ?_) (fun c_40 => ?_)
        · refine lv_iconst (v := 0) hx hb dX0_inForce_73 (by decide) ?_
          refine lv_istore (lv' := [(6, .int 0), (5, .int (da (3 * i + 2))), (0, .ref (g 36)), (1, .int n), (2, .int q), (3, .int (fo o1)), (4, .int (nI i))]) hx hb dX0_inForce_74 hl (by decide) rfl (fun ls hl => ?_)
          refine lv_iload hx hb dX0_inForce_76 (lv_at hl 0 rfl) ?_
          refine lv_if_eq (tgt := 111) hx hb dX0_inForce_78 (by decide) (fun c_78 => ?_) (fun c_78 => absurd (by decide) c_78)
          refine lv_iinc (v := nI (i + 1)) (lv' := [(4, .int (nI (i + 1))), (6, .int 0), (5, .int (da (3 * i + 2))), (0, .ref (g 36)), (1, .int n), (2, .int q), (3, .int (fo o1))]) hx hb dX0_inForce_111 hl (k := 6) rfl (nI_1 i) (by decide) rfl (fun ls hl => ?_)
          refine lv_goto (tgt := 5) hx hb dX0_inForce_114 (by decide) ?_
          exact ih_1 o1 (i + 1) _ (by omega) (ho) (fcB_n (A := (fun i c => da (3 * i + c))) hB (fcc_k (A := (fun i c => da (3 * i + c))) _ (fch_f (A := (fun i c => da (3 * i + c))) (Or.inl c_40)))) (by omega) (lv_sub hl [3, 4, 5, 6, 0] rfl)
        · refine lv_aload_n hx hb dX0_inForce_43 rfl (lv_at hl 1 rfl) ?_
          refine va_get (D := G.1) (ci := 0) (v := .ref (g 43)) (C := RX0) (T := TX0) (N := 9) hx hb hts inlX0 hown hG.1 hP 36 (wl_at (by decide) hbk) rfl 3 (by decide) (hts (.fieldLink RX0 26 "SwornLists$Book" "acts" "LSwornLists$Rows;") w_57) (fun _ h9 => h9) rfl dX0_inForce_44 ?_
          refine lv_iload hx hb dX0_inForce_47 (lv_at hl 5 rfl) ?_
          refine lv_iconst (v := 1) hx hb dX0_inForce_49 (by decide) ?_
          refine rd_calli (va_runV (As := [.int (nI i), .int 1]) (rest := []) ⟨hx, hb, hml, hown, hts⟩ (r_at l G g hg f 43 20 3 na da (nI i) 1 har had (by first | assumption | omega | decide) (by first | assumption | omega | decide) (by first | assumption | omega | decide) (by first | assumption | omega | decide)) (my_cwV hts ok_X5_at w_225 rfl rfl ⟨Nat.le_of_ble_eq_true rfl, Nat.le_of_ble_eq_true rfl⟩) ⟨bP.blind, va_recv hG.1 hP (ci := 5) (q0 := 43) rfl (wl_at (by decide) har), fun U hU hW => ⟨rfl, by rw [hU]; exact hP, kG.warm hW hG⟩⟩ rfl rfl hl.1 rfl (lv_room (Nat.le_of_ble_eq_true rfl)) dX0_inForce_50 ⟨Nat.le_of_ble_eq_true rfl, Nat.le_of_ble_eq_true rfl⟩) (fun r hr9 => ?_)
          subst hr9
          refine my_bei (v := da (3 * i + 1)) (atQ (d := da) (w := 3) (i := i) (c := 1) hi9 (by omega) (by omega) (by omega)) ?_
          refine lv_iload_n hx hb dX0_inForce_53 rfl (lv_at hl 3 rfl) ?_
          refine lv_icmp_gt (tgt := 73) hx hb dX0_inForce_54 (by decide) (fun c_54 => ?_) (fun c_54 => ?_)
          · refine lv_iconst (v := 0) hx hb dX0_inForce_73 (by decide) ?_
            refine lv_istore (lv' := [(6, .int 0), (5, .int (da (3 * i + 2))), (0, .ref (g 36)), (1, .int n), (2, .int q), (3, .int (fo o1)), (4, .int (nI i))]) hx hb dX0_inForce_74 hl (by decide) rfl (fun ls hl => ?_)
            refine lv_iload hx hb dX0_inForce_76 (lv_at hl 0 rfl) ?_
            refine lv_if_eq (tgt := 111) hx hb dX0_inForce_78 (by decide) (fun c_78 => ?_) (fun c_78 => absurd (by decide) c_78)
            refine lv_iinc (v := nI (i + 1)) (lv' := [(4, .int (nI (i + 1))), (6, .int 0), (5, .int (da (3 * i + 2))), (0, .ref (g 36)), (1, .int n), (2, .int q), (3, .int (fo o1))]) hx hb dX0_inForce_111 hl (k := 6) rfl (nI_1 i) (by decide) rfl (fun ls hl => ?_)
            refine lv_goto (tgt := 5) hx hb dX0_inForce_114 (by decide) ?_
            exact ih_1 o1 (i + 1) _ (by omega) (ho) (fcB_n (A := (fun i c => da (3 * i + c))) hB (fcc_k (A := (fun i c => da (3 * i + c))) _ (fch_f (A := (fun i c => da (3 * i + c))) (Or.inr (Or.inl c_54))))) (by omega) (lv_sub hl [3, 4, 5, 6, 0] rfl)
          · refine lv_iload hx hb dX0_inForce_57 (lv_at hl 0 rfl) ?_
            refine lv_iconst (v := (-1)) hx hb dX0_inForce_59 (by decide) ?_
            refine lv_icmp_eq (tgt := 69) hx hb dX0_inForce_60 (by decide) (fun c_60 => ?_) (fun c_60 => ?_)
            · refine lv_iconst (v := 1) hx hb dX0_inForce_69 (by decide) ?_
              refine lv_goto (tgt := 74) hx hb dX0_inForce_70 (by decide) ?_
              refine lv_istore (lv' := [(6, .int 1), (5, .int (da (3 * i + 2))), (0, .ref (g 36)), (1, .int n), (2, .int q), (3, .int (fo o1)), (4, .int (nI i))]) hx hb dX0_inForce_74 hl (by decide) rfl (fun ls hl => ?_)
              refine lv_iload hx hb dX0_inForce_76 (lv_at hl 0 rfl) ?_
              refine lv_if_eq (tgt := 111) hx hb dX0_inForce_78 (by decide) (fun c_78 => absurd c_78 (by decide)) (fun c_78 => ?_)
              refine lv_iload_n hx hb dX0_inForce_81 rfl (lv_at hl 5 rfl) ?_
              refine lv_iconst (v := (-1)) hx hb dX0_inForce_82 (by decide) ?_
              refine lv_icmp_eq (tgt := 108) hx hb dX0_inForce_83 (by decide) (fun c_83 => ?_) (fun c_83 => ?_)
              · refine lv_iload hx hb dX0_inForce_108 (lv_at hl 6 rfl) ?_
                refine lv_istore_n (lv' := [(3, .int (nI i)), (6, .int 1), (5, .int (da (3 * i + 2))), (0, .ref (g 36)), (1, .int n), (2, .int q), (4, .int (nI i))]) hx hb dX0_inForce_110 rfl hl (by decide) rfl (fun ls hl => ?_)
                refine lv_iinc (v := nI (i + 1)) (lv' := [(4, .int (nI (i + 1))), (3, .int (nI i)), (6, .int 1), (5, .int (da (3 * i + 2))), (0, .ref (g 36)), (1, .int n), (2, .int q)]) hx hb dX0_inForce_111 hl (k := 6) rfl (nI_1 i) (by decide) rfl (fun ls hl => ?_)
                refine lv_goto (tgt := 5) hx hb dX0_inForce_114 (by decide) ?_
                exact ih_1 (some i) (i + 1) _ (by omega) (fun z hz => by cases hz; omega) (fcB_y (A := (fun i c => da (3 * i + c))) (hB.trans (fo_none (by omega) ho c_83)) (fch_t (A := (fun i c => da (3 * i + c))) c_40 c_54 (Or.inl c_60))) (by omega) (lv_sub hl [4, 5, 6, 1, 0] rfl)
              · obtain ⟨b9, rfl⟩ : ∃ b, o1 = some b := by
                  cases o1 with
                  | none => exact absurd rfl c_83
                  | some z => exact ⟨z, rfl⟩
                have hb9 := ho b9 rfl
                refine lv_aload_n hx hb dX0_inForce_86 rfl (lv_at hl 2 rfl) ?_
                refine va_get (D := G.1) (ci := 0) (v := .ref (g 43)) (C := RX0) (T := TX0) (N := 9) hx hb hts inlX0 hown hG.1 hP 36 (wl_at (by decide) hbk) rfl 3 (by decide) (hts (.fieldLink RX0 26 "SwornLists$Book" "acts" "LSwornLists$Rows;") w_57) (fun _ h9 => h9) rfl dX0_inForce_87 ?_
                refine lv_iload hx hb dX0_inForce_90 (lv_at hl 6 rfl) ?_
                refine lv_iconst (v := 1) hx hb dX0_inForce_92 (by decide) ?_
                refine rd_calli (va_runV (As := [.int (nI i), .int 1]) (rest := []) ⟨hx, hb, hml, hown, hts⟩ (r_at l G g hg f 43 20 3 na da (nI i) 1 har had (by first | assumption | omega | decide) (by first | assumption | omega | decide) (by first | assumption | omega | decide) (by first | assumption | omega | decide)) (my_cwV hts ok_X5_at w_225 rfl rfl ⟨Nat.le_of_ble_eq_true rfl, Nat.le_of_ble_eq_true rfl⟩) ⟨bP.blind, va_recv hG.1 hP (ci := 5) (q0 := 43) rfl (wl_at (by decide) har), fun U hU hW => ⟨rfl, by rw [hU]; exact hP, kG.warm hW hG⟩⟩ rfl rfl hl.1 rfl (lv_room (Nat.le_of_ble_eq_true rfl)) dX0_inForce_93 ⟨Nat.le_of_ble_eq_true rfl, Nat.le_of_ble_eq_true rfl⟩) (fun r hr9 => ?_)
                subst hr9
                refine my_bei (v := da (3 * i + 1)) (atQ (d := da) (w := 3) (i := i) (c := 1) hi9 (by omega) (by omega) (by omega)) ?_
                refine lv_aload_n hx hb dX0_inForce_96 rfl (lv_at hl 2 rfl) ?_
                refine va_get (D := G.1) (ci := 0) (v := .ref (g 43)) (C := RX0) (T := TX0) (N := 9) hx hb hts inlX0 hown hG.1 hP 36 (wl_at (by decide) hbk) rfl 3 (by decide) (hts (.fieldLink RX0 26 "SwornLists$Book" "acts" "LSwornLists$Rows;") w_57) (fun _ h9 => h9) rfl dX0_inForce_97 ?_
                refine lv_iload_n hx hb dX0_inForce_100 rfl (lv_at hl 5 rfl) ?_
                refine lv_iconst (v := 1) hx hb dX0_inForce_101 (by decide) ?_
                refine rd_calli (va_runV (As := [.int (nI b9), .int 1]) (rest := [.int (da (3 * i + 1))]) ⟨hx, hb, hml, hown, hts⟩ (r_at l G g hg f 43 20 3 na da (nI b9) 1 har had (by first | assumption | omega | decide) (by first | assumption | omega | decide) (by first | assumption | omega | decide) (by first | assumption | omega | decide)) (my_cwV hts ok_X5_at w_225 rfl rfl ⟨Nat.le_of_ble_eq_true rfl, Nat.le_of_ble_eq_true rfl⟩) ⟨bP.blind, va_recv hG.1 hP (ci := 5) (q0 := 43) rfl (wl_at (by decide) har), fun U hU hW => ⟨rfl, by rw [hU]; exact hP, kG.warm hW hG⟩⟩ rfl rfl hl.1 rfl (lv_room (Nat.le_of_ble_eq_true rfl)) dX0_inForce_102 ⟨Nat.le_of_ble_eq_true rfl, Nat.le_of_ble_eq_true rfl⟩) (fun r hr9 => ?_)
                subst hr9
                refine my_bei (v := da (3 * b9 + 1)) (atQ (d := da) (w := 3) (i := b9) (c := 1) hb9 (by omega) (by omega) (by omega)) ?_
                refine lv_icmp_lt (tgt := 111) hx hb dX0_inForce_105 (by decide) (fun c_105 => ?_) (fun c_105 => ?_)
                · refine lv_iinc (v := nI (i + 1)) (lv' := [(4, .int (nI (i + 1))), (6, .int 1), (5, .int (da (3 * i + 2))), (0, .ref (g 36)), (1, .int n), (2, .int q), (3, .int (nI b9))]) hx hb dX0_inForce_111 hl (k := 6) rfl (nI_1 i) (by decide) rfl (fun ls hl => ?_)
                  refine lv_goto (tgt := 5) hx hb dX0_inForce_114 (by decide) ?_
                  exact ih_1 (some b9) (i + 1) _ (by omega) (ho) (fcB_n (A := (fun i c => da (3 * i + c))) hB (fcc_2 (A := (fun i c => da (3 * i + c))) c_105)) (by omega) (lv_sub hl [3, 4, 5, 6, 0] rfl)
                · refine lv_iload hx hb dX0_inForce_108 (lv_at hl 6 rfl) ?_
                  refine lv_istore_n (lv' := [(3, .int (nI i)), (6, .int 1), (5, .int (da (3 * i + 2))), (0, .ref (g 36)), (1, .int n), (2, .int q), (4, .int (nI i))]) hx hb dX0_inForce_110 rfl hl (by decide) rfl (fun ls hl => ?_)
                  refine lv_iinc (v := nI (i + 1)) (lv' := [(4, .int (nI (i + 1))), (3, .int (nI i)), (6, .int 1), (5, .int (da (3 * i + 2))), (0, .ref (g 36)), (1, .int n), (2, .int q)]) hx hb dX0_inForce_111 hl (k := 6) rfl (nI_1 i) (by decide) rfl (fun ls hl => ?_)
                  refine lv_goto (tgt := 5) hx hb dX0_inForce_114 (by decide) ?_
                  exact ih_1 (some i) (i + 1) _ (by omega) (fun z hz => by cases hz; omega) (fcB_y (A := (fun i c => da (3 * i + c))) hB (fcc_1 (A := (fun i c => da (3 * i + c))) (fch_t (A := (fun i c => da (3 * i + c))) c_40 c_54 (Or.inl c_60)) c_105)) (by omega) (lv_sub hl [4, 5, 6, 1, 0] rfl)
            · refine lv_iload hx hb dX0_inForce_63 (lv_at hl 0 rfl) ?_
              refine lv_iload_n hx hb dX0_inForce_65 rfl (lv_at hl 3 rfl) ?_
              refine lv_icmp_le (tgt := 73) hx hb dX0_inForce_66 (by decide) (fun c_66 => ?_) (fun c_66 => ?_)
              · refine lv_iconst (v := 0) hx hb dX0_inForce_73 (by decide) ?_
                refine lv_istore (lv' := [(6, .int 0), (5, .int (da (3 * i + 2))), (0, .ref (g 36)), (1, .int n), (2, .int q), (3, .int (fo o1)), (4, .int (nI i))]) hx hb dX0_inForce_74 hl (by decide) rfl (fun ls hl => ?_)
                refine lv_iload hx hb dX0_inForce_76 (lv_at hl 0 rfl) ?_
                refine lv_if_eq (tgt := 111) hx hb dX0_inForce_78 (by decide) (fun c_78 => ?_) (fun c_78 => absurd (by decide) c_78)
                refine lv_iinc (v := nI (i + 1)) (lv' := [(4, .int (nI (i + 1))), (6, .int 0), (5, .int (da (3 * i + 2))), (0, .ref (g 36)), (1, .int n), (2, .int q), (3, .int (fo o1))]) hx hb dX0_inForce_111 hl (k := 6) rfl (nI_1 i) (by decide) rfl (fun ls hl => ?_)
                refine lv_goto (tgt := 5) hx hb dX0_inForce_114 (by decide) ?_
                exact ih_1 o1 (i + 1) _ (by omega) (ho) (fcB_n (A := (fun i c => da (3 * i + c))) hB (fcc_k (A := (fun i c => da (3 * i + c))) _ (fch_f (A := (fun i c => da (3 * i + c))) (Or.inr (Or.inr ⟨c_60, c_66⟩))))) (by omega) (lv_sub hl [3, 4, 5, 6, 0] rfl)
              · refine lv_iconst (v := 1) hx hb dX0_inForce_69 (by decide) ?_
                refine lv_goto (tgt := 74) hx hb dX0_inForce_70 (by decide) ?_
                refine lv_istore (lv' := [(6, .int 1), (5, .int (da (3 * i + 2))), (0, .ref (g 36)), (1, .int n), (2, .int q), (3, .int (fo o1)), (4, .int (nI i))]) hx hb dX0_inForce_74 hl (by decide) rfl (fun ls hl => ?_)
                refine lv_iload hx hb dX0_inForce_76 (lv_at hl 0 rfl) ?_
                refine lv_if_eq (tgt := 111) hx hb dX0_inForce_78 (by decide) (fun c_78 => absurd c_78 (by decide)) (fun c_78 => ?_)
                refine lv_iload_n hx hb dX0_inForce_81 rfl (lv_at hl 5 rfl) ?_
                refine lv_iconst (v := (-1)) hx hb dX0_inForce_82 (by decide) ?_
                refine lv_icmp_eq (tgt := 108) hx hb dX0_inForce_83 (by decide) (fun c_83 => ?_) (fun c_83 => ?_)
                · refine lv_iload hx hb dX0_inForce_108 (lv_at hl 6 rfl) ?_
                  refine lv_istore_n (lv' := [(3, .int (nI i)), (6, .int 1), (5, .int (da (3 * i + 2))), (0, .ref (g 36)), (1, .int n), (2, .int q), (4, .int (nI i))]) hx hb dX0_inForce_110 rfl hl (by decide) rfl (fun ls hl => ?_)
                  refine lv_iinc (v := nI (i + 1)) (lv' := [(4, .int (nI (i + 1))), (3, .int (nI i)), (6, .int 1), (5, .int (da (3 * i + 2))), (0, .ref (g 36)), (1, .int n), (2, .int q)]) hx hb dX0_inForce_111 hl (k := 6) rfl (nI_1 i) (by decide) rfl (fun ls hl => ?_)
                  refine lv_goto (tgt := 5) hx hb dX0_inForce_114 (by decide) ?_
                  exact ih_1 (some i) (i + 1) _ (by omega) (fun z hz => by cases hz; omega) (fcB_y (A := (fun i c => da (3 * i + c))) (hB.trans (fo_none (by omega) ho c_83)) (fch_t (A := (fun i c => da (3 * i + c))) c_40 c_54 (Or.inr c_66))) (by omega) (lv_sub hl [4, 5, 6, 1, 0] rfl)
                · obtain ⟨b9, rfl⟩ : ∃ b, o1 = some b := by
                    cases o1 with
                    | none => exact absurd rfl c_83
                    | some z => exact ⟨z, rfl⟩
                  have hb9 := ho b9 rfl
                  refine lv_aload_n hx hb dX0_inForce_86 rfl (lv_at hl 2 rfl) ?_
                  refine va_get (D := G.1) (ci := 0) (v := .ref (g 43)) (C := RX0) (T := TX0) (N := 9) hx hb hts inlX0 hown hG.1 hP 36 (wl_at (by decide) hbk) rfl 3 (by decide) (hts (.fieldLink RX0 26 "SwornLists$Book" "acts" "LSwornLists$Rows;") w_57) (fun _ h9 => h9) rfl dX0_inForce_87 ?_
                  refine lv_iload hx hb dX0_inForce_90 (lv_at hl 6 rfl) ?_
                  refine lv_iconst (v := 1) hx hb dX0_inForce_92 (by decide) ?_
                  refine rd_calli (va_runV (As := [.int (nI i), .int 1]) (rest := []) ⟨hx, hb, hml, hown, hts⟩ (r_at l G g hg f 43 20 3 na da (nI i) 1 har had (by first | assumption | omega | decide) (by first | assumption | omega | decide) (by first | assumption | omega | decide) (by first | assumption | omega | decide)) (my_cwV hts ok_X5_at w_225 rfl rfl ⟨Nat.le_of_ble_eq_true rfl, Nat.le_of_ble_eq_true rfl⟩) ⟨bP.blind, va_recv hG.1 hP (ci := 5) (q0 := 43) rfl (wl_at (by decide) har), fun U hU hW => ⟨rfl, by rw [hU]; exact hP, kG.warm hW hG⟩⟩ rfl rfl hl.1 rfl (lv_room (Nat.le_of_ble_eq_true rfl)) dX0_inForce_93 ⟨Nat.le_of_ble_eq_true rfl, Nat.le_of_ble_eq_true rfl⟩) (fun r hr9 => ?_)
                  subst hr9
                  refine my_bei (v := da (3 * i + 1)) (atQ (d := da) (w := 3) (i := i) (c := 1) hi9 (by omega) (by omega) (by omega)) ?_
                  refine lv_aload_n hx hb dX0_inForce_96 rfl (lv_at hl 2 rfl) ?_
                  refine va_get (D := G.1) (ci := 0) (v := .ref (g 43)) (C := RX0) (T := TX0) (N := 9) hx hb hts inlX0 hown hG.1 hP 36 (wl_at (by decide) hbk) rfl 3 (by decide) (hts (.fieldLink RX0 26 "SwornLists$Book" "acts" "LSwornLists$Rows;") w_57) (fun _ h9 => h9) rfl dX0_inForce_97 ?_
                  refine lv_iload_n hx hb dX0_inForce_100 rfl (lv_at hl 5 rfl) ?_
                  refine lv_iconst (v := 1) hx hb dX0_inForce_101 (by decide) ?_
                  refine rd_calli (va_runV (As := [.int (nI b9), .int 1]) (rest := [.int (da (3 * i + 1))]) ⟨hx, hb, hml, hown, hts⟩ (r_at l G g hg f 43 20 3 na da (nI b9) 1 har had (by first | assumption | omega | decide) (by first | assumption | omega | decide) (by first | assumption | omega | decide) (by first | assumption | omega | decide)) (my_cwV hts ok_X5_at w_225 rfl rfl ⟨Nat.le_of_ble_eq_true rfl, Nat.le_of_ble_eq_true rfl⟩) ⟨bP.blind, va_recv hG.1 hP (ci := 5) (q0 := 43) rfl (wl_at (by decide) har), fun U hU hW => ⟨rfl, by rw [hU]; exact hP, kG.warm hW hG⟩⟩ rfl rfl hl.1 rfl (lv_room (Nat.le_of_ble_eq_true rfl)) dX0_inForce_102 ⟨Nat.le_of_ble_eq_true rfl, Nat.le_of_ble_eq_true rfl⟩) (fun r hr9 => ?_)
                  subst hr9
                  refine my_bei (v := da (3 * b9 + 1)) (atQ (d := da) (w := 3) (i := b9) (c := 1) hb9 (by omega) (by omega) (by omega)) ?_
                  refine lv_icmp_lt (tgt := 111) hx hb dX0_inForce_105 (by decide) (fun c_105 => ?_) (fun c_105 => ?_)
                  · refine lv_iinc (v := nI (i + 1)) (lv' := [(4, .int (nI (i + 1))), (6, .int 1), (5, .int (da (3 * i + 2))), (0, .ref (g 36)), (1, .int n), (2, .int q), (3, .int (nI b9))]) hx hb dX0_inForce_111 hl (k := 6) rfl (nI_1 i) (by decide) rfl (fun ls hl => ?_)
                    refine lv_goto (tgt := 5) hx hb dX0_inForce_114 (by decide) ?_
                    exact ih_1 (some b9) (i + 1) _ (by omega) (ho) (fcB_n (A := (fun i c => da (3 * i + c))) hB (fcc_2 (A := (fun i c => da (3 * i + c))) c_105)) (by omega) (lv_sub hl [3, 4, 5, 6, 0] rfl)
                  · refine lv_iload hx hb dX0_inForce_108 (lv_at hl 6 rfl) ?_
                    refine lv_istore_n (lv' := [(3, .int (nI i)), (6, .int 1), (5, .int (da (3 * i + 2))), (0, .ref (g 36)), (1, .int n), (2, .int q), (4, .int (nI i))]) hx hb dX0_inForce_110 rfl hl (by decide) rfl (fun ls hl => ?_)
                    refine lv_iinc (v := nI (i + 1)) (lv' := [(4, .int (nI (i + 1))), (3, .int (nI i)), (6, .int 1), (5, .int (da (3 * i + 2))), (0, .ref (g 36)), (1, .int n), (2, .int q)]) hx hb dX0_inForce_111 hl (k := 6) rfl (nI_1 i) (by decide) rfl (fun ls hl => ?_)
                    refine lv_goto (tgt := 5) hx hb dX0_inForce_114 (by decide) ?_
                    exact ih_1 (some i) (i + 1) _ (by omega) (fun z hz => by cases hz; omega) (fcB_y (A := (fun i c => da (3 * i + c))) hB (fcc_1 (A := (fun i c => da (3 * i + c))) (fch_t (A := (fun i c => da (3 * i + c))) c_40 c_54 (Or.inr c_66)) c_105)) (by omega) (lv_sub hl [4, 5, 6, 1, 0] rfl)
  exact key1 (na + 1) none 0 _ (Nat.zero_le _) (fun z hz => by cases hz) (rfl) (by omega) (lv_sub hl [2, 3, 4, 1, 0] rfl)

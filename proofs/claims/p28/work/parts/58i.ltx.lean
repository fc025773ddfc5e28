/-- a text at place k: its length and its signs -/
def txt (G : gW) (g : Nat → Nat) (f : Nat → va_E) (k ln : Nat) (sg : Nat → Int32) : Prop := ∃ (sc : Nat) (sp : Nat → Int32), isT G g f k ln sc sg sp
theorem txt_fr {G : gW} {g : Nat → Nat} {f f' : Nat → va_E} {k ln : Nat} {sg : Nat → Int32} (h : txt G g f k ln sg) (e1 : f' k = f k) (e2 : f' (k + 1) = f (k + 1)) (e3 : f' (k + 2) = f (k + 2)) : txt G g f' k ln sg := by
  obtain ⟨sc, sp, h⟩ := h
  exact ⟨sc, sp, isT_fr h e1 e2 e3⟩
/-- a law at place k: its length and its signs; where B holds it was read without a FAULT, and its steps are those that the reference emits -/
def ltx (G : gW) (g : Nat → Nat) (f : Nat → va_E) (k ln : Nat) (sg : Nat → Int32) (B : Prop) : Prop := ∃ (sc : Nat) (sp : Nat → Int32), isT G g f k ln sc sg sp ∧ (B → rdA ln sg = -1 ∧ stk sp sc = (rdO ln sg).map cdp)
theorem ltx_fr {G : gW} {g : Nat → Nat} {f f' : Nat → va_E} {k ln : Nat} {sg : Nat → Int32} {B : Prop} (h : ltx G g f k ln sg B) (e1 : f' k = f k) (e2 : f' (k + 1) = f (k + 1)) (e3 : f' (k + 2) = f (k + 2)) : ltx G g f' k ln sg B := by
  obtain ⟨sc, sp, h, hb⟩ := h
  exact ⟨sc, sp, isT_fr h e1 e2 e3, hb⟩
theorem ltx_ok {G : gW} {g : Nat → Nat} {f : Nat → va_E} {k ln : Nat} {sg : Nat → Int32} {B : Prop} (h : ltx G g f k ln sg B) : okT G g f k := by
  obtain ⟨sc, sp, h, _⟩ := h
  exact ⟨_, sc, _, sp, h⟩
theorem ltx_im {G : gW} {g : Nat → Nat} {f : Nat → va_E} {k ln : Nat} {sg : Nat → Int32} {B B' : Prop} (h : ltx G g f k ln sg B) (hb : B' → B) : ltx G g f k ln sg B' := by
  obtain ⟨sc, sp, h, q⟩ := h
  exact ⟨sc, sp, h, fun z => q (hb z)⟩
theorem ltx_sk {G : gW} {g : Nat → Nat} {f : Nat → va_E} {N : Nat} {P : Nat → Nat} {L : Nat → Nat} {S : Nat → Nat → Int32} {B : Nat → Prop} (h : ∀ z, z < N → ltx G g f (P z) (L z) (S z) (B z)) : ∃ (cl : Nat → Nat) (sl : Nat → Nat → Int32), (∀ z, z < N → isT G g f (P z) (L z) (cl z) (S z) (sl z)) ∧ ∀ z, z < N → B z → rdA (L z) (S z) = -1 ∧ stk (sl z) (cl z) = (rdO (L z) (S z)).map cdp := by
  have h1 : ∀ z, ∃ sc : Nat, ∃ sp : Nat → Int32, z < N → isT G g f (P z) (L z) sc (S z) sp ∧ (B z → rdA (L z) (S z) = -1 ∧ stk sp sc = (rdO (L z) (S z)).map cdp) := fun z => by
    by_cases hz : z < N
    · obtain ⟨sc, sp, hh, hb⟩ := h z hz
      exact ⟨sc, sp, fun _ => ⟨hh, hb⟩⟩
    · exact ⟨0, fun _ => 0, fun q => absurd q hz⟩
  obtain ⟨cl, h2⟩ := Classical.skolem.mp h1
  obtain ⟨sl, h3⟩ := Classical.skolem.mp h2
  exact ⟨cl, sl, fun z hz => (h3 z hz).1, fun z hz => (h3 z hz).2⟩
theorem stk_congr {a b : Nat → Int32} : ∀ n : Nat, (∀ i, i < n → a i = b i) → stk a n = stk b n := by
  intro n
  induction n with
  | zero => intro _; rfl
  | succ n ih =>
    intro h
    show a n :: stk a n = b n :: stk b n
    rw [h n (by omega), ih (fun i hi => h i (by omega))]
theorem ltx_cp {ln sc : Nat} {sg sg2 sp sp2 : Nat → Int32} (hln : ln ≤ 50) (hsc : sc ≤ 50) (h : ∀ i, i < 50 → sg i = sg2 i ∧ sp i = sp2 i) (hr : rdA ln sg2 = -1 ∧ stk sp2 sc = (rdO ln sg2).map cdp) : rdA ln sg = -1 ∧ stk sp sc = (rdO ln sg).map cdp := by
  have e : ∀ k, k < ln → sg k = sg2 k := fun k hk => (h k (by omega)).1
  exact ⟨(rdA_congr e).trans hr.1, by rw [stk_congr sc (fun i hi => (h i (by omega)).2), hr.2, rdO_congr e]⟩


theorem pp_0 : pi0 0 = 0 := by decide
theorem pp_1 : pi0 1 = 1 := by decide
theorem pp_2 : pi0 2 = 119 := by decide
theorem pp_3 : pi0 3 = 120 := by decide
theorem pp_4 : pi0 4 = 121 := by decide
theorem pp_5 : pi0 5 = 122 := by decide
theorem pp_6 : pi0 6 = 123 := by decide
theorem pp_7 : pi0 7 = 124 := by decide
theorem pp_8 : pi0 8 = 125 := by decide
theorem pp_9 : pi0 9 = 126 := by decide
theorem pp_10 : pi0 10 = 127 := by decide
theorem pp_11 : pi0 11 = 128 := by decide
theorem pp_12 : pi0 12 = 95 := by decide
theorem pp_13 : pi0 13 = 96 := by decide
theorem pp_14 : pi0 14 = 97 := by decide
theorem pp_15 : pi0 15 = 98 := by decide
theorem pp_36 : pi0 36 = 2 := by decide
theorem pp_129 : pi0 129 = 129 := by decide
theorem pp_222 : pi0 222 = 222 := by decide
theorem pp_315 : pi0 315 = 315 := by decide
theorem pp_316 : pi0 316 = 316 := by decide
theorem pp_317 : pi0 317 = 317 := by decide
theorem pp_318 : pi0 318 = 318 := by decide
theorem pp_319 : pi0 319 = 319 := by decide
theorem pp_320 : pi0 320 = 320 := by decide
theorem pp_321 : pi0 321 = 321 := by decide
theorem pp_322 : pi0 322 = 322 := by decide
theorem pp_323 : pi0 323 = 323 := by decide
theorem pp_324 : pi0 324 = 324 := by decide
theorem pp_325 : pi0 325 = 325 := by decide
theorem pp_326 : pi0 326 = 326 := by decide
theorem pp_327 : pi0 327 = 327 := by decide
theorem pp_328 : pi0 328 = 328 := by decide
theorem pp_329 : pi0 329 = 329 := by decide
theorem pp_330 : pi0 330 = 330 := by decide
theorem pp_331 : pi0 331 = 331 := by decide
theorem pp_332 : pi0 332 = 332 := by decide
theorem st0_ok : stOK (upd (upd (fun _ => 0) (Int32.toNatClampNeg 5) 5) (Int32.toNatClampNeg 6) 20) 0 0 0 0 0 :=
  stOK.of rfl rfl rfl rfl rfl (by omega) (by omega) (by omega) (by omega) (by omega) (fun t ht => ⟨0, by omega, by show upd (upd (fun _ => 0) 5 5) 6 20 (51 * t + 262) = nI 0; rw [pk_un (by omega), pk_un (by omega)]; rfl⟩) (fun a ha => absurd ha (Nat.not_lt_zero _)) (fun a ha => absurd ha (Nat.not_lt_zero _))
theorem stI_0 (o : Nat) : stI (fun _ => 0) o :=
  ⟨0, 0, 0, 0, 0, stOK.of rfl rfl rfl rfl rfl (by omega) (by omega) (by omega) (by omega) (by omega) (fun t ht => ⟨0, by omega, rfl⟩) (fun a ha => absurd ha (Nat.not_lt_zero _)) (fun a ha => absurd ha (Nat.not_lt_zero _))⟩
theorem wl_pi {G : gW} {g : Nat → Nat} {f : Nat → va_E} {H : Heap} (h : va_P G.1 vwCl (wn 333 g f) H) : va_P G.1 vwCl (wl (fun k => g (pi0 k)) (fun k => f (pi0 k))) H := by
  refine h.by pi0 (fun k q hk => ?_)
  have hl := wl_none hk
  rw [wl_get hl] at hk
  cases hk
  exact wn_get (pi_ok k hl).1
theorem gOK_pi {g : Nat → Nat} {f : Nat → va_E} {A : Nat → Prop} (h : va_D A (wn 333 g f)) : gOK (fun k => g (pi0 k)) := by
  intro i j hi hj e
  have h1 := h.1 (pi0 i) (pi0 j) _ _ (wn_get (pi_ok i hi).1) (wn_get (pi_ok j hj).1) e
  have h2 := congrArg pi1 h1
  rw [(pi_ok i hi).2, (pi_ok j hj).2] at h2
  exact h2
theorem gA_pi {g : Nat → Nat} {f : Nat → va_E} {A : Nat → Prop} (h : va_D A (wn 333 g f)) : ∀ q, gA (fun k => g (pi0 k)) q → A q := by
  intro q hq
  obtain ⟨k, hk, rfl⟩ := hq
  exact h.2 _ _ (wn_get (pi_ok k hk).1)


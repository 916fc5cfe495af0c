section P75
theorem lcmp_self {x y : Int64} (h : x = y) : lg_cmp x y = 0 := by
  subst h
  have h1 := lgl x x
  have h2 := lgg x x
  have e1 : ¬ lg_cmp x x < 0 := fun h => Int64.lt_irrefl (h1.mp h)
  have e2 : ¬ 0 < lg_cmp x x := fun h => Int64.lt_irrefl (h2.mp h)
  exact Int32.le_antisymm (Int32.not_lt.mp e2) (Int32.not_lt.mp e1)
theorem m_thrown {M : Hp} {z b k : Nat} {I : Row} {A : Nat → Row} (hA : MAt M b I A) (hk : I 0 = nI k) : Runs mX8_thrown [.ref b] M z (gD (some (.int (nI k))) M z) := by
  refine runs_of plX8 rfl (Nat.le_of_ble_eq_true rfl) ?_
  show WP mX8_thrown 0 [some (.ref b)] [] M z 0 0 _
  refine g_aload_0 dX8_thrown_0 ?_
  refine g_get dX8_thrown_1 (fX8_47 rfl) hA.1 rfl ?_
  exact g_ireturn rfl rfl dX8_thrown_4 (Nat.le_of_ble_eq_true rfl) (Nat.le_of_ble_eq_true rfl) ⟨by rw [hk], rfl, rfl⟩
theorem w_0 {Φ : GR → Hp → Nat → Prop} {M : Hp} {z k n sb a b o lo i Ln : Nat} {xs : Nat → Int32} {l5 l6 l7 l8 : Option Value} (hJ : JS M a b o lo z) (hX : M sb = some (aX Ln xs)) (hsb : sb < a) (hi : i + 3 < Ln) (hLn : Ln ≤ 2048) (hk0 : k + 23 ≤ 601024) (hn0 : n + 984 ≤ 7293034) (hK : ∀ M' z' k' n' l5 l6 l7 l8, k' ≤ k + 23 → n' ≤ n + 984 → JS M' a b o lo z' → M' sb = some (aX Ln xs) → WP mL_law 2961 [some (.ref sb), some (.ref a), some (.ref b), some (.ref o), some (.int (nI (i))), l5, l6, l7, l8] [] M' z' k' n' Φ) : WP mL_law 296 [some (.ref sb), some (.ref a), some (.ref b), some (.ref o), some (.int (nI (i))), l5, l6, l7, l8] [] M z k n Φ := by
  obtain ⟨f, t, nn, h, sv, len, g, hJ⟩ := hJ
  obtain ⟨kq, v, Ψ, hkq, hPv, hcw, hm⟩ := s_append (w0 := xs (i + 1)) hJ
  refine g_aload_1 dL_law_296 ?_
  refine g_aload_0 dL_law_297 ?_
  refine g_iload_4 dL_law_298 ?_
  refine g_iconst (v := nI 1) dL_law_300 rfl ?_
  refine g_iaddN dL_law_301 ?_
  refine g_ialdXN dL_law_302 hX (by omega) (by omega) ?_
  refine g_aload_3 dL_law_303 ?_
  refine g_staH (as := [.ref a, .int (xs (i + 1)), .ref o]) dL_law_304 (sL_148 rfl) rfl rfl rfl (Nat.le_of_ble_eq_true rfl) (by show k + 2 ≤ 601024; omega) (by show n + 12 ≤ 7293034; omega) hcw (fun r M2 z2 hq => ?_) (fun E M2 z2 hq => by obtain ⟨hq, -⟩ := hq; cases hq)
  obtain ⟨hr, hΨ⟩ := hq
  cases hr
  obtain ⟨⟨⟨I9, A9, hA9⟩, hf1⟩, hmm⟩ := hm _ _ hΨ
  have hX2 := (hf1 sb hsb).trans hX
  refine g_istore_5 rfl dL_law_307 ?_
  refine g_aload_2 dL_law_309 ?_
  refine g_aload_0 dL_law_310 ?_
  refine g_iload_4 dL_law_311 ?_
  refine g_iconst (v := nI 1) dL_law_313 rfl ?_
  refine g_iaddN dL_law_314 ?_
  refine g_ialdXN dL_law_315 hX2 (by omega) (by omega) ?_
  refine g_v1 dL_law_316 (vL_153 rfl) rfl hA9.1 (Nat.le_of_ble_eq_true rfl) (by show k + 2 + 0 ≤ 601024; omega) (by show n + 12 + 0 ≤ 7293034; omega) (hmm) (fun r M2 z2 hq => ?_) (fun E M2 z2 hq => by obtain ⟨hq, -⟩ := hq; cases hq)
  obtain ⟨hr, ⟨⟨I3, A3, hA3, hk3⟩, ⟨fo, hfo, hv⟩, hJ3⟩, hf3⟩ := hq
  cases hr
  refine g_istore_6 rfl dL_law_319 ?_
  refine g_aload_2 dL_law_321 ?_
  refine g_v0_1 dL_law_322 (vL_154 rfl) rfl hA3.1 (Nat.le_of_ble_eq_true rfl) ⟨rfl, rfl⟩ (by show k + 2 + 0 ≤ 601024; omega) (by show n + 12 + 0 ≤ 7293034; omega) (m_thrown hA3 hk3) ?_
  refine g_iload_5 dL_law_325 ?_
  refine g_icmp_eq (tgt := 332) dL_law_327 (by decide)  (fun _ => ?_) (fun h327 => absurd rfl h327)
  refine g_iload_5 dL_law_332 ?_
  refine g_if_neN (tgt := 349) dL_law_334 (by decide) (by omega) (fun h334 => ?_) (fun h334 => ?_)
  · refine g_goto (tgt := 2961) dL_law_349 (by decide) ?_
    exact hK _ _ _ _ _ _ _ _ (by show k + 2 + 0 ≤ k + 23; omega) (by show n + 12 + 0 ≤ n + 984; omega) hJ3 ((hf3 sb hsb).trans hX2)
  · have hv0 := hv h334
    refine g_aload_3 dL_law_337 ?_
    refine g_iconst (v := nI 0) dL_law_338 rfl ?_
    refine g_laldN dL_law_339 hfo (by omega) (by decide) ?_
    refine g_iload_6 dL_law_340 ?_
    refine g_i2l dL_law_342 ?_
    refine g_lcmp dL_law_343 ?_
    refine g_if_eq (tgt := 349) dL_law_344 (by decide)  (fun _ => ?_) (fun h344 => absurd (lcmp_self hv0) h344)
    refine g_goto (tgt := 2961) dL_law_349 (by decide) ?_
    exact hK _ _ _ _ _ _ _ _ (by show k + 2 + 0 ≤ k + 23; omega) (by show n + 12 + 0 ≤ n + 984; omega) hJ3 ((hf3 sb hsb).trans hX2)
theorem w_1 {Φ : GR → Hp → Nat → Prop} {M : Hp} {z k n sb a b o lo i Ln : Nat} {xs : Nat → Int32} {l5 l6 l7 l8 : Option Value} (hJ : JS M a b o lo z) (hX : M sb = some (aX Ln xs)) (hsb : sb < a) (hi : i + 3 < Ln) (hLn : Ln ≤ 2048) (hk0 : k + 23 ≤ 601024) (hn0 : n + 984 ≤ 7293034) (hK : ∀ M' z' k' n' l5 l6 l7 l8, k' ≤ k + 23 → n' ≤ n + 984 → JS M' a b o lo z' → M' sb = some (aX Ln xs) → WP mL_law 2961 [some (.ref sb), some (.ref a), some (.ref b), some (.ref o), some (.int (nI (i))), l5, l6, l7, l8] [] M' z' k' n' Φ) : WP mL_law 352 [some (.ref sb), some (.ref a), some (.ref b), some (.ref o), some (.int (nI (i))), l5, l6, l7, l8] [] M z k n Φ := by
  obtain ⟨f, t, nn, h, sv, len, g, hJ⟩ := hJ
  obtain ⟨x, Ψ, hcw, hm⟩ := s_clearText hJ
  refine g_aload_1 dL_law_352 ?_
  refine g_v0 dL_law_353 (vL_157 rfl) rfl hJ.1.1 (Nat.le_of_ble_eq_true rfl) (by show k + 0 ≤ 601024; omega) (by show n + 0 ≤ 7293034; omega) (hcw) (fun r M2 z2 hq => ?_) (fun E M2 z2 hq => by obtain ⟨hq, -⟩ := hq; cases hq)
  obtain ⟨hr, hΨ⟩ := hq
  cases hr
  obtain ⟨⟨⟨I9, A9, hA9⟩, hf1⟩, hmm⟩ := hm _ _ hΨ
  have hX2 := (hf1 sb hsb).trans hX
  refine g_aload_2 dL_law_356 ?_
  refine g_v0 dL_law_357 (vL_160 rfl) rfl hA9.1 (Nat.le_of_ble_eq_true rfl) (by show k + 0 + 0 ≤ 601024; omega) (by show n + 0 + 0 ≤ 7293034; omega) (hmm) (fun r M2 z2 hq => ?_) (fun E M2 z2 hq => by obtain ⟨hq, -⟩ := hq; cases hq)
  obtain ⟨hr, hJ3, hf3⟩ := hq
  cases hr
  refine g_icmp_eq (tgt := 2961) dL_law_360 (by decide)  (fun _ => ?_) (fun h360 => absurd rfl h360)
  exact hK _ _ _ _ _ _ _ _ (by show k + 0 + 0 ≤ k + 23; omega) (by show n + 0 + 0 ≤ n + 984; omega) hJ3 ((hf3 sb hsb).trans hX2)
theorem w_2 {Φ : GR → Hp → Nat → Prop} {M : Hp} {z k n sb a b o lo i Ln : Nat} {xs : Nat → Int32} {l5 l6 l7 l8 : Option Value} (hJ : JS M a b o lo z) (hX : M sb = some (aX Ln xs)) (hsb : sb < a) (hi : i + 3 < Ln) (hLn : Ln ≤ 2048) (hk0 : k + 23 ≤ 601024) (hn0 : n + 984 ≤ 7293034) (hK : ∀ M' z' k' n' l5 l6 l7 l8, k' ≤ k + 23 → n' ≤ n + 984 → JS M' a b o lo z' → M' sb = some (aX Ln xs) → WP mL_law 2961 [some (.ref sb), some (.ref a), some (.ref b), some (.ref o), some (.int (nI (i))), l5, l6, l7, l8] [] M' z' k' n' Φ) : WP mL_law 365 [some (.ref sb), some (.ref a), some (.ref b), some (.ref o), some (.int (nI (i))), l5, l6, l7, l8] [] M z k n Φ := by
  obtain ⟨f, t, nn, h, sv, len, g, hJ⟩ := hJ
  obtain ⟨x, Ψ, hcw, hm⟩ := s_errorPosition hJ
  refine g_aload_1 dL_law_365 ?_
  refine g_v0 dL_law_366 (vL_161 rfl) rfl hJ.1.1 (Nat.le_of_ble_eq_true rfl) (by show k + 0 ≤ 601024; omega) (by show n + 0 ≤ 7293034; omega) (hcw) (fun r M2 z2 hq => ?_) (fun E M2 z2 hq => by obtain ⟨hq, -⟩ := hq; cases hq)
  obtain ⟨hr, hΨ⟩ := hq
  cases hr
  obtain ⟨⟨⟨I9, A9, hA9⟩, hf1⟩, hmm⟩ := hm _ _ hΨ
  have hX2 := (hf1 sb hsb).trans hX
  refine g_aload_2 dL_law_369 ?_
  refine g_v0 dL_law_370 (vL_164 rfl) rfl hA9.1 (Nat.le_of_ble_eq_true rfl) (by show k + 0 + 0 ≤ 601024; omega) (by show n + 0 + 0 ≤ 7293034; omega) (hmm) (fun r M2 z2 hq => ?_) (fun E M2 z2 hq => by obtain ⟨hq, -⟩ := hq; cases hq)
  obtain ⟨hr, hJ3, hf3⟩ := hq
  cases hr
  refine g_icmp_eq (tgt := 2961) dL_law_373 (by decide)  (fun _ => ?_) (fun h373 => absurd rfl h373)
  exact hK _ _ _ _ _ _ _ _ (by show k + 0 + 0 ≤ k + 23; omega) (by show n + 0 + 0 ≤ n + 984; omega) hJ3 ((hf3 sb hsb).trans hX2)
theorem w_3 {Φ : GR → Hp → Nat → Prop} {M : Hp} {z k n sb a b o lo i Ln : Nat} {xs : Nat → Int32} {l5 l6 l7 l8 : Option Value} (hJ : JS M a b o lo z) (hX : M sb = some (aX Ln xs)) (hsb : sb < a) (hi : i + 3 < Ln) (hLn : Ln ≤ 2048) (hk0 : k + 23 ≤ 601024) (hn0 : n + 984 ≤ 7293034) (hK : ∀ M' z' k' n' l5 l6 l7 l8, k' ≤ k + 23 → n' ≤ n + 984 → JS M' a b o lo z' → M' sb = some (aX Ln xs) → WP mL_law 2961 [some (.ref sb), some (.ref a), some (.ref b), some (.ref o), some (.int (nI (i))), l5, l6, l7, l8] [] M' z' k' n' Φ) : WP mL_law 378 [some (.ref sb), some (.ref a), some (.ref b), some (.ref o), some (.int (nI (i))), l5, l6, l7, l8] [] M z k n Φ := by
  obtain ⟨f, t, nn, h, sv, len, g, hJ⟩ := hJ
  obtain ⟨kq, v, Ψ, hkq, hPv, hcw, hm⟩ := s_planOf (w0 := xs (i + 1)) hJ
  refine g_aload_1 dL_law_378 ?_
  refine g_aload_0 dL_law_379 ?_
  refine g_iload_4 dL_law_380 ?_
  refine g_iconst (v := nI 1) dL_law_382 rfl ?_
  refine g_iaddN dL_law_383 ?_
  refine g_ialdXN dL_law_384 hX (by omega) (by omega) ?_
  refine g_aload_3 dL_law_385 ?_
  refine g_staH (as := [.ref a, .int (xs (i + 1)), .ref o]) dL_law_386 (sL_165 rfl) rfl rfl rfl (Nat.le_of_ble_eq_true rfl) (by show k + 1 ≤ 601024; omega) (by show n + 6 ≤ 7293034; omega) hcw (fun r M2 z2 hq => ?_) (fun E M2 z2 hq => by obtain ⟨hq, -⟩ := hq; cases hq)
  obtain ⟨hr, hΨ⟩ := hq
  cases hr
  obtain ⟨⟨⟨I9, A9, hA9⟩, hf1⟩, hmm⟩ := hm _ _ hΨ
  have hX2 := (hf1 sb hsb).trans hX
  refine g_istore_5 rfl dL_law_389 ?_
  refine g_aload_2 dL_law_391 ?_
  refine g_aload_0 dL_law_392 ?_
  refine g_iload_4 dL_law_393 ?_
  refine g_iconst (v := nI 1) dL_law_395 rfl ?_
  refine g_iaddN dL_law_396 ?_
  refine g_ialdXN dL_law_397 hX2 (by omega) (by omega) ?_
  refine g_v1 dL_law_398 (vL_167 rfl) rfl hA9.1 (Nat.le_of_ble_eq_true rfl) (by show k + 1 + 0 ≤ 601024; omega) (by show n + 6 + 0 ≤ 7293034; omega) (hmm) (fun r M2 z2 hq => ?_) (fun E M2 z2 hq => by obtain ⟨hq, -⟩ := hq; cases hq)
  obtain ⟨hr, ⟨⟨I3, A3, hA3, hk3⟩, ⟨fo, hfo, hv⟩, hJ3⟩, hf3⟩ := hq
  cases hr
  refine g_istore_6 rfl dL_law_401 ?_
  refine g_aload_2 dL_law_403 ?_
  refine g_v0_1 dL_law_404 (vL_154 rfl) rfl hA3.1 (Nat.le_of_ble_eq_true rfl) ⟨rfl, rfl⟩ (by show k + 1 + 0 ≤ 601024; omega) (by show n + 6 + 0 ≤ 7293034; omega) (m_thrown hA3 hk3) ?_
  refine g_iload_5 dL_law_407 ?_
  refine g_icmp_eq (tgt := 414) dL_law_409 (by decide)  (fun _ => ?_) (fun h409 => absurd rfl h409)
  refine g_iload_5 dL_law_414 ?_
  refine g_if_neN (tgt := 431) dL_law_416 (by decide) (by omega) (fun h416 => ?_) (fun h416 => ?_)
  · refine g_goto (tgt := 2961) dL_law_431 (by decide) ?_
    exact hK _ _ _ _ _ _ _ _ (by show k + 1 + 0 ≤ k + 23; omega) (by show n + 6 + 0 ≤ n + 984; omega) hJ3 ((hf3 sb hsb).trans hX2)
  · have hv0 := hv h416
    refine g_aload_3 dL_law_419 ?_
    refine g_iconst (v := nI 0) dL_law_420 rfl ?_
    refine g_laldN dL_law_421 hfo (by omega) (by decide) ?_
    refine g_iload_6 dL_law_422 ?_
    refine g_i2l dL_law_424 ?_
    refine g_lcmp dL_law_425 ?_
    refine g_if_eq (tgt := 431) dL_law_426 (by decide)  (fun _ => ?_) (fun h426 => absurd (lcmp_self hv0) h426)
    refine g_goto (tgt := 2961) dL_law_431 (by decide) ?_
    exact hK _ _ _ _ _ _ _ _ (by show k + 1 + 0 ≤ k + 23; omega) (by show n + 6 + 0 ≤ n + 984; omega) hJ3 ((hf3 sb hsb).trans hX2)
theorem w_4 {Φ : GR → Hp → Nat → Prop} {M : Hp} {z k n sb a b o lo i Ln : Nat} {xs : Nat → Int32} {l5 l6 l7 l8 : Option Value} (hJ : JS M a b o lo z) (hX : M sb = some (aX Ln xs)) (hsb : sb < a) (hi : i + 3 < Ln) (hLn : Ln ≤ 2048) (hk0 : k + 23 ≤ 601024) (hn0 : n + 984 ≤ 7293034) (hK : ∀ M' z' k' n' l5 l6 l7 l8, k' ≤ k + 23 → n' ≤ n + 984 → JS M' a b o lo z' → M' sb = some (aX Ln xs) → WP mL_law 2961 [some (.ref sb), some (.ref a), some (.ref b), some (.ref o), some (.int (nI (i))), l5, l6, l7, l8] [] M' z' k' n' Φ) : WP mL_law 434 [some (.ref sb), some (.ref a), some (.ref b), some (.ref o), some (.int (nI (i))), l5, l6, l7, l8] [] M z k n Φ := by
  obtain ⟨f, t, nn, h, sv, len, g, hJ⟩ := hJ
  obtain ⟨kq, v, Ψ, hkq, hPv, hcw, hm⟩ := s_loopOf (w0 := xs (i + 1)) hJ
  refine g_aload_1 dL_law_434 ?_
  refine g_aload_0 dL_law_435 ?_
  refine g_iload_4 dL_law_436 ?_
  refine g_iconst (v := nI 1) dL_law_438 rfl ?_
  refine g_iaddN dL_law_439 ?_
  refine g_ialdXN dL_law_440 hX (by omega) (by omega) ?_
  refine g_aload_3 dL_law_441 ?_
  refine g_staH (as := [.ref a, .int (xs (i + 1)), .ref o]) dL_law_442 (sL_168 rfl) rfl rfl rfl (Nat.le_of_ble_eq_true rfl) (by show k + 1 ≤ 601024; omega) (by show n + 6 ≤ 7293034; omega) hcw (fun r M2 z2 hq => ?_) (fun E M2 z2 hq => by obtain ⟨hq, -⟩ := hq; cases hq)
  obtain ⟨hr, hΨ⟩ := hq
  cases hr
  obtain ⟨⟨⟨I9, A9, hA9⟩, hf1⟩, hmm⟩ := hm _ _ hΨ
  have hX2 := (hf1 sb hsb).trans hX
  refine g_istore_5 rfl dL_law_445 ?_
  refine g_aload_2 dL_law_447 ?_
  refine g_aload_0 dL_law_448 ?_
  refine g_iload_4 dL_law_449 ?_
  refine g_iconst (v := nI 1) dL_law_451 rfl ?_
  refine g_iaddN dL_law_452 ?_
  refine g_ialdXN dL_law_453 hX2 (by omega) (by omega) ?_
  refine g_v1 dL_law_454 (vL_170 rfl) rfl hA9.1 (Nat.le_of_ble_eq_true rfl) (by show k + 1 + 0 ≤ 601024; omega) (by show n + 6 + 0 ≤ 7293034; omega) (hmm) (fun r M2 z2 hq => ?_) (fun E M2 z2 hq => by obtain ⟨hq, -⟩ := hq; cases hq)
  obtain ⟨hr, ⟨⟨I3, A3, hA3, hk3⟩, ⟨fo, hfo, hv⟩, hJ3⟩, hf3⟩ := hq
  cases hr
  refine g_istore_6 rfl dL_law_457 ?_
  refine g_aload_2 dL_law_459 ?_
  refine g_v0_1 dL_law_460 (vL_154 rfl) rfl hA3.1 (Nat.le_of_ble_eq_true rfl) ⟨rfl, rfl⟩ (by show k + 1 + 0 ≤ 601024; omega) (by show n + 6 + 0 ≤ 7293034; omega) (m_thrown hA3 hk3) ?_
  refine g_iload_5 dL_law_463 ?_
  refine g_icmp_eq (tgt := 470) dL_law_465 (by decide)  (fun _ => ?_) (fun h465 => absurd rfl h465)
  refine g_iload_5 dL_law_470 ?_
  refine g_if_neN (tgt := 487) dL_law_472 (by decide) (by omega) (fun h472 => ?_) (fun h472 => ?_)
  · refine g_goto (tgt := 2961) dL_law_487 (by decide) ?_
    exact hK _ _ _ _ _ _ _ _ (by show k + 1 + 0 ≤ k + 23; omega) (by show n + 6 + 0 ≤ n + 984; omega) hJ3 ((hf3 sb hsb).trans hX2)
  · have hv0 := hv h472
    refine g_aload_3 dL_law_475 ?_
    refine g_iconst (v := nI 0) dL_law_476 rfl ?_
    refine g_laldN dL_law_477 hfo (by omega) (by decide) ?_
    refine g_iload_6 dL_law_478 ?_
    refine g_i2l dL_law_480 ?_
    refine g_lcmp dL_law_481 ?_
    refine g_if_eq (tgt := 487) dL_law_482 (by decide)  (fun _ => ?_) (fun h482 => absurd (lcmp_self hv0) h482)
    refine g_goto (tgt := 2961) dL_law_487 (by decide) ?_
    exact hK _ _ _ _ _ _ _ _ (by show k + 1 + 0 ≤ k + 23; omega) (by show n + 6 + 0 ≤ n + 984; omega) hJ3 ((hf3 sb hsb).trans hX2)
theorem w_5 {Φ : GR → Hp → Nat → Prop} {M : Hp} {z k n sb a b o lo i Ln : Nat} {xs : Nat → Int32} {l5 l6 l7 l8 : Option Value} (hJ : JS M a b o lo z) (hX : M sb = some (aX Ln xs)) (hsb : sb < a) (hi : i + 3 < Ln) (hLn : Ln ≤ 2048) (hk0 : k + 23 ≤ 601024) (hn0 : n + 984 ≤ 7293034) (hK : ∀ M' z' k' n' l5 l6 l7 l8, k' ≤ k + 23 → n' ≤ n + 984 → JS M' a b o lo z' → M' sb = some (aX Ln xs) → WP mL_law 2961 [some (.ref sb), some (.ref a), some (.ref b), some (.ref o), some (.int (nI (i))), l5, l6, l7, l8] [] M' z' k' n' Φ) : WP mL_law 490 [some (.ref sb), some (.ref a), some (.ref b), some (.ref o), some (.int (nI (i))), l5, l6, l7, l8] [] M z k n Φ := by
  obtain ⟨f, t, nn, h, sv, len, g, hJ⟩ := hJ
  obtain ⟨kq, v, Ψ, hkq, hPv, hcw, hm⟩ := s_heightOf (w0 := xs (i + 1)) hJ
  refine g_aload_1 dL_law_490 ?_
  refine g_aload_0 dL_law_491 ?_
  refine g_iload_4 dL_law_492 ?_
  refine g_iconst (v := nI 1) dL_law_494 rfl ?_
  refine g_iaddN dL_law_495 ?_
  refine g_ialdXN dL_law_496 hX (by omega) (by omega) ?_
  refine g_aload_3 dL_law_497 ?_
  refine g_staH (as := [.ref a, .int (xs (i + 1)), .ref o]) dL_law_498 (sL_171 rfl) rfl rfl rfl (Nat.le_of_ble_eq_true rfl) (by show k + 1 ≤ 601024; omega) (by show n + 6 ≤ 7293034; omega) hcw (fun r M2 z2 hq => ?_) (fun E M2 z2 hq => by obtain ⟨hq, -⟩ := hq; cases hq)
  obtain ⟨hr, hΨ⟩ := hq
  cases hr
  obtain ⟨⟨⟨I9, A9, hA9⟩, hf1⟩, hmm⟩ := hm _ _ hΨ
  have hX2 := (hf1 sb hsb).trans hX
  refine g_istore_5 rfl dL_law_501 ?_
  refine g_aload_2 dL_law_503 ?_
  refine g_aload_0 dL_law_504 ?_
  refine g_iload_4 dL_law_505 ?_
  refine g_iconst (v := nI 1) dL_law_507 rfl ?_
  refine g_iaddN dL_law_508 ?_
  refine g_ialdXN dL_law_509 hX2 (by omega) (by omega) ?_
  refine g_v1 dL_law_510 (vL_173 rfl) rfl hA9.1 (Nat.le_of_ble_eq_true rfl) (by show k + 1 + 0 ≤ 601024; omega) (by show n + 6 + 0 ≤ 7293034; omega) (hmm) (fun r M2 z2 hq => ?_) (fun E M2 z2 hq => by obtain ⟨hq, -⟩ := hq; cases hq)
  obtain ⟨hr, ⟨⟨I3, A3, hA3, hk3⟩, ⟨fo, hfo, hv⟩, hJ3⟩, hf3⟩ := hq
  cases hr
  refine g_istore_6 rfl dL_law_513 ?_
  refine g_aload_2 dL_law_515 ?_
  refine g_v0_1 dL_law_516 (vL_154 rfl) rfl hA3.1 (Nat.le_of_ble_eq_true rfl) ⟨rfl, rfl⟩ (by show k + 1 + 0 ≤ 601024; omega) (by show n + 6 + 0 ≤ 7293034; omega) (m_thrown hA3 hk3) ?_
  refine g_iload_5 dL_law_519 ?_
  refine g_icmp_eq (tgt := 526) dL_law_521 (by decide)  (fun _ => ?_) (fun h521 => absurd rfl h521)
  refine g_iload_5 dL_law_526 ?_
  refine g_if_neN (tgt := 543) dL_law_528 (by decide) (by omega) (fun h528 => ?_) (fun h528 => ?_)
  · refine g_goto (tgt := 2961) dL_law_543 (by decide) ?_
    exact hK _ _ _ _ _ _ _ _ (by show k + 1 + 0 ≤ k + 23; omega) (by show n + 6 + 0 ≤ n + 984; omega) hJ3 ((hf3 sb hsb).trans hX2)
  · have hv0 := hv h528
    refine g_aload_3 dL_law_531 ?_
    refine g_iconst (v := nI 0) dL_law_532 rfl ?_
    refine g_laldN dL_law_533 hfo (by omega) (by decide) ?_
    refine g_iload_6 dL_law_534 ?_
    refine g_i2l dL_law_536 ?_
    refine g_lcmp dL_law_537 ?_
    refine g_if_eq (tgt := 543) dL_law_538 (by decide)  (fun _ => ?_) (fun h538 => absurd (lcmp_self hv0) h538)
    refine g_goto (tgt := 2961) dL_law_543 (by decide) ?_
    exact hK _ _ _ _ _ _ _ _ (by show k + 1 + 0 ≤ k + 23; omega) (by show n + 6 + 0 ≤ n + 984; omega) hJ3 ((hf3 sb hsb).trans hX2)
theorem w_6 {Φ : GR → Hp → Nat → Prop} {M : Hp} {z k n sb a b o lo i Ln : Nat} {xs : Nat → Int32} {l5 l6 l7 l8 : Option Value} (hJ : JS M a b o lo z) (hX : M sb = some (aX Ln xs)) (hsb : sb < a) (hi : i + 3 < Ln) (hLn : Ln ≤ 2048) (hk0 : k + 23 ≤ 601024) (hn0 : n + 984 ≤ 7293034) (hK : ∀ M' z' k' n' l5 l6 l7 l8, k' ≤ k + 23 → n' ≤ n + 984 → JS M' a b o lo z' → M' sb = some (aX Ln xs) → WP mL_law 2961 [some (.ref sb), some (.ref a), some (.ref b), some (.ref o), some (.int (nI (i))), l5, l6, l7, l8] [] M' z' k' n' Φ) : WP mL_law 546 [some (.ref sb), some (.ref a), some (.ref b), some (.ref o), some (.int (nI (i))), l5, l6, l7, l8] [] M z k n Φ := by
  obtain ⟨f, t, nn, h, sv, len, g, hJ⟩ := hJ
  obtain ⟨kq, v, Ψ, hkq, hPv, hcw, hm⟩ := s_isSkipped (w0 := xs (i + 1)) hJ
  refine g_aload_1 dL_law_546 ?_
  refine g_aload_0 dL_law_547 ?_
  refine g_iload_4 dL_law_548 ?_
  refine g_iconst (v := nI 1) dL_law_550 rfl ?_
  refine g_iaddN dL_law_551 ?_
  refine g_ialdXN dL_law_552 hX (by omega) (by omega) ?_
  refine g_aload_3 dL_law_553 ?_
  refine g_staH (as := [.ref a, .int (xs (i + 1)), .ref o]) dL_law_554 (sL_174 rfl) rfl rfl rfl (Nat.le_of_ble_eq_true rfl) (by show k + 1 ≤ 601024; omega) (by show n + 6 ≤ 7293034; omega) hcw (fun r M2 z2 hq => ?_) (fun E M2 z2 hq => by obtain ⟨hq, -⟩ := hq; cases hq)
  obtain ⟨hr, hΨ⟩ := hq
  cases hr
  obtain ⟨⟨⟨I9, A9, hA9⟩, hf1⟩, hmm⟩ := hm _ _ hΨ
  have hX2 := (hf1 sb hsb).trans hX
  refine g_istore_5 rfl dL_law_557 ?_
  refine g_aload_2 dL_law_559 ?_
  refine g_aload_0 dL_law_560 ?_
  refine g_iload_4 dL_law_561 ?_
  refine g_iconst (v := nI 1) dL_law_563 rfl ?_
  refine g_iaddN dL_law_564 ?_
  refine g_ialdXN dL_law_565 hX2 (by omega) (by omega) ?_
  refine g_v1 dL_law_566 (vL_176 rfl) rfl hA9.1 (Nat.le_of_ble_eq_true rfl) (by show k + 1 + 0 ≤ 601024; omega) (by show n + 6 + 0 ≤ 7293034; omega) (hmm) (fun r M2 z2 hq => ?_) (fun E M2 z2 hq => by obtain ⟨hq, -⟩ := hq; cases hq)
  obtain ⟨hr, ⟨⟨I3, A3, hA3, hk3⟩, ⟨fo, hfo, hv⟩, hJ3⟩, hf3⟩ := hq
  cases hr
  refine g_istore_6 rfl dL_law_569 ?_
  refine g_aload_2 dL_law_571 ?_
  refine g_v0_1 dL_law_572 (vL_154 rfl) rfl hA3.1 (Nat.le_of_ble_eq_true rfl) ⟨rfl, rfl⟩ (by show k + 1 + 0 ≤ 601024; omega) (by show n + 6 + 0 ≤ 7293034; omega) (m_thrown hA3 hk3) ?_
  refine g_iload_5 dL_law_575 ?_
  refine g_icmp_eq (tgt := 582) dL_law_577 (by decide)  (fun _ => ?_) (fun h577 => absurd rfl h577)
  refine g_iload_5 dL_law_582 ?_
  refine g_if_neN (tgt := 606) dL_law_584 (by decide) (by omega) (fun h584 => ?_) (fun h584 => ?_)
  · refine g_goto (tgt := 2961) dL_law_606 (by decide) ?_
    exact hK _ _ _ _ _ _ _ _ (by show k + 1 + 0 ≤ k + 23; omega) (by show n + 6 + 0 ≤ n + 984; omega) hJ3 ((hf3 sb hsb).trans hX2)
  · have hv0 := hv h584
    obtain ⟨bq, rfl⟩ := hPv h584
    refine g_aload_3 dL_law_587 ?_
    refine g_iconst (v := nI 0) dL_law_588 rfl ?_
    refine g_laldN dL_law_589 hfo (by omega) (by decide) ?_
    refine g_iload_6 dL_law_590 ?_
    refine g_if_eqB (tgt := 599) dL_law_592 (by decide)  (fun hbq => ?_) (fun hbq => ?_)
    · refine g_lconst (vl := 0) dL_law_599 rfl ?_
      refine g_lcmp dL_law_600 ?_
      refine g_if_eq (tgt := 606) dL_law_601 (by decide)  (fun _ => ?_) (fun h601 => absurd (lcmp_self (by rw [hv0, hbq]; rfl)) h601)
      refine g_goto (tgt := 2961) dL_law_606 (by decide) ?_
      exact hK _ _ _ _ _ _ _ _ (by show k + 1 + 0 ≤ k + 23; omega) (by show n + 6 + 0 ≤ n + 984; omega) hJ3 ((hf3 sb hsb).trans hX2)
    · refine g_lconst (vl := 1) dL_law_595 rfl ?_
      refine g_goto (tgt := 600) dL_law_596 (by decide) ?_
      refine g_lcmp dL_law_600 ?_
      refine g_if_eq (tgt := 606) dL_law_601 (by decide)  (fun _ => ?_) (fun h601 => absurd (lcmp_self (by rw [hv0, hbq]; rfl)) h601)
      refine g_goto (tgt := 2961) dL_law_606 (by decide) ?_
      exact hK _ _ _ _ _ _ _ _ (by show k + 1 + 0 ≤ k + 23; omega) (by show n + 6 + 0 ≤ n + 984; omega) hJ3 ((hf3 sb hsb).trans hX2)
theorem w_7 {Φ : GR → Hp → Nat → Prop} {M : Hp} {z k n sb a b o lo i Ln : Nat} {xs : Nat → Int32} {l5 l6 l7 l8 : Option Value} (hJ : JS M a b o lo z) (hX : M sb = some (aX Ln xs)) (hsb : sb < a) (hi : i + 3 < Ln) (hLn : Ln ≤ 2048) (hk0 : k + 23 ≤ 601024) (hn0 : n + 984 ≤ 7293034) (hK : ∀ M' z' k' n' l5 l6 l7 l8, k' ≤ k + 23 → n' ≤ n + 984 → JS M' a b o lo z' → M' sb = some (aX Ln xs) → WP mL_law 2961 [some (.ref sb), some (.ref a), some (.ref b), some (.ref o), some (.int (nI (i))), l5, l6, l7, l8] [] M' z' k' n' Φ) : WP mL_law 609 [some (.ref sb), some (.ref a), some (.ref b), some (.ref o), some (.int (nI (i))), l5, l6, l7, l8] [] M z k n Φ := by
  obtain ⟨f, t, nn, h, sv, len, g, hJ⟩ := hJ
  obtain ⟨x, Ψ, hcw, hm⟩ := s_right hJ
  refine g_aload_1 dL_law_609 ?_
  refine g_v0 dL_law_610 (vL_177 rfl) rfl hJ.1.1 (Nat.le_of_ble_eq_true rfl) (by show k + 0 ≤ 601024; omega) (by show n + 0 ≤ 7293034; omega) (hcw) (fun r M2 z2 hq => ?_) (fun E M2 z2 hq => by obtain ⟨hq, -⟩ := hq; cases hq)
  obtain ⟨hr, hΨ⟩ := hq
  cases hr
  obtain ⟨⟨⟨I9, A9, hA9⟩, hf1⟩, hmm⟩ := hm _ _ hΨ
  have hX2 := (hf1 sb hsb).trans hX
  refine g_aload_2 dL_law_613 ?_
  refine g_v0 dL_law_614 (vL_180 rfl) rfl hA9.1 (Nat.le_of_ble_eq_true rfl) (by show k + 0 + 0 ≤ 601024; omega) (by show n + 0 + 0 ≤ 7293034; omega) (hmm) (fun r M2 z2 hq => ?_) (fun E M2 z2 hq => by obtain ⟨hq, -⟩ := hq; cases hq)
  obtain ⟨hr, hJ3, hf3⟩ := hq
  cases hr
  refine g_icmp_eq (tgt := 2961) dL_law_617 (by decide)  (fun _ => ?_) (fun h617 => absurd rfl h617)
  exact hK _ _ _ _ _ _ _ _ (by show k + 0 + 0 ≤ k + 23; omega) (by show n + 0 + 0 ≤ n + 984; omega) hJ3 ((hf3 sb hsb).trans hX2)
theorem w_8 {Φ : GR → Hp → Nat → Prop} {M : Hp} {z k n sb a b o lo i Ln : Nat} {xs : Nat → Int32} {l5 l6 l7 l8 : Option Value} (hJ : JS M a b o lo z) (hX : M sb = some (aX Ln xs)) (hsb : sb < a) (hi : i + 3 < Ln) (hLn : Ln ≤ 2048) (hk0 : k + 23 ≤ 601024) (hn0 : n + 984 ≤ 7293034) (hK : ∀ M' z' k' n' l5 l6 l7 l8, k' ≤ k + 23 → n' ≤ n + 984 → JS M' a b o lo z' → M' sb = some (aX Ln xs) → WP mL_law 2961 [some (.ref sb), some (.ref a), some (.ref b), some (.ref o), some (.int (nI (i))), l5, l6, l7, l8] [] M' z' k' n' Φ) : WP mL_law 622 [some (.ref sb), some (.ref a), some (.ref b), some (.ref o), some (.int (nI (i))), l5, l6, l7, l8] [] M z k n Φ := by
  obtain ⟨f, t, nn, h, sv, len, g, hJ⟩ := hJ
  obtain ⟨x, Ψ, hcw, hm⟩ := s_missing hJ
  refine g_aload_1 dL_law_622 ?_
  refine g_v0 dL_law_623 (vL_181 rfl) rfl hJ.1.1 (Nat.le_of_ble_eq_true rfl) (by show k + 0 ≤ 601024; omega) (by show n + 0 ≤ 7293034; omega) (hcw) (fun r M2 z2 hq => ?_) (fun E M2 z2 hq => by obtain ⟨hq, -⟩ := hq; cases hq)
  obtain ⟨hr, hΨ⟩ := hq
  cases hr
  obtain ⟨⟨⟨I9, A9, hA9⟩, hf1⟩, hmm⟩ := hm _ _ hΨ
  have hX2 := (hf1 sb hsb).trans hX
  refine g_aload_2 dL_law_626 ?_
  refine g_v0 dL_law_627 (vL_184 rfl) rfl hA9.1 (Nat.le_of_ble_eq_true rfl) (by show k + 0 + 0 ≤ 601024; omega) (by show n + 0 + 0 ≤ 7293034; omega) (hmm) (fun r M2 z2 hq => ?_) (fun E M2 z2 hq => by obtain ⟨hq, -⟩ := hq; cases hq)
  obtain ⟨hr, hJ3, hf3⟩ := hq
  cases hr
  refine g_icmp_eq (tgt := 2961) dL_law_630 (by decide)  (fun _ => ?_) (fun h630 => absurd rfl h630)
  exact hK _ _ _ _ _ _ _ _ (by show k + 0 + 0 ≤ k + 23; omega) (by show n + 0 + 0 ≤ n + 984; omega) hJ3 ((hf3 sb hsb).trans hX2)
theorem w_9 {Φ : GR → Hp → Nat → Prop} {M : Hp} {z k n sb a b o lo i Ln : Nat} {xs : Nat → Int32} {l5 l6 l7 l8 : Option Value} (hJ : JS M a b o lo z) (hX : M sb = some (aX Ln xs)) (hsb : sb < a) (hi : i + 3 < Ln) (hLn : Ln ≤ 2048) (hk0 : k + 23 ≤ 601024) (hn0 : n + 984 ≤ 7293034) (hK : ∀ M' z' k' n' l5 l6 l7 l8, k' ≤ k + 23 → n' ≤ n + 984 → JS M' a b o lo z' → M' sb = some (aX Ln xs) → WP mL_law 2961 [some (.ref sb), some (.ref a), some (.ref b), some (.ref o), some (.int (nI (i))), l5, l6, l7, l8] [] M' z' k' n' Φ) : WP mL_law 635 [some (.ref sb), some (.ref a), some (.ref b), some (.ref o), some (.int (nI (i))), l5, l6, l7, l8] [] M z k n Φ := by
  obtain ⟨f, t, nn, h, sv, len, g, hJ⟩ := hJ
  obtain ⟨x, Ψ, hcw, hm⟩ := s_wrong hJ
  refine g_aload_1 dL_law_635 ?_
  refine g_v0 dL_law_636 (vL_185 rfl) rfl hJ.1.1 (Nat.le_of_ble_eq_true rfl) (by show k + 0 ≤ 601024; omega) (by show n + 0 ≤ 7293034; omega) (hcw) (fun r M2 z2 hq => ?_) (fun E M2 z2 hq => by obtain ⟨hq, -⟩ := hq; cases hq)
  obtain ⟨hr, hΨ⟩ := hq
  cases hr
  obtain ⟨⟨⟨I9, A9, hA9⟩, hf1⟩, hmm⟩ := hm _ _ hΨ
  have hX2 := (hf1 sb hsb).trans hX
  refine g_aload_2 dL_law_639 ?_
  refine g_v0 dL_law_640 (vL_188 rfl) rfl hA9.1 (Nat.le_of_ble_eq_true rfl) (by show k + 0 + 0 ≤ 601024; omega) (by show n + 0 + 0 ≤ 7293034; omega) (hmm) (fun r M2 z2 hq => ?_) (fun E M2 z2 hq => by obtain ⟨hq, -⟩ := hq; cases hq)
  obtain ⟨hr, hJ3, hf3⟩ := hq
  cases hr
  refine g_icmp_eq (tgt := 2961) dL_law_643 (by decide)  (fun _ => ?_) (fun h643 => absurd rfl h643)
  exact hK _ _ _ _ _ _ _ _ (by show k + 0 + 0 ≤ k + 23; omega) (by show n + 0 + 0 ≤ n + 984; omega) hJ3 ((hf3 sb hsb).trans hX2)
theorem w_10 {Φ : GR → Hp → Nat → Prop} {M : Hp} {z k n sb a b o lo i Ln : Nat} {xs : Nat → Int32} {l5 l6 l7 l8 : Option Value} (hJ : JS M a b o lo z) (hX : M sb = some (aX Ln xs)) (hsb : sb < a) (hi : i + 3 < Ln) (hLn : Ln ≤ 2048) (hk0 : k + 23 ≤ 601024) (hn0 : n + 984 ≤ 7293034) (hK : ∀ M' z' k' n' l5 l6 l7 l8, k' ≤ k + 23 → n' ≤ n + 984 → JS M' a b o lo z' → M' sb = some (aX Ln xs) → WP mL_law 2961 [some (.ref sb), some (.ref a), some (.ref b), some (.ref o), some (.int (nI (i))), l5, l6, l7, l8] [] M' z' k' n' Φ) : WP mL_law 648 [some (.ref sb), some (.ref a), some (.ref b), some (.ref o), some (.int (nI (i))), l5, l6, l7, l8] [] M z k n Φ := by
  obtain ⟨f, t, nn, h, sv, len, g, hJ⟩ := hJ
  obtain ⟨x, Ψ, hcw, hm⟩ := s_skipped hJ
  refine g_aload_1 dL_law_648 ?_
  refine g_v0 dL_law_649 (vL_189 rfl) rfl hJ.1.1 (Nat.le_of_ble_eq_true rfl) (by show k + 0 ≤ 601024; omega) (by show n + 0 ≤ 7293034; omega) (hcw) (fun r M2 z2 hq => ?_) (fun E M2 z2 hq => by obtain ⟨hq, -⟩ := hq; cases hq)
  obtain ⟨hr, hΨ⟩ := hq
  cases hr
  obtain ⟨⟨⟨I9, A9, hA9⟩, hf1⟩, hmm⟩ := hm _ _ hΨ
  have hX2 := (hf1 sb hsb).trans hX
  refine g_aload_2 dL_law_652 ?_
  refine g_v0 dL_law_653 (vL_192 rfl) rfl hA9.1 (Nat.le_of_ble_eq_true rfl) (by show k + 0 + 0 ≤ 601024; omega) (by show n + 0 + 0 ≤ 7293034; omega) (hmm) (fun r M2 z2 hq => ?_) (fun E M2 z2 hq => by obtain ⟨hq, -⟩ := hq; cases hq)
  obtain ⟨hr, hJ3, hf3⟩ := hq
  cases hr
  refine g_icmp_eq (tgt := 2961) dL_law_656 (by decide)  (fun _ => ?_) (fun h656 => absurd rfl h656)
  exact hK _ _ _ _ _ _ _ _ (by show k + 0 + 0 ≤ k + 23; omega) (by show n + 0 + 0 ≤ n + 984; omega) hJ3 ((hf3 sb hsb).trans hX2)
theorem w_11 {Φ : GR → Hp → Nat → Prop} {M : Hp} {z k n sb a b o lo i Ln : Nat} {xs : Nat → Int32} {l5 l6 l7 l8 : Option Value} (hJ : JS M a b o lo z) (hX : M sb = some (aX Ln xs)) (hsb : sb < a) (hi : i + 3 < Ln) (hLn : Ln ≤ 2048) (hk0 : k + 23 ≤ 601024) (hn0 : n + 984 ≤ 7293034) (hK : ∀ M' z' k' n' l5 l6 l7 l8, k' ≤ k + 23 → n' ≤ n + 984 → JS M' a b o lo z' → M' sb = some (aX Ln xs) → WP mL_law 2961 [some (.ref sb), some (.ref a), some (.ref b), some (.ref o), some (.int (nI (i))), l5, l6, l7, l8] [] M' z' k' n' Φ) : WP mL_law 661 [some (.ref sb), some (.ref a), some (.ref b), some (.ref o), some (.int (nI (i))), l5, l6, l7, l8] [] M z k n Φ := by
  obtain ⟨f, t, nn, h, sv, len, g, hJ⟩ := hJ
  obtain ⟨kq, v, Ψ, hkq, hPv, hcw, hm⟩ := s_areasBySpreading (w0 := xs (i + 1)) hJ
  refine g_aload_1 dL_law_661 ?_
  refine g_aload_0 dL_law_662 ?_
  refine g_iload_4 dL_law_663 ?_
  refine g_iconst (v := nI 1) dL_law_665 rfl ?_
  refine g_iaddN dL_law_666 ?_
  refine g_ialdXN dL_law_667 hX (by omega) (by omega) ?_
  refine g_aload_3 dL_law_668 ?_
  refine g_staH (as := [.ref a, .int (xs (i + 1)), .ref o]) dL_law_669 (sL_193 rfl) rfl rfl rfl (Nat.le_of_ble_eq_true rfl) (by show k + 1 ≤ 601024; omega) (by show n + 6 ≤ 7293034; omega) hcw (fun r M2 z2 hq => ?_) (fun E M2 z2 hq => by obtain ⟨hq, -⟩ := hq; cases hq)
  obtain ⟨hr, hΨ⟩ := hq
  cases hr
  obtain ⟨⟨⟨I9, A9, hA9⟩, hf1⟩, hmm⟩ := hm _ _ hΨ
  have hX2 := (hf1 sb hsb).trans hX
  refine g_istore_5 rfl dL_law_672 ?_
  refine g_aload_2 dL_law_674 ?_
  refine g_aload_0 dL_law_675 ?_
  refine g_iload_4 dL_law_676 ?_
  refine g_iconst (v := nI 1) dL_law_678 rfl ?_
  refine g_iaddN dL_law_679 ?_
  refine g_ialdXN dL_law_680 hX2 (by omega) (by omega) ?_
  refine g_v1 dL_law_681 (vL_195 rfl) rfl hA9.1 (Nat.le_of_ble_eq_true rfl) (by show k + 1 + 0 ≤ 601024; omega) (by show n + 6 + 0 ≤ 7293034; omega) (hmm) (fun r M2 z2 hq => ?_) (fun E M2 z2 hq => by obtain ⟨hq, -⟩ := hq; cases hq)
  obtain ⟨hr, ⟨⟨I3, A3, hA3, hk3⟩, ⟨fo, hfo, hv⟩, hJ3⟩, hf3⟩ := hq
  cases hr
  refine g_istore_6 rfl dL_law_684 ?_
  refine g_aload_2 dL_law_686 ?_
  refine g_v0_1 dL_law_687 (vL_154 rfl) rfl hA3.1 (Nat.le_of_ble_eq_true rfl) ⟨rfl, rfl⟩ (by show k + 1 + 0 ≤ 601024; omega) (by show n + 6 + 0 ≤ 7293034; omega) (m_thrown hA3 hk3) ?_
  refine g_iload_5 dL_law_690 ?_
  refine g_icmp_eq (tgt := 697) dL_law_692 (by decide)  (fun _ => ?_) (fun h692 => absurd rfl h692)
  refine g_iload_5 dL_law_697 ?_
  refine g_if_neN (tgt := 714) dL_law_699 (by decide) (by omega) (fun h699 => ?_) (fun h699 => ?_)
  · refine g_goto (tgt := 2961) dL_law_714 (by decide) ?_
    exact hK _ _ _ _ _ _ _ _ (by show k + 1 + 0 ≤ k + 23; omega) (by show n + 6 + 0 ≤ n + 984; omega) hJ3 ((hf3 sb hsb).trans hX2)
  · have hv0 := hv h699
    refine g_aload_3 dL_law_702 ?_
    refine g_iconst (v := nI 0) dL_law_703 rfl ?_
    refine g_laldN dL_law_704 hfo (by omega) (by decide) ?_
    refine g_iload_6 dL_law_705 ?_
    refine g_i2l dL_law_707 ?_
    refine g_lcmp dL_law_708 ?_
    refine g_if_eq (tgt := 714) dL_law_709 (by decide)  (fun _ => ?_) (fun h709 => absurd (lcmp_self hv0) h709)
    refine g_goto (tgt := 2961) dL_law_714 (by decide) ?_
    exact hK _ _ _ _ _ _ _ _ (by show k + 1 + 0 ≤ k + 23; omega) (by show n + 6 + 0 ≤ n + 984; omega) hJ3 ((hf3 sb hsb).trans hX2)
theorem w_12 {Φ : GR → Hp → Nat → Prop} {M : Hp} {z k n sb a b o lo i Ln : Nat} {xs : Nat → Int32} {l5 l6 l7 l8 : Option Value} (hJ : JS M a b o lo z) (hX : M sb = some (aX Ln xs)) (hsb : sb < a) (hi : i + 3 < Ln) (hLn : Ln ≤ 2048) (hk0 : k + 23 ≤ 601024) (hn0 : n + 984 ≤ 7293034) (hK : ∀ M' z' k' n' l5 l6 l7 l8, k' ≤ k + 23 → n' ≤ n + 984 → JS M' a b o lo z' → M' sb = some (aX Ln xs) → WP mL_law 2961 [some (.ref sb), some (.ref a), some (.ref b), some (.ref o), some (.int (nI (i))), l5, l6, l7, l8] [] M' z' k' n' Φ) : WP mL_law 717 [some (.ref sb), some (.ref a), some (.ref b), some (.ref o), some (.int (nI (i))), l5, l6, l7, l8] [] M z k n Φ := by
  obtain ⟨f, t, nn, h, sv, len, g, hJ⟩ := hJ
  obtain ⟨kq, v, Ψ, hkq, hPv, hcw, hm⟩ := s_areasByJoining (w0 := xs (i + 1)) hJ
  refine g_aload_1 dL_law_717 ?_
  refine g_aload_0 dL_law_718 ?_
  refine g_iload_4 dL_law_719 ?_
  refine g_iconst (v := nI 1) dL_law_721 rfl ?_
  refine g_iaddN dL_law_722 ?_
  refine g_ialdXN dL_law_723 hX (by omega) (by omega) ?_
  refine g_aload_3 dL_law_724 ?_
  refine g_staH (as := [.ref a, .int (xs (i + 1)), .ref o]) dL_law_725 (sL_196 rfl) rfl rfl rfl (Nat.le_of_ble_eq_true rfl) (by show k + 1 ≤ 601024; omega) (by show n + 6 ≤ 7293034; omega) hcw (fun r M2 z2 hq => ?_) (fun E M2 z2 hq => by obtain ⟨hq, -⟩ := hq; cases hq)
  obtain ⟨hr, hΨ⟩ := hq
  cases hr
  obtain ⟨⟨⟨I9, A9, hA9⟩, hf1⟩, hmm⟩ := hm _ _ hΨ
  have hX2 := (hf1 sb hsb).trans hX
  refine g_istore_5 rfl dL_law_728 ?_
  refine g_aload_2 dL_law_730 ?_
  refine g_aload_0 dL_law_731 ?_
  refine g_iload_4 dL_law_732 ?_
  refine g_iconst (v := nI 1) dL_law_734 rfl ?_
  refine g_iaddN dL_law_735 ?_
  refine g_ialdXN dL_law_736 hX2 (by omega) (by omega) ?_
  refine g_v1 dL_law_737 (vL_198 rfl) rfl hA9.1 (Nat.le_of_ble_eq_true rfl) (by show k + 1 + 0 ≤ 601024; omega) (by show n + 6 + 0 ≤ 7293034; omega) (hmm) (fun r M2 z2 hq => ?_) (fun E M2 z2 hq => by obtain ⟨hq, -⟩ := hq; cases hq)
  obtain ⟨hr, ⟨⟨I3, A3, hA3, hk3⟩, ⟨fo, hfo, hv⟩, hJ3⟩, hf3⟩ := hq
  cases hr
  refine g_istore_6 rfl dL_law_740 ?_
  refine g_aload_2 dL_law_742 ?_
  refine g_v0_1 dL_law_743 (vL_154 rfl) rfl hA3.1 (Nat.le_of_ble_eq_true rfl) ⟨rfl, rfl⟩ (by show k + 1 + 0 ≤ 601024; omega) (by show n + 6 + 0 ≤ 7293034; omega) (m_thrown hA3 hk3) ?_
  refine g_iload_5 dL_law_746 ?_
  refine g_icmp_eq (tgt := 753) dL_law_748 (by decide)  (fun _ => ?_) (fun h748 => absurd rfl h748)
  refine g_iload_5 dL_law_753 ?_
  refine g_if_neN (tgt := 770) dL_law_755 (by decide) (by omega) (fun h755 => ?_) (fun h755 => ?_)
  · refine g_goto (tgt := 2961) dL_law_770 (by decide) ?_
    exact hK _ _ _ _ _ _ _ _ (by show k + 1 + 0 ≤ k + 23; omega) (by show n + 6 + 0 ≤ n + 984; omega) hJ3 ((hf3 sb hsb).trans hX2)
  · have hv0 := hv h755
    refine g_aload_3 dL_law_758 ?_
    refine g_iconst (v := nI 0) dL_law_759 rfl ?_
    refine g_laldN dL_law_760 hfo (by omega) (by decide) ?_
    refine g_iload_6 dL_law_761 ?_
    refine g_i2l dL_law_763 ?_
    refine g_lcmp dL_law_764 ?_
    refine g_if_eq (tgt := 770) dL_law_765 (by decide)  (fun _ => ?_) (fun h765 => absurd (lcmp_self hv0) h765)
    refine g_goto (tgt := 2961) dL_law_770 (by decide) ?_
    exact hK _ _ _ _ _ _ _ _ (by show k + 1 + 0 ≤ k + 23; omega) (by show n + 6 + 0 ≤ n + 984; omega) hJ3 ((hf3 sb hsb).trans hX2)
theorem w_13 {Φ : GR → Hp → Nat → Prop} {M : Hp} {z k n sb a b o lo i Ln : Nat} {xs : Nat → Int32} {l5 l6 l7 l8 : Option Value} (hJ : JS M a b o lo z) (hX : M sb = some (aX Ln xs)) (hsb : sb < a) (hi : i + 3 < Ln) (hLn : Ln ≤ 2048) (hk0 : k + 23 ≤ 601024) (hn0 : n + 984 ≤ 7293034) (hK : ∀ M' z' k' n' l5 l6 l7 l8, k' ≤ k + 23 → n' ≤ n + 984 → JS M' a b o lo z' → M' sb = some (aX Ln xs) → WP mL_law 2961 [some (.ref sb), some (.ref a), some (.ref b), some (.ref o), some (.int (nI (i))), l5, l6, l7, l8] [] M' z' k' n' Φ) : WP mL_law 773 [some (.ref sb), some (.ref a), some (.ref b), some (.ref o), some (.int (nI (i))), l5, l6, l7, l8] [] M z k n Φ := by
  obtain ⟨f, t, nn, h, sv, len, g, hJ⟩ := hJ
  obtain ⟨x, hu, Ψ, hcw, hm⟩ := s_density hJ
  refine g_aload_1 dL_law_773 ?_
  refine g_v0 dL_law_774 (vL_199 rfl) rfl hJ.1.1 (Nat.le_of_ble_eq_true rfl) (by show k + 0 ≤ 601024; omega) (by show n + 0 ≤ 7293034; omega) (hcw) (fun r M2 z2 hq => ?_) (fun E M2 z2 hq => by obtain ⟨hq, -⟩ := hq; cases hq)
  obtain ⟨hr, hΨ⟩ := hq
  cases hr
  obtain ⟨⟨⟨I9, A9, hA9⟩, hf1⟩, hmm⟩ := hm _ _ hΨ
  have hX2 := (hf1 sb hsb).trans hX
  refine g_f2d dL_law_777 hu ?_
  refine g_dstore_5 rfl dL_law_778 ?_
  refine g_aload_2 dL_law_780 ?_
  refine g_v0 dL_law_781 (vL_203 rfl) rfl hA9.1 (Nat.le_of_ble_eq_true rfl) (by show k + 0 + 0 ≤ 601024; omega) (by show n + 0 + 0 ≤ 7293034; omega) (hmm) (fun r M2 z2 hq => ?_) (fun E M2 z2 hq => by obtain ⟨hq, -⟩ := hq; cases hq)
  obtain ⟨hr, hJ3, hf3⟩ := hq
  cases hr
  refine g_f2d dL_law_784 hu ?_
  refine g_dstore_7 rfl dL_law_785 ?_
  refine g_dload_5 dL_law_787 ?_
  refine g_dload_7 dL_law_789 ?_
  refine g_dcmp dL_law_791 ?_
  refine g_if_eq (tgt := 813) dL_law_792 (by decide)  (fun h792 => ?_) (fun h792 => ?_)
  · refine g_goto (tgt := 2961) dL_law_813 (by decide) ?_
    exact hK _ _ _ _ _ _ _ _ (by show k + 0 + 0 ≤ k + 23; omega) (by show n + 0 + 0 ≤ n + 984; omega) hJ3 ((hf3 sb hsb).trans hX2)
  · refine g_dload_5 dL_law_795 ?_
    refine g_dload_5 dL_law_797 ?_
    refine g_dcmp dL_law_799 ?_
    refine g_if_eq (tgt := 811) dL_law_800 (by decide)  (fun h800 => absurd h800 h792) (fun _ => ?_)
    refine g_dload_7 dL_law_803 ?_
    refine g_dload_7 dL_law_805 ?_
    refine g_dcmp dL_law_807 ?_
    refine g_if_ne (tgt := 813) dL_law_808 (by decide)  (fun _ => ?_) (fun h808 => absurd h808 h792)
    refine g_goto (tgt := 2961) dL_law_813 (by decide) ?_
    exact hK _ _ _ _ _ _ _ _ (by show k + 0 + 0 ≤ k + 23; omega) (by show n + 0 + 0 ≤ n + 984; omega) hJ3 ((hf3 sb hsb).trans hX2)
theorem w_14 {Φ : GR → Hp → Nat → Prop} {M : Hp} {z k n sb a b o lo i Ln : Nat} {xs : Nat → Int32} {l5 l6 l7 l8 : Option Value} (hJ : JS M a b o lo z) (hX : M sb = some (aX Ln xs)) (hsb : sb < a) (hi : i + 3 < Ln) (hLn : Ln ≤ 2048) (hk0 : k + 23 ≤ 601024) (hn0 : n + 984 ≤ 7293034) (hK : ∀ M' z' k' n' l5 l6 l7 l8, k' ≤ k + 23 → n' ≤ n + 984 → JS M' a b o lo z' → M' sb = some (aX Ln xs) → WP mL_law 2961 [some (.ref sb), some (.ref a), some (.ref b), some (.ref o), some (.int (nI (i))), l5, l6, l7, l8] [] M' z' k' n' Φ) : WP mL_law 816 [some (.ref sb), some (.ref a), some (.ref b), some (.ref o), some (.int (nI (i))), l5, l6, l7, l8] [] M z k n Φ := by
  obtain ⟨f, t, nn, h, sv, len, g, hJ⟩ := hJ
  obtain ⟨x, Ψ, hcw, hm⟩ := s_meanHeight hJ
  refine g_aload_1 dL_law_816 ?_
  refine g_v0 dL_law_817 (vL_204 rfl) rfl hJ.1.1 (Nat.le_of_ble_eq_true rfl) (by show k + 0 ≤ 601024; omega) (by show n + 0 ≤ 7293034; omega) (hcw) (fun r M2 z2 hq => ?_) (fun E M2 z2 hq => by obtain ⟨hq, -⟩ := hq; cases hq)
  obtain ⟨hr, hΨ⟩ := hq
  cases hr
  obtain ⟨⟨⟨I9, A9, hA9⟩, hf1⟩, hmm⟩ := hm _ _ hΨ
  have hX2 := (hf1 sb hsb).trans hX
  refine g_dstore_5 rfl dL_law_820 ?_
  refine g_aload_2 dL_law_822 ?_
  refine g_v0 dL_law_823 (vL_208 rfl) rfl hA9.1 (Nat.le_of_ble_eq_true rfl) (by show k + 0 + 0 ≤ 601024; omega) (by show n + 0 + 0 ≤ 7293034; omega) (hmm) (fun r M2 z2 hq => ?_) (fun E M2 z2 hq => by obtain ⟨hq, -⟩ := hq; cases hq)
  obtain ⟨hr, hJ3, hf3⟩ := hq
  cases hr
  refine g_dstore_7 rfl dL_law_826 ?_
  refine g_dload_5 dL_law_828 ?_
  refine g_dload_7 dL_law_830 ?_
  refine g_dcmp dL_law_832 ?_
  refine g_if_eq (tgt := 854) dL_law_833 (by decide)  (fun h833 => ?_) (fun h833 => ?_)
  · refine g_goto (tgt := 2961) dL_law_854 (by decide) ?_
    exact hK _ _ _ _ _ _ _ _ (by show k + 0 + 0 ≤ k + 23; omega) (by show n + 0 + 0 ≤ n + 984; omega) hJ3 ((hf3 sb hsb).trans hX2)
  · refine g_dload_5 dL_law_836 ?_
    refine g_dload_5 dL_law_838 ?_
    refine g_dcmp dL_law_840 ?_
    refine g_if_eq (tgt := 852) dL_law_841 (by decide)  (fun h841 => absurd h841 h833) (fun _ => ?_)
    refine g_dload_7 dL_law_844 ?_
    refine g_dload_7 dL_law_846 ?_
    refine g_dcmp dL_law_848 ?_
    refine g_if_ne (tgt := 854) dL_law_849 (by decide)  (fun _ => ?_) (fun h849 => absurd h849 h833)
    refine g_goto (tgt := 2961) dL_law_854 (by decide) ?_
    exact hK _ _ _ _ _ _ _ _ (by show k + 0 + 0 ≤ k + 23; omega) (by show n + 0 + 0 ≤ n + 984; omega) hJ3 ((hf3 sb hsb).trans hX2)
theorem w_15 {Φ : GR → Hp → Nat → Prop} {M : Hp} {z k n sb a b o lo i Ln : Nat} {xs : Nat → Int32} {l5 l6 l7 l8 : Option Value} (hJ : JS M a b o lo z) (hX : M sb = some (aX Ln xs)) (hsb : sb < a) (hi : i + 3 < Ln) (hLn : Ln ≤ 2048) (hk0 : k + 23 ≤ 601024) (hn0 : n + 984 ≤ 7293034) (hK : ∀ M' z' k' n' l5 l6 l7 l8, k' ≤ k + 23 → n' ≤ n + 984 → JS M' a b o lo z' → M' sb = some (aX Ln xs) → WP mL_law 2961 [some (.ref sb), some (.ref a), some (.ref b), some (.ref o), some (.int (nI (i))), l5, l6, l7, l8] [] M' z' k' n' Φ) : WP mL_law 857 [some (.ref sb), some (.ref a), some (.ref b), some (.ref o), some (.int (nI (i))), l5, l6, l7, l8] [] M z k n Φ := by
  obtain ⟨f, t, nn, h, sv, len, g, hJ⟩ := hJ
  obtain ⟨x, Ψ, hcw, hm⟩ := s_needle hJ
  refine g_aload_1 dL_law_857 ?_
  refine g_v0 dL_law_858 (vL_209 rfl) rfl hJ.1.1 (Nat.le_of_ble_eq_true rfl) (by show k + 0 ≤ 601024; omega) (by show n + 0 ≤ 7293034; omega) (hcw) (fun r M2 z2 hq => ?_) (fun E M2 z2 hq => by obtain ⟨hq, -⟩ := hq; cases hq)
  obtain ⟨hr, hΨ⟩ := hq
  cases hr
  obtain ⟨⟨⟨I9, A9, hA9⟩, hf1⟩, hmm⟩ := hm _ _ hΨ
  have hX2 := (hf1 sb hsb).trans hX
  refine g_aload_2 dL_law_861 ?_
  refine g_v0 dL_law_862 (vL_212 rfl) rfl hA9.1 (Nat.le_of_ble_eq_true rfl) (by show k + 0 + 0 ≤ 601024; omega) (by show n + 0 + 0 ≤ 7293034; omega) (hmm) (fun r M2 z2 hq => ?_) (fun E M2 z2 hq => by obtain ⟨hq, -⟩ := hq; cases hq)
  obtain ⟨hr, hJ3, hf3⟩ := hq
  cases hr
  refine g_icmp_eq (tgt := 2961) dL_law_865 (by decide)  (fun _ => ?_) (fun h865 => absurd rfl h865)
  exact hK _ _ _ _ _ _ _ _ (by show k + 0 + 0 ≤ k + 23; omega) (by show n + 0 + 0 ≤ n + 984; omega) hJ3 ((hf3 sb hsb).trans hX2)
theorem w_16 {Φ : GR → Hp → Nat → Prop} {M : Hp} {z k n sb a b o lo i Ln : Nat} {xs : Nat → Int32} {l5 l6 l7 l8 : Option Value} (hJ : JS M a b o lo z) (hX : M sb = some (aX Ln xs)) (hsb : sb < a) (hi : i + 3 < Ln) (hLn : Ln ≤ 2048) (hk0 : k + 23 ≤ 601024) (hn0 : n + 984 ≤ 7293034) (hK : ∀ M' z' k' n' l5 l6 l7 l8, k' ≤ k + 23 → n' ≤ n + 984 → JS M' a b o lo z' → M' sb = some (aX Ln xs) → WP mL_law 2961 [some (.ref sb), some (.ref a), some (.ref b), some (.ref o), some (.int (nI (i))), l5, l6, l7, l8] [] M' z' k' n' Φ) : WP mL_law 870 [some (.ref sb), some (.ref a), some (.ref b), some (.ref o), some (.int (nI (i))), l5, l6, l7, l8] [] M z k n Φ := by
  obtain ⟨f, t, nn, h, sv, len, g, hJ⟩ := hJ
  obtain ⟨x, Ψ, hcw, hm⟩ := s_heading hJ
  refine g_aload_1 dL_law_870 ?_
  refine g_v0 dL_law_871 (vL_213 rfl) rfl hJ.1.1 (Nat.le_of_ble_eq_true rfl) (by show k + 0 ≤ 601024; omega) (by show n + 0 ≤ 7293034; omega) (hcw) (fun r M2 z2 hq => ?_) (fun E M2 z2 hq => by obtain ⟨hq, -⟩ := hq; cases hq)
  obtain ⟨hr, hΨ⟩ := hq
  cases hr
  obtain ⟨⟨⟨I9, A9, hA9⟩, hf1⟩, hmm⟩ := hm _ _ hΨ
  have hX2 := (hf1 sb hsb).trans hX
  refine g_aload_2 dL_law_874 ?_
  refine g_v0 dL_law_875 (vL_216 rfl) rfl hA9.1 (Nat.le_of_ble_eq_true rfl) (by show k + 0 + 0 ≤ 601024; omega) (by show n + 0 + 0 ≤ 7293034; omega) (hmm) (fun r M2 z2 hq => ?_) (fun E M2 z2 hq => by obtain ⟨hq, -⟩ := hq; cases hq)
  obtain ⟨hr, hJ3, hf3⟩ := hq
  cases hr
  refine g_icmp_eq (tgt := 2961) dL_law_878 (by decide)  (fun _ => ?_) (fun h878 => absurd rfl h878)
  exact hK _ _ _ _ _ _ _ _ (by show k + 0 + 0 ≤ k + 23; omega) (by show n + 0 + 0 ≤ n + 984; omega) hJ3 ((hf3 sb hsb).trans hX2)
theorem w_17 {Φ : GR → Hp → Nat → Prop} {M : Hp} {z k n sb a b o lo i Ln : Nat} {xs : Nat → Int32} {l5 l6 l7 l8 : Option Value} (hJ : JS M a b o lo z) (hX : M sb = some (aX Ln xs)) (hsb : sb < a) (hi : i + 3 < Ln) (hLn : Ln ≤ 2048) (hk0 : k + 23 ≤ 601024) (hn0 : n + 984 ≤ 7293034) (hK : ∀ M' z' k' n' l5 l6 l7 l8, k' ≤ k + 23 → n' ≤ n + 984 → JS M' a b o lo z' → M' sb = some (aX Ln xs) → WP mL_law 2961 [some (.ref sb), some (.ref a), some (.ref b), some (.ref o), some (.int (nI (i))), l5, l6, l7, l8] [] M' z' k' n' Φ) : WP mL_law 883 [some (.ref sb), some (.ref a), some (.ref b), some (.ref o), some (.int (nI (i))), l5, l6, l7, l8] [] M z k n Φ := by
  obtain ⟨f, t, nn, h, sv, len, g, hJ⟩ := hJ
  obtain ⟨x, Ψ, hcw, hm⟩ := s_threaded hJ
  refine g_aload_1 dL_law_883 ?_
  refine g_v0 dL_law_884 (vL_217 rfl) rfl hJ.1.1 (Nat.le_of_ble_eq_true rfl) (by show k + 0 ≤ 601024; omega) (by show n + 0 ≤ 7293034; omega) (hcw) (fun r M2 z2 hq => ?_) (fun E M2 z2 hq => by obtain ⟨hq, -⟩ := hq; cases hq)
  obtain ⟨hr, hΨ⟩ := hq
  cases hr
  obtain ⟨⟨⟨I9, A9, hA9⟩, hf1⟩, hmm⟩ := hm _ _ hΨ
  have hX2 := (hf1 sb hsb).trans hX
  refine g_aload_2 dL_law_887 ?_
  refine g_v0 dL_law_888 (vL_220 rfl) rfl hA9.1 (Nat.le_of_ble_eq_true rfl) (by show k + 0 + 0 ≤ 601024; omega) (by show n + 0 + 0 ≤ 7293034; omega) (hmm) (fun r M2 z2 hq => ?_) (fun E M2 z2 hq => by obtain ⟨hq, -⟩ := hq; cases hq)
  obtain ⟨hr, hJ3, hf3⟩ := hq
  cases hr
  refine g_icmp_eq (tgt := 2961) dL_law_891 (by decide)  (fun _ => ?_) (fun h891 => absurd rfl h891)
  exact hK _ _ _ _ _ _ _ _ (by show k + 0 + 0 ≤ k + 23; omega) (by show n + 0 + 0 ≤ n + 984; omega) hJ3 ((hf3 sb hsb).trans hX2)
theorem w_18 {Φ : GR → Hp → Nat → Prop} {M : Hp} {z k n sb a b o lo i Ln : Nat} {xs : Nat → Int32} {l5 l6 l7 l8 : Option Value} (hJ : JS M a b o lo z) (hX : M sb = some (aX Ln xs)) (hsb : sb < a) (hi : i + 3 < Ln) (hLn : Ln ≤ 2048) (hk0 : k + 23 ≤ 601024) (hn0 : n + 984 ≤ 7293034) (hK : ∀ M' z' k' n' l5 l6 l7 l8, k' ≤ k + 23 → n' ≤ n + 984 → JS M' a b o lo z' → M' sb = some (aX Ln xs) → WP mL_law 2961 [some (.ref sb), some (.ref a), some (.ref b), some (.ref o), some (.int (nI (i))), l5, l6, l7, l8] [] M' z' k' n' Φ) : WP mL_law 896 [some (.ref sb), some (.ref a), some (.ref b), some (.ref o), some (.int (nI (i))), l5, l6, l7, l8] [] M z k n Φ := by
  obtain ⟨f, t, nn, h, sv, len, g, hJ⟩ := hJ
  obtain ⟨x, Ψ, hcw, hm⟩ := s_height hJ
  refine g_aload_1 dL_law_896 ?_
  refine g_v0 dL_law_897 (vL_221 rfl) rfl hJ.1.1 (Nat.le_of_ble_eq_true rfl) (by show k + 0 ≤ 601024; omega) (by show n + 0 ≤ 7293034; omega) (hcw) (fun r M2 z2 hq => ?_) (fun E M2 z2 hq => by obtain ⟨hq, -⟩ := hq; cases hq)
  obtain ⟨hr, hΨ⟩ := hq
  cases hr
  obtain ⟨⟨⟨I9, A9, hA9⟩, hf1⟩, hmm⟩ := hm _ _ hΨ
  have hX2 := (hf1 sb hsb).trans hX
  refine g_aload_2 dL_law_900 ?_
  refine g_v0 dL_law_901 (vL_224 rfl) rfl hA9.1 (Nat.le_of_ble_eq_true rfl) (by show k + 0 + 0 ≤ 601024; omega) (by show n + 0 + 0 ≤ 7293034; omega) (hmm) (fun r M2 z2 hq => ?_) (fun E M2 z2 hq => by obtain ⟨hq, -⟩ := hq; cases hq)
  obtain ⟨hr, hJ3, hf3⟩ := hq
  cases hr
  refine g_icmp_eq (tgt := 2961) dL_law_904 (by decide)  (fun _ => ?_) (fun h904 => absurd rfl h904)
  exact hK _ _ _ _ _ _ _ _ (by show k + 0 + 0 ≤ k + 23; omega) (by show n + 0 + 0 ≤ n + 984; omega) hJ3 ((hf3 sb hsb).trans hX2)
theorem w_19 {Φ : GR → Hp → Nat → Prop} {M : Hp} {z k n sb a b o lo i Ln : Nat} {xs : Nat → Int32} {l5 l6 l7 l8 : Option Value} (hJ : JS M a b o lo z) (hX : M sb = some (aX Ln xs)) (hsb : sb < a) (hi : i + 3 < Ln) (hLn : Ln ≤ 2048) (hk0 : k + 23 ≤ 601024) (hn0 : n + 984 ≤ 7293034) (hK : ∀ M' z' k' n' l5 l6 l7 l8, k' ≤ k + 23 → n' ≤ n + 984 → JS M' a b o lo z' → M' sb = some (aX Ln xs) → WP mL_law 2961 [some (.ref sb), some (.ref a), some (.ref b), some (.ref o), some (.int (nI (i))), l5, l6, l7, l8] [] M' z' k' n' Φ) : WP mL_law 909 [some (.ref sb), some (.ref a), some (.ref b), some (.ref o), some (.int (nI (i))), l5, l6, l7, l8] [] M z k n Φ := by
  obtain ⟨f, t, nn, h, sv, len, g, hJ⟩ := hJ
  obtain ⟨x, Ψ, hcw, hm⟩ := s_tension hJ
  refine g_aload_1 dL_law_909 ?_
  refine g_v0 dL_law_910 (vL_225 rfl) rfl hJ.1.1 (Nat.le_of_ble_eq_true rfl) (by show k + 0 ≤ 601024; omega) (by show n + 0 ≤ 7293034; omega) (hcw) (fun r M2 z2 hq => ?_) (fun E M2 z2 hq => by obtain ⟨hq, -⟩ := hq; cases hq)
  obtain ⟨hr, hΨ⟩ := hq
  cases hr
  obtain ⟨⟨⟨I9, A9, hA9⟩, hf1⟩, hmm⟩ := hm _ _ hΨ
  have hX2 := (hf1 sb hsb).trans hX
  refine g_aload_2 dL_law_913 ?_
  refine g_v0 dL_law_914 (vL_228 rfl) rfl hA9.1 (Nat.le_of_ble_eq_true rfl) (by show k + 0 + 0 ≤ 601024; omega) (by show n + 0 + 0 ≤ 7293034; omega) (hmm) (fun r M2 z2 hq => ?_) (fun E M2 z2 hq => by obtain ⟨hq, -⟩ := hq; cases hq)
  obtain ⟨hr, hJ3, hf3⟩ := hq
  cases hr
  refine g_icmp_eq (tgt := 2961) dL_law_917 (by decide)  (fun _ => ?_) (fun h917 => absurd rfl h917)
  exact hK _ _ _ _ _ _ _ _ (by show k + 0 + 0 ≤ k + 23; omega) (by show n + 0 + 0 ≤ n + 984; omega) hJ3 ((hf3 sb hsb).trans hX2)
theorem w_20 {Φ : GR → Hp → Nat → Prop} {M : Hp} {z k n sb a b o lo i Ln : Nat} {xs : Nat → Int32} {l5 l6 l7 l8 : Option Value} (hJ : JS M a b o lo z) (hX : M sb = some (aX Ln xs)) (hsb : sb < a) (hi : i + 3 < Ln) (hLn : Ln ≤ 2048) (hk0 : k + 23 ≤ 601024) (hn0 : n + 984 ≤ 7293034) (hK : ∀ M' z' k' n' l5 l6 l7 l8, k' ≤ k + 23 → n' ≤ n + 984 → JS M' a b o lo z' → M' sb = some (aX Ln xs) → WP mL_law 2961 [some (.ref sb), some (.ref a), some (.ref b), some (.ref o), some (.int (nI (i))), l5, l6, l7, l8] [] M' z' k' n' Φ) : WP mL_law 922 [some (.ref sb), some (.ref a), some (.ref b), some (.ref o), some (.int (nI (i))), l5, l6, l7, l8] [] M z k n Φ := by
  obtain ⟨f, t, nn, h, sv, len, g, hJ⟩ := hJ
  obtain ⟨x, Ψ, hcw, hm⟩ := s_canGo hJ
  refine g_aload_1 dL_law_922 ?_
  refine g_v0 dL_law_923 (vL_229 rfl) rfl hJ.1.1 (Nat.le_of_ble_eq_true rfl) (by show k + 0 ≤ 601024; omega) (by show n + 0 ≤ 7293034; omega) (hcw) (fun r M2 z2 hq => ?_) (fun E M2 z2 hq => by obtain ⟨hq, -⟩ := hq; cases hq)
  obtain ⟨hr, hΨ⟩ := hq
  cases hr
  obtain ⟨⟨⟨I9, A9, hA9⟩, hf1⟩, hmm⟩ := hm _ _ hΨ
  have hX2 := (hf1 sb hsb).trans hX
  refine g_aload_2 dL_law_926 ?_
  refine g_v0 dL_law_927 (vL_233 rfl) rfl hA9.1 (Nat.le_of_ble_eq_true rfl) (by show k + 0 + 0 ≤ 601024; omega) (by show n + 0 + 0 ≤ 7293034; omega) (hmm) (fun r M2 z2 hq => ?_) (fun E M2 z2 hq => by obtain ⟨hq, -⟩ := hq; cases hq)
  obtain ⟨hr, hJ3, hf3⟩ := hq
  cases hr
  refine g_icmp_eq (tgt := 2961) dL_law_930 (by decide)  (fun _ => ?_) (fun h930 => absurd rfl h930)
  exact hK _ _ _ _ _ _ _ _ (by show k + 0 + 0 ≤ k + 23; omega) (by show n + 0 + 0 ≤ n + 984; omega) hJ3 ((hf3 sb hsb).trans hX2)
theorem w_21 {Φ : GR → Hp → Nat → Prop} {M : Hp} {z k n sb a b o lo i Ln : Nat} {xs : Nat → Int32} {l5 l6 l7 l8 : Option Value} (hJ : JS M a b o lo z) (hX : M sb = some (aX Ln xs)) (hsb : sb < a) (hi : i + 3 < Ln) (hLn : Ln ≤ 2048) (hk0 : k + 23 ≤ 601024) (hn0 : n + 984 ≤ 7293034) (hK : ∀ M' z' k' n' l5 l6 l7 l8, k' ≤ k + 23 → n' ≤ n + 984 → JS M' a b o lo z' → M' sb = some (aX Ln xs) → WP mL_law 2961 [some (.ref sb), some (.ref a), some (.ref b), some (.ref o), some (.int (nI (i))), l5, l6, l7, l8] [] M' z' k' n' Φ) : WP mL_law 935 [some (.ref sb), some (.ref a), some (.ref b), some (.ref o), some (.int (nI (i))), l5, l6, l7, l8] [] M z k n Φ := by
  obtain ⟨f, t, nn, h, sv, len, g, hJ⟩ := hJ
  obtain ⟨x, Ψ, hcw, hm⟩ := s_wouldSkip hJ
  refine g_aload_1 dL_law_935 ?_
  refine g_v0 dL_law_936 (vL_234 rfl) rfl hJ.1.1 (Nat.le_of_ble_eq_true rfl) (by show k + 0 ≤ 601024; omega) (by show n + 0 ≤ 7293034; omega) (hcw) (fun r M2 z2 hq => ?_) (fun E M2 z2 hq => by obtain ⟨hq, -⟩ := hq; cases hq)
  obtain ⟨hr, hΨ⟩ := hq
  cases hr
  obtain ⟨⟨⟨I9, A9, hA9⟩, hf1⟩, hmm⟩ := hm _ _ hΨ
  have hX2 := (hf1 sb hsb).trans hX
  refine g_aload_2 dL_law_939 ?_
  refine g_v0 dL_law_940 (vL_237 rfl) rfl hA9.1 (Nat.le_of_ble_eq_true rfl) (by show k + 0 + 0 ≤ 601024; omega) (by show n + 0 + 0 ≤ 7293034; omega) (hmm) (fun r M2 z2 hq => ?_) (fun E M2 z2 hq => by obtain ⟨hq, -⟩ := hq; cases hq)
  obtain ⟨hr, hJ3, hf3⟩ := hq
  cases hr
  refine g_icmp_eq (tgt := 2961) dL_law_943 (by decide)  (fun _ => ?_) (fun h943 => absurd rfl h943)
  exact hK _ _ _ _ _ _ _ _ (by show k + 0 + 0 ≤ k + 23; omega) (by show n + 0 + 0 ≤ n + 984; omega) hJ3 ((hf3 sb hsb).trans hX2)
theorem w_22 {Φ : GR → Hp → Nat → Prop} {M : Hp} {z k n sb a b o lo i Ln : Nat} {xs : Nat → Int32} {l5 l6 l7 l8 : Option Value} (hJ : JS M a b o lo z) (hX : M sb = some (aX Ln xs)) (hsb : sb < a) (hi : i + 3 < Ln) (hLn : Ln ≤ 2048) (hk0 : k + 23 ≤ 601024) (hn0 : n + 984 ≤ 7293034) (hK : ∀ M' z' k' n' l5 l6 l7 l8, k' ≤ k + 23 → n' ≤ n + 984 → JS M' a b o lo z' → M' sb = some (aX Ln xs) → WP mL_law 2961 [some (.ref sb), some (.ref a), some (.ref b), some (.ref o), some (.int (nI (i))), l5, l6, l7, l8] [] M' z' k' n' Φ) : WP mL_law 948 [some (.ref sb), some (.ref a), some (.ref b), some (.ref o), some (.int (nI (i))), l5, l6, l7, l8] [] M z k n Φ := by
  obtain ⟨f, t, nn, h, sv, len, g, hJ⟩ := hJ
  obtain ⟨kq, v, Ψ, hkq, hPv, hcw, hm⟩ := s_coneOf (w0 := xs (i + 1)) hJ
  refine g_aload_1 dL_law_948 ?_
  refine g_aload_0 dL_law_949 ?_
  refine g_iload_4 dL_law_950 ?_
  refine g_iconst (v := nI 1) dL_law_952 rfl ?_
  refine g_iaddN dL_law_953 ?_
  refine g_ialdXN dL_law_954 hX (by omega) (by omega) ?_
  refine g_aload_3 dL_law_955 ?_
  refine g_staH (as := [.ref a, .int (xs (i + 1)), .ref o]) dL_law_956 (sL_238 rfl) rfl rfl rfl (Nat.le_of_ble_eq_true rfl) (by show k + 1 ≤ 601024; omega) (by show n + 6 ≤ 7293034; omega) hcw (fun r M2 z2 hq => ?_) (fun E M2 z2 hq => by obtain ⟨hq, -⟩ := hq; cases hq)
  obtain ⟨hr, hΨ⟩ := hq
  cases hr
  obtain ⟨⟨⟨I9, A9, hA9⟩, hf1⟩, hmm⟩ := hm _ _ hΨ
  have hX2 := (hf1 sb hsb).trans hX
  refine g_istore_5 rfl dL_law_959 ?_
  refine g_aload_2 dL_law_961 ?_
  refine g_aload_0 dL_law_962 ?_
  refine g_iload_4 dL_law_963 ?_
  refine g_iconst (v := nI 1) dL_law_965 rfl ?_
  refine g_iaddN dL_law_966 ?_
  refine g_ialdXN dL_law_967 hX2 (by omega) (by omega) ?_
  refine g_v1 dL_law_968 (vL_240 rfl) rfl hA9.1 (Nat.le_of_ble_eq_true rfl) (by show k + 1 + 0 ≤ 601024; omega) (by show n + 6 + 0 ≤ 7293034; omega) (hmm) (fun r M2 z2 hq => ?_) (fun E M2 z2 hq => by obtain ⟨hq, -⟩ := hq; cases hq)
  obtain ⟨hr, ⟨⟨I3, A3, hA3, hk3⟩, ⟨fo, hfo, hv⟩, hJ3⟩, hf3⟩ := hq
  cases hr
  refine g_istore_6 rfl dL_law_971 ?_
  refine g_aload_2 dL_law_973 ?_
  refine g_v0_1 dL_law_974 (vL_154 rfl) rfl hA3.1 (Nat.le_of_ble_eq_true rfl) ⟨rfl, rfl⟩ (by show k + 1 + 0 ≤ 601024; omega) (by show n + 6 + 0 ≤ 7293034; omega) (m_thrown hA3 hk3) ?_
  refine g_iload_5 dL_law_977 ?_
  refine g_icmp_eq (tgt := 984) dL_law_979 (by decide)  (fun _ => ?_) (fun h979 => absurd rfl h979)
  refine g_iload_5 dL_law_984 ?_
  refine g_if_neN (tgt := 1001) dL_law_986 (by decide) (by omega) (fun h986 => ?_) (fun h986 => ?_)
  · refine g_goto (tgt := 2961) dL_law_1001 (by decide) ?_
    exact hK _ _ _ _ _ _ _ _ (by show k + 1 + 0 ≤ k + 23; omega) (by show n + 6 + 0 ≤ n + 984; omega) hJ3 ((hf3 sb hsb).trans hX2)
  · have hv0 := hv h986
    refine g_aload_3 dL_law_989 ?_
    refine g_iconst (v := nI 0) dL_law_990 rfl ?_
    refine g_laldN dL_law_991 hfo (by omega) (by decide) ?_
    refine g_iload_6 dL_law_992 ?_
    refine g_i2l dL_law_994 ?_
    refine g_lcmp dL_law_995 ?_
    refine g_if_eq (tgt := 1001) dL_law_996 (by decide)  (fun _ => ?_) (fun h996 => absurd (lcmp_self hv0) h996)
    refine g_goto (tgt := 2961) dL_law_1001 (by decide) ?_
    exact hK _ _ _ _ _ _ _ _ (by show k + 1 + 0 ≤ k + 23; omega) (by show n + 6 + 0 ≤ n + 984; omega) hJ3 ((hf3 sb hsb).trans hX2)
theorem w_23 {Φ : GR → Hp → Nat → Prop} {M : Hp} {z k n sb a b o lo i Ln : Nat} {xs : Nat → Int32} {l5 l6 l7 l8 : Option Value} (hJ : JS M a b o lo z) (hX : M sb = some (aX Ln xs)) (hsb : sb < a) (hi : i + 3 < Ln) (hLn : Ln ≤ 2048) (hk0 : k + 23 ≤ 601024) (hn0 : n + 984 ≤ 7293034) (hK : ∀ M' z' k' n' l5 l6 l7 l8, k' ≤ k + 23 → n' ≤ n + 984 → JS M' a b o lo z' → M' sb = some (aX Ln xs) → WP mL_law 2961 [some (.ref sb), some (.ref a), some (.ref b), some (.ref o), some (.int (nI (i))), l5, l6, l7, l8] [] M' z' k' n' Φ) : WP mL_law 1004 [some (.ref sb), some (.ref a), some (.ref b), some (.ref o), some (.int (nI (i))), l5, l6, l7, l8] [] M z k n Φ := by
  obtain ⟨f, t, nn, h, sv, len, g, hJ⟩ := hJ
  obtain ⟨kq, v, Ψ, hkq, hPv, hcw, hm⟩ := s_drawnByCone (w0 := xs (i + 1)) hJ
  refine g_aload_1 dL_law_1004 ?_
  refine g_aload_0 dL_law_1005 ?_
  refine g_iload_4 dL_law_1006 ?_
  refine g_iconst (v := nI 1) dL_law_1008 rfl ?_
  refine g_iaddN dL_law_1009 ?_
  refine g_ialdXN dL_law_1010 hX (by omega) (by omega) ?_
  refine g_aload_3 dL_law_1011 ?_
  refine g_staH (as := [.ref a, .int (xs (i + 1)), .ref o]) dL_law_1012 (sL_241 rfl) rfl rfl rfl (Nat.le_of_ble_eq_true rfl) (by show k + 1 ≤ 601024; omega) (by show n + 6 ≤ 7293034; omega) hcw (fun r M2 z2 hq => ?_) (fun E M2 z2 hq => by obtain ⟨hq, -⟩ := hq; cases hq)
  obtain ⟨hr, hΨ⟩ := hq
  cases hr
  obtain ⟨⟨⟨I9, A9, hA9⟩, hf1⟩, hmm⟩ := hm _ _ hΨ
  have hX2 := (hf1 sb hsb).trans hX
  refine g_istore_5 rfl dL_law_1015 ?_
  refine g_aload_2 dL_law_1017 ?_
  refine g_aload_0 dL_law_1018 ?_
  refine g_iload_4 dL_law_1019 ?_
  refine g_iconst (v := nI 1) dL_law_1021 rfl ?_
  refine g_iaddN dL_law_1022 ?_
  refine g_ialdXN dL_law_1023 hX2 (by omega) (by omega) ?_
  refine g_v1 dL_law_1024 (vL_243 rfl) rfl hA9.1 (Nat.le_of_ble_eq_true rfl) (by show k + 1 + 0 ≤ 601024; omega) (by show n + 6 + 0 ≤ 7293034; omega) (hmm) (fun r M2 z2 hq => ?_) (fun E M2 z2 hq => by obtain ⟨hq, -⟩ := hq; cases hq)
  obtain ⟨hr, ⟨⟨I3, A3, hA3, hk3⟩, ⟨fo, hfo, hv⟩, hJ3⟩, hf3⟩ := hq
  cases hr
  refine g_istore_6 rfl dL_law_1027 ?_
  refine g_aload_2 dL_law_1029 ?_
  refine g_v0_1 dL_law_1030 (vL_154 rfl) rfl hA3.1 (Nat.le_of_ble_eq_true rfl) ⟨rfl, rfl⟩ (by show k + 1 + 0 ≤ 601024; omega) (by show n + 6 + 0 ≤ 7293034; omega) (m_thrown hA3 hk3) ?_
  refine g_iload_5 dL_law_1033 ?_
  refine g_icmp_eq (tgt := 1040) dL_law_1035 (by decide)  (fun _ => ?_) (fun h1035 => absurd rfl h1035)
  refine g_iload_5 dL_law_1040 ?_
  refine g_if_neN (tgt := 1057) dL_law_1042 (by decide) (by omega) (fun h1042 => ?_) (fun h1042 => ?_)
  · refine g_goto (tgt := 2961) dL_law_1057 (by decide) ?_
    exact hK _ _ _ _ _ _ _ _ (by show k + 1 + 0 ≤ k + 23; omega) (by show n + 6 + 0 ≤ n + 984; omega) hJ3 ((hf3 sb hsb).trans hX2)
  · have hv0 := hv h1042
    refine g_aload_3 dL_law_1045 ?_
    refine g_iconst (v := nI 0) dL_law_1046 rfl ?_
    refine g_laldN dL_law_1047 hfo (by omega) (by decide) ?_
    refine g_iload_6 dL_law_1048 ?_
    refine g_i2l dL_law_1050 ?_
    refine g_lcmp dL_law_1051 ?_
    refine g_if_eq (tgt := 1057) dL_law_1052 (by decide)  (fun _ => ?_) (fun h1052 => absurd (lcmp_self hv0) h1052)
    refine g_goto (tgt := 2961) dL_law_1057 (by decide) ?_
    exact hK _ _ _ _ _ _ _ _ (by show k + 1 + 0 ≤ k + 23; omega) (by show n + 6 + 0 ≤ n + 984; omega) hJ3 ((hf3 sb hsb).trans hX2)
theorem w_24 {Φ : GR → Hp → Nat → Prop} {M : Hp} {z k n sb a b o lo i Ln : Nat} {xs : Nat → Int32} {l5 l6 l7 l8 : Option Value} (hJ : JS M a b o lo z) (hX : M sb = some (aX Ln xs)) (hsb : sb < a) (hi : i + 3 < Ln) (hLn : Ln ≤ 2048) (hk0 : k + 23 ≤ 601024) (hn0 : n + 984 ≤ 7293034) (hK : ∀ M' z' k' n' l5 l6 l7 l8, k' ≤ k + 23 → n' ≤ n + 984 → JS M' a b o lo z' → M' sb = some (aX Ln xs) → WP mL_law 2961 [some (.ref sb), some (.ref a), some (.ref b), some (.ref o), some (.int (nI (i))), l5, l6, l7, l8] [] M' z' k' n' Φ) : WP mL_law 1060 [some (.ref sb), some (.ref a), some (.ref b), some (.ref o), some (.int (nI (i))), l5, l6, l7, l8] [] M z k n Φ := by
  obtain ⟨f, t, nn, h, sv, len, g, hJ⟩ := hJ
  obtain ⟨kq, v, Ψ, hkq, hPv, hcw, hm⟩ := s_drawnByRug (w0 := xs (i + 1)) hJ
  refine g_aload_1 dL_law_1060 ?_
  refine g_aload_0 dL_law_1061 ?_
  refine g_iload_4 dL_law_1062 ?_
  refine g_iconst (v := nI 1) dL_law_1064 rfl ?_
  refine g_iaddN dL_law_1065 ?_
  refine g_ialdXN dL_law_1066 hX (by omega) (by omega) ?_
  refine g_aload_3 dL_law_1067 ?_
  refine g_staH (as := [.ref a, .int (xs (i + 1)), .ref o]) dL_law_1068 (sL_244 rfl) rfl rfl rfl (Nat.le_of_ble_eq_true rfl) (by show k + 1 ≤ 601024; omega) (by show n + 6 ≤ 7293034; omega) hcw (fun r M2 z2 hq => ?_) (fun E M2 z2 hq => by obtain ⟨hq, -⟩ := hq; cases hq)
  obtain ⟨hr, hΨ⟩ := hq
  cases hr
  obtain ⟨⟨⟨I9, A9, hA9⟩, hf1⟩, hmm⟩ := hm _ _ hΨ
  have hX2 := (hf1 sb hsb).trans hX
  refine g_istore_5 rfl dL_law_1071 ?_
  refine g_aload_2 dL_law_1073 ?_
  refine g_aload_0 dL_law_1074 ?_
  refine g_iload_4 dL_law_1075 ?_
  refine g_iconst (v := nI 1) dL_law_1077 rfl ?_
  refine g_iaddN dL_law_1078 ?_
  refine g_ialdXN dL_law_1079 hX2 (by omega) (by omega) ?_
  refine g_v1 dL_law_1080 (vL_246 rfl) rfl hA9.1 (Nat.le_of_ble_eq_true rfl) (by show k + 1 + 0 ≤ 601024; omega) (by show n + 6 + 0 ≤ 7293034; omega) (hmm) (fun r M2 z2 hq => ?_) (fun E M2 z2 hq => by obtain ⟨hq, -⟩ := hq; cases hq)
  obtain ⟨hr, ⟨⟨I3, A3, hA3, hk3⟩, ⟨fo, hfo, hv⟩, hJ3⟩, hf3⟩ := hq
  cases hr
  refine g_istore_6 rfl dL_law_1083 ?_
  refine g_aload_2 dL_law_1085 ?_
  refine g_v0_1 dL_law_1086 (vL_154 rfl) rfl hA3.1 (Nat.le_of_ble_eq_true rfl) ⟨rfl, rfl⟩ (by show k + 1 + 0 ≤ 601024; omega) (by show n + 6 + 0 ≤ 7293034; omega) (m_thrown hA3 hk3) ?_
  refine g_iload_5 dL_law_1089 ?_
  refine g_icmp_eq (tgt := 1096) dL_law_1091 (by decide)  (fun _ => ?_) (fun h1091 => absurd rfl h1091)
  refine g_iload_5 dL_law_1096 ?_
  refine g_if_neN (tgt := 1113) dL_law_1098 (by decide) (by omega) (fun h1098 => ?_) (fun h1098 => ?_)
  · refine g_goto (tgt := 2961) dL_law_1113 (by decide) ?_
    exact hK _ _ _ _ _ _ _ _ (by show k + 1 + 0 ≤ k + 23; omega) (by show n + 6 + 0 ≤ n + 984; omega) hJ3 ((hf3 sb hsb).trans hX2)
  · have hv0 := hv h1098
    refine g_aload_3 dL_law_1101 ?_
    refine g_iconst (v := nI 0) dL_law_1102 rfl ?_
    refine g_laldN dL_law_1103 hfo (by omega) (by decide) ?_
    refine g_iload_6 dL_law_1104 ?_
    refine g_i2l dL_law_1106 ?_
    refine g_lcmp dL_law_1107 ?_
    refine g_if_eq (tgt := 1113) dL_law_1108 (by decide)  (fun _ => ?_) (fun h1108 => absurd (lcmp_self hv0) h1108)
    refine g_goto (tgt := 2961) dL_law_1113 (by decide) ?_
    exact hK _ _ _ _ _ _ _ _ (by show k + 1 + 0 ≤ k + 23; omega) (by show n + 6 + 0 ≤ n + 984; omega) hJ3 ((hf3 sb hsb).trans hX2)
theorem w_25 {Φ : GR → Hp → Nat → Prop} {M : Hp} {z k n sb a b o lo i Ln : Nat} {xs : Nat → Int32} {l5 l6 l7 l8 : Option Value} (hJ : JS M a b o lo z) (hX : M sb = some (aX Ln xs)) (hsb : sb < a) (hi : i + 3 < Ln) (hLn : Ln ≤ 2048) (hk0 : k + 23 ≤ 601024) (hn0 : n + 984 ≤ 7293034) (hK : ∀ M' z' k' n' l5 l6 l7 l8, k' ≤ k + 23 → n' ≤ n + 984 → JS M' a b o lo z' → M' sb = some (aX Ln xs) → WP mL_law 2961 [some (.ref sb), some (.ref a), some (.ref b), some (.ref o), some (.int (nI (i))), l5, l6, l7, l8] [] M' z' k' n' Φ) : WP mL_law 1116 [some (.ref sb), some (.ref a), some (.ref b), some (.ref o), some (.int (nI (i))), l5, l6, l7, l8] [] M z k n Φ := by
  obtain ⟨f, t, nn, h, sv, len, g, hJ⟩ := hJ
  obtain ⟨kq, v, Ψ, hkq, hPv, hcw, hm⟩ := s_wasteOf (w0 := xs (i + 1)) hJ
  refine g_aload_1 dL_law_1116 ?_
  refine g_aload_0 dL_law_1117 ?_
  refine g_iload_4 dL_law_1118 ?_
  refine g_iconst (v := nI 1) dL_law_1120 rfl ?_
  refine g_iaddN dL_law_1121 ?_
  refine g_ialdXN dL_law_1122 hX (by omega) (by omega) ?_
  refine g_aload_3 dL_law_1123 ?_
  refine g_staH (as := [.ref a, .int (xs (i + 1)), .ref o]) dL_law_1124 (sL_247 rfl) rfl rfl rfl (Nat.le_of_ble_eq_true rfl) (by show k + 1 ≤ 601024; omega) (by show n + 6 ≤ 7293034; omega) hcw (fun r M2 z2 hq => ?_) (fun E M2 z2 hq => by obtain ⟨hq, -⟩ := hq; cases hq)
  obtain ⟨hr, hΨ⟩ := hq
  cases hr
  obtain ⟨⟨⟨I9, A9, hA9⟩, hf1⟩, hmm⟩ := hm _ _ hΨ
  have hX2 := (hf1 sb hsb).trans hX
  refine g_istore_5 rfl dL_law_1127 ?_
  refine g_aload_2 dL_law_1129 ?_
  refine g_aload_0 dL_law_1130 ?_
  refine g_iload_4 dL_law_1131 ?_
  refine g_iconst (v := nI 1) dL_law_1133 rfl ?_
  refine g_iaddN dL_law_1134 ?_
  refine g_ialdXN dL_law_1135 hX2 (by omega) (by omega) ?_
  refine g_v1 dL_law_1136 (vL_249 rfl) rfl hA9.1 (Nat.le_of_ble_eq_true rfl) (by show k + 1 + 0 ≤ 601024; omega) (by show n + 6 + 0 ≤ 7293034; omega) (hmm) (fun r M2 z2 hq => ?_) (fun E M2 z2 hq => by obtain ⟨hq, -⟩ := hq; cases hq)
  obtain ⟨hr, ⟨⟨I3, A3, hA3, hk3⟩, ⟨fo, hfo, hv⟩, hJ3⟩, hf3⟩ := hq
  cases hr
  refine g_istore_6 rfl dL_law_1139 ?_
  refine g_aload_2 dL_law_1141 ?_
  refine g_v0_1 dL_law_1142 (vL_154 rfl) rfl hA3.1 (Nat.le_of_ble_eq_true rfl) ⟨rfl, rfl⟩ (by show k + 1 + 0 ≤ 601024; omega) (by show n + 6 + 0 ≤ 7293034; omega) (m_thrown hA3 hk3) ?_
  refine g_iload_5 dL_law_1145 ?_
  refine g_icmp_eq (tgt := 1152) dL_law_1147 (by decide)  (fun _ => ?_) (fun h1147 => absurd rfl h1147)
  refine g_iload_5 dL_law_1152 ?_
  refine g_if_neN (tgt := 1169) dL_law_1154 (by decide) (by omega) (fun h1154 => ?_) (fun h1154 => ?_)
  · refine g_goto (tgt := 2961) dL_law_1169 (by decide) ?_
    exact hK _ _ _ _ _ _ _ _ (by show k + 1 + 0 ≤ k + 23; omega) (by show n + 6 + 0 ≤ n + 984; omega) hJ3 ((hf3 sb hsb).trans hX2)
  · have hv0 := hv h1154
    refine g_aload_3 dL_law_1157 ?_
    refine g_iconst (v := nI 0) dL_law_1158 rfl ?_
    refine g_laldN dL_law_1159 hfo (by omega) (by decide) ?_
    refine g_iload_6 dL_law_1160 ?_
    refine g_i2l dL_law_1162 ?_
    refine g_lcmp dL_law_1163 ?_
    refine g_if_eq (tgt := 1169) dL_law_1164 (by decide)  (fun _ => ?_) (fun h1164 => absurd (lcmp_self hv0) h1164)
    refine g_goto (tgt := 2961) dL_law_1169 (by decide) ?_
    exact hK _ _ _ _ _ _ _ _ (by show k + 1 + 0 ≤ k + 23; omega) (by show n + 6 + 0 ≤ n + 984; omega) hJ3 ((hf3 sb hsb).trans hX2)
theorem w_26 {Φ : GR → Hp → Nat → Prop} {M : Hp} {z k n sb a b o lo i Ln : Nat} {xs : Nat → Int32} {l5 l6 l7 l8 : Option Value} (hJ : JS M a b o lo z) (hX : M sb = some (aX Ln xs)) (hsb : sb < a) (hi : i + 3 < Ln) (hLn : Ln ≤ 2048) (hk0 : k + 23 ≤ 601024) (hn0 : n + 984 ≤ 7293034) (hK : ∀ M' z' k' n' l5 l6 l7 l8, k' ≤ k + 23 → n' ≤ n + 984 → JS M' a b o lo z' → M' sb = some (aX Ln xs) → WP mL_law 2961 [some (.ref sb), some (.ref a), some (.ref b), some (.ref o), some (.int (nI (i))), l5, l6, l7, l8] [] M' z' k' n' Φ) : WP mL_law 1172 [some (.ref sb), some (.ref a), some (.ref b), some (.ref o), some (.int (nI (i))), l5, l6, l7, l8] [] M z k n Φ := by
  obtain ⟨f, t, nn, h, sv, len, g, hJ⟩ := hJ
  obtain ⟨kq, v, Ψ, hkq, hPv, hcw, hm⟩ := s_neededFor (w0 := xs (i + 1)) hJ
  refine g_aload_1 dL_law_1172 ?_
  refine g_aload_0 dL_law_1173 ?_
  refine g_iload_4 dL_law_1174 ?_
  refine g_iconst (v := nI 1) dL_law_1176 rfl ?_
  refine g_iaddN dL_law_1177 ?_
  refine g_ialdXN dL_law_1178 hX (by omega) (by omega) ?_
  refine g_aload_3 dL_law_1179 ?_
  refine g_staH (as := [.ref a, .int (xs (i + 1)), .ref o]) dL_law_1180 (sL_250 rfl) rfl rfl rfl (Nat.le_of_ble_eq_true rfl) (by show k + 1 ≤ 601024; omega) (by show n + 6 ≤ 7293034; omega) hcw (fun r M2 z2 hq => ?_) (fun E M2 z2 hq => by obtain ⟨hq, -⟩ := hq; cases hq)
  obtain ⟨hr, hΨ⟩ := hq
  cases hr
  obtain ⟨⟨⟨I9, A9, hA9⟩, hf1⟩, hmm⟩ := hm _ _ hΨ
  have hX2 := (hf1 sb hsb).trans hX
  refine g_istore_5 rfl dL_law_1183 ?_
  refine g_aload_2 dL_law_1185 ?_
  refine g_aload_0 dL_law_1186 ?_
  refine g_iload_4 dL_law_1187 ?_
  refine g_iconst (v := nI 1) dL_law_1189 rfl ?_
  refine g_iaddN dL_law_1190 ?_
  refine g_ialdXN dL_law_1191 hX2 (by omega) (by omega) ?_
  refine g_v1 dL_law_1192 (vL_252 rfl) rfl hA9.1 (Nat.le_of_ble_eq_true rfl) (by show k + 1 + 0 ≤ 601024; omega) (by show n + 6 + 0 ≤ 7293034; omega) (hmm) (fun r M2 z2 hq => ?_) (fun E M2 z2 hq => by obtain ⟨hq, -⟩ := hq; cases hq)
  obtain ⟨hr, ⟨⟨I3, A3, hA3, hk3⟩, ⟨fo, hfo, hv⟩, hJ3⟩, hf3⟩ := hq
  cases hr
  refine g_istore_6 rfl dL_law_1195 ?_
  refine g_aload_2 dL_law_1197 ?_
  refine g_v0_1 dL_law_1198 (vL_154 rfl) rfl hA3.1 (Nat.le_of_ble_eq_true rfl) ⟨rfl, rfl⟩ (by show k + 1 + 0 ≤ 601024; omega) (by show n + 6 + 0 ≤ 7293034; omega) (m_thrown hA3 hk3) ?_
  refine g_iload_5 dL_law_1201 ?_
  refine g_icmp_eq (tgt := 1208) dL_law_1203 (by decide)  (fun _ => ?_) (fun h1203 => absurd rfl h1203)
  refine g_iload_5 dL_law_1208 ?_
  refine g_if_neN (tgt := 1225) dL_law_1210 (by decide) (by omega) (fun h1210 => ?_) (fun h1210 => ?_)
  · refine g_goto (tgt := 2961) dL_law_1225 (by decide) ?_
    exact hK _ _ _ _ _ _ _ _ (by show k + 1 + 0 ≤ k + 23; omega) (by show n + 6 + 0 ≤ n + 984; omega) hJ3 ((hf3 sb hsb).trans hX2)
  · have hv0 := hv h1210
    refine g_aload_3 dL_law_1213 ?_
    refine g_iconst (v := nI 0) dL_law_1214 rfl ?_
    refine g_laldN dL_law_1215 hfo (by omega) (by decide) ?_
    refine g_iload_6 dL_law_1216 ?_
    refine g_i2l dL_law_1218 ?_
    refine g_lcmp dL_law_1219 ?_
    refine g_if_eq (tgt := 1225) dL_law_1220 (by decide)  (fun _ => ?_) (fun h1220 => absurd (lcmp_self hv0) h1220)
    refine g_goto (tgt := 2961) dL_law_1225 (by decide) ?_
    exact hK _ _ _ _ _ _ _ _ (by show k + 1 + 0 ≤ k + 23; omega) (by show n + 6 + 0 ≤ n + 984; omega) hJ3 ((hf3 sb hsb).trans hX2)
theorem w_27 {Φ : GR → Hp → Nat → Prop} {M : Hp} {z k n sb a b o lo i Ln : Nat} {xs : Nat → Int32} {l5 l6 l7 l8 : Option Value} (hJ : JS M a b o lo z) (hX : M sb = some (aX Ln xs)) (hsb : sb < a) (hi : i + 3 < Ln) (hLn : Ln ≤ 2048) (hk0 : k + 23 ≤ 601024) (hn0 : n + 984 ≤ 7293034) (hK : ∀ M' z' k' n' l5 l6 l7 l8, k' ≤ k + 23 → n' ≤ n + 984 → JS M' a b o lo z' → M' sb = some (aX Ln xs) → WP mL_law 2961 [some (.ref sb), some (.ref a), some (.ref b), some (.ref o), some (.int (nI (i))), l5, l6, l7, l8] [] M' z' k' n' Φ) : WP mL_law 1228 [some (.ref sb), some (.ref a), some (.ref b), some (.ref o), some (.int (nI (i))), l5, l6, l7, l8] [] M z k n Φ := by
  obtain ⟨f, t, nn, h, sv, len, g, hJ⟩ := hJ
  obtain ⟨kq, v, Ψ, hkq, hPv, hcw, hm⟩ := s_untilKnot (w0 := xs (i + 1)) hJ
  refine g_aload_1 dL_law_1228 ?_
  refine g_aload_0 dL_law_1229 ?_
  refine g_iload_4 dL_law_1230 ?_
  refine g_iconst (v := nI 1) dL_law_1232 rfl ?_
  refine g_iaddN dL_law_1233 ?_
  refine g_ialdXN dL_law_1234 hX (by omega) (by omega) ?_
  refine g_aload_3 dL_law_1235 ?_
  refine g_staH (as := [.ref a, .int (xs (i + 1)), .ref o]) dL_law_1236 (sL_253 rfl) rfl rfl rfl (Nat.le_of_ble_eq_true rfl) (by show k + 1 ≤ 601024; omega) (by show n + 6 ≤ 7293034; omega) hcw (fun r M2 z2 hq => ?_) (fun E M2 z2 hq => by obtain ⟨hq, -⟩ := hq; cases hq)
  obtain ⟨hr, hΨ⟩ := hq
  cases hr
  obtain ⟨⟨⟨I9, A9, hA9⟩, hf1⟩, hmm⟩ := hm _ _ hΨ
  have hX2 := (hf1 sb hsb).trans hX
  refine g_istore_5 rfl dL_law_1239 ?_
  refine g_aload_2 dL_law_1241 ?_
  refine g_aload_0 dL_law_1242 ?_
  refine g_iload_4 dL_law_1243 ?_
  refine g_iconst (v := nI 1) dL_law_1245 rfl ?_
  refine g_iaddN dL_law_1246 ?_
  refine g_ialdXN dL_law_1247 hX2 (by omega) (by omega) ?_
  refine g_v1 dL_law_1248 (vL_255 rfl) rfl hA9.1 (Nat.le_of_ble_eq_true rfl) (by show k + 1 + 0 ≤ 601024; omega) (by show n + 6 + 0 ≤ 7293034; omega) (hmm) (fun r M2 z2 hq => ?_) (fun E M2 z2 hq => by obtain ⟨hq, -⟩ := hq; cases hq)
  obtain ⟨hr, ⟨⟨I3, A3, hA3, hk3⟩, ⟨fo, hfo, hv⟩, hJ3⟩, hf3⟩ := hq
  cases hr
  refine g_istore_6 rfl dL_law_1251 ?_
  refine g_aload_2 dL_law_1253 ?_
  refine g_v0_1 dL_law_1254 (vL_154 rfl) rfl hA3.1 (Nat.le_of_ble_eq_true rfl) ⟨rfl, rfl⟩ (by show k + 1 + 0 ≤ 601024; omega) (by show n + 6 + 0 ≤ 7293034; omega) (m_thrown hA3 hk3) ?_
  refine g_iload_5 dL_law_1257 ?_
  refine g_icmp_eq (tgt := 1264) dL_law_1259 (by decide)  (fun _ => ?_) (fun h1259 => absurd rfl h1259)
  refine g_iload_5 dL_law_1264 ?_
  refine g_if_neN (tgt := 1281) dL_law_1266 (by decide) (by omega) (fun h1266 => ?_) (fun h1266 => ?_)
  · refine g_goto (tgt := 2961) dL_law_1281 (by decide) ?_
    exact hK _ _ _ _ _ _ _ _ (by show k + 1 + 0 ≤ k + 23; omega) (by show n + 6 + 0 ≤ n + 984; omega) hJ3 ((hf3 sb hsb).trans hX2)
  · have hv0 := hv h1266
    refine g_aload_3 dL_law_1269 ?_
    refine g_iconst (v := nI 0) dL_law_1270 rfl ?_
    refine g_laldN dL_law_1271 hfo (by omega) (by decide) ?_
    refine g_iload_6 dL_law_1272 ?_
    refine g_i2l dL_law_1274 ?_
    refine g_lcmp dL_law_1275 ?_
    refine g_if_eq (tgt := 1281) dL_law_1276 (by decide)  (fun _ => ?_) (fun h1276 => absurd (lcmp_self hv0) h1276)
    refine g_goto (tgt := 2961) dL_law_1281 (by decide) ?_
    exact hK _ _ _ _ _ _ _ _ (by show k + 1 + 0 ≤ k + 23; omega) (by show n + 6 + 0 ≤ n + 984; omega) hJ3 ((hf3 sb hsb).trans hX2)
theorem w_28 {Φ : GR → Hp → Nat → Prop} {M : Hp} {z k n sb a b o lo i Ln : Nat} {xs : Nat → Int32} {l5 l6 l7 l8 : Option Value} (hJ : JS M a b o lo z) (hX : M sb = some (aX Ln xs)) (hsb : sb < a) (hi : i + 3 < Ln) (hLn : Ln ≤ 2048) (hk0 : k + 23 ≤ 601024) (hn0 : n + 984 ≤ 7293034) (hK : ∀ M' z' k' n' l5 l6 l7 l8, k' ≤ k + 23 → n' ≤ n + 984 → JS M' a b o lo z' → M' sb = some (aX Ln xs) → WP mL_law 2961 [some (.ref sb), some (.ref a), some (.ref b), some (.ref o), some (.int (nI (i))), l5, l6, l7, l8] [] M' z' k' n' Φ) : WP mL_law 1284 [some (.ref sb), some (.ref a), some (.ref b), some (.ref o), some (.int (nI (i))), l5, l6, l7, l8] [] M z k n Φ := by
  obtain ⟨f, t, nn, h, sv, len, g, hJ⟩ := hJ
  obtain ⟨x, Ψ, hcw, hm⟩ := s_knots hJ
  refine g_aload_1 dL_law_1284 ?_
  refine g_v0 dL_law_1285 (vL_256 rfl) rfl hJ.1.1 (Nat.le_of_ble_eq_true rfl) (by show k + 0 ≤ 601024; omega) (by show n + 0 ≤ 7293034; omega) (hcw) (fun r M2 z2 hq => ?_) (fun E M2 z2 hq => by obtain ⟨hq, -⟩ := hq; cases hq)
  obtain ⟨hr, hΨ⟩ := hq
  cases hr
  obtain ⟨⟨⟨I9, A9, hA9⟩, hf1⟩, hmm⟩ := hm _ _ hΨ
  have hX2 := (hf1 sb hsb).trans hX
  refine g_aload_2 dL_law_1288 ?_
  refine g_v0 dL_law_1289 (vL_259 rfl) rfl hA9.1 (Nat.le_of_ble_eq_true rfl) (by show k + 0 + 0 ≤ 601024; omega) (by show n + 0 + 0 ≤ 7293034; omega) (hmm) (fun r M2 z2 hq => ?_) (fun E M2 z2 hq => by obtain ⟨hq, -⟩ := hq; cases hq)
  obtain ⟨hr, hJ3, hf3⟩ := hq
  cases hr
  refine g_icmp_eq (tgt := 2961) dL_law_1292 (by decide)  (fun _ => ?_) (fun h1292 => absurd rfl h1292)
  exact hK _ _ _ _ _ _ _ _ (by show k + 0 + 0 ≤ k + 23; omega) (by show n + 0 + 0 ≤ n + 984; omega) hJ3 ((hf3 sb hsb).trans hX2)
theorem w_29 {Φ : GR → Hp → Nat → Prop} {M : Hp} {z k n sb a b o lo i Ln : Nat} {xs : Nat → Int32} {l5 l6 l7 l8 : Option Value} (hJ : JS M a b o lo z) (hX : M sb = some (aX Ln xs)) (hsb : sb < a) (hi : i + 3 < Ln) (hLn : Ln ≤ 2048) (hk0 : k + 23 ≤ 601024) (hn0 : n + 984 ≤ 7293034) (hK : ∀ M' z' k' n' l5 l6 l7 l8, k' ≤ k + 23 → n' ≤ n + 984 → JS M' a b o lo z' → M' sb = some (aX Ln xs) → WP mL_law 2961 [some (.ref sb), some (.ref a), some (.ref b), some (.ref o), some (.int (nI (i))), l5, l6, l7, l8] [] M' z' k' n' Φ) : WP mL_law 1297 [some (.ref sb), some (.ref a), some (.ref b), some (.ref o), some (.int (nI (i))), l5, l6, l7, l8] [] M z k n Φ := by
  obtain ⟨f, t, nn, h, sv, len, g, hJ⟩ := hJ
  obtain ⟨kq, v, Ψ, hkq, hPv, hcw, hm⟩ := s_motifLength (w0 := xs (i + 1)) hJ
  refine g_aload_1 dL_law_1297 ?_
  refine g_aload_0 dL_law_1298 ?_
  refine g_iload_4 dL_law_1299 ?_
  refine g_iconst (v := nI 1) dL_law_1301 rfl ?_
  refine g_iaddN dL_law_1302 ?_
  refine g_ialdXN dL_law_1303 hX (by omega) (by omega) ?_
  refine g_aload_3 dL_law_1304 ?_
  refine g_staH (as := [.ref a, .int (xs (i + 1)), .ref o]) dL_law_1305 (sL_260 rfl) rfl rfl rfl (Nat.le_of_ble_eq_true rfl) (by show k + 1 ≤ 601024; omega) (by show n + 6 ≤ 7293034; omega) hcw (fun r M2 z2 hq => ?_) (fun E M2 z2 hq => by obtain ⟨hq, -⟩ := hq; cases hq)
  obtain ⟨hr, hΨ⟩ := hq
  cases hr
  obtain ⟨⟨⟨I9, A9, hA9⟩, hf1⟩, hmm⟩ := hm _ _ hΨ
  have hX2 := (hf1 sb hsb).trans hX
  refine g_istore_5 rfl dL_law_1308 ?_
  refine g_aload_2 dL_law_1310 ?_
  refine g_aload_0 dL_law_1311 ?_
  refine g_iload_4 dL_law_1312 ?_
  refine g_iconst (v := nI 1) dL_law_1314 rfl ?_
  refine g_iaddN dL_law_1315 ?_
  refine g_ialdXN dL_law_1316 hX2 (by omega) (by omega) ?_
  refine g_v1 dL_law_1317 (vL_262 rfl) rfl hA9.1 (Nat.le_of_ble_eq_true rfl) (by show k + 1 + 0 ≤ 601024; omega) (by show n + 6 + 0 ≤ 7293034; omega) (hmm) (fun r M2 z2 hq => ?_) (fun E M2 z2 hq => by obtain ⟨hq, -⟩ := hq; cases hq)
  obtain ⟨hr, ⟨⟨I3, A3, hA3, hk3⟩, ⟨fo, hfo, hv⟩, hJ3⟩, hf3⟩ := hq
  cases hr
  refine g_istore_6 rfl dL_law_1320 ?_
  refine g_aload_2 dL_law_1322 ?_
  refine g_v0_1 dL_law_1323 (vL_154 rfl) rfl hA3.1 (Nat.le_of_ble_eq_true rfl) ⟨rfl, rfl⟩ (by show k + 1 + 0 ≤ 601024; omega) (by show n + 6 + 0 ≤ 7293034; omega) (m_thrown hA3 hk3) ?_
  refine g_iload_5 dL_law_1326 ?_
  refine g_icmp_eq (tgt := 1333) dL_law_1328 (by decide)  (fun _ => ?_) (fun h1328 => absurd rfl h1328)
  refine g_iload_5 dL_law_1333 ?_
  refine g_if_neN (tgt := 1350) dL_law_1335 (by decide) (by omega) (fun h1335 => ?_) (fun h1335 => ?_)
  · refine g_goto (tgt := 2961) dL_law_1350 (by decide) ?_
    exact hK _ _ _ _ _ _ _ _ (by show k + 1 + 0 ≤ k + 23; omega) (by show n + 6 + 0 ≤ n + 984; omega) hJ3 ((hf3 sb hsb).trans hX2)
  · have hv0 := hv h1335
    refine g_aload_3 dL_law_1338 ?_
    refine g_iconst (v := nI 0) dL_law_1339 rfl ?_
    refine g_laldN dL_law_1340 hfo (by omega) (by decide) ?_
    refine g_iload_6 dL_law_1341 ?_
    refine g_i2l dL_law_1343 ?_
    refine g_lcmp dL_law_1344 ?_
    refine g_if_eq (tgt := 1350) dL_law_1345 (by decide)  (fun _ => ?_) (fun h1345 => absurd (lcmp_self hv0) h1345)
    refine g_goto (tgt := 2961) dL_law_1350 (by decide) ?_
    exact hK _ _ _ _ _ _ _ _ (by show k + 1 + 0 ≤ k + 23; omega) (by show n + 6 + 0 ≤ n + 984; omega) hJ3 ((hf3 sb hsb).trans hX2)
theorem w_30 {Φ : GR → Hp → Nat → Prop} {M : Hp} {z k n sb a b o lo i Ln : Nat} {xs : Nat → Int32} {l5 l6 l7 l8 : Option Value} (hJ : JS M a b o lo z) (hX : M sb = some (aX Ln xs)) (hsb : sb < a) (hi : i + 3 < Ln) (hLn : Ln ≤ 2048) (hk0 : k + 23 ≤ 601024) (hn0 : n + 984 ≤ 7293034) (hK : ∀ M' z' k' n' l5 l6 l7 l8, k' ≤ k + 23 → n' ≤ n + 984 → JS M' a b o lo z' → M' sb = some (aX Ln xs) → WP mL_law 2961 [some (.ref sb), some (.ref a), some (.ref b), some (.ref o), some (.int (nI (i))), l5, l6, l7, l8] [] M' z' k' n' Φ) : WP mL_law 1353 [some (.ref sb), some (.ref a), some (.ref b), some (.ref o), some (.int (nI (i))), l5, l6, l7, l8] [] M z k n Φ := by
  obtain ⟨f, t, nn, h, sv, len, g, hJ⟩ := hJ
  obtain ⟨kq, v, Ψ, hkq, hPv, hcw, hm⟩ := s_motifSign (w0 := xs (i + 1)) (w1 := xs (i + 2)) hJ
  refine g_aload_1 dL_law_1353 ?_
  refine g_aload_0 dL_law_1354 ?_
  refine g_iload_4 dL_law_1355 ?_
  refine g_iconst (v := nI 1) dL_law_1357 rfl ?_
  refine g_iaddN dL_law_1358 ?_
  refine g_ialdXN dL_law_1359 hX (by omega) (by omega) ?_
  refine g_aload_0 dL_law_1360 ?_
  refine g_iload_4 dL_law_1361 ?_
  refine g_iconst (v := nI 2) dL_law_1363 rfl ?_
  refine g_iaddN dL_law_1364 ?_
  refine g_ialdXN dL_law_1365 hX (by omega) (by omega) ?_
  refine g_aload_3 dL_law_1366 ?_
  refine g_staH (as := [.ref a, .int (xs (i + 1)), .int (xs (i + 2)), .ref o]) dL_law_1367 (sL_263 rfl) rfl rfl rfl (Nat.le_of_ble_eq_true rfl) (by show k + 2 ≤ 601024; omega) (by show n + 12 ≤ 7293034; omega) hcw (fun r M2 z2 hq => ?_) (fun E M2 z2 hq => by obtain ⟨hq, -⟩ := hq; cases hq)
  obtain ⟨hr, hΨ⟩ := hq
  cases hr
  obtain ⟨⟨⟨I9, A9, hA9⟩, hf1⟩, hmm⟩ := hm _ _ hΨ
  have hX2 := (hf1 sb hsb).trans hX
  refine g_istore_5 rfl dL_law_1370 ?_
  refine g_aload_2 dL_law_1372 ?_
  refine g_aload_0 dL_law_1373 ?_
  refine g_iload_4 dL_law_1374 ?_
  refine g_iconst (v := nI 1) dL_law_1376 rfl ?_
  refine g_iaddN dL_law_1377 ?_
  refine g_ialdXN dL_law_1378 hX2 (by omega) (by omega) ?_
  refine g_aload_0 dL_law_1379 ?_
  refine g_iload_4 dL_law_1380 ?_
  refine g_iconst (v := nI 2) dL_law_1382 rfl ?_
  refine g_iaddN dL_law_1383 ?_
  refine g_ialdXN dL_law_1384 hX2 (by omega) (by omega) ?_
  refine g_v2 dL_law_1385 (vL_266 rfl) rfl hA9.1 (Nat.le_of_ble_eq_true rfl) (by show k + 2 + 0 ≤ 601024; omega) (by show n + 12 + 0 ≤ 7293034; omega) (hmm) (fun r M2 z2 hq => ?_) (fun E M2 z2 hq => by obtain ⟨hq, -⟩ := hq; cases hq)
  obtain ⟨hr, ⟨⟨I3, A3, hA3, hk3⟩, ⟨fo, hfo, hv⟩, hJ3⟩, hf3⟩ := hq
  cases hr
  refine g_istore_6 rfl dL_law_1388 ?_
  refine g_aload_2 dL_law_1390 ?_
  refine g_v0_1 dL_law_1391 (vL_154 rfl) rfl hA3.1 (Nat.le_of_ble_eq_true rfl) ⟨rfl, rfl⟩ (by show k + 2 + 0 ≤ 601024; omega) (by show n + 12 + 0 ≤ 7293034; omega) (m_thrown hA3 hk3) ?_
  refine g_iload_5 dL_law_1394 ?_
  refine g_icmp_eq (tgt := 1401) dL_law_1396 (by decide)  (fun _ => ?_) (fun h1396 => absurd rfl h1396)
  refine g_iload_5 dL_law_1401 ?_
  refine g_if_neN (tgt := 1418) dL_law_1403 (by decide) (by omega) (fun h1403 => ?_) (fun h1403 => ?_)
  · refine g_goto (tgt := 2961) dL_law_1418 (by decide) ?_
    exact hK _ _ _ _ _ _ _ _ (by show k + 2 + 0 ≤ k + 23; omega) (by show n + 12 + 0 ≤ n + 984; omega) hJ3 ((hf3 sb hsb).trans hX2)
  · have hv0 := hv h1403
    refine g_aload_3 dL_law_1406 ?_
    refine g_iconst (v := nI 0) dL_law_1407 rfl ?_
    refine g_laldN dL_law_1408 hfo (by omega) (by decide) ?_
    refine g_iload_6 dL_law_1409 ?_
    refine g_i2l dL_law_1411 ?_
    refine g_lcmp dL_law_1412 ?_
    refine g_if_eq (tgt := 1418) dL_law_1413 (by decide)  (fun _ => ?_) (fun h1413 => absurd (lcmp_self hv0) h1413)
    refine g_goto (tgt := 2961) dL_law_1418 (by decide) ?_
    exact hK _ _ _ _ _ _ _ _ (by show k + 2 + 0 ≤ k + 23; omega) (by show n + 12 + 0 ≤ n + 984; omega) hJ3 ((hf3 sb hsb).trans hX2)
theorem w_31 {Φ : GR → Hp → Nat → Prop} {M : Hp} {z k n sb a b o lo i Ln : Nat} {xs : Nat → Int32} {l5 l6 l7 l8 : Option Value} (hJ : JS M a b o lo z) (hX : M sb = some (aX Ln xs)) (hsb : sb < a) (hi : i + 3 < Ln) (hLn : Ln ≤ 2048) (hk0 : k + 23 ≤ 601024) (hn0 : n + 984 ≤ 7293034) (hK : ∀ M' z' k' n' l5 l6 l7 l8, k' ≤ k + 23 → n' ≤ n + 984 → JS M' a b o lo z' → M' sb = some (aX Ln xs) → WP mL_law 2961 [some (.ref sb), some (.ref a), some (.ref b), some (.ref o), some (.int (nI (i))), l5, l6, l7, l8] [] M' z' k' n' Φ) : WP mL_law 1421 [some (.ref sb), some (.ref a), some (.ref b), some (.ref o), some (.int (nI (i))), l5, l6, l7, l8] [] M z k n Φ := by
  obtain ⟨f, t, nn, h, sv, len, g, hJ⟩ := hJ
  obtain ⟨kq, v, Ψ, hkq, hPv, hcw, hm⟩ := s_setPlan (w0 := xs (i + 1)) (w1 := xs (i + 2)) hJ
  refine g_aload_1 dL_law_1421 ?_
  refine g_aload_0 dL_law_1422 ?_
  refine g_iload_4 dL_law_1423 ?_
  refine g_iconst (v := nI 1) dL_law_1425 rfl ?_
  refine g_iaddN dL_law_1426 ?_
  refine g_ialdXN dL_law_1427 hX (by omega) (by omega) ?_
  refine g_aload_0 dL_law_1428 ?_
  refine g_iload_4 dL_law_1429 ?_
  refine g_iconst (v := nI 2) dL_law_1431 rfl ?_
  refine g_iaddN dL_law_1432 ?_
  refine g_ialdXN dL_law_1433 hX (by omega) (by omega) ?_
  refine g_aload_3 dL_law_1434 ?_
  refine g_staH (as := [.ref a, .int (xs (i + 1)), .int (xs (i + 2)), .ref o]) dL_law_1435 (sL_267 rfl) rfl rfl rfl (Nat.le_of_ble_eq_true rfl) (by show k + 22 ≤ 601024; omega) (by show n + 978 ≤ 7293034; omega) hcw (fun r M2 z2 hq => ?_) (fun E M2 z2 hq => by obtain ⟨hq, -⟩ := hq; cases hq)
  obtain ⟨hr, hΨ⟩ := hq
  cases hr
  obtain ⟨⟨⟨I9, A9, hA9⟩, hf1⟩, hmm⟩ := hm _ _ hΨ
  have hX2 := (hf1 sb hsb).trans hX
  refine g_istore_5 rfl dL_law_1438 ?_
  refine g_aload_2 dL_law_1440 ?_
  refine g_aload_0 dL_law_1441 ?_
  refine g_iload_4 dL_law_1442 ?_
  refine g_iconst (v := nI 1) dL_law_1444 rfl ?_
  refine g_iaddN dL_law_1445 ?_
  refine g_ialdXN dL_law_1446 hX2 (by omega) (by omega) ?_
  refine g_aload_0 dL_law_1447 ?_
  refine g_iload_4 dL_law_1448 ?_
  refine g_iconst (v := nI 2) dL_law_1450 rfl ?_
  refine g_iaddN dL_law_1451 ?_
  refine g_ialdXN dL_law_1452 hX2 (by omega) (by omega) ?_
  refine g_v2 dL_law_1453 (vL_269 rfl) rfl hA9.1 (Nat.le_of_ble_eq_true rfl) (by show k + 22 + 0 ≤ 601024; omega) (by show n + 978 + 0 ≤ 7293034; omega) (hmm) (fun r M2 z2 hq => ?_) (fun E M2 z2 hq => by obtain ⟨hq, -⟩ := hq; cases hq)
  obtain ⟨hr, ⟨⟨I3, A3, hA3, hk3⟩, ⟨fo, hfo, hv⟩, hJ3⟩, hf3⟩ := hq
  cases hr
  refine g_istore_6 rfl dL_law_1456 ?_
  refine g_aload_2 dL_law_1458 ?_
  refine g_v0_1 dL_law_1459 (vL_154 rfl) rfl hA3.1 (Nat.le_of_ble_eq_true rfl) ⟨rfl, rfl⟩ (by show k + 22 + 0 ≤ 601024; omega) (by show n + 978 + 0 ≤ 7293034; omega) (m_thrown hA3 hk3) ?_
  refine g_iload_5 dL_law_1462 ?_
  refine g_icmp_eq (tgt := 1469) dL_law_1464 (by decide)  (fun _ => ?_) (fun h1464 => absurd rfl h1464)
  refine g_iload_5 dL_law_1469 ?_
  refine g_if_neN (tgt := 1486) dL_law_1471 (by decide) (by omega) (fun h1471 => ?_) (fun h1471 => ?_)
  · refine g_goto (tgt := 2961) dL_law_1486 (by decide) ?_
    exact hK _ _ _ _ _ _ _ _ (by show k + 22 + 0 ≤ k + 23; omega) (by show n + 978 + 0 ≤ n + 984; omega) hJ3 ((hf3 sb hsb).trans hX2)
  · have hv0 := hv h1471
    refine g_aload_3 dL_law_1474 ?_
    refine g_iconst (v := nI 0) dL_law_1475 rfl ?_
    refine g_laldN dL_law_1476 hfo (by omega) (by decide) ?_
    refine g_iload_6 dL_law_1477 ?_
    refine g_i2l dL_law_1479 ?_
    refine g_lcmp dL_law_1480 ?_
    refine g_if_eq (tgt := 1486) dL_law_1481 (by decide)  (fun _ => ?_) (fun h1481 => absurd (lcmp_self hv0) h1481)
    refine g_goto (tgt := 2961) dL_law_1486 (by decide) ?_
    exact hK _ _ _ _ _ _ _ _ (by show k + 22 + 0 ≤ k + 23; omega) (by show n + 978 + 0 ≤ n + 984; omega) hJ3 ((hf3 sb hsb).trans hX2)
theorem w_32 {Φ : GR → Hp → Nat → Prop} {M : Hp} {z k n sb a b o lo i Ln : Nat} {xs : Nat → Int32} {l5 l6 l7 l8 : Option Value} (hJ : JS M a b o lo z) (hX : M sb = some (aX Ln xs)) (hsb : sb < a) (hi : i + 3 < Ln) (hLn : Ln ≤ 2048) (hk0 : k + 23 ≤ 601024) (hn0 : n + 984 ≤ 7293034) (hK : ∀ M' z' k' n' l5 l6 l7 l8, k' ≤ k + 23 → n' ≤ n + 984 → JS M' a b o lo z' → M' sb = some (aX Ln xs) → WP mL_law 2961 [some (.ref sb), some (.ref a), some (.ref b), some (.ref o), some (.int (nI (i))), l5, l6, l7, l8] [] M' z' k' n' Φ) : WP mL_law 1489 [some (.ref sb), some (.ref a), some (.ref b), some (.ref o), some (.int (nI (i))), l5, l6, l7, l8] [] M z k n Φ := by
  obtain ⟨f, t, nn, h, sv, len, g, hJ⟩ := hJ
  obtain ⟨kq, v, Ψ, hkq, hPv, hcw, hm⟩ := s_fillPlan (w0 := xs (i + 1)) (w1 := xs (i + 2)) (w2 := xs (i + 3)) hJ
  refine g_aload_1 dL_law_1489 ?_
  refine g_aload_0 dL_law_1490 ?_
  refine g_iload_4 dL_law_1491 ?_
  refine g_iconst (v := nI 1) dL_law_1493 rfl ?_
  refine g_iaddN dL_law_1494 ?_
  refine g_ialdXN dL_law_1495 hX (by omega) (by omega) ?_
  refine g_aload_0 dL_law_1496 ?_
  refine g_iload_4 dL_law_1497 ?_
  refine g_iconst (v := nI 2) dL_law_1499 rfl ?_
  refine g_iaddN dL_law_1500 ?_
  refine g_ialdXN dL_law_1501 hX (by omega) (by omega) ?_
  refine g_aload_0 dL_law_1502 ?_
  refine g_iload_4 dL_law_1503 ?_
  refine g_iconst (v := nI 3) dL_law_1505 rfl ?_
  refine g_iaddN dL_law_1506 ?_
  refine g_ialdXN dL_law_1507 hX (by omega) (by omega) ?_
  refine g_aload_3 dL_law_1508 ?_
  refine g_staH (as := [.ref a, .int (xs (i + 1)), .int (xs (i + 2)), .int (xs (i + 3)), .ref o]) dL_law_1509 (sL_270 rfl) rfl rfl rfl (Nat.le_of_ble_eq_true rfl) (by show k + 23 ≤ 601024; omega) (by show n + 984 ≤ 7293034; omega) hcw (fun r M2 z2 hq => ?_) (fun E M2 z2 hq => by obtain ⟨hq, -⟩ := hq; cases hq)
  obtain ⟨hr, hΨ⟩ := hq
  cases hr
  obtain ⟨⟨⟨I9, A9, hA9⟩, hf1⟩, hmm⟩ := hm _ _ hΨ
  have hX2 := (hf1 sb hsb).trans hX
  refine g_istore_5 rfl dL_law_1512 ?_
  refine g_aload_2 dL_law_1514 ?_
  refine g_aload_0 dL_law_1515 ?_
  refine g_iload_4 dL_law_1516 ?_
  refine g_iconst (v := nI 1) dL_law_1518 rfl ?_
  refine g_iaddN dL_law_1519 ?_
  refine g_ialdXN dL_law_1520 hX2 (by omega) (by omega) ?_
  refine g_aload_0 dL_law_1521 ?_
  refine g_iload_4 dL_law_1522 ?_
  refine g_iconst (v := nI 2) dL_law_1524 rfl ?_
  refine g_iaddN dL_law_1525 ?_
  refine g_ialdXN dL_law_1526 hX2 (by omega) (by omega) ?_
  refine g_aload_0 dL_law_1527 ?_
  refine g_iload_4 dL_law_1528 ?_
  refine g_iconst (v := nI 3) dL_law_1530 rfl ?_
  refine g_iaddN dL_law_1531 ?_
  refine g_ialdXN dL_law_1532 hX2 (by omega) (by omega) ?_
  refine g_v3 dL_law_1533 (vL_273 rfl) rfl hA9.1 (Nat.le_of_ble_eq_true rfl) (by show k + 23 + 0 ≤ 601024; omega) (by show n + 984 + 0 ≤ 7293034; omega) (hmm) (fun r M2 z2 hq => ?_) (fun E M2 z2 hq => by obtain ⟨hq, -⟩ := hq; cases hq)
  obtain ⟨hr, ⟨⟨I3, A3, hA3, hk3⟩, ⟨fo, hfo, hv⟩, hJ3⟩, hf3⟩ := hq
  cases hr
  refine g_istore_6 rfl dL_law_1536 ?_
  refine g_aload_2 dL_law_1538 ?_
  refine g_v0_1 dL_law_1539 (vL_154 rfl) rfl hA3.1 (Nat.le_of_ble_eq_true rfl) ⟨rfl, rfl⟩ (by show k + 23 + 0 ≤ 601024; omega) (by show n + 984 + 0 ≤ 7293034; omega) (m_thrown hA3 hk3) ?_
  refine g_iload_5 dL_law_1542 ?_
  refine g_icmp_eq (tgt := 1549) dL_law_1544 (by decide)  (fun _ => ?_) (fun h1544 => absurd rfl h1544)
  refine g_iload_5 dL_law_1549 ?_
  refine g_if_neN (tgt := 1566) dL_law_1551 (by decide) (by omega) (fun h1551 => ?_) (fun h1551 => ?_)
  · refine g_goto (tgt := 2961) dL_law_1566 (by decide) ?_
    exact hK _ _ _ _ _ _ _ _ (by show k + 23 + 0 ≤ k + 23; omega) (by show n + 984 + 0 ≤ n + 984; omega) hJ3 ((hf3 sb hsb).trans hX2)
  · have hv0 := hv h1551
    refine g_aload_3 dL_law_1554 ?_
    refine g_iconst (v := nI 0) dL_law_1555 rfl ?_
    refine g_laldN dL_law_1556 hfo (by omega) (by decide) ?_
    refine g_iload_6 dL_law_1557 ?_
    refine g_i2l dL_law_1559 ?_
    refine g_lcmp dL_law_1560 ?_
    refine g_if_eq (tgt := 1566) dL_law_1561 (by decide)  (fun _ => ?_) (fun h1561 => absurd (lcmp_self hv0) h1561)
    refine g_goto (tgt := 2961) dL_law_1566 (by decide) ?_
    exact hK _ _ _ _ _ _ _ _ (by show k + 23 + 0 ≤ k + 23; omega) (by show n + 984 + 0 ≤ n + 984; omega) hJ3 ((hf3 sb hsb).trans hX2)
theorem w_33 {Φ : GR → Hp → Nat → Prop} {M : Hp} {z k n sb a b o lo i Ln : Nat} {xs : Nat → Int32} {l5 l6 l7 l8 : Option Value} (hJ : JS M a b o lo z) (hX : M sb = some (aX Ln xs)) (hsb : sb < a) (hi : i + 3 < Ln) (hLn : Ln ≤ 2048) (hk0 : k + 23 ≤ 601024) (hn0 : n + 984 ≤ 7293034) (hK : ∀ M' z' k' n' l5 l6 l7 l8, k' ≤ k + 23 → n' ≤ n + 984 → JS M' a b o lo z' → M' sb = some (aX Ln xs) → WP mL_law 2961 [some (.ref sb), some (.ref a), some (.ref b), some (.ref o), some (.int (nI (i))), l5, l6, l7, l8] [] M' z' k' n' Φ) : WP mL_law 1569 [some (.ref sb), some (.ref a), some (.ref b), some (.ref o), some (.int (nI (i))), l5, l6, l7, l8] [] M z k n Φ := by
  obtain ⟨f, t, nn, h, sv, len, g, hJ⟩ := hJ
  obtain ⟨kq, v, Ψ, hkq, hPv, hcw, hm⟩ := s_thread (w0 := xs (i + 1)) hJ
  refine g_aload_1 dL_law_1569 ?_
  refine g_aload_0 dL_law_1570 ?_
  refine g_iload_4 dL_law_1571 ?_
  refine g_iconst (v := nI 1) dL_law_1573 rfl ?_
  refine g_iaddN dL_law_1574 ?_
  refine g_ialdXN dL_law_1575 hX (by omega) (by omega) ?_
  refine g_aload_3 dL_law_1576 ?_
  refine g_staH (as := [.ref a, .int (xs (i + 1)), .ref o]) dL_law_1577 (sL_274 rfl) rfl rfl rfl (Nat.le_of_ble_eq_true rfl) (by show k + 22 ≤ 601024; omega) (by show n + 978 ≤ 7293034; omega) hcw (fun r M2 z2 hq => ?_) (fun E M2 z2 hq => by obtain ⟨hq, -⟩ := hq; cases hq)
  obtain ⟨hr, hΨ⟩ := hq
  cases hr
  obtain ⟨⟨⟨I9, A9, hA9⟩, hf1⟩, hmm⟩ := hm _ _ hΨ
  have hX2 := (hf1 sb hsb).trans hX
  refine g_istore_5 rfl dL_law_1580 ?_
  refine g_aload_2 dL_law_1582 ?_
  refine g_aload_0 dL_law_1583 ?_
  refine g_iload_4 dL_law_1584 ?_
  refine g_iconst (v := nI 1) dL_law_1586 rfl ?_
  refine g_iaddN dL_law_1587 ?_
  refine g_ialdXN dL_law_1588 hX2 (by omega) (by omega) ?_
  refine g_v1 dL_law_1589 (vL_276 rfl) rfl hA9.1 (Nat.le_of_ble_eq_true rfl) (by show k + 22 + 0 ≤ 601024; omega) (by show n + 978 + 0 ≤ 7293034; omega) (hmm) (fun r M2 z2 hq => ?_) (fun E M2 z2 hq => by obtain ⟨hq, -⟩ := hq; cases hq)
  obtain ⟨hr, ⟨⟨I3, A3, hA3, hk3⟩, ⟨fo, hfo, hv⟩, hJ3⟩, hf3⟩ := hq
  cases hr
  refine g_istore_6 rfl dL_law_1592 ?_
  refine g_aload_2 dL_law_1594 ?_
  refine g_v0_1 dL_law_1595 (vL_154 rfl) rfl hA3.1 (Nat.le_of_ble_eq_true rfl) ⟨rfl, rfl⟩ (by show k + 22 + 0 ≤ 601024; omega) (by show n + 978 + 0 ≤ 7293034; omega) (m_thrown hA3 hk3) ?_
  refine g_iload_5 dL_law_1598 ?_
  refine g_icmp_eq (tgt := 1605) dL_law_1600 (by decide)  (fun _ => ?_) (fun h1600 => absurd rfl h1600)
  refine g_iload_5 dL_law_1605 ?_
  refine g_if_neN (tgt := 1622) dL_law_1607 (by decide) (by omega) (fun h1607 => ?_) (fun h1607 => ?_)
  · refine g_goto (tgt := 2961) dL_law_1622 (by decide) ?_
    exact hK _ _ _ _ _ _ _ _ (by show k + 22 + 0 ≤ k + 23; omega) (by show n + 978 + 0 ≤ n + 984; omega) hJ3 ((hf3 sb hsb).trans hX2)
  · have hv0 := hv h1607
    refine g_aload_3 dL_law_1610 ?_
    refine g_iconst (v := nI 0) dL_law_1611 rfl ?_
    refine g_laldN dL_law_1612 hfo (by omega) (by decide) ?_
    refine g_iload_6 dL_law_1613 ?_
    refine g_i2l dL_law_1615 ?_
    refine g_lcmp dL_law_1616 ?_
    refine g_if_eq (tgt := 1622) dL_law_1617 (by decide)  (fun _ => ?_) (fun h1617 => absurd (lcmp_self hv0) h1617)
    refine g_goto (tgt := 2961) dL_law_1622 (by decide) ?_
    exact hK _ _ _ _ _ _ _ _ (by show k + 22 + 0 ≤ k + 23; omega) (by show n + 978 + 0 ≤ n + 984; omega) hJ3 ((hf3 sb hsb).trans hX2)
theorem w_34 {Φ : GR → Hp → Nat → Prop} {M : Hp} {z k n sb a b o lo i Ln : Nat} {xs : Nat → Int32} {l5 l6 l7 l8 : Option Value} (hJ : JS M a b o lo z) (hX : M sb = some (aX Ln xs)) (hsb : sb < a) (hi : i + 3 < Ln) (hLn : Ln ≤ 2048) (hk0 : k + 23 ≤ 601024) (hn0 : n + 984 ≤ 7293034) (hK : ∀ M' z' k' n' l5 l6 l7 l8, k' ≤ k + 23 → n' ≤ n + 984 → JS M' a b o lo z' → M' sb = some (aX Ln xs) → WP mL_law 2961 [some (.ref sb), some (.ref a), some (.ref b), some (.ref o), some (.int (nI (i))), l5, l6, l7, l8] [] M' z' k' n' Φ) : WP mL_law 1625 [some (.ref sb), some (.ref a), some (.ref b), some (.ref o), some (.int (nI (i))), l5, l6, l7, l8] [] M z k n Φ := by
  obtain ⟨f, t, nn, h, sv, len, g, hJ⟩ := hJ
  obtain ⟨kq, v, Ψ, hkq, hPv, hcw, hm⟩ := s_cut  hJ
  refine g_aload_1 dL_law_1625 ?_
  refine g_aload_3 dL_law_1626 ?_
  refine g_staH (as := [.ref a, .ref o]) dL_law_1627 (sL_277 rfl) rfl rfl rfl (Nat.le_of_ble_eq_true rfl) (by show k + 21 ≤ 601024; omega) (by show n + 972 ≤ 7293034; omega) hcw (fun r M2 z2 hq => ?_) (fun E M2 z2 hq => by obtain ⟨hq, -⟩ := hq; cases hq)
  obtain ⟨hr, hΨ⟩ := hq
  cases hr
  obtain ⟨⟨⟨I9, A9, hA9⟩, hf1⟩, hmm⟩ := hm _ _ hΨ
  have hX2 := (hf1 sb hsb).trans hX
  refine g_istore_5 rfl dL_law_1630 ?_
  refine g_aload_2 dL_law_1632 ?_
  refine g_v0 dL_law_1633 (vL_280 rfl) rfl hA9.1 (Nat.le_of_ble_eq_true rfl) (by show k + 21 + 0 ≤ 601024; omega) (by show n + 972 + 0 ≤ 7293034; omega) (hmm) (fun r M2 z2 hq => ?_) (fun E M2 z2 hq => by obtain ⟨hq, -⟩ := hq; cases hq)
  obtain ⟨hr, ⟨⟨I3, A3, hA3, hk3⟩, ⟨fo, hfo, hv⟩, hJ3⟩, hf3⟩ := hq
  cases hr
  refine g_istore_6 rfl dL_law_1636 ?_
  refine g_aload_2 dL_law_1638 ?_
  refine g_v0_1 dL_law_1639 (vL_154 rfl) rfl hA3.1 (Nat.le_of_ble_eq_true rfl) ⟨rfl, rfl⟩ (by show k + 21 + 0 ≤ 601024; omega) (by show n + 972 + 0 ≤ 7293034; omega) (m_thrown hA3 hk3) ?_
  refine g_iload_5 dL_law_1642 ?_
  refine g_icmp_eq (tgt := 1649) dL_law_1644 (by decide)  (fun _ => ?_) (fun h1644 => absurd rfl h1644)
  refine g_iload_5 dL_law_1649 ?_
  refine g_if_neN (tgt := 1666) dL_law_1651 (by decide) (by omega) (fun h1651 => ?_) (fun h1651 => ?_)
  · refine g_goto (tgt := 2961) dL_law_1666 (by decide) ?_
    exact hK _ _ _ _ _ _ _ _ (by show k + 21 + 0 ≤ k + 23; omega) (by show n + 972 + 0 ≤ n + 984; omega) hJ3 ((hf3 sb hsb).trans hX2)
  · have hv0 := hv h1651
    refine g_aload_3 dL_law_1654 ?_
    refine g_iconst (v := nI 0) dL_law_1655 rfl ?_
    refine g_laldN dL_law_1656 hfo (by omega) (by decide) ?_
    refine g_iload_6 dL_law_1657 ?_
    refine g_i2l dL_law_1659 ?_
    refine g_lcmp dL_law_1660 ?_
    refine g_if_eq (tgt := 1666) dL_law_1661 (by decide)  (fun _ => ?_) (fun h1661 => absurd (lcmp_self hv0) h1661)
    refine g_goto (tgt := 2961) dL_law_1666 (by decide) ?_
    exact hK _ _ _ _ _ _ _ _ (by show k + 21 + 0 ≤ k + 23; omega) (by show n + 972 + 0 ≤ n + 984; omega) hJ3 ((hf3 sb hsb).trans hX2)
theorem w_35 {Φ : GR → Hp → Nat → Prop} {M : Hp} {z k n sb a b o lo i Ln : Nat} {xs : Nat → Int32} {l5 l6 l7 l8 : Option Value} (hJ : JS M a b o lo z) (hX : M sb = some (aX Ln xs)) (hsb : sb < a) (hi : i + 3 < Ln) (hLn : Ln ≤ 2048) (hk0 : k + 23 ≤ 601024) (hn0 : n + 984 ≤ 7293034) (hK : ∀ M' z' k' n' l5 l6 l7 l8, k' ≤ k + 23 → n' ≤ n + 984 → JS M' a b o lo z' → M' sb = some (aX Ln xs) → WP mL_law 2961 [some (.ref sb), some (.ref a), some (.ref b), some (.ref o), some (.int (nI (i))), l5, l6, l7, l8] [] M' z' k' n' Φ) : WP mL_law 1669 [some (.ref sb), some (.ref a), some (.ref b), some (.ref o), some (.int (nI (i))), l5, l6, l7, l8] [] M z k n Φ := by
  obtain ⟨f, t, nn, h, sv, len, g, hJ⟩ := hJ
  obtain ⟨kq, v, Ψ, hkq, hPv, hcw, hm⟩ := s_sew (w0 := xs (i + 1)) hJ
  refine g_aload_1 dL_law_1669 ?_
  refine g_aload_0 dL_law_1670 ?_
  refine g_iload_4 dL_law_1671 ?_
  refine g_iconst (v := nI 1) dL_law_1673 rfl ?_
  refine g_iaddN dL_law_1674 ?_
  refine g_ialdXN dL_law_1675 hX (by omega) (by omega) ?_
  refine g_aload_3 dL_law_1676 ?_
  refine g_staH (as := [.ref a, .int (xs (i + 1)), .ref o]) dL_law_1677 (sL_281 rfl) rfl rfl rfl (Nat.le_of_ble_eq_true rfl) (by show k + 22 ≤ 601024; omega) (by show n + 978 ≤ 7293034; omega) hcw (fun r M2 z2 hq => ?_) (fun E M2 z2 hq => by obtain ⟨hq, -⟩ := hq; cases hq)
  obtain ⟨hr, hΨ⟩ := hq
  cases hr
  obtain ⟨⟨⟨I9, A9, hA9⟩, hf1⟩, hmm⟩ := hm _ _ hΨ
  have hX2 := (hf1 sb hsb).trans hX
  refine g_istore_5 rfl dL_law_1680 ?_
  refine g_aload_2 dL_law_1682 ?_
  refine g_aload_0 dL_law_1683 ?_
  refine g_iload_4 dL_law_1684 ?_
  refine g_iconst (v := nI 1) dL_law_1686 rfl ?_
  refine g_iaddN dL_law_1687 ?_
  refine g_ialdXN dL_law_1688 hX2 (by omega) (by omega) ?_
  refine g_v1 dL_law_1689 (vL_283 rfl) rfl hA9.1 (Nat.le_of_ble_eq_true rfl) (by show k + 22 + 0 ≤ 601024; omega) (by show n + 978 + 0 ≤ 7293034; omega) (hmm) (fun r M2 z2 hq => ?_) (fun E M2 z2 hq => by obtain ⟨hq, -⟩ := hq; cases hq)
  obtain ⟨hr, ⟨⟨I3, A3, hA3, hk3⟩, ⟨fo, hfo, hv⟩, hJ3⟩, hf3⟩ := hq
  cases hr
  refine g_istore_6 rfl dL_law_1692 ?_
  refine g_aload_2 dL_law_1694 ?_
  refine g_v0_1 dL_law_1695 (vL_154 rfl) rfl hA3.1 (Nat.le_of_ble_eq_true rfl) ⟨rfl, rfl⟩ (by show k + 22 + 0 ≤ 601024; omega) (by show n + 978 + 0 ≤ 7293034; omega) (m_thrown hA3 hk3) ?_
  refine g_iload_5 dL_law_1698 ?_
  refine g_icmp_eq (tgt := 1705) dL_law_1700 (by decide)  (fun _ => ?_) (fun h1700 => absurd rfl h1700)
  refine g_iload_5 dL_law_1705 ?_
  refine g_if_neN (tgt := 1722) dL_law_1707 (by decide) (by omega) (fun h1707 => ?_) (fun h1707 => ?_)
  · refine g_goto (tgt := 2961) dL_law_1722 (by decide) ?_
    exact hK _ _ _ _ _ _ _ _ (by show k + 22 + 0 ≤ k + 23; omega) (by show n + 978 + 0 ≤ n + 984; omega) hJ3 ((hf3 sb hsb).trans hX2)
  · have hv0 := hv h1707
    refine g_aload_3 dL_law_1710 ?_
    refine g_iconst (v := nI 0) dL_law_1711 rfl ?_
    refine g_laldN dL_law_1712 hfo (by omega) (by decide) ?_
    refine g_iload_6 dL_law_1713 ?_
    refine g_i2l dL_law_1715 ?_
    refine g_lcmp dL_law_1716 ?_
    refine g_if_eq (tgt := 1722) dL_law_1717 (by decide)  (fun _ => ?_) (fun h1717 => absurd (lcmp_self hv0) h1717)
    refine g_goto (tgt := 2961) dL_law_1722 (by decide) ?_
    exact hK _ _ _ _ _ _ _ _ (by show k + 22 + 0 ≤ k + 23; omega) (by show n + 978 + 0 ≤ n + 984; omega) hJ3 ((hf3 sb hsb).trans hX2)
theorem w_36 {Φ : GR → Hp → Nat → Prop} {M : Hp} {z k n sb a b o lo i Ln : Nat} {xs : Nat → Int32} {l5 l6 l7 l8 : Option Value} (hJ : JS M a b o lo z) (hX : M sb = some (aX Ln xs)) (hsb : sb < a) (hi : i + 3 < Ln) (hLn : Ln ≤ 2048) (hk0 : k + 23 ≤ 601024) (hn0 : n + 984 ≤ 7293034) (hK : ∀ M' z' k' n' l5 l6 l7 l8, k' ≤ k + 23 → n' ≤ n + 984 → JS M' a b o lo z' → M' sb = some (aX Ln xs) → WP mL_law 2961 [some (.ref sb), some (.ref a), some (.ref b), some (.ref o), some (.int (nI (i))), l5, l6, l7, l8] [] M' z' k' n' Φ) : WP mL_law 1725 [some (.ref sb), some (.ref a), some (.ref b), some (.ref o), some (.int (nI (i))), l5, l6, l7, l8] [] M z k n Φ := by
  obtain ⟨f, t, nn, h, sv, len, g, hJ⟩ := hJ
  obtain ⟨kq, v, Ψ, hkq, hPv, hcw, hm⟩ := s_jump (w0 := xs (i + 1)) hJ
  refine g_aload_1 dL_law_1725 ?_
  refine g_aload_0 dL_law_1726 ?_
  refine g_iload_4 dL_law_1727 ?_
  refine g_iconst (v := nI 1) dL_law_1729 rfl ?_
  refine g_iaddN dL_law_1730 ?_
  refine g_ialdXN dL_law_1731 hX (by omega) (by omega) ?_
  refine g_aload_3 dL_law_1732 ?_
  refine g_staH (as := [.ref a, .int (xs (i + 1)), .ref o]) dL_law_1733 (sL_284 rfl) rfl rfl rfl (Nat.le_of_ble_eq_true rfl) (by show k + 21 ≤ 601024; omega) (by show n + 972 ≤ 7293034; omega) hcw (fun r M2 z2 hq => ?_) (fun E M2 z2 hq => by obtain ⟨hq, -⟩ := hq; cases hq)
  obtain ⟨hr, hΨ⟩ := hq
  cases hr
  obtain ⟨⟨⟨I9, A9, hA9⟩, hf1⟩, hmm⟩ := hm _ _ hΨ
  have hX2 := (hf1 sb hsb).trans hX
  refine g_istore_5 rfl dL_law_1736 ?_
  refine g_aload_2 dL_law_1738 ?_
  refine g_aload_0 dL_law_1739 ?_
  refine g_iload_4 dL_law_1740 ?_
  refine g_iconst (v := nI 1) dL_law_1742 rfl ?_
  refine g_iaddN dL_law_1743 ?_
  refine g_ialdXN dL_law_1744 hX2 (by omega) (by omega) ?_
  refine g_v1 dL_law_1745 (vL_286 rfl) rfl hA9.1 (Nat.le_of_ble_eq_true rfl) (by show k + 21 + 0 ≤ 601024; omega) (by show n + 972 + 0 ≤ 7293034; omega) (hmm) (fun r M2 z2 hq => ?_) (fun E M2 z2 hq => by obtain ⟨hq, -⟩ := hq; cases hq)
  obtain ⟨hr, ⟨⟨I3, A3, hA3, hk3⟩, ⟨fo, hfo, hv⟩, hJ3⟩, hf3⟩ := hq
  cases hr
  refine g_istore_6 rfl dL_law_1748 ?_
  refine g_aload_2 dL_law_1750 ?_
  refine g_v0_1 dL_law_1751 (vL_154 rfl) rfl hA3.1 (Nat.le_of_ble_eq_true rfl) ⟨rfl, rfl⟩ (by show k + 21 + 0 ≤ 601024; omega) (by show n + 972 + 0 ≤ 7293034; omega) (m_thrown hA3 hk3) ?_
  refine g_iload_5 dL_law_1754 ?_
  refine g_icmp_eq (tgt := 1761) dL_law_1756 (by decide)  (fun _ => ?_) (fun h1756 => absurd rfl h1756)
  refine g_iload_5 dL_law_1761 ?_
  refine g_if_neN (tgt := 1778) dL_law_1763 (by decide) (by omega) (fun h1763 => ?_) (fun h1763 => ?_)
  · refine g_goto (tgt := 2961) dL_law_1778 (by decide) ?_
    exact hK _ _ _ _ _ _ _ _ (by show k + 21 + 0 ≤ k + 23; omega) (by show n + 972 + 0 ≤ n + 984; omega) hJ3 ((hf3 sb hsb).trans hX2)
  · have hv0 := hv h1763
    refine g_aload_3 dL_law_1766 ?_
    refine g_iconst (v := nI 0) dL_law_1767 rfl ?_
    refine g_laldN dL_law_1768 hfo (by omega) (by decide) ?_
    refine g_iload_6 dL_law_1769 ?_
    refine g_i2l dL_law_1771 ?_
    refine g_lcmp dL_law_1772 ?_
    refine g_if_eq (tgt := 1778) dL_law_1773 (by decide)  (fun _ => ?_) (fun h1773 => absurd (lcmp_self hv0) h1773)
    refine g_goto (tgt := 2961) dL_law_1778 (by decide) ?_
    exact hK _ _ _ _ _ _ _ _ (by show k + 21 + 0 ≤ k + 23; omega) (by show n + 972 + 0 ≤ n + 984; omega) hJ3 ((hf3 sb hsb).trans hX2)
theorem w_37 {Φ : GR → Hp → Nat → Prop} {M : Hp} {z k n sb a b o lo i Ln : Nat} {xs : Nat → Int32} {l5 l6 l7 l8 : Option Value} (hJ : JS M a b o lo z) (hX : M sb = some (aX Ln xs)) (hsb : sb < a) (hi : i + 3 < Ln) (hLn : Ln ≤ 2048) (hk0 : k + 23 ≤ 601024) (hn0 : n + 984 ≤ 7293034) (hK : ∀ M' z' k' n' l5 l6 l7 l8, k' ≤ k + 23 → n' ≤ n + 984 → JS M' a b o lo z' → M' sb = some (aX Ln xs) → WP mL_law 2961 [some (.ref sb), some (.ref a), some (.ref b), some (.ref o), some (.int (nI (i))), l5, l6, l7, l8] [] M' z' k' n' Φ) : WP mL_law 1781 [some (.ref sb), some (.ref a), some (.ref b), some (.ref o), some (.int (nI (i))), l5, l6, l7, l8] [] M z k n Φ := by
  obtain ⟨f, t, nn, h, sv, len, g, hJ⟩ := hJ
  obtain ⟨x, Ψ, hcw, hm⟩ := s_turnLeft hJ
  refine g_aload_1 dL_law_1781 ?_
  refine g_v0 dL_law_1782 (vL_287 rfl) rfl hJ.1.1 (Nat.le_of_ble_eq_true rfl) (by show k + 20 ≤ 601024; omega) (by show n + 966 ≤ 7293034; omega) (hcw) (fun r M2 z2 hq => ?_) (fun E M2 z2 hq => by obtain ⟨hq, -⟩ := hq; cases hq)
  obtain ⟨hr, hΨ⟩ := hq
  cases hr
  obtain ⟨⟨⟨I9, A9, hA9⟩, hf1⟩, hmm⟩ := hm _ _ hΨ
  have hX2 := (hf1 sb hsb).trans hX
  refine g_aload_2 dL_law_1785 ?_
  refine g_v0 dL_law_1786 (vL_290 rfl) rfl hA9.1 (Nat.le_of_ble_eq_true rfl) (by show k + 20 + 0 ≤ 601024; omega) (by show n + 966 + 0 ≤ 7293034; omega) (hmm) (fun r M2 z2 hq => ?_) (fun E M2 z2 hq => by obtain ⟨hq, -⟩ := hq; cases hq)
  obtain ⟨hr, hJ3, hf3⟩ := hq
  cases hr
  refine g_icmp_eq (tgt := 2961) dL_law_1789 (by decide)  (fun _ => ?_) (fun h1789 => absurd rfl h1789)
  exact hK _ _ _ _ _ _ _ _ (by show k + 20 + 0 ≤ k + 23; omega) (by show n + 966 + 0 ≤ n + 984; omega) hJ3 ((hf3 sb hsb).trans hX2)
theorem w_38 {Φ : GR → Hp → Nat → Prop} {M : Hp} {z k n sb a b o lo i Ln : Nat} {xs : Nat → Int32} {l5 l6 l7 l8 : Option Value} (hJ : JS M a b o lo z) (hX : M sb = some (aX Ln xs)) (hsb : sb < a) (hi : i + 3 < Ln) (hLn : Ln ≤ 2048) (hk0 : k + 23 ≤ 601024) (hn0 : n + 984 ≤ 7293034) (hK : ∀ M' z' k' n' l5 l6 l7 l8, k' ≤ k + 23 → n' ≤ n + 984 → JS M' a b o lo z' → M' sb = some (aX Ln xs) → WP mL_law 2961 [some (.ref sb), some (.ref a), some (.ref b), some (.ref o), some (.int (nI (i))), l5, l6, l7, l8] [] M' z' k' n' Φ) : WP mL_law 1794 [some (.ref sb), some (.ref a), some (.ref b), some (.ref o), some (.int (nI (i))), l5, l6, l7, l8] [] M z k n Φ := by
  obtain ⟨f, t, nn, h, sv, len, g, hJ⟩ := hJ
  obtain ⟨x, Ψ, hcw, hm⟩ := s_turnRight hJ
  refine g_aload_1 dL_law_1794 ?_
  refine g_v0 dL_law_1795 (vL_291 rfl) rfl hJ.1.1 (Nat.le_of_ble_eq_true rfl) (by show k + 20 ≤ 601024; omega) (by show n + 966 ≤ 7293034; omega) (hcw) (fun r M2 z2 hq => ?_) (fun E M2 z2 hq => by obtain ⟨hq, -⟩ := hq; cases hq)
  obtain ⟨hr, hΨ⟩ := hq
  cases hr
  obtain ⟨⟨⟨I9, A9, hA9⟩, hf1⟩, hmm⟩ := hm _ _ hΨ
  have hX2 := (hf1 sb hsb).trans hX
  refine g_aload_2 dL_law_1798 ?_
  refine g_v0 dL_law_1799 (vL_294 rfl) rfl hA9.1 (Nat.le_of_ble_eq_true rfl) (by show k + 20 + 0 ≤ 601024; omega) (by show n + 966 + 0 ≤ 7293034; omega) (hmm) (fun r M2 z2 hq => ?_) (fun E M2 z2 hq => by obtain ⟨hq, -⟩ := hq; cases hq)
  obtain ⟨hr, hJ3, hf3⟩ := hq
  cases hr
  refine g_icmp_eq (tgt := 2961) dL_law_1802 (by decide)  (fun _ => ?_) (fun h1802 => absurd rfl h1802)
  exact hK _ _ _ _ _ _ _ _ (by show k + 20 + 0 ≤ k + 23; omega) (by show n + 966 + 0 ≤ n + 984; omega) hJ3 ((hf3 sb hsb).trans hX2)
theorem w_39 {Φ : GR → Hp → Nat → Prop} {M : Hp} {z k n sb a b o lo i Ln : Nat} {xs : Nat → Int32} {l5 l6 l7 l8 : Option Value} (hJ : JS M a b o lo z) (hX : M sb = some (aX Ln xs)) (hsb : sb < a) (hi : i + 3 < Ln) (hLn : Ln ≤ 2048) (hk0 : k + 23 ≤ 601024) (hn0 : n + 984 ≤ 7293034) (hK : ∀ M' z' k' n' l5 l6 l7 l8, k' ≤ k + 23 → n' ≤ n + 984 → JS M' a b o lo z' → M' sb = some (aX Ln xs) → WP mL_law 2961 [some (.ref sb), some (.ref a), some (.ref b), some (.ref o), some (.int (nI (i))), l5, l6, l7, l8] [] M' z' k' n' Φ) : WP mL_law 1807 [some (.ref sb), some (.ref a), some (.ref b), some (.ref o), some (.int (nI (i))), l5, l6, l7, l8] [] M z k n Φ := by
  obtain ⟨f, t, nn, h, sv, len, g, hJ⟩ := hJ
  obtain ⟨kq, v, Ψ, hkq, hPv, hcw, hm⟩ := s_ease  hJ
  refine g_aload_1 dL_law_1807 ?_
  refine g_aload_3 dL_law_1808 ?_
  refine g_staH (as := [.ref a, .ref o]) dL_law_1809 (sL_295 rfl) rfl rfl rfl (Nat.le_of_ble_eq_true rfl) (by show k + 21 ≤ 601024; omega) (by show n + 972 ≤ 7293034; omega) hcw (fun r M2 z2 hq => ?_) (fun E M2 z2 hq => by obtain ⟨hq, -⟩ := hq; cases hq)
  obtain ⟨hr, hΨ⟩ := hq
  cases hr
  obtain ⟨⟨⟨I9, A9, hA9⟩, hf1⟩, hmm⟩ := hm _ _ hΨ
  have hX2 := (hf1 sb hsb).trans hX
  refine g_istore_5 rfl dL_law_1812 ?_
  refine g_aload_2 dL_law_1814 ?_
  refine g_v0 dL_law_1815 (vL_297 rfl) rfl hA9.1 (Nat.le_of_ble_eq_true rfl) (by show k + 21 + 0 ≤ 601024; omega) (by show n + 972 + 0 ≤ 7293034; omega) (hmm) (fun r M2 z2 hq => ?_) (fun E M2 z2 hq => by obtain ⟨hq, -⟩ := hq; cases hq)
  obtain ⟨hr, ⟨⟨I3, A3, hA3, hk3⟩, ⟨fo, hfo, hv⟩, hJ3⟩, hf3⟩ := hq
  cases hr
  refine g_istore_6 rfl dL_law_1818 ?_
  refine g_aload_2 dL_law_1820 ?_
  refine g_v0_1 dL_law_1821 (vL_154 rfl) rfl hA3.1 (Nat.le_of_ble_eq_true rfl) ⟨rfl, rfl⟩ (by show k + 21 + 0 ≤ 601024; omega) (by show n + 972 + 0 ≤ 7293034; omega) (m_thrown hA3 hk3) ?_
  refine g_iload_5 dL_law_1824 ?_
  refine g_icmp_eq (tgt := 1831) dL_law_1826 (by decide)  (fun _ => ?_) (fun h1826 => absurd rfl h1826)
  refine g_iload_5 dL_law_1831 ?_
  refine g_if_neN (tgt := 1848) dL_law_1833 (by decide) (by omega) (fun h1833 => ?_) (fun h1833 => ?_)
  · refine g_goto (tgt := 2961) dL_law_1848 (by decide) ?_
    exact hK _ _ _ _ _ _ _ _ (by show k + 21 + 0 ≤ k + 23; omega) (by show n + 972 + 0 ≤ n + 984; omega) hJ3 ((hf3 sb hsb).trans hX2)
  · have hv0 := hv h1833
    refine g_aload_3 dL_law_1836 ?_
    refine g_iconst (v := nI 0) dL_law_1837 rfl ?_
    refine g_laldN dL_law_1838 hfo (by omega) (by decide) ?_
    refine g_iload_6 dL_law_1839 ?_
    refine g_i2l dL_law_1841 ?_
    refine g_lcmp dL_law_1842 ?_
    refine g_if_eq (tgt := 1848) dL_law_1843 (by decide)  (fun _ => ?_) (fun h1843 => absurd (lcmp_self hv0) h1843)
    refine g_goto (tgt := 2961) dL_law_1848 (by decide) ?_
    exact hK _ _ _ _ _ _ _ _ (by show k + 21 + 0 ≤ k + 23; omega) (by show n + 972 + 0 ≤ n + 984; omega) hJ3 ((hf3 sb hsb).trans hX2)
theorem w_40 {Φ : GR → Hp → Nat → Prop} {M : Hp} {z k n sb a b o lo i Ln : Nat} {xs : Nat → Int32} {l5 l6 l7 l8 : Option Value} (hJ : JS M a b o lo z) (hX : M sb = some (aX Ln xs)) (hsb : sb < a) (hi : i + 3 < Ln) (hLn : Ln ≤ 2048) (hk0 : k + 23 ≤ 601024) (hn0 : n + 984 ≤ 7293034) (hK : ∀ M' z' k' n' l5 l6 l7 l8, k' ≤ k + 23 → n' ≤ n + 984 → JS M' a b o lo z' → M' sb = some (aX Ln xs) → WP mL_law 2961 [some (.ref sb), some (.ref a), some (.ref b), some (.ref o), some (.int (nI (i))), l5, l6, l7, l8] [] M' z' k' n' Φ) : WP mL_law 1851 [some (.ref sb), some (.ref a), some (.ref b), some (.ref o), some (.int (nI (i))), l5, l6, l7, l8] [] M z k n Φ := by
  obtain ⟨f, t, nn, h, sv, len, g, hJ⟩ := hJ
  obtain ⟨kq, v, Ψ, hkq, hPv, hcw, hm⟩ := s_setHeight (w0 := xs (i + 1)) hJ
  refine g_aload_1 dL_law_1851 ?_
  refine g_aload_0 dL_law_1852 ?_
  refine g_iload_4 dL_law_1853 ?_
  refine g_iconst (v := nI 1) dL_law_1855 rfl ?_
  refine g_iaddN dL_law_1856 ?_
  refine g_ialdXN dL_law_1857 hX (by omega) (by omega) ?_
  refine g_aload_3 dL_law_1858 ?_
  refine g_staH (as := [.ref a, .int (xs (i + 1)), .ref o]) dL_law_1859 (sL_298 rfl) rfl rfl rfl (Nat.le_of_ble_eq_true rfl) (by show k + 21 ≤ 601024; omega) (by show n + 972 ≤ 7293034; omega) hcw (fun r M2 z2 hq => ?_) (fun E M2 z2 hq => by obtain ⟨hq, -⟩ := hq; cases hq)
  obtain ⟨hr, hΨ⟩ := hq
  cases hr
  obtain ⟨⟨⟨I9, A9, hA9⟩, hf1⟩, hmm⟩ := hm _ _ hΨ
  have hX2 := (hf1 sb hsb).trans hX
  refine g_istore_5 rfl dL_law_1862 ?_
  refine g_aload_2 dL_law_1864 ?_
  refine g_aload_0 dL_law_1865 ?_
  refine g_iload_4 dL_law_1866 ?_
  refine g_iconst (v := nI 1) dL_law_1868 rfl ?_
  refine g_iaddN dL_law_1869 ?_
  refine g_ialdXN dL_law_1870 hX2 (by omega) (by omega) ?_
  refine g_v1 dL_law_1871 (vL_300 rfl) rfl hA9.1 (Nat.le_of_ble_eq_true rfl) (by show k + 21 + 0 ≤ 601024; omega) (by show n + 972 + 0 ≤ 7293034; omega) (hmm) (fun r M2 z2 hq => ?_) (fun E M2 z2 hq => by obtain ⟨hq, -⟩ := hq; cases hq)
  obtain ⟨hr, ⟨⟨I3, A3, hA3, hk3⟩, ⟨fo, hfo, hv⟩, hJ3⟩, hf3⟩ := hq
  cases hr
  refine g_istore_6 rfl dL_law_1874 ?_
  refine g_aload_2 dL_law_1876 ?_
  refine g_v0_1 dL_law_1877 (vL_154 rfl) rfl hA3.1 (Nat.le_of_ble_eq_true rfl) ⟨rfl, rfl⟩ (by show k + 21 + 0 ≤ 601024; omega) (by show n + 972 + 0 ≤ 7293034; omega) (m_thrown hA3 hk3) ?_
  refine g_iload_5 dL_law_1880 ?_
  refine g_icmp_eq (tgt := 1887) dL_law_1882 (by decide)  (fun _ => ?_) (fun h1882 => absurd rfl h1882)
  refine g_iload_5 dL_law_1887 ?_
  refine g_if_neN (tgt := 1904) dL_law_1889 (by decide) (by omega) (fun h1889 => ?_) (fun h1889 => ?_)
  · refine g_goto (tgt := 2961) dL_law_1904 (by decide) ?_
    exact hK _ _ _ _ _ _ _ _ (by show k + 21 + 0 ≤ k + 23; omega) (by show n + 972 + 0 ≤ n + 984; omega) hJ3 ((hf3 sb hsb).trans hX2)
  · have hv0 := hv h1889
    refine g_aload_3 dL_law_1892 ?_
    refine g_iconst (v := nI 0) dL_law_1893 rfl ?_
    refine g_laldN dL_law_1894 hfo (by omega) (by decide) ?_
    refine g_iload_6 dL_law_1895 ?_
    refine g_i2l dL_law_1897 ?_
    refine g_lcmp dL_law_1898 ?_
    refine g_if_eq (tgt := 1904) dL_law_1899 (by decide)  (fun _ => ?_) (fun h1899 => absurd (lcmp_self hv0) h1899)
    refine g_goto (tgt := 2961) dL_law_1904 (by decide) ?_
    exact hK _ _ _ _ _ _ _ _ (by show k + 21 + 0 ≤ k + 23; omega) (by show n + 972 + 0 ≤ n + 984; omega) hJ3 ((hf3 sb hsb).trans hX2)
theorem w_41 {Φ : GR → Hp → Nat → Prop} {M : Hp} {z k n sb a b o lo i Ln : Nat} {xs : Nat → Int32} {l5 l6 l7 l8 : Option Value} (hJ : JS M a b o lo z) (hX : M sb = some (aX Ln xs)) (hsb : sb < a) (hi : i + 3 < Ln) (hLn : Ln ≤ 2048) (hk0 : k + 23 ≤ 601024) (hn0 : n + 984 ≤ 7293034) (hK : ∀ M' z' k' n' l5 l6 l7 l8, k' ≤ k + 23 → n' ≤ n + 984 → JS M' a b o lo z' → M' sb = some (aX Ln xs) → WP mL_law 2961 [some (.ref sb), some (.ref a), some (.ref b), some (.ref o), some (.int (nI (i))), l5, l6, l7, l8] [] M' z' k' n' Φ) : WP mL_law 1907 [some (.ref sb), some (.ref a), some (.ref b), some (.ref o), some (.int (nI (i))), l5, l6, l7, l8] [] M z k n Φ := by
  obtain ⟨f, t, nn, h, sv, len, g, hJ⟩ := hJ
  obtain ⟨kq, v, Ψ, hkq, hPv, hcw, hm⟩ := s_place (w0 := xs (i + 1)) (w1 := xs (i + 2)) hJ
  refine g_aload_1 dL_law_1907 ?_
  refine g_aload_0 dL_law_1908 ?_
  refine g_iload_4 dL_law_1909 ?_
  refine g_iconst (v := nI 1) dL_law_1911 rfl ?_
  refine g_iaddN dL_law_1912 ?_
  refine g_ialdXN dL_law_1913 hX (by omega) (by omega) ?_
  refine g_aload_0 dL_law_1914 ?_
  refine g_iload_4 dL_law_1915 ?_
  refine g_iconst (v := nI 2) dL_law_1917 rfl ?_
  refine g_iaddN dL_law_1918 ?_
  refine g_ialdXN dL_law_1919 hX (by omega) (by omega) ?_
  refine g_aload_3 dL_law_1920 ?_
  refine g_staH (as := [.ref a, .int (xs (i + 1)), .int (xs (i + 2)), .ref o]) dL_law_1921 (sL_301 rfl) rfl rfl rfl (Nat.le_of_ble_eq_true rfl) (by show k + 23 ≤ 601024; omega) (by show n + 984 ≤ 7293034; omega) hcw (fun r M2 z2 hq => ?_) (fun E M2 z2 hq => by obtain ⟨hq, -⟩ := hq; cases hq)
  obtain ⟨hr, hΨ⟩ := hq
  cases hr
  obtain ⟨⟨⟨I9, A9, hA9⟩, hf1⟩, hmm⟩ := hm _ _ hΨ
  have hX2 := (hf1 sb hsb).trans hX
  refine g_istore_5 rfl dL_law_1924 ?_
  refine g_aload_2 dL_law_1926 ?_
  refine g_aload_0 dL_law_1927 ?_
  refine g_iload_4 dL_law_1928 ?_
  refine g_iconst (v := nI 1) dL_law_1930 rfl ?_
  refine g_iaddN dL_law_1931 ?_
  refine g_ialdXN dL_law_1932 hX2 (by omega) (by omega) ?_
  refine g_aload_0 dL_law_1933 ?_
  refine g_iload_4 dL_law_1934 ?_
  refine g_iconst (v := nI 2) dL_law_1936 rfl ?_
  refine g_iaddN dL_law_1937 ?_
  refine g_ialdXN dL_law_1938 hX2 (by omega) (by omega) ?_
  refine g_v2 dL_law_1939 (vL_303 rfl) rfl hA9.1 (Nat.le_of_ble_eq_true rfl) (by show k + 23 + 0 ≤ 601024; omega) (by show n + 984 + 0 ≤ 7293034; omega) (hmm) (fun r M2 z2 hq => ?_) (fun E M2 z2 hq => by obtain ⟨hq, -⟩ := hq; cases hq)
  obtain ⟨hr, ⟨⟨I3, A3, hA3, hk3⟩, ⟨fo, hfo, hv⟩, hJ3⟩, hf3⟩ := hq
  cases hr
  refine g_istore_6 rfl dL_law_1942 ?_
  refine g_aload_2 dL_law_1944 ?_
  refine g_v0_1 dL_law_1945 (vL_154 rfl) rfl hA3.1 (Nat.le_of_ble_eq_true rfl) ⟨rfl, rfl⟩ (by show k + 23 + 0 ≤ 601024; omega) (by show n + 984 + 0 ≤ 7293034; omega) (m_thrown hA3 hk3) ?_
  refine g_iload_5 dL_law_1948 ?_
  refine g_icmp_eq (tgt := 1955) dL_law_1950 (by decide)  (fun _ => ?_) (fun h1950 => absurd rfl h1950)
  refine g_iload_5 dL_law_1955 ?_
  refine g_if_neN (tgt := 1972) dL_law_1957 (by decide) (by omega) (fun h1957 => ?_) (fun h1957 => ?_)
  · refine g_goto (tgt := 2961) dL_law_1972 (by decide) ?_
    exact hK _ _ _ _ _ _ _ _ (by show k + 23 + 0 ≤ k + 23; omega) (by show n + 984 + 0 ≤ n + 984; omega) hJ3 ((hf3 sb hsb).trans hX2)
  · have hv0 := hv h1957
    refine g_aload_3 dL_law_1960 ?_
    refine g_iconst (v := nI 0) dL_law_1961 rfl ?_
    refine g_laldN dL_law_1962 hfo (by omega) (by decide) ?_
    refine g_iload_6 dL_law_1963 ?_
    refine g_i2l dL_law_1965 ?_
    refine g_lcmp dL_law_1966 ?_
    refine g_if_eq (tgt := 1972) dL_law_1967 (by decide)  (fun _ => ?_) (fun h1967 => absurd (lcmp_self hv0) h1967)
    refine g_goto (tgt := 2961) dL_law_1972 (by decide) ?_
    exact hK _ _ _ _ _ _ _ _ (by show k + 23 + 0 ≤ k + 23; omega) (by show n + 984 + 0 ≤ n + 984; omega) hJ3 ((hf3 sb hsb).trans hX2)
theorem w_42 {Φ : GR → Hp → Nat → Prop} {M : Hp} {z k n sb a b o lo i Ln : Nat} {xs : Nat → Int32} {l5 l6 l7 l8 : Option Value} (hJ : JS M a b o lo z) (hX : M sb = some (aX Ln xs)) (hsb : sb < a) (hi : i + 3 < Ln) (hLn : Ln ≤ 2048) (hk0 : k + 23 ≤ 601024) (hn0 : n + 984 ≤ 7293034) (hK : ∀ M' z' k' n' l5 l6 l7 l8, k' ≤ k + 23 → n' ≤ n + 984 → JS M' a b o lo z' → M' sb = some (aX Ln xs) → WP mL_law 2961 [some (.ref sb), some (.ref a), some (.ref b), some (.ref o), some (.int (nI (i))), l5, l6, l7, l8] [] M' z' k' n' Φ) : WP mL_law 1975 [some (.ref sb), some (.ref a), some (.ref b), some (.ref o), some (.int (nI (i))), l5, l6, l7, l8] [] M z k n Φ := by
  obtain ⟨f, t, nn, h, sv, len, g, hJ⟩ := hJ
  obtain ⟨kq, v, Ψ, hkq, hPv, hcw, hm⟩ := s_wind (w0 := xs (i + 1)) (w1 := xs (i + 2)) hJ
  refine g_aload_1 dL_law_1975 ?_
  refine g_aload_0 dL_law_1976 ?_
  refine g_iload_4 dL_law_1977 ?_
  refine g_iconst (v := nI 1) dL_law_1979 rfl ?_
  refine g_iaddN dL_law_1980 ?_
  refine g_ialdXN dL_law_1981 hX (by omega) (by omega) ?_
  refine g_aload_0 dL_law_1982 ?_
  refine g_iload_4 dL_law_1983 ?_
  refine g_iconst (v := nI 2) dL_law_1985 rfl ?_
  refine g_iaddN dL_law_1986 ?_
  refine g_ialdXN dL_law_1987 hX (by omega) (by omega) ?_
  refine g_aload_3 dL_law_1988 ?_
  refine g_staH (as := [.ref a, .int (xs (i + 1)), .int (xs (i + 2)), .ref o]) dL_law_1989 (sL_304 rfl) rfl rfl rfl (Nat.le_of_ble_eq_true rfl) (by show k + 23 ≤ 601024; omega) (by show n + 984 ≤ 7293034; omega) hcw (fun r M2 z2 hq => ?_) (fun E M2 z2 hq => by obtain ⟨hq, -⟩ := hq; cases hq)
  obtain ⟨hr, hΨ⟩ := hq
  cases hr
  obtain ⟨⟨⟨I9, A9, hA9⟩, hf1⟩, hmm⟩ := hm _ _ hΨ
  have hX2 := (hf1 sb hsb).trans hX
  refine g_istore_5 rfl dL_law_1992 ?_
  refine g_aload_2 dL_law_1994 ?_
  refine g_aload_0 dL_law_1995 ?_
  refine g_iload_4 dL_law_1996 ?_
  refine g_iconst (v := nI 1) dL_law_1998 rfl ?_
  refine g_iaddN dL_law_1999 ?_
  refine g_ialdXN dL_law_2000 hX2 (by omega) (by omega) ?_
  refine g_aload_0 dL_law_2001 ?_
  refine g_iload_4 dL_law_2002 ?_
  refine g_iconst (v := nI 2) dL_law_2004 rfl ?_
  refine g_iaddN dL_law_2005 ?_
  refine g_ialdXN dL_law_2006 hX2 (by omega) (by omega) ?_
  refine g_v2 dL_law_2007 (vL_306 rfl) rfl hA9.1 (Nat.le_of_ble_eq_true rfl) (by show k + 23 + 0 ≤ 601024; omega) (by show n + 984 + 0 ≤ 7293034; omega) (hmm) (fun r M2 z2 hq => ?_) (fun E M2 z2 hq => by obtain ⟨hq, -⟩ := hq; cases hq)
  obtain ⟨hr, ⟨⟨I3, A3, hA3, hk3⟩, ⟨fo, hfo, hv⟩, hJ3⟩, hf3⟩ := hq
  cases hr
  refine g_istore_6 rfl dL_law_2010 ?_
  refine g_aload_2 dL_law_2012 ?_
  refine g_v0_1 dL_law_2013 (vL_154 rfl) rfl hA3.1 (Nat.le_of_ble_eq_true rfl) ⟨rfl, rfl⟩ (by show k + 23 + 0 ≤ 601024; omega) (by show n + 984 + 0 ≤ 7293034; omega) (m_thrown hA3 hk3) ?_
  refine g_iload_5 dL_law_2016 ?_
  refine g_icmp_eq (tgt := 2023) dL_law_2018 (by decide)  (fun _ => ?_) (fun h2018 => absurd rfl h2018)
  refine g_iload_5 dL_law_2023 ?_
  refine g_if_neN (tgt := 2040) dL_law_2025 (by decide) (by omega) (fun h2025 => ?_) (fun h2025 => ?_)
  · refine g_goto (tgt := 2961) dL_law_2040 (by decide) ?_
    exact hK _ _ _ _ _ _ _ _ (by show k + 23 + 0 ≤ k + 23; omega) (by show n + 984 + 0 ≤ n + 984; omega) hJ3 ((hf3 sb hsb).trans hX2)
  · have hv0 := hv h2025
    refine g_aload_3 dL_law_2028 ?_
    refine g_iconst (v := nI 0) dL_law_2029 rfl ?_
    refine g_laldN dL_law_2030 hfo (by omega) (by decide) ?_
    refine g_iload_6 dL_law_2031 ?_
    refine g_i2l dL_law_2033 ?_
    refine g_lcmp dL_law_2034 ?_
    refine g_if_eq (tgt := 2040) dL_law_2035 (by decide)  (fun _ => ?_) (fun h2035 => absurd (lcmp_self hv0) h2035)
    refine g_goto (tgt := 2961) dL_law_2040 (by decide) ?_
    exact hK _ _ _ _ _ _ _ _ (by show k + 23 + 0 ≤ k + 23; omega) (by show n + 984 + 0 ≤ n + 984; omega) hJ3 ((hf3 sb hsb).trans hX2)
theorem w_43 {Φ : GR → Hp → Nat → Prop} {M : Hp} {z k n sb a b o lo i Ln : Nat} {xs : Nat → Int32} {l5 l6 l7 l8 : Option Value} (hJ : JS M a b o lo z) (hX : M sb = some (aX Ln xs)) (hsb : sb < a) (hi : i + 3 < Ln) (hLn : Ln ≤ 2048) (hk0 : k + 23 ≤ 601024) (hn0 : n + 984 ≤ 7293034) (hK : ∀ M' z' k' n' l5 l6 l7 l8, k' ≤ k + 23 → n' ≤ n + 984 → JS M' a b o lo z' → M' sb = some (aX Ln xs) → WP mL_law 2961 [some (.ref sb), some (.ref a), some (.ref b), some (.ref o), some (.int (nI (i))), l5, l6, l7, l8] [] M' z' k' n' Φ) : WP mL_law 2043 [some (.ref sb), some (.ref a), some (.ref b), some (.ref o), some (.int (nI (i))), l5, l6, l7, l8] [] M z k n Φ := by
  obtain ⟨f, t, nn, h, sv, len, g, hJ⟩ := hJ
  obtain ⟨kq, v, Ψ, hkq, hPv, hcw, hm⟩ := s_mend (w0 := xs (i + 1)) hJ
  refine g_aload_1 dL_law_2043 ?_
  refine g_aload_0 dL_law_2044 ?_
  refine g_iload_4 dL_law_2045 ?_
  refine g_iconst (v := nI 1) dL_law_2047 rfl ?_
  refine g_iaddN dL_law_2048 ?_
  refine g_ialdXN dL_law_2049 hX (by omega) (by omega) ?_
  refine g_aload_3 dL_law_2050 ?_
  refine g_staH (as := [.ref a, .int (xs (i + 1)), .ref o]) dL_law_2051 (sL_307 rfl) rfl rfl rfl (Nat.le_of_ble_eq_true rfl) (by show k + 22 ≤ 601024; omega) (by show n + 978 ≤ 7293034; omega) hcw (fun r M2 z2 hq => ?_) (fun E M2 z2 hq => by obtain ⟨hq, -⟩ := hq; cases hq)
  obtain ⟨hr, hΨ⟩ := hq
  cases hr
  obtain ⟨⟨⟨I9, A9, hA9⟩, hf1⟩, hmm⟩ := hm _ _ hΨ
  have hX2 := (hf1 sb hsb).trans hX
  refine g_istore_5 rfl dL_law_2054 ?_
  refine g_aload_2 dL_law_2056 ?_
  refine g_aload_0 dL_law_2057 ?_
  refine g_iload_4 dL_law_2058 ?_
  refine g_iconst (v := nI 1) dL_law_2060 rfl ?_
  refine g_iaddN dL_law_2061 ?_
  refine g_ialdXN dL_law_2062 hX2 (by omega) (by omega) ?_
  refine g_v1 dL_law_2063 (vL_309 rfl) rfl hA9.1 (Nat.le_of_ble_eq_true rfl) (by show k + 22 + 0 ≤ 601024; omega) (by show n + 978 + 0 ≤ 7293034; omega) (hmm) (fun r M2 z2 hq => ?_) (fun E M2 z2 hq => by obtain ⟨hq, -⟩ := hq; cases hq)
  obtain ⟨hr, ⟨⟨I3, A3, hA3, hk3⟩, ⟨fo, hfo, hv⟩, hJ3⟩, hf3⟩ := hq
  cases hr
  refine g_istore_6 rfl dL_law_2066 ?_
  refine g_aload_2 dL_law_2068 ?_
  refine g_v0_1 dL_law_2069 (vL_154 rfl) rfl hA3.1 (Nat.le_of_ble_eq_true rfl) ⟨rfl, rfl⟩ (by show k + 22 + 0 ≤ 601024; omega) (by show n + 978 + 0 ≤ 7293034; omega) (m_thrown hA3 hk3) ?_
  refine g_iload_5 dL_law_2072 ?_
  refine g_icmp_eq (tgt := 2079) dL_law_2074 (by decide)  (fun _ => ?_) (fun h2074 => absurd rfl h2074)
  refine g_iload_5 dL_law_2079 ?_
  refine g_if_neN (tgt := 2096) dL_law_2081 (by decide) (by omega) (fun h2081 => ?_) (fun h2081 => ?_)
  · refine g_goto (tgt := 2961) dL_law_2096 (by decide) ?_
    exact hK _ _ _ _ _ _ _ _ (by show k + 22 + 0 ≤ k + 23; omega) (by show n + 978 + 0 ≤ n + 984; omega) hJ3 ((hf3 sb hsb).trans hX2)
  · have hv0 := hv h2081
    refine g_aload_3 dL_law_2084 ?_
    refine g_iconst (v := nI 0) dL_law_2085 rfl ?_
    refine g_laldN dL_law_2086 hfo (by omega) (by decide) ?_
    refine g_iload_6 dL_law_2087 ?_
    refine g_i2l dL_law_2089 ?_
    refine g_lcmp dL_law_2090 ?_
    refine g_if_eq (tgt := 2096) dL_law_2091 (by decide)  (fun _ => ?_) (fun h2091 => absurd (lcmp_self hv0) h2091)
    refine g_goto (tgt := 2961) dL_law_2096 (by decide) ?_
    exact hK _ _ _ _ _ _ _ _ (by show k + 22 + 0 ≤ k + 23; omega) (by show n + 978 + 0 ≤ n + 984; omega) hJ3 ((hf3 sb hsb).trans hX2)
theorem w_44 {Φ : GR → Hp → Nat → Prop} {M : Hp} {z k n sb a b o lo i Ln : Nat} {xs : Nat → Int32} {l5 l6 l7 l8 : Option Value} (hJ : JS M a b o lo z) (hX : M sb = some (aX Ln xs)) (hsb : sb < a) (hi : i + 3 < Ln) (hLn : Ln ≤ 2048) (hk0 : k + 23 ≤ 601024) (hn0 : n + 984 ≤ 7293034) (hK : ∀ M' z' k' n' l5 l6 l7 l8, k' ≤ k + 23 → n' ≤ n + 984 → JS M' a b o lo z' → M' sb = some (aX Ln xs) → WP mL_law 2961 [some (.ref sb), some (.ref a), some (.ref b), some (.ref o), some (.int (nI (i))), l5, l6, l7, l8] [] M' z' k' n' Φ) : WP mL_law 2099 [some (.ref sb), some (.ref a), some (.ref b), some (.ref o), some (.int (nI (i))), l5, l6, l7, l8] [] M z k n Φ := by
  obtain ⟨f, t, nn, h, sv, len, g, hJ⟩ := hJ
  obtain ⟨kq, v, Ψ, hkq, hPv, hcw, hm⟩ := s_unpick (w0 := xs (i + 1)) hJ
  refine g_aload_1 dL_law_2099 ?_
  refine g_aload_0 dL_law_2100 ?_
  refine g_iload_4 dL_law_2101 ?_
  refine g_iconst (v := nI 1) dL_law_2103 rfl ?_
  refine g_iaddN dL_law_2104 ?_
  refine g_ialdXN dL_law_2105 hX (by omega) (by omega) ?_
  refine g_aload_3 dL_law_2106 ?_
  refine g_staH (as := [.ref a, .int (xs (i + 1)), .ref o]) dL_law_2107 (sL_310 rfl) rfl rfl rfl (Nat.le_of_ble_eq_true rfl) (by show k + 22 ≤ 601024; omega) (by show n + 978 ≤ 7293034; omega) hcw (fun r M2 z2 hq => ?_) (fun E M2 z2 hq => by obtain ⟨hq, -⟩ := hq; cases hq)
  obtain ⟨hr, hΨ⟩ := hq
  cases hr
  obtain ⟨⟨⟨I9, A9, hA9⟩, hf1⟩, hmm⟩ := hm _ _ hΨ
  have hX2 := (hf1 sb hsb).trans hX
  refine g_istore_5 rfl dL_law_2110 ?_
  refine g_aload_2 dL_law_2112 ?_
  refine g_aload_0 dL_law_2113 ?_
  refine g_iload_4 dL_law_2114 ?_
  refine g_iconst (v := nI 1) dL_law_2116 rfl ?_
  refine g_iaddN dL_law_2117 ?_
  refine g_ialdXN dL_law_2118 hX2 (by omega) (by omega) ?_
  refine g_v1 dL_law_2119 (vL_312 rfl) rfl hA9.1 (Nat.le_of_ble_eq_true rfl) (by show k + 22 + 0 ≤ 601024; omega) (by show n + 978 + 0 ≤ 7293034; omega) (hmm) (fun r M2 z2 hq => ?_) (fun E M2 z2 hq => by obtain ⟨hq, -⟩ := hq; cases hq)
  obtain ⟨hr, ⟨⟨I3, A3, hA3, hk3⟩, ⟨fo, hfo, hv⟩, hJ3⟩, hf3⟩ := hq
  cases hr
  refine g_istore_6 rfl dL_law_2122 ?_
  refine g_aload_2 dL_law_2124 ?_
  refine g_v0_1 dL_law_2125 (vL_154 rfl) rfl hA3.1 (Nat.le_of_ble_eq_true rfl) ⟨rfl, rfl⟩ (by show k + 22 + 0 ≤ 601024; omega) (by show n + 978 + 0 ≤ 7293034; omega) (m_thrown hA3 hk3) ?_
  refine g_iload_5 dL_law_2128 ?_
  refine g_icmp_eq (tgt := 2135) dL_law_2130 (by decide)  (fun _ => ?_) (fun h2130 => absurd rfl h2130)
  refine g_iload_5 dL_law_2135 ?_
  refine g_if_neN (tgt := 2152) dL_law_2137 (by decide) (by omega) (fun h2137 => ?_) (fun h2137 => ?_)
  · refine g_goto (tgt := 2961) dL_law_2152 (by decide) ?_
    exact hK _ _ _ _ _ _ _ _ (by show k + 22 + 0 ≤ k + 23; omega) (by show n + 978 + 0 ≤ n + 984; omega) hJ3 ((hf3 sb hsb).trans hX2)
  · have hv0 := hv h2137
    refine g_aload_3 dL_law_2140 ?_
    refine g_iconst (v := nI 0) dL_law_2141 rfl ?_
    refine g_laldN dL_law_2142 hfo (by omega) (by decide) ?_
    refine g_iload_6 dL_law_2143 ?_
    refine g_i2l dL_law_2145 ?_
    refine g_lcmp dL_law_2146 ?_
    refine g_if_eq (tgt := 2152) dL_law_2147 (by decide)  (fun _ => ?_) (fun h2147 => absurd (lcmp_self hv0) h2147)
    refine g_goto (tgt := 2961) dL_law_2152 (by decide) ?_
    exact hK _ _ _ _ _ _ _ _ (by show k + 22 + 0 ≤ k + 23; omega) (by show n + 978 + 0 ≤ n + 984; omega) hJ3 ((hf3 sb hsb).trans hX2)
theorem w_45 {Φ : GR → Hp → Nat → Prop} {M : Hp} {z k n sb a b o lo i Ln : Nat} {xs : Nat → Int32} {l5 l6 l7 l8 : Option Value} (hJ : JS M a b o lo z) (hX : M sb = some (aX Ln xs)) (hsb : sb < a) (hi : i + 3 < Ln) (hLn : Ln ≤ 2048) (hk0 : k + 23 ≤ 601024) (hn0 : n + 984 ≤ 7293034) (hK : ∀ M' z' k' n' l5 l6 l7 l8, k' ≤ k + 23 → n' ≤ n + 984 → JS M' a b o lo z' → M' sb = some (aX Ln xs) → WP mL_law 2961 [some (.ref sb), some (.ref a), some (.ref b), some (.ref o), some (.int (nI (i))), l5, l6, l7, l8] [] M' z' k' n' Φ) : WP mL_law 2155 [some (.ref sb), some (.ref a), some (.ref b), some (.ref o), some (.int (nI (i))), l5, l6, l7, l8] [] M z k n Φ := by
  obtain ⟨f, t, nn, h, sv, len, g, hJ⟩ := hJ
  obtain ⟨kq, v, Ψ, hkq, hPv, hcw, hm⟩ := s_shear (w0 := xs (i + 1)) hJ
  refine g_aload_1 dL_law_2155 ?_
  refine g_aload_0 dL_law_2156 ?_
  refine g_iload_4 dL_law_2157 ?_
  refine g_iconst (v := nI 1) dL_law_2159 rfl ?_
  refine g_iaddN dL_law_2160 ?_
  refine g_ialdXN dL_law_2161 hX (by omega) (by omega) ?_
  refine g_aload_3 dL_law_2162 ?_
  refine g_staH (as := [.ref a, .int (xs (i + 1)), .ref o]) dL_law_2163 (sL_313 rfl) rfl rfl rfl (Nat.le_of_ble_eq_true rfl) (by show k + 21 ≤ 601024; omega) (by show n + 972 ≤ 7293034; omega) hcw (fun r M2 z2 hq => ?_) (fun E M2 z2 hq => by obtain ⟨hq, -⟩ := hq; cases hq)
  obtain ⟨hr, hΨ⟩ := hq
  cases hr
  obtain ⟨⟨⟨I9, A9, hA9⟩, hf1⟩, hmm⟩ := hm _ _ hΨ
  have hX2 := (hf1 sb hsb).trans hX
  refine g_istore_5 rfl dL_law_2166 ?_
  refine g_aload_2 dL_law_2168 ?_
  refine g_aload_0 dL_law_2169 ?_
  refine g_iload_4 dL_law_2170 ?_
  refine g_iconst (v := nI 1) dL_law_2172 rfl ?_
  refine g_iaddN dL_law_2173 ?_
  refine g_ialdXN dL_law_2174 hX2 (by omega) (by omega) ?_
  refine g_v1 dL_law_2175 (vL_315 rfl) rfl hA9.1 (Nat.le_of_ble_eq_true rfl) (by show k + 21 + 0 ≤ 601024; omega) (by show n + 972 + 0 ≤ 7293034; omega) (hmm) (fun r M2 z2 hq => ?_) (fun E M2 z2 hq => by obtain ⟨hq, -⟩ := hq; cases hq)
  obtain ⟨hr, ⟨⟨I3, A3, hA3, hk3⟩, ⟨fo, hfo, hv⟩, hJ3⟩, hf3⟩ := hq
  cases hr
  refine g_istore_6 rfl dL_law_2178 ?_
  refine g_aload_2 dL_law_2180 ?_
  refine g_v0_1 dL_law_2181 (vL_154 rfl) rfl hA3.1 (Nat.le_of_ble_eq_true rfl) ⟨rfl, rfl⟩ (by show k + 21 + 0 ≤ 601024; omega) (by show n + 972 + 0 ≤ 7293034; omega) (m_thrown hA3 hk3) ?_
  refine g_iload_5 dL_law_2184 ?_
  refine g_icmp_eq (tgt := 2191) dL_law_2186 (by decide)  (fun _ => ?_) (fun h2186 => absurd rfl h2186)
  refine g_iload_5 dL_law_2191 ?_
  refine g_if_neN (tgt := 2208) dL_law_2193 (by decide) (by omega) (fun h2193 => ?_) (fun h2193 => ?_)
  · refine g_goto (tgt := 2961) dL_law_2208 (by decide) ?_
    exact hK _ _ _ _ _ _ _ _ (by show k + 21 + 0 ≤ k + 23; omega) (by show n + 972 + 0 ≤ n + 984; omega) hJ3 ((hf3 sb hsb).trans hX2)
  · have hv0 := hv h2193
    refine g_aload_3 dL_law_2196 ?_
    refine g_iconst (v := nI 0) dL_law_2197 rfl ?_
    refine g_laldN dL_law_2198 hfo (by omega) (by decide) ?_
    refine g_iload_6 dL_law_2199 ?_
    refine g_i2l dL_law_2201 ?_
    refine g_lcmp dL_law_2202 ?_
    refine g_if_eq (tgt := 2208) dL_law_2203 (by decide)  (fun _ => ?_) (fun h2203 => absurd (lcmp_self hv0) h2203)
    refine g_goto (tgt := 2961) dL_law_2208 (by decide) ?_
    exact hK _ _ _ _ _ _ _ _ (by show k + 21 + 0 ≤ k + 23; omega) (by show n + 972 + 0 ≤ n + 984; omega) hJ3 ((hf3 sb hsb).trans hX2)
theorem w_46 {Φ : GR → Hp → Nat → Prop} {M : Hp} {z k n sb a b o lo i Ln : Nat} {xs : Nat → Int32} {l5 l6 l7 l8 : Option Value} (hJ : JS M a b o lo z) (hX : M sb = some (aX Ln xs)) (hsb : sb < a) (hi : i + 3 < Ln) (hLn : Ln ≤ 2048) (hk0 : k + 23 ≤ 601024) (hn0 : n + 984 ≤ 7293034) (hK : ∀ M' z' k' n' l5 l6 l7 l8, k' ≤ k + 23 → n' ≤ n + 984 → JS M' a b o lo z' → M' sb = some (aX Ln xs) → WP mL_law 2961 [some (.ref sb), some (.ref a), some (.ref b), some (.ref o), some (.int (nI (i))), l5, l6, l7, l8] [] M' z' k' n' Φ) : WP mL_law 2211 [some (.ref sb), some (.ref a), some (.ref b), some (.ref o), some (.int (nI (i))), l5, l6, l7, l8] [] M z k n Φ := by
  obtain ⟨f, t, nn, h, sv, len, g, hJ⟩ := hJ
  obtain ⟨kq, v, Ψ, hkq, hPv, hcw, hm⟩ := s_store (w0 := xs (i + 1)) hJ
  refine g_aload_1 dL_law_2211 ?_
  refine g_aload_0 dL_law_2212 ?_
  refine g_iload_4 dL_law_2213 ?_
  refine g_iconst (v := nI 1) dL_law_2215 rfl ?_
  refine g_iaddN dL_law_2216 ?_
  refine g_ialdXN dL_law_2217 hX (by omega) (by omega) ?_
  refine g_aload_3 dL_law_2218 ?_
  refine g_staH (as := [.ref a, .int (xs (i + 1)), .ref o]) dL_law_2219 (sL_316 rfl) rfl rfl rfl (Nat.le_of_ble_eq_true rfl) (by show k + 23 ≤ 601024; omega) (by show n + 984 ≤ 7293034; omega) hcw (fun r M2 z2 hq => ?_) (fun E M2 z2 hq => by obtain ⟨hq, -⟩ := hq; cases hq)
  obtain ⟨hr, hΨ⟩ := hq
  cases hr
  obtain ⟨⟨⟨I9, A9, hA9⟩, hf1⟩, hmm⟩ := hm _ _ hΨ
  have hX2 := (hf1 sb hsb).trans hX
  refine g_istore_5 rfl dL_law_2222 ?_
  refine g_aload_2 dL_law_2224 ?_
  refine g_aload_0 dL_law_2225 ?_
  refine g_iload_4 dL_law_2226 ?_
  refine g_iconst (v := nI 1) dL_law_2228 rfl ?_
  refine g_iaddN dL_law_2229 ?_
  refine g_ialdXN dL_law_2230 hX2 (by omega) (by omega) ?_
  refine g_v1 dL_law_2231 (vL_318 rfl) rfl hA9.1 (Nat.le_of_ble_eq_true rfl) (by show k + 23 + 0 ≤ 601024; omega) (by show n + 984 + 0 ≤ 7293034; omega) (hmm) (fun r M2 z2 hq => ?_) (fun E M2 z2 hq => by obtain ⟨hq, -⟩ := hq; cases hq)
  obtain ⟨hr, ⟨⟨I3, A3, hA3, hk3⟩, ⟨fo, hfo, hv⟩, hJ3⟩, hf3⟩ := hq
  cases hr
  refine g_istore_6 rfl dL_law_2234 ?_
  refine g_aload_2 dL_law_2236 ?_
  refine g_v0_1 dL_law_2237 (vL_154 rfl) rfl hA3.1 (Nat.le_of_ble_eq_true rfl) ⟨rfl, rfl⟩ (by show k + 23 + 0 ≤ 601024; omega) (by show n + 984 + 0 ≤ 7293034; omega) (m_thrown hA3 hk3) ?_
  refine g_iload_5 dL_law_2240 ?_
  refine g_icmp_eq (tgt := 2247) dL_law_2242 (by decide)  (fun _ => ?_) (fun h2242 => absurd rfl h2242)
  refine g_iload_5 dL_law_2247 ?_
  refine g_if_neN (tgt := 2264) dL_law_2249 (by decide) (by omega) (fun h2249 => ?_) (fun h2249 => ?_)
  · refine g_goto (tgt := 2961) dL_law_2264 (by decide) ?_
    exact hK _ _ _ _ _ _ _ _ (by show k + 23 + 0 ≤ k + 23; omega) (by show n + 984 + 0 ≤ n + 984; omega) hJ3 ((hf3 sb hsb).trans hX2)
  · have hv0 := hv h2249
    refine g_aload_3 dL_law_2252 ?_
    refine g_iconst (v := nI 0) dL_law_2253 rfl ?_
    refine g_laldN dL_law_2254 hfo (by omega) (by decide) ?_
    refine g_iload_6 dL_law_2255 ?_
    refine g_i2l dL_law_2257 ?_
    refine g_lcmp dL_law_2258 ?_
    refine g_if_eq (tgt := 2264) dL_law_2259 (by decide)  (fun _ => ?_) (fun h2259 => absurd (lcmp_self hv0) h2259)
    refine g_goto (tgt := 2961) dL_law_2264 (by decide) ?_
    exact hK _ _ _ _ _ _ _ _ (by show k + 23 + 0 ≤ k + 23; omega) (by show n + 984 + 0 ≤ n + 984; omega) hJ3 ((hf3 sb hsb).trans hX2)
theorem w_47 {Φ : GR → Hp → Nat → Prop} {M : Hp} {z k n sb a b o lo i Ln : Nat} {xs : Nat → Int32} {l5 l6 l7 l8 : Option Value} (hJ : JS M a b o lo z) (hX : M sb = some (aX Ln xs)) (hsb : sb < a) (hi : i + 3 < Ln) (hLn : Ln ≤ 2048) (hk0 : k + 23 ≤ 601024) (hn0 : n + 984 ≤ 7293034) (hK : ∀ M' z' k' n' l5 l6 l7 l8, k' ≤ k + 23 → n' ≤ n + 984 → JS M' a b o lo z' → M' sb = some (aX Ln xs) → WP mL_law 2961 [some (.ref sb), some (.ref a), some (.ref b), some (.ref o), some (.int (nI (i))), l5, l6, l7, l8] [] M' z' k' n' Φ) : WP mL_law 2267 [some (.ref sb), some (.ref a), some (.ref b), some (.ref o), some (.int (nI (i))), l5, l6, l7, l8] [] M z k n Φ := by
  obtain ⟨f, t, nn, h, sv, len, g, hJ⟩ := hJ
  obtain ⟨kq, v, Ψ, hkq, hPv, hcw, hm⟩ := s_run (w0 := xs (i + 1)) hJ
  refine g_aload_1 dL_law_2267 ?_
  refine g_aload_0 dL_law_2268 ?_
  refine g_iload_4 dL_law_2269 ?_
  refine g_iconst (v := nI 1) dL_law_2271 rfl ?_
  refine g_iaddN dL_law_2272 ?_
  refine g_ialdXN dL_law_2273 hX (by omega) (by omega) ?_
  refine g_aload_3 dL_law_2274 ?_
  refine g_staH (as := [.ref a, .int (xs (i + 1)), .ref o]) dL_law_2275 (sL_319 rfl) rfl rfl rfl (Nat.le_of_ble_eq_true rfl) (by show k + 22 ≤ 601024; omega) (by show n + 978 ≤ 7293034; omega) hcw (fun r M2 z2 hq => ?_) (fun E M2 z2 hq => by obtain ⟨hq, -⟩ := hq; cases hq)
  obtain ⟨hr, hΨ⟩ := hq
  cases hr
  obtain ⟨⟨⟨I9, A9, hA9⟩, hf1⟩, hmm⟩ := hm _ _ hΨ
  have hX2 := (hf1 sb hsb).trans hX
  refine g_istore_5 rfl dL_law_2278 ?_
  refine g_aload_2 dL_law_2280 ?_
  refine g_aload_0 dL_law_2281 ?_
  refine g_iload_4 dL_law_2282 ?_
  refine g_iconst (v := nI 1) dL_law_2284 rfl ?_
  refine g_iaddN dL_law_2285 ?_
  refine g_ialdXN dL_law_2286 hX2 (by omega) (by omega) ?_
  refine g_v1 dL_law_2287 (vL_321 rfl) rfl hA9.1 (Nat.le_of_ble_eq_true rfl) (by show k + 22 + 0 ≤ 601024; omega) (by show n + 978 + 0 ≤ 7293034; omega) (hmm) (fun r M2 z2 hq => ?_) (fun E M2 z2 hq => by obtain ⟨hq, -⟩ := hq; cases hq)
  obtain ⟨hr, ⟨⟨I3, A3, hA3, hk3⟩, ⟨fo, hfo, hv⟩, hJ3⟩, hf3⟩ := hq
  cases hr
  refine g_istore_6 rfl dL_law_2290 ?_
  refine g_aload_2 dL_law_2292 ?_
  refine g_v0_1 dL_law_2293 (vL_154 rfl) rfl hA3.1 (Nat.le_of_ble_eq_true rfl) ⟨rfl, rfl⟩ (by show k + 22 + 0 ≤ 601024; omega) (by show n + 978 + 0 ≤ 7293034; omega) (m_thrown hA3 hk3) ?_
  refine g_iload_5 dL_law_2296 ?_
  refine g_icmp_eq (tgt := 2303) dL_law_2298 (by decide)  (fun _ => ?_) (fun h2298 => absurd rfl h2298)
  refine g_iload_5 dL_law_2303 ?_
  refine g_if_neN (tgt := 2320) dL_law_2305 (by decide) (by omega) (fun h2305 => ?_) (fun h2305 => ?_)
  · refine g_goto (tgt := 2961) dL_law_2320 (by decide) ?_
    exact hK _ _ _ _ _ _ _ _ (by show k + 22 + 0 ≤ k + 23; omega) (by show n + 978 + 0 ≤ n + 984; omega) hJ3 ((hf3 sb hsb).trans hX2)
  · have hv0 := hv h2305
    refine g_aload_3 dL_law_2308 ?_
    refine g_iconst (v := nI 0) dL_law_2309 rfl ?_
    refine g_laldN dL_law_2310 hfo (by omega) (by decide) ?_
    refine g_iload_6 dL_law_2311 ?_
    refine g_i2l dL_law_2313 ?_
    refine g_lcmp dL_law_2314 ?_
    refine g_if_eq (tgt := 2320) dL_law_2315 (by decide)  (fun _ => ?_) (fun h2315 => absurd (lcmp_self hv0) h2315)
    refine g_goto (tgt := 2961) dL_law_2320 (by decide) ?_
    exact hK _ _ _ _ _ _ _ _ (by show k + 22 + 0 ≤ k + 23; omega) (by show n + 978 + 0 ≤ n + 984; omega) hJ3 ((hf3 sb hsb).trans hX2)
theorem w_48 {Φ : GR → Hp → Nat → Prop} {M : Hp} {z k n sb a b o lo i Ln : Nat} {xs : Nat → Int32} {l5 l6 l7 l8 : Option Value} (hJ : JS M a b o lo z) (hX : M sb = some (aX Ln xs)) (hsb : sb < a) (hi : i + 3 < Ln) (hLn : Ln ≤ 2048) (hk0 : k + 23 ≤ 601024) (hn0 : n + 984 ≤ 7293034) (hK : ∀ M' z' k' n' l5 l6 l7 l8, k' ≤ k + 23 → n' ≤ n + 984 → JS M' a b o lo z' → M' sb = some (aX Ln xs) → WP mL_law 2961 [some (.ref sb), some (.ref a), some (.ref b), some (.ref o), some (.int (nI (i))), l5, l6, l7, l8] [] M' z' k' n' Φ) : WP mL_law 2323 [some (.ref sb), some (.ref a), some (.ref b), some (.ref o), some (.int (nI (i))), l5, l6, l7, l8] [] M z k n Φ := by
  obtain ⟨f, t, nn, h, sv, len, g, hJ⟩ := hJ
  obtain ⟨kq, v, Ψ, hkq, hPv, hcw, hm⟩ := s_runText  hJ
  refine g_aload_1 dL_law_2323 ?_
  refine g_aload_3 dL_law_2324 ?_
  refine g_staH (as := [.ref a, .ref o]) dL_law_2325 (sL_322 rfl) rfl rfl rfl (Nat.le_of_ble_eq_true rfl) (by show k + 21 ≤ 601024; omega) (by show n + 972 ≤ 7293034; omega) hcw (fun r M2 z2 hq => ?_) (fun E M2 z2 hq => by obtain ⟨hq, -⟩ := hq; cases hq)
  obtain ⟨hr, hΨ⟩ := hq
  cases hr
  obtain ⟨⟨⟨I9, A9, hA9⟩, hf1⟩, hmm⟩ := hm _ _ hΨ
  have hX2 := (hf1 sb hsb).trans hX
  refine g_istore_5 rfl dL_law_2328 ?_
  refine g_aload_2 dL_law_2330 ?_
  refine g_v0 dL_law_2331 (vL_324 rfl) rfl hA9.1 (Nat.le_of_ble_eq_true rfl) (by show k + 21 + 0 ≤ 601024; omega) (by show n + 972 + 0 ≤ 7293034; omega) (hmm) (fun r M2 z2 hq => ?_) (fun E M2 z2 hq => by obtain ⟨hq, -⟩ := hq; cases hq)
  obtain ⟨hr, ⟨⟨I3, A3, hA3, hk3⟩, ⟨fo, hfo, hv⟩, hJ3⟩, hf3⟩ := hq
  cases hr
  refine g_istore_6 rfl dL_law_2334 ?_
  refine g_aload_2 dL_law_2336 ?_
  refine g_v0_1 dL_law_2337 (vL_154 rfl) rfl hA3.1 (Nat.le_of_ble_eq_true rfl) ⟨rfl, rfl⟩ (by show k + 21 + 0 ≤ 601024; omega) (by show n + 972 + 0 ≤ 7293034; omega) (m_thrown hA3 hk3) ?_
  refine g_iload_5 dL_law_2340 ?_
  refine g_icmp_eq (tgt := 2347) dL_law_2342 (by decide)  (fun _ => ?_) (fun h2342 => absurd rfl h2342)
  refine g_iload_5 dL_law_2347 ?_
  refine g_if_neN (tgt := 2364) dL_law_2349 (by decide) (by omega) (fun h2349 => ?_) (fun h2349 => ?_)
  · refine g_goto (tgt := 2961) dL_law_2364 (by decide) ?_
    exact hK _ _ _ _ _ _ _ _ (by show k + 21 + 0 ≤ k + 23; omega) (by show n + 972 + 0 ≤ n + 984; omega) hJ3 ((hf3 sb hsb).trans hX2)
  · have hv0 := hv h2349
    refine g_aload_3 dL_law_2352 ?_
    refine g_iconst (v := nI 0) dL_law_2353 rfl ?_
    refine g_laldN dL_law_2354 hfo (by omega) (by decide) ?_
    refine g_iload_6 dL_law_2355 ?_
    refine g_i2l dL_law_2357 ?_
    refine g_lcmp dL_law_2358 ?_
    refine g_if_eq (tgt := 2364) dL_law_2359 (by decide)  (fun _ => ?_) (fun h2359 => absurd (lcmp_self hv0) h2359)
    refine g_goto (tgt := 2961) dL_law_2364 (by decide) ?_
    exact hK _ _ _ _ _ _ _ _ (by show k + 21 + 0 ≤ k + 23; omega) (by show n + 972 + 0 ≤ n + 984; omega) hJ3 ((hf3 sb hsb).trans hX2)
theorem w_49 {Φ : GR → Hp → Nat → Prop} {M : Hp} {z k n sb a b o lo i Ln : Nat} {xs : Nat → Int32} {l5 l6 l7 l8 : Option Value} (hJ : JS M a b o lo z) (hX : M sb = some (aX Ln xs)) (hsb : sb < a) (hi : i + 3 < Ln) (hLn : Ln ≤ 2048) (hk0 : k + 23 ≤ 601024) (hn0 : n + 984 ≤ 7293034) (hK : ∀ M' z' k' n' l5 l6 l7 l8, k' ≤ k + 23 → n' ≤ n + 984 → JS M' a b o lo z' → M' sb = some (aX Ln xs) → WP mL_law 2961 [some (.ref sb), some (.ref a), some (.ref b), some (.ref o), some (.int (nI (i))), l5, l6, l7, l8] [] M' z' k' n' Φ) : WP mL_law 2367 [some (.ref sb), some (.ref a), some (.ref b), some (.ref o), some (.int (nI (i))), l5, l6, l7, l8] [] M z k n Φ := by
  obtain ⟨f, t, nn, h, sv, len, g, hJ⟩ := hJ
  obtain ⟨kq, v, Ψ, hkq, hPv, hcw, hm⟩ := s_undo  hJ
  refine g_aload_1 dL_law_2367 ?_
  refine g_aload_3 dL_law_2368 ?_
  refine g_staH (as := [.ref a, .ref o]) dL_law_2369 (sL_325 rfl) rfl rfl rfl (Nat.le_of_ble_eq_true rfl) (by show k + 1 ≤ 601024; omega) (by show n + 6 ≤ 7293034; omega) hcw (fun r M2 z2 hq => ?_) (fun E M2 z2 hq => by obtain ⟨hq, -⟩ := hq; cases hq)
  obtain ⟨hr, hΨ⟩ := hq
  cases hr
  obtain ⟨⟨⟨I9, A9, hA9⟩, hf1⟩, hmm⟩ := hm _ _ hΨ
  have hX2 := (hf1 sb hsb).trans hX
  refine g_istore_5 rfl dL_law_2372 ?_
  refine g_aload_2 dL_law_2374 ?_
  refine g_v0 dL_law_2375 (vL_327 rfl) rfl hA9.1 (Nat.le_of_ble_eq_true rfl) (by show k + 1 + 0 ≤ 601024; omega) (by show n + 6 + 0 ≤ 7293034; omega) (hmm) (fun r M2 z2 hq => ?_) (fun E M2 z2 hq => by obtain ⟨hq, -⟩ := hq; cases hq)
  obtain ⟨hr, ⟨⟨I3, A3, hA3, hk3⟩, ⟨fo, hfo, hv⟩, hJ3⟩, hf3⟩ := hq
  cases hr
  refine g_istore_6 rfl dL_law_2378 ?_
  refine g_aload_2 dL_law_2380 ?_
  refine g_v0_1 dL_law_2381 (vL_154 rfl) rfl hA3.1 (Nat.le_of_ble_eq_true rfl) ⟨rfl, rfl⟩ (by show k + 1 + 0 ≤ 601024; omega) (by show n + 6 + 0 ≤ 7293034; omega) (m_thrown hA3 hk3) ?_
  refine g_iload_5 dL_law_2384 ?_
  refine g_icmp_eq (tgt := 2391) dL_law_2386 (by decide)  (fun _ => ?_) (fun h2386 => absurd rfl h2386)
  refine g_iload_5 dL_law_2391 ?_
  refine g_if_neN (tgt := 2408) dL_law_2393 (by decide) (by omega) (fun h2393 => ?_) (fun h2393 => ?_)
  · refine g_goto (tgt := 2961) dL_law_2408 (by decide) ?_
    exact hK _ _ _ _ _ _ _ _ (by show k + 1 + 0 ≤ k + 23; omega) (by show n + 6 + 0 ≤ n + 984; omega) hJ3 ((hf3 sb hsb).trans hX2)
  · have hv0 := hv h2393
    refine g_aload_3 dL_law_2396 ?_
    refine g_iconst (v := nI 0) dL_law_2397 rfl ?_
    refine g_laldN dL_law_2398 hfo (by omega) (by decide) ?_
    refine g_iload_6 dL_law_2399 ?_
    refine g_i2l dL_law_2401 ?_
    refine g_lcmp dL_law_2402 ?_
    refine g_if_eq (tgt := 2408) dL_law_2403 (by decide)  (fun _ => ?_) (fun h2403 => absurd (lcmp_self hv0) h2403)
    refine g_goto (tgt := 2961) dL_law_2408 (by decide) ?_
    exact hK _ _ _ _ _ _ _ _ (by show k + 1 + 0 ≤ k + 23; omega) (by show n + 6 + 0 ≤ n + 984; omega) hJ3 ((hf3 sb hsb).trans hX2)
theorem w_50 {Φ : GR → Hp → Nat → Prop} {M : Hp} {z k n sb a b o lo i Ln : Nat} {xs : Nat → Int32} {l5 l6 l7 l8 : Option Value} (hJ : JS M a b o lo z) (hX : M sb = some (aX Ln xs)) (hsb : sb < a) (hi : i + 3 < Ln) (hLn : Ln ≤ 2048) (hk0 : k + 23 ≤ 601024) (hn0 : n + 984 ≤ 7293034) (hK : ∀ M' z' k' n' l5 l6 l7 l8, k' ≤ k + 23 → n' ≤ n + 984 → JS M' a b o lo z' → M' sb = some (aX Ln xs) → WP mL_law 2961 [some (.ref sb), some (.ref a), some (.ref b), some (.ref o), some (.int (nI (i))), l5, l6, l7, l8] [] M' z' k' n' Φ) : WP mL_law 2411 [some (.ref sb), some (.ref a), some (.ref b), some (.ref o), some (.int (nI (i))), l5, l6, l7, l8] [] M z k n Φ := by
  obtain ⟨f, t, nn, h, sv, len, g, hJ⟩ := hJ
  obtain ⟨x, Ψ, hcw, hm⟩ := s_whyNoStitch hJ
  refine g_aload_1 dL_law_2411 ?_
  refine g_v0 dL_law_2412 (vL_328 rfl) rfl hJ.1.1 (Nat.le_of_ble_eq_true rfl) (by show k + 0 ≤ 601024; omega) (by show n + 0 ≤ 7293034; omega) (hcw) (fun r M2 z2 hq => ?_) (fun E M2 z2 hq => by obtain ⟨hq, -⟩ := hq; cases hq)
  obtain ⟨hr, hΨ⟩ := hq
  cases hr
  obtain ⟨⟨⟨I9, A9, hA9⟩, hf1⟩, hmm⟩ := hm _ _ hΨ
  have hX2 := (hf1 sb hsb).trans hX
  refine g_aload_2 dL_law_2415 ?_
  refine g_v0 dL_law_2416 (vL_331 rfl) rfl hA9.1 (Nat.le_of_ble_eq_true rfl) (by show k + 0 + 0 ≤ 601024; omega) (by show n + 0 + 0 ≤ 7293034; omega) (hmm) (fun r M2 z2 hq => ?_) (fun E M2 z2 hq => by obtain ⟨hq, -⟩ := hq; cases hq)
  obtain ⟨hr, hJ3, hf3⟩ := hq
  cases hr
  refine g_icmp_eq (tgt := 2961) dL_law_2419 (by decide)  (fun _ => ?_) (fun h2419 => absurd rfl h2419)
  exact hK _ _ _ _ _ _ _ _ (by show k + 0 + 0 ≤ k + 23; omega) (by show n + 0 + 0 ≤ n + 984; omega) hJ3 ((hf3 sb hsb).trans hX2)
theorem w_51 {Φ : GR → Hp → Nat → Prop} {M : Hp} {z k n sb a b o lo i Ln : Nat} {xs : Nat → Int32} {l5 l6 l7 l8 : Option Value} (hJ : JS M a b o lo z) (hX : M sb = some (aX Ln xs)) (hsb : sb < a) (hi : i + 3 < Ln) (hLn : Ln ≤ 2048) (hk0 : k + 23 ≤ 601024) (hn0 : n + 984 ≤ 7293034) (hK : ∀ M' z' k' n' l5 l6 l7 l8, k' ≤ k + 23 → n' ≤ n + 984 → JS M' a b o lo z' → M' sb = some (aX Ln xs) → WP mL_law 2961 [some (.ref sb), some (.ref a), some (.ref b), some (.ref o), some (.int (nI (i))), l5, l6, l7, l8] [] M' z' k' n' Φ) : WP mL_law 2424 [some (.ref sb), some (.ref a), some (.ref b), some (.ref o), some (.int (nI (i))), l5, l6, l7, l8] [] M z k n Φ := by
  obtain ⟨f, t, nn, h, sv, len, g, hJ⟩ := hJ
  obtain ⟨kq, v, Ψ, hkq, hPv, hcw, hm⟩ := s_whyNoMending (w0 := xs (i + 1)) hJ
  refine g_aload_1 dL_law_2424 ?_
  refine g_aload_0 dL_law_2425 ?_
  refine g_iload_4 dL_law_2426 ?_
  refine g_iconst (v := nI 1) dL_law_2428 rfl ?_
  refine g_iaddN dL_law_2429 ?_
  refine g_ialdXN dL_law_2430 hX (by omega) (by omega) ?_
  refine g_aload_3 dL_law_2431 ?_
  refine g_staH (as := [.ref a, .int (xs (i + 1)), .ref o]) dL_law_2432 (sL_332 rfl) rfl rfl rfl (Nat.le_of_ble_eq_true rfl) (by show k + 1 ≤ 601024; omega) (by show n + 6 ≤ 7293034; omega) hcw (fun r M2 z2 hq => ?_) (fun E M2 z2 hq => by obtain ⟨hq, -⟩ := hq; cases hq)
  obtain ⟨hr, hΨ⟩ := hq
  cases hr
  obtain ⟨⟨⟨I9, A9, hA9⟩, hf1⟩, hmm⟩ := hm _ _ hΨ
  have hX2 := (hf1 sb hsb).trans hX
  refine g_istore_5 rfl dL_law_2435 ?_
  refine g_aload_2 dL_law_2437 ?_
  refine g_aload_0 dL_law_2438 ?_
  refine g_iload_4 dL_law_2439 ?_
  refine g_iconst (v := nI 1) dL_law_2441 rfl ?_
  refine g_iaddN dL_law_2442 ?_
  refine g_ialdXN dL_law_2443 hX2 (by omega) (by omega) ?_
  refine g_v1 dL_law_2444 (vL_334 rfl) rfl hA9.1 (Nat.le_of_ble_eq_true rfl) (by show k + 1 + 0 ≤ 601024; omega) (by show n + 6 + 0 ≤ 7293034; omega) (hmm) (fun r M2 z2 hq => ?_) (fun E M2 z2 hq => by obtain ⟨hq, -⟩ := hq; cases hq)
  obtain ⟨hr, ⟨⟨I3, A3, hA3, hk3⟩, ⟨fo, hfo, hv⟩, hJ3⟩, hf3⟩ := hq
  cases hr
  refine g_istore_6 rfl dL_law_2447 ?_
  refine g_aload_2 dL_law_2449 ?_
  refine g_v0_1 dL_law_2450 (vL_154 rfl) rfl hA3.1 (Nat.le_of_ble_eq_true rfl) ⟨rfl, rfl⟩ (by show k + 1 + 0 ≤ 601024; omega) (by show n + 6 + 0 ≤ 7293034; omega) (m_thrown hA3 hk3) ?_
  refine g_iload_5 dL_law_2453 ?_
  refine g_icmp_eq (tgt := 2460) dL_law_2455 (by decide)  (fun _ => ?_) (fun h2455 => absurd rfl h2455)
  refine g_iload_5 dL_law_2460 ?_
  refine g_if_neN (tgt := 2477) dL_law_2462 (by decide) (by omega) (fun h2462 => ?_) (fun h2462 => ?_)
  · refine g_goto (tgt := 2961) dL_law_2477 (by decide) ?_
    exact hK _ _ _ _ _ _ _ _ (by show k + 1 + 0 ≤ k + 23; omega) (by show n + 6 + 0 ≤ n + 984; omega) hJ3 ((hf3 sb hsb).trans hX2)
  · have hv0 := hv h2462
    refine g_aload_3 dL_law_2465 ?_
    refine g_iconst (v := nI 0) dL_law_2466 rfl ?_
    refine g_laldN dL_law_2467 hfo (by omega) (by decide) ?_
    refine g_iload_6 dL_law_2468 ?_
    refine g_i2l dL_law_2470 ?_
    refine g_lcmp dL_law_2471 ?_
    refine g_if_eq (tgt := 2477) dL_law_2472 (by decide)  (fun _ => ?_) (fun h2472 => absurd (lcmp_self hv0) h2472)
    refine g_goto (tgt := 2961) dL_law_2477 (by decide) ?_
    exact hK _ _ _ _ _ _ _ _ (by show k + 1 + 0 ≤ k + 23; omega) (by show n + 6 + 0 ≤ n + 984; omega) hJ3 ((hf3 sb hsb).trans hX2)
theorem w_52 {Φ : GR → Hp → Nat → Prop} {M : Hp} {z k n sb a b o lo i Ln : Nat} {xs : Nat → Int32} {l5 l6 l7 l8 : Option Value} (hJ : JS M a b o lo z) (hX : M sb = some (aX Ln xs)) (hsb : sb < a) (hi : i + 3 < Ln) (hLn : Ln ≤ 2048) (hk0 : k + 23 ≤ 601024) (hn0 : n + 984 ≤ 7293034) (hK : ∀ M' z' k' n' l5 l6 l7 l8, k' ≤ k + 23 → n' ≤ n + 984 → JS M' a b o lo z' → M' sb = some (aX Ln xs) → WP mL_law 2961 [some (.ref sb), some (.ref a), some (.ref b), some (.ref o), some (.int (nI (i))), l5, l6, l7, l8] [] M' z' k' n' Φ) : WP mL_law 2480 [some (.ref sb), some (.ref a), some (.ref b), some (.ref o), some (.int (nI (i))), l5, l6, l7, l8] [] M z k n Φ := by
  obtain ⟨f, t, nn, h, sv, len, g, hJ⟩ := hJ
  obtain ⟨x, Ψ, hcw, hm⟩ := s_couldSew hJ
  refine g_aload_1 dL_law_2480 ?_
  refine g_v0 dL_law_2481 (vL_335 rfl) rfl hJ.1.1 (Nat.le_of_ble_eq_true rfl) (by show k + 0 ≤ 601024; omega) (by show n + 0 ≤ 7293034; omega) (hcw) (fun r M2 z2 hq => ?_) (fun E M2 z2 hq => by obtain ⟨hq, -⟩ := hq; cases hq)
  obtain ⟨hr, hΨ⟩ := hq
  cases hr
  obtain ⟨⟨⟨I9, A9, hA9⟩, hf1⟩, hmm⟩ := hm _ _ hΨ
  have hX2 := (hf1 sb hsb).trans hX
  refine g_aload_2 dL_law_2484 ?_
  refine g_v0 dL_law_2485 (vL_338 rfl) rfl hA9.1 (Nat.le_of_ble_eq_true rfl) (by show k + 0 + 0 ≤ 601024; omega) (by show n + 0 + 0 ≤ 7293034; omega) (hmm) (fun r M2 z2 hq => ?_) (fun E M2 z2 hq => by obtain ⟨hq, -⟩ := hq; cases hq)
  obtain ⟨hr, hJ3, hf3⟩ := hq
  cases hr
  refine g_icmp_eq (tgt := 2961) dL_law_2488 (by decide)  (fun _ => ?_) (fun h2488 => absurd rfl h2488)
  exact hK _ _ _ _ _ _ _ _ (by show k + 0 + 0 ≤ k + 23; omega) (by show n + 0 + 0 ≤ n + 984; omega) hJ3 ((hf3 sb hsb).trans hX2)
theorem w_53 {Φ : GR → Hp → Nat → Prop} {M : Hp} {z k n sb a b o lo i Ln : Nat} {xs : Nat → Int32} {l5 l6 l7 l8 : Option Value} (hJ : JS M a b o lo z) (hX : M sb = some (aX Ln xs)) (hsb : sb < a) (hi : i + 3 < Ln) (hLn : Ln ≤ 2048) (hk0 : k + 23 ≤ 601024) (hn0 : n + 984 ≤ 7293034) (hK : ∀ M' z' k' n' l5 l6 l7 l8, k' ≤ k + 23 → n' ≤ n + 984 → JS M' a b o lo z' → M' sb = some (aX Ln xs) → WP mL_law 2961 [some (.ref sb), some (.ref a), some (.ref b), some (.ref o), some (.int (nI (i))), l5, l6, l7, l8] [] M' z' k' n' Φ) : WP mL_law 2493 [some (.ref sb), some (.ref a), some (.ref b), some (.ref o), some (.int (nI (i))), l5, l6, l7, l8] [] M z k n Φ := by
  obtain ⟨f, t, nn, h, sv, len, g, hJ⟩ := hJ
  obtain ⟨kq, v, Ψ, hkq, hPv, hcw, hm⟩ := s_nearestByRings (w0 := xs (i + 1)) hJ
  refine g_aload_1 dL_law_2493 ?_
  refine g_aload_0 dL_law_2494 ?_
  refine g_iload_4 dL_law_2495 ?_
  refine g_iconst (v := nI 1) dL_law_2497 rfl ?_
  refine g_iaddN dL_law_2498 ?_
  refine g_ialdXN dL_law_2499 hX (by omega) (by omega) ?_
  refine g_aload_3 dL_law_2500 ?_
  refine g_staH (as := [.ref a, .int (xs (i + 1)), .ref o]) dL_law_2501 (sL_339 rfl) rfl rfl rfl (Nat.le_of_ble_eq_true rfl) (by show k + 1 ≤ 601024; omega) (by show n + 6 ≤ 7293034; omega) hcw (fun r M2 z2 hq => ?_) (fun E M2 z2 hq => by obtain ⟨hq, -⟩ := hq; cases hq)
  obtain ⟨hr, hΨ⟩ := hq
  cases hr
  obtain ⟨⟨⟨I9, A9, hA9⟩, hf1⟩, hmm⟩ := hm _ _ hΨ
  have hX2 := (hf1 sb hsb).trans hX
  refine g_istore_5 rfl dL_law_2504 ?_
  refine g_aload_2 dL_law_2506 ?_
  refine g_aload_0 dL_law_2507 ?_
  refine g_iload_4 dL_law_2508 ?_
  refine g_iconst (v := nI 1) dL_law_2510 rfl ?_
  refine g_iaddN dL_law_2511 ?_
  refine g_ialdXN dL_law_2512 hX2 (by omega) (by omega) ?_
  refine g_v1 dL_law_2513 (vL_341 rfl) rfl hA9.1 (Nat.le_of_ble_eq_true rfl) (by show k + 1 + 0 ≤ 601024; omega) (by show n + 6 + 0 ≤ 7293034; omega) (hmm) (fun r M2 z2 hq => ?_) (fun E M2 z2 hq => by obtain ⟨hq, -⟩ := hq; cases hq)
  obtain ⟨hr, ⟨⟨I3, A3, hA3, hk3⟩, ⟨fo, hfo, hv⟩, hJ3⟩, hf3⟩ := hq
  cases hr
  refine g_istore_6 rfl dL_law_2516 ?_
  refine g_aload_2 dL_law_2518 ?_
  refine g_v0_1 dL_law_2519 (vL_154 rfl) rfl hA3.1 (Nat.le_of_ble_eq_true rfl) ⟨rfl, rfl⟩ (by show k + 1 + 0 ≤ 601024; omega) (by show n + 6 + 0 ≤ 7293034; omega) (m_thrown hA3 hk3) ?_
  refine g_iload_5 dL_law_2522 ?_
  refine g_icmp_eq (tgt := 2529) dL_law_2524 (by decide)  (fun _ => ?_) (fun h2524 => absurd rfl h2524)
  refine g_iload_5 dL_law_2529 ?_
  refine g_if_neN (tgt := 2546) dL_law_2531 (by decide) (by omega) (fun h2531 => ?_) (fun h2531 => ?_)
  · refine g_goto (tgt := 2961) dL_law_2546 (by decide) ?_
    exact hK _ _ _ _ _ _ _ _ (by show k + 1 + 0 ≤ k + 23; omega) (by show n + 6 + 0 ≤ n + 984; omega) hJ3 ((hf3 sb hsb).trans hX2)
  · have hv0 := hv h2531
    refine g_aload_3 dL_law_2534 ?_
    refine g_iconst (v := nI 0) dL_law_2535 rfl ?_
    refine g_laldN dL_law_2536 hfo (by omega) (by decide) ?_
    refine g_iload_6 dL_law_2537 ?_
    refine g_i2l dL_law_2539 ?_
    refine g_lcmp dL_law_2540 ?_
    refine g_if_eq (tgt := 2546) dL_law_2541 (by decide)  (fun _ => ?_) (fun h2541 => absurd (lcmp_self hv0) h2541)
    refine g_goto (tgt := 2961) dL_law_2546 (by decide) ?_
    exact hK _ _ _ _ _ _ _ _ (by show k + 1 + 0 ≤ k + 23; omega) (by show n + 6 + 0 ≤ n + 984; omega) hJ3 ((hf3 sb hsb).trans hX2)
theorem w_54 {Φ : GR → Hp → Nat → Prop} {M : Hp} {z k n sb a b o lo i Ln : Nat} {xs : Nat → Int32} {l5 l6 l7 l8 : Option Value} (hJ : JS M a b o lo z) (hX : M sb = some (aX Ln xs)) (hsb : sb < a) (hi : i + 3 < Ln) (hLn : Ln ≤ 2048) (hk0 : k + 23 ≤ 601024) (hn0 : n + 984 ≤ 7293034) (hK : ∀ M' z' k' n' l5 l6 l7 l8, k' ≤ k + 23 → n' ≤ n + 984 → JS M' a b o lo z' → M' sb = some (aX Ln xs) → WP mL_law 2961 [some (.ref sb), some (.ref a), some (.ref b), some (.ref o), some (.int (nI (i))), l5, l6, l7, l8] [] M' z' k' n' Φ) : WP mL_law 2549 [some (.ref sb), some (.ref a), some (.ref b), some (.ref o), some (.int (nI (i))), l5, l6, l7, l8] [] M z k n Φ := by
  obtain ⟨f, t, nn, h, sv, len, g, hJ⟩ := hJ
  obtain ⟨kq, v, Ψ, hkq, hPv, hcw, hm⟩ := s_nearestByCells (w0 := xs (i + 1)) hJ
  refine g_aload_1 dL_law_2549 ?_
  refine g_aload_0 dL_law_2550 ?_
  refine g_iload_4 dL_law_2551 ?_
  refine g_iconst (v := nI 1) dL_law_2553 rfl ?_
  refine g_iaddN dL_law_2554 ?_
  refine g_ialdXN dL_law_2555 hX (by omega) (by omega) ?_
  refine g_aload_3 dL_law_2556 ?_
  refine g_staH (as := [.ref a, .int (xs (i + 1)), .ref o]) dL_law_2557 (sL_342 rfl) rfl rfl rfl (Nat.le_of_ble_eq_true rfl) (by show k + 1 ≤ 601024; omega) (by show n + 6 ≤ 7293034; omega) hcw (fun r M2 z2 hq => ?_) (fun E M2 z2 hq => by obtain ⟨hq, -⟩ := hq; cases hq)
  obtain ⟨hr, hΨ⟩ := hq
  cases hr
  obtain ⟨⟨⟨I9, A9, hA9⟩, hf1⟩, hmm⟩ := hm _ _ hΨ
  have hX2 := (hf1 sb hsb).trans hX
  refine g_istore_5 rfl dL_law_2560 ?_
  refine g_aload_2 dL_law_2562 ?_
  refine g_aload_0 dL_law_2563 ?_
  refine g_iload_4 dL_law_2564 ?_
  refine g_iconst (v := nI 1) dL_law_2566 rfl ?_
  refine g_iaddN dL_law_2567 ?_
  refine g_ialdXN dL_law_2568 hX2 (by omega) (by omega) ?_
  refine g_v1 dL_law_2569 (vL_344 rfl) rfl hA9.1 (Nat.le_of_ble_eq_true rfl) (by show k + 1 + 0 ≤ 601024; omega) (by show n + 6 + 0 ≤ 7293034; omega) (hmm) (fun r M2 z2 hq => ?_) (fun E M2 z2 hq => by obtain ⟨hq, -⟩ := hq; cases hq)
  obtain ⟨hr, ⟨⟨I3, A3, hA3, hk3⟩, ⟨fo, hfo, hv⟩, hJ3⟩, hf3⟩ := hq
  cases hr
  refine g_istore_6 rfl dL_law_2572 ?_
  refine g_aload_2 dL_law_2574 ?_
  refine g_v0_1 dL_law_2575 (vL_154 rfl) rfl hA3.1 (Nat.le_of_ble_eq_true rfl) ⟨rfl, rfl⟩ (by show k + 1 + 0 ≤ 601024; omega) (by show n + 6 + 0 ≤ 7293034; omega) (m_thrown hA3 hk3) ?_
  refine g_iload_5 dL_law_2578 ?_
  refine g_icmp_eq (tgt := 2585) dL_law_2580 (by decide)  (fun _ => ?_) (fun h2580 => absurd rfl h2580)
  refine g_iload_5 dL_law_2585 ?_
  refine g_if_neN (tgt := 2602) dL_law_2587 (by decide) (by omega) (fun h2587 => ?_) (fun h2587 => ?_)
  · refine g_goto (tgt := 2961) dL_law_2602 (by decide) ?_
    exact hK _ _ _ _ _ _ _ _ (by show k + 1 + 0 ≤ k + 23; omega) (by show n + 6 + 0 ≤ n + 984; omega) hJ3 ((hf3 sb hsb).trans hX2)
  · have hv0 := hv h2587
    refine g_aload_3 dL_law_2590 ?_
    refine g_iconst (v := nI 0) dL_law_2591 rfl ?_
    refine g_laldN dL_law_2592 hfo (by omega) (by decide) ?_
    refine g_iload_6 dL_law_2593 ?_
    refine g_i2l dL_law_2595 ?_
    refine g_lcmp dL_law_2596 ?_
    refine g_if_eq (tgt := 2602) dL_law_2597 (by decide)  (fun _ => ?_) (fun h2597 => absurd (lcmp_self hv0) h2597)
    refine g_goto (tgt := 2961) dL_law_2602 (by decide) ?_
    exact hK _ _ _ _ _ _ _ _ (by show k + 1 + 0 ≤ k + 23; omega) (by show n + 6 + 0 ≤ n + 984; omega) hJ3 ((hf3 sb hsb).trans hX2)
theorem w_55 {Φ : GR → Hp → Nat → Prop} {M : Hp} {z k n sb a b o lo i Ln : Nat} {xs : Nat → Int32} {l5 l6 l7 l8 : Option Value} (hJ : JS M a b o lo z) (hX : M sb = some (aX Ln xs)) (hsb : sb < a) (hi : i + 3 < Ln) (hLn : Ln ≤ 2048) (hk0 : k + 23 ≤ 601024) (hn0 : n + 984 ≤ 7293034) (hK : ∀ M' z' k' n' l5 l6 l7 l8, k' ≤ k + 23 → n' ≤ n + 984 → JS M' a b o lo z' → M' sb = some (aX Ln xs) → WP mL_law 2961 [some (.ref sb), some (.ref a), some (.ref b), some (.ref o), some (.int (nI (i))), l5, l6, l7, l8] [] M' z' k' n' Φ) : WP mL_law 2605 [some (.ref sb), some (.ref a), some (.ref b), some (.ref o), some (.int (nI (i))), l5, l6, l7, l8] [] M z k n Φ := by
  obtain ⟨f, t, nn, h, sv, len, g, hJ⟩ := hJ
  obtain ⟨kq, v, Ψ, hkq, hPv, hcw, hm⟩ := s_loopsBy  hJ
  refine g_aload_1 dL_law_2605 ?_
  refine g_aload_3 dL_law_2606 ?_
  refine g_staH (as := [.ref a, .ref o]) dL_law_2607 (sL_345 rfl) rfl rfl rfl (Nat.le_of_ble_eq_true rfl) (by show k + 1 ≤ 601024; omega) (by show n + 6 ≤ 7293034; omega) hcw (fun r M2 z2 hq => ?_) (fun E M2 z2 hq => by obtain ⟨hq, -⟩ := hq; cases hq)
  obtain ⟨hr, hΨ⟩ := hq
  cases hr
  obtain ⟨⟨⟨I9, A9, hA9⟩, hf1⟩, hmm⟩ := hm _ _ hΨ
  have hX2 := (hf1 sb hsb).trans hX
  refine g_istore_5 rfl dL_law_2610 ?_
  refine g_aload_2 dL_law_2612 ?_
  refine g_v0 dL_law_2613 (vL_347 rfl) rfl hA9.1 (Nat.le_of_ble_eq_true rfl) (by show k + 1 + 0 ≤ 601024; omega) (by show n + 6 + 0 ≤ 7293034; omega) (hmm) (fun r M2 z2 hq => ?_) (fun E M2 z2 hq => by obtain ⟨hq, -⟩ := hq; cases hq)
  obtain ⟨hr, ⟨⟨I3, A3, hA3, hk3⟩, ⟨fo, hfo, hv⟩, hJ3⟩, hf3⟩ := hq
  cases hr
  refine g_istore_6 rfl dL_law_2616 ?_
  refine g_aload_2 dL_law_2618 ?_
  refine g_v0_1 dL_law_2619 (vL_154 rfl) rfl hA3.1 (Nat.le_of_ble_eq_true rfl) ⟨rfl, rfl⟩ (by show k + 1 + 0 ≤ 601024; omega) (by show n + 6 + 0 ≤ 7293034; omega) (m_thrown hA3 hk3) ?_
  refine g_iload_5 dL_law_2622 ?_
  refine g_icmp_eq (tgt := 2629) dL_law_2624 (by decide)  (fun _ => ?_) (fun h2624 => absurd rfl h2624)
  refine g_iload_5 dL_law_2629 ?_
  refine g_if_neN (tgt := 2646) dL_law_2631 (by decide) (by omega) (fun h2631 => ?_) (fun h2631 => ?_)
  · refine g_goto (tgt := 2961) dL_law_2646 (by decide) ?_
    exact hK _ _ _ _ _ _ _ _ (by show k + 1 + 0 ≤ k + 23; omega) (by show n + 6 + 0 ≤ n + 984; omega) hJ3 ((hf3 sb hsb).trans hX2)
  · have hv0 := hv h2631
    refine g_aload_3 dL_law_2634 ?_
    refine g_iconst (v := nI 0) dL_law_2635 rfl ?_
    refine g_laldN dL_law_2636 hfo (by omega) (by decide) ?_
    refine g_iload_6 dL_law_2637 ?_
    refine g_i2l dL_law_2639 ?_
    refine g_lcmp dL_law_2640 ?_
    refine g_if_eq (tgt := 2646) dL_law_2641 (by decide)  (fun _ => ?_) (fun h2641 => absurd (lcmp_self hv0) h2641)
    refine g_goto (tgt := 2961) dL_law_2646 (by decide) ?_
    exact hK _ _ _ _ _ _ _ _ (by show k + 1 + 0 ≤ k + 23; omega) (by show n + 6 + 0 ≤ n + 984; omega) hJ3 ((hf3 sb hsb).trans hX2)
theorem w_56 {Φ : GR → Hp → Nat → Prop} {M : Hp} {z k n sb a b o lo i Ln : Nat} {xs : Nat → Int32} {l5 l6 l7 l8 : Option Value} (hJ : JS M a b o lo z) (hX : M sb = some (aX Ln xs)) (hsb : sb < a) (hi : i + 3 < Ln) (hLn : Ln ≤ 2048) (hk0 : k + 23 ≤ 601024) (hn0 : n + 984 ≤ 7293034) (hK : ∀ M' z' k' n' l5 l6 l7 l8, k' ≤ k + 23 → n' ≤ n + 984 → JS M' a b o lo z' → M' sb = some (aX Ln xs) → WP mL_law 2961 [some (.ref sb), some (.ref a), some (.ref b), some (.ref o), some (.int (nI (i))), l5, l6, l7, l8] [] M' z' k' n' Φ) : WP mL_law 2649 [some (.ref sb), some (.ref a), some (.ref b), some (.ref o), some (.int (nI (i))), l5, l6, l7, l8] [] M z k n Φ := by
  obtain ⟨f, t, nn, h, sv, len, g, hJ⟩ := hJ
  obtain ⟨kq, v, Ψ, hkq, hPv, hcw, hm⟩ := s_needleBy  hJ
  refine g_aload_1 dL_law_2649 ?_
  refine g_aload_3 dL_law_2650 ?_
  refine g_staH (as := [.ref a, .ref o]) dL_law_2651 (sL_348 rfl) rfl rfl rfl (Nat.le_of_ble_eq_true rfl) (by show k + 1 ≤ 601024; omega) (by show n + 6 ≤ 7293034; omega) hcw (fun r M2 z2 hq => ?_) (fun E M2 z2 hq => by obtain ⟨hq, -⟩ := hq; cases hq)
  obtain ⟨hr, hΨ⟩ := hq
  cases hr
  obtain ⟨⟨⟨I9, A9, hA9⟩, hf1⟩, hmm⟩ := hm _ _ hΨ
  have hX2 := (hf1 sb hsb).trans hX
  refine g_istore_5 rfl dL_law_2654 ?_
  refine g_aload_2 dL_law_2656 ?_
  refine g_v0 dL_law_2657 (vL_350 rfl) rfl hA9.1 (Nat.le_of_ble_eq_true rfl) (by show k + 1 + 0 ≤ 601024; omega) (by show n + 6 + 0 ≤ 7293034; omega) (hmm) (fun r M2 z2 hq => ?_) (fun E M2 z2 hq => by obtain ⟨hq, -⟩ := hq; cases hq)
  obtain ⟨hr, ⟨⟨I3, A3, hA3, hk3⟩, ⟨fo, hfo, hv⟩, hJ3⟩, hf3⟩ := hq
  cases hr
  refine g_istore_6 rfl dL_law_2660 ?_
  refine g_aload_2 dL_law_2662 ?_
  refine g_v0_1 dL_law_2663 (vL_154 rfl) rfl hA3.1 (Nat.le_of_ble_eq_true rfl) ⟨rfl, rfl⟩ (by show k + 1 + 0 ≤ 601024; omega) (by show n + 6 + 0 ≤ 7293034; omega) (m_thrown hA3 hk3) ?_
  refine g_iload_5 dL_law_2666 ?_
  refine g_icmp_eq (tgt := 2673) dL_law_2668 (by decide)  (fun _ => ?_) (fun h2668 => absurd rfl h2668)
  refine g_iload_5 dL_law_2673 ?_
  refine g_if_neN (tgt := 2690) dL_law_2675 (by decide) (by omega) (fun h2675 => ?_) (fun h2675 => ?_)
  · refine g_goto (tgt := 2961) dL_law_2690 (by decide) ?_
    exact hK _ _ _ _ _ _ _ _ (by show k + 1 + 0 ≤ k + 23; omega) (by show n + 6 + 0 ≤ n + 984; omega) hJ3 ((hf3 sb hsb).trans hX2)
  · have hv0 := hv h2675
    refine g_aload_3 dL_law_2678 ?_
    refine g_iconst (v := nI 0) dL_law_2679 rfl ?_
    refine g_laldN dL_law_2680 hfo (by omega) (by decide) ?_
    refine g_iload_6 dL_law_2681 ?_
    refine g_i2l dL_law_2683 ?_
    refine g_lcmp dL_law_2684 ?_
    refine g_if_eq (tgt := 2690) dL_law_2685 (by decide)  (fun _ => ?_) (fun h2685 => absurd (lcmp_self hv0) h2685)
    refine g_goto (tgt := 2961) dL_law_2690 (by decide) ?_
    exact hK _ _ _ _ _ _ _ _ (by show k + 1 + 0 ≤ k + 23; omega) (by show n + 6 + 0 ≤ n + 984; omega) hJ3 ((hf3 sb hsb).trans hX2)
theorem w_57 {Φ : GR → Hp → Nat → Prop} {M : Hp} {z k n sb a b o lo i Ln : Nat} {xs : Nat → Int32} {l5 l6 l7 l8 : Option Value} (hJ : JS M a b o lo z) (hX : M sb = some (aX Ln xs)) (hsb : sb < a) (hi : i + 3 < Ln) (hLn : Ln ≤ 2048) (hk0 : k + 23 ≤ 601024) (hn0 : n + 984 ≤ 7293034) (hK : ∀ M' z' k' n' l5 l6 l7 l8, k' ≤ k + 23 → n' ≤ n + 984 → JS M' a b o lo z' → M' sb = some (aX Ln xs) → WP mL_law 2961 [some (.ref sb), some (.ref a), some (.ref b), some (.ref o), some (.int (nI (i))), l5, l6, l7, l8] [] M' z' k' n' Φ) : WP mL_law 2693 [some (.ref sb), some (.ref a), some (.ref b), some (.ref o), some (.int (nI (i))), l5, l6, l7, l8] [] M z k n Φ := by
  obtain ⟨f, t, nn, h, sv, len, g, hJ⟩ := hJ
  obtain ⟨kq, v, Ψ, hkq, hPv, hcw, hm⟩ := s_yarnBy (w0 := xs (i + 1)) hJ
  refine g_aload_1 dL_law_2693 ?_
  refine g_aload_0 dL_law_2694 ?_
  refine g_iload_4 dL_law_2695 ?_
  refine g_iconst (v := nI 1) dL_law_2697 rfl ?_
  refine g_iaddN dL_law_2698 ?_
  refine g_ialdXN dL_law_2699 hX (by omega) (by omega) ?_
  refine g_aload_3 dL_law_2700 ?_
  refine g_staH (as := [.ref a, .int (xs (i + 1)), .ref o]) dL_law_2701 (sL_351 rfl) rfl rfl rfl (Nat.le_of_ble_eq_true rfl) (by show k + 2 ≤ 601024; omega) (by show n + 12 ≤ 7293034; omega) hcw (fun r M2 z2 hq => ?_) (fun E M2 z2 hq => by obtain ⟨hq, -⟩ := hq; cases hq)
  obtain ⟨hr, hΨ⟩ := hq
  cases hr
  obtain ⟨⟨⟨I9, A9, hA9⟩, hf1⟩, hmm⟩ := hm _ _ hΨ
  have hX2 := (hf1 sb hsb).trans hX
  refine g_istore_5 rfl dL_law_2704 ?_
  refine g_aload_2 dL_law_2706 ?_
  refine g_aload_0 dL_law_2707 ?_
  refine g_iload_4 dL_law_2708 ?_
  refine g_iconst (v := nI 1) dL_law_2710 rfl ?_
  refine g_iaddN dL_law_2711 ?_
  refine g_ialdXN dL_law_2712 hX2 (by omega) (by omega) ?_
  refine g_v1 dL_law_2713 (vL_353 rfl) rfl hA9.1 (Nat.le_of_ble_eq_true rfl) (by show k + 2 + 0 ≤ 601024; omega) (by show n + 12 + 0 ≤ 7293034; omega) (hmm) (fun r M2 z2 hq => ?_) (fun E M2 z2 hq => by obtain ⟨hq, -⟩ := hq; cases hq)
  obtain ⟨hr, ⟨⟨I3, A3, hA3, hk3⟩, ⟨fo, hfo, hv⟩, hJ3⟩, hf3⟩ := hq
  cases hr
  refine g_istore_6 rfl dL_law_2716 ?_
  refine g_aload_2 dL_law_2718 ?_
  refine g_v0_1 dL_law_2719 (vL_154 rfl) rfl hA3.1 (Nat.le_of_ble_eq_true rfl) ⟨rfl, rfl⟩ (by show k + 2 + 0 ≤ 601024; omega) (by show n + 12 + 0 ≤ 7293034; omega) (m_thrown hA3 hk3) ?_
  refine g_iload_5 dL_law_2722 ?_
  refine g_icmp_eq (tgt := 2729) dL_law_2724 (by decide)  (fun _ => ?_) (fun h2724 => absurd rfl h2724)
  refine g_iload_5 dL_law_2729 ?_
  refine g_if_neN (tgt := 2746) dL_law_2731 (by decide) (by omega) (fun h2731 => ?_) (fun h2731 => ?_)
  · refine g_goto (tgt := 2961) dL_law_2746 (by decide) ?_
    exact hK _ _ _ _ _ _ _ _ (by show k + 2 + 0 ≤ k + 23; omega) (by show n + 12 + 0 ≤ n + 984; omega) hJ3 ((hf3 sb hsb).trans hX2)
  · have hv0 := hv h2731
    refine g_aload_3 dL_law_2734 ?_
    refine g_iconst (v := nI 0) dL_law_2735 rfl ?_
    refine g_laldN dL_law_2736 hfo (by omega) (by decide) ?_
    refine g_iload_6 dL_law_2737 ?_
    refine g_i2l dL_law_2739 ?_
    refine g_lcmp dL_law_2740 ?_
    refine g_if_eq (tgt := 2746) dL_law_2741 (by decide)  (fun _ => ?_) (fun h2741 => absurd (lcmp_self hv0) h2741)
    refine g_goto (tgt := 2961) dL_law_2746 (by decide) ?_
    exact hK _ _ _ _ _ _ _ _ (by show k + 2 + 0 ≤ k + 23; omega) (by show n + 12 + 0 ≤ n + 984; omega) hJ3 ((hf3 sb hsb).trans hX2)
theorem w_58 {Φ : GR → Hp → Nat → Prop} {M : Hp} {z k n sb a b o lo i Ln : Nat} {xs : Nat → Int32} {l5 l6 l7 l8 : Option Value} (hJ : JS M a b o lo z) (hX : M sb = some (aX Ln xs)) (hsb : sb < a) (hi : i + 3 < Ln) (hLn : Ln ≤ 2048) (hk0 : k + 23 ≤ 601024) (hn0 : n + 984 ≤ 7293034) (hK : ∀ M' z' k' n' l5 l6 l7 l8, k' ≤ k + 23 → n' ≤ n + 984 → JS M' a b o lo z' → M' sb = some (aX Ln xs) → WP mL_law 2961 [some (.ref sb), some (.ref a), some (.ref b), some (.ref o), some (.int (nI (i))), l5, l6, l7, l8] [] M' z' k' n' Φ) : WP mL_law 2749 [some (.ref sb), some (.ref a), some (.ref b), some (.ref o), some (.int (nI (i))), l5, l6, l7, l8] [] M z k n Φ := by
  obtain ⟨f, t, nn, h, sv, len, g, hJ⟩ := hJ
  obtain ⟨kq, v, Ψ, hkq, hPv, hcw, hm⟩ := s_simulate (sd := ((xs (i + 1)).toInt64 <<< ((nI 32).toInt64 &&& 63) ||| ((xs (i + 2)).toInt64 &&& 4294967295))) (w1 := xs (i + 3)) hJ
  refine g_aload_1 dL_law_2749 ?_
  refine g_aload_0 dL_law_2750 ?_
  refine g_iload_4 dL_law_2751 ?_
  refine g_iconst (v := nI 1) dL_law_2753 rfl ?_
  refine g_iaddN dL_law_2754 ?_
  refine g_ialdXN dL_law_2755 hX (by omega) (by omega) ?_
  refine g_i2l dL_law_2756 ?_
  refine g_bipush (v := nI 32) dL_law_2757 rfl ?_
  refine g_lshl dL_law_2759 ?_
  refine g_aload_0 dL_law_2760 ?_
  refine g_iload_4 dL_law_2761 ?_
  refine g_iconst (v := nI 2) dL_law_2763 rfl ?_
  refine g_iaddN dL_law_2764 ?_
  refine g_ialdXN dL_law_2765 hX (by omega) (by omega) ?_
  refine g_i2l dL_law_2766 ?_
  refine g_ldc2 dL_law_2767 (zL_354 rfl) ?_
  refine g_land dL_law_2770 ?_
  refine g_lor dL_law_2771 ?_
  refine g_aload_0 dL_law_2772 ?_
  refine g_iload_4 dL_law_2773 ?_
  refine g_iconst (v := nI 3) dL_law_2775 rfl ?_
  refine g_iaddN dL_law_2776 ?_
  refine g_ialdXN dL_law_2777 hX (by omega) (by omega) ?_
  refine g_aload_3 dL_law_2778 ?_
  refine g_staH (as := [.ref a, .long ((xs (i + 1)).toInt64 <<< ((nI 32).toInt64 &&& 63) ||| ((xs (i + 2)).toInt64 &&& 4294967295)), .int (xs (i + 3)), .ref o]) dL_law_2779 (sL_356 rfl) rfl rfl rfl (Nat.le_of_ble_eq_true rfl) (by show k + 1 ≤ 601024; omega) (by show n + 6 ≤ 7293034; omega) hcw (fun r M2 z2 hq => ?_) (fun E M2 z2 hq => by obtain ⟨hq, -⟩ := hq; cases hq)
  obtain ⟨hr, hΨ⟩ := hq
  cases hr
  obtain ⟨⟨⟨I9, A9, hA9⟩, hf1⟩, hmm⟩ := hm _ _ hΨ
  have hX2 := (hf1 sb hsb).trans hX
  refine g_istore_5 rfl dL_law_2782 ?_
  refine g_aload_2 dL_law_2784 ?_
  refine g_aload_0 dL_law_2785 ?_
  refine g_iload_4 dL_law_2786 ?_
  refine g_iconst (v := nI 1) dL_law_2788 rfl ?_
  refine g_iaddN dL_law_2789 ?_
  refine g_ialdXN dL_law_2790 hX2 (by omega) (by omega) ?_
  refine g_i2l dL_law_2791 ?_
  refine g_bipush (v := nI 32) dL_law_2792 rfl ?_
  refine g_lshl dL_law_2794 ?_
  refine g_aload_0 dL_law_2795 ?_
  refine g_iload_4 dL_law_2796 ?_
  refine g_iconst (v := nI 2) dL_law_2798 rfl ?_
  refine g_iaddN dL_law_2799 ?_
  refine g_ialdXN dL_law_2800 hX2 (by omega) (by omega) ?_
  refine g_i2l dL_law_2801 ?_
  refine g_ldc2 dL_law_2802 (zL_354 rfl) ?_
  refine g_land dL_law_2805 ?_
  refine g_lor dL_law_2806 ?_
  refine g_aload_0 dL_law_2807 ?_
  refine g_iload_4 dL_law_2808 ?_
  refine g_iconst (v := nI 3) dL_law_2810 rfl ?_
  refine g_iaddN dL_law_2811 ?_
  refine g_ialdXN dL_law_2812 hX2 (by omega) (by omega) ?_
  refine g_v2 dL_law_2813 (vL_359 rfl) rfl hA9.1 (Nat.le_of_ble_eq_true rfl) (by show k + 1 + 0 ≤ 601024; omega) (by show n + 6 + 0 ≤ 7293034; omega) (hmm) (fun r M2 z2 hq => ?_) (fun E M2 z2 hq => by obtain ⟨hq, -⟩ := hq; cases hq)
  obtain ⟨hr, ⟨⟨I3, A3, hA3, hk3⟩, ⟨fo, hfo, hv⟩, hJ3⟩, hf3⟩ := hq
  cases hr
  refine g_istore_6 rfl dL_law_2816 ?_
  refine g_aload_2 dL_law_2818 ?_
  refine g_v0_1 dL_law_2819 (vL_154 rfl) rfl hA3.1 (Nat.le_of_ble_eq_true rfl) ⟨rfl, rfl⟩ (by show k + 1 + 0 ≤ 601024; omega) (by show n + 6 + 0 ≤ 7293034; omega) (m_thrown hA3 hk3) ?_
  refine g_iload_5 dL_law_2822 ?_
  refine g_icmp_eq (tgt := 2829) dL_law_2824 (by decide)  (fun _ => ?_) (fun h2824 => absurd rfl h2824)
  refine g_iload_5 dL_law_2829 ?_
  refine g_if_neN (tgt := 2846) dL_law_2831 (by decide) (by omega) (fun h2831 => ?_) (fun h2831 => ?_)
  · refine g_goto (tgt := 2961) dL_law_2846 (by decide) ?_
    exact hK _ _ _ _ _ _ _ _ (by show k + 1 + 0 ≤ k + 23; omega) (by show n + 6 + 0 ≤ n + 984; omega) hJ3 ((hf3 sb hsb).trans hX2)
  · have hv0 := hv h2831
    refine g_aload_3 dL_law_2834 ?_
    refine g_iconst (v := nI 0) dL_law_2835 rfl ?_
    refine g_laldN dL_law_2836 hfo (by omega) (by decide) ?_
    refine g_iload_6 dL_law_2837 ?_
    refine g_i2l dL_law_2839 ?_
    refine g_lcmp dL_law_2840 ?_
    refine g_if_eq (tgt := 2846) dL_law_2841 (by decide)  (fun _ => ?_) (fun h2841 => absurd (lcmp_self hv0) h2841)
    refine g_goto (tgt := 2961) dL_law_2846 (by decide) ?_
    exact hK _ _ _ _ _ _ _ _ (by show k + 1 + 0 ≤ k + 23; omega) (by show n + 6 + 0 ≤ n + 984; omega) hJ3 ((hf3 sb hsb).trans hX2)
theorem w_59 {Φ : GR → Hp → Nat → Prop} {M : Hp} {z k n sb a b o lo i Ln : Nat} {xs : Nat → Int32} {l5 l6 l7 l8 : Option Value} (hJ : JS M a b o lo z) (hX : M sb = some (aX Ln xs)) (hsb : sb < a) (hi : i + 3 < Ln) (hLn : Ln ≤ 2048) (hk0 : k + 23 ≤ 601024) (hn0 : n + 984 ≤ 7293034) (hK : ∀ M' z' k' n' l5 l6 l7 l8, k' ≤ k + 23 → n' ≤ n + 984 → JS M' a b o lo z' → M' sb = some (aX Ln xs) → WP mL_law 2961 [some (.ref sb), some (.ref a), some (.ref b), some (.ref o), some (.int (nI (i))), l5, l6, l7, l8] [] M' z' k' n' Φ) : WP mL_law 2849 [some (.ref sb), some (.ref a), some (.ref b), some (.ref o), some (.int (nI (i))), l5, l6, l7, l8] [] M z k n Φ := by
  obtain ⟨f, t, nn, h, sv, len, g, hJ⟩ := hJ
  obtain ⟨kq, v, Ψ, hkq, hPv, hcw, hm⟩ := s_save (w0 := xs (i + 1)) hJ
  refine g_aload_1 dL_law_2849 ?_
  refine g_aload_0 dL_law_2850 ?_
  refine g_iload_4 dL_law_2851 ?_
  refine g_iconst (v := nI 1) dL_law_2853 rfl ?_
  refine g_iaddN dL_law_2854 ?_
  refine g_ialdXN dL_law_2855 hX (by omega) (by omega) ?_
  refine g_aload_3 dL_law_2856 ?_
  refine g_staH (as := [.ref a, .int (xs (i + 1)), .ref o]) dL_law_2857 (sL_360 rfl) rfl rfl rfl (Nat.le_of_ble_eq_true rfl) (by show k + 21 ≤ 601024; omega) (by show n + 972 ≤ 7293034; omega) hcw (fun r M2 z2 hq => ?_) (fun E M2 z2 hq => by obtain ⟨hq, -⟩ := hq; cases hq)
  obtain ⟨hr, hΨ⟩ := hq
  cases hr
  obtain ⟨⟨⟨I9, A9, hA9⟩, hf1⟩, hmm⟩ := hm _ _ hΨ
  have hX2 := (hf1 sb hsb).trans hX
  refine g_istore_5 rfl dL_law_2860 ?_
  refine g_aload_2 dL_law_2862 ?_
  refine g_aload_0 dL_law_2863 ?_
  refine g_iload_4 dL_law_2864 ?_
  refine g_iconst (v := nI 1) dL_law_2866 rfl ?_
  refine g_iaddN dL_law_2867 ?_
  refine g_ialdXN dL_law_2868 hX2 (by omega) (by omega) ?_
  refine g_v1 dL_law_2869 (vL_362 rfl) rfl hA9.1 (Nat.le_of_ble_eq_true rfl) (by show k + 21 + 0 ≤ 601024; omega) (by show n + 972 + 0 ≤ 7293034; omega) (hmm) (fun r M2 z2 hq => ?_) (fun E M2 z2 hq => by obtain ⟨hq, -⟩ := hq; cases hq)
  obtain ⟨hr, ⟨⟨I3, A3, hA3, hk3⟩, ⟨fo, hfo, hv⟩, hJ3⟩, hf3⟩ := hq
  cases hr
  refine g_istore_6 rfl dL_law_2872 ?_
  refine g_aload_2 dL_law_2874 ?_
  refine g_v0_1 dL_law_2875 (vL_154 rfl) rfl hA3.1 (Nat.le_of_ble_eq_true rfl) ⟨rfl, rfl⟩ (by show k + 21 + 0 ≤ 601024; omega) (by show n + 972 + 0 ≤ 7293034; omega) (m_thrown hA3 hk3) ?_
  refine g_iload_5 dL_law_2878 ?_
  refine g_icmp_eq (tgt := 2885) dL_law_2880 (by decide)  (fun _ => ?_) (fun h2880 => absurd rfl h2880)
  refine g_iload_5 dL_law_2885 ?_
  refine g_if_neN (tgt := 2902) dL_law_2887 (by decide) (by omega) (fun h2887 => ?_) (fun h2887 => ?_)
  · refine g_goto (tgt := 2961) dL_law_2902 (by decide) ?_
    exact hK _ _ _ _ _ _ _ _ (by show k + 21 + 0 ≤ k + 23; omega) (by show n + 972 + 0 ≤ n + 984; omega) hJ3 ((hf3 sb hsb).trans hX2)
  · have hv0 := hv h2887
    refine g_aload_3 dL_law_2890 ?_
    refine g_iconst (v := nI 0) dL_law_2891 rfl ?_
    refine g_laldN dL_law_2892 hfo (by omega) (by decide) ?_
    refine g_iload_6 dL_law_2893 ?_
    refine g_i2l dL_law_2895 ?_
    refine g_lcmp dL_law_2896 ?_
    refine g_if_eq (tgt := 2902) dL_law_2897 (by decide)  (fun _ => ?_) (fun h2897 => absurd (lcmp_self hv0) h2897)
    refine g_goto (tgt := 2961) dL_law_2902 (by decide) ?_
    exact hK _ _ _ _ _ _ _ _ (by show k + 21 + 0 ≤ k + 23; omega) (by show n + 972 + 0 ≤ n + 984; omega) hJ3 ((hf3 sb hsb).trans hX2)
theorem w_60 {Φ : GR → Hp → Nat → Prop} {M : Hp} {z k n sb a b o lo i Ln : Nat} {xs : Nat → Int32} {l5 l6 l7 l8 : Option Value} (hJ : JS M a b o lo z) (hX : M sb = some (aX Ln xs)) (hsb : sb < a) (hi : i + 3 < Ln) (hLn : Ln ≤ 2048) (hk0 : k + 23 ≤ 601024) (hn0 : n + 984 ≤ 7293034) (hK : ∀ M' z' k' n' l5 l6 l7 l8, k' ≤ k + 23 → n' ≤ n + 984 → JS M' a b o lo z' → M' sb = some (aX Ln xs) → WP mL_law 2961 [some (.ref sb), some (.ref a), some (.ref b), some (.ref o), some (.int (nI (i))), l5, l6, l7, l8] [] M' z' k' n' Φ) : WP mL_law 2905 [some (.ref sb), some (.ref a), some (.ref b), some (.ref o), some (.int (nI (i))), l5, l6, l7, l8] [] M z k n Φ := by
  obtain ⟨f, t, nn, h, sv, len, g, hJ⟩ := hJ
  obtain ⟨kq, v, Ψ, hkq, hPv, hcw, hm⟩ := s_restore (w0 := xs (i + 1)) hJ
  refine g_aload_1 dL_law_2905 ?_
  refine g_aload_0 dL_law_2906 ?_
  refine g_iload_4 dL_law_2907 ?_
  refine g_iconst (v := nI 1) dL_law_2909 rfl ?_
  refine g_iaddN dL_law_2910 ?_
  refine g_ialdXN dL_law_2911 hX (by omega) (by omega) ?_
  refine g_aload_3 dL_law_2912 ?_
  refine g_staH (as := [.ref a, .int (xs (i + 1)), .ref o]) dL_law_2913 (sL_363 rfl) rfl rfl rfl (Nat.le_of_ble_eq_true rfl) (by show k + 2 ≤ 601024; omega) (by show n + 12 ≤ 7293034; omega) hcw (fun r M2 z2 hq => ?_) (fun E M2 z2 hq => by obtain ⟨hq, -⟩ := hq; cases hq)
  obtain ⟨hr, hΨ⟩ := hq
  cases hr
  obtain ⟨⟨⟨I9, A9, hA9⟩, hf1⟩, hmm⟩ := hm _ _ hΨ
  have hX2 := (hf1 sb hsb).trans hX
  refine g_istore_5 rfl dL_law_2916 ?_
  refine g_aload_2 dL_law_2918 ?_
  refine g_aload_0 dL_law_2919 ?_
  refine g_iload_4 dL_law_2920 ?_
  refine g_iconst (v := nI 1) dL_law_2922 rfl ?_
  refine g_iaddN dL_law_2923 ?_
  refine g_ialdXN dL_law_2924 hX2 (by omega) (by omega) ?_
  refine g_v1 dL_law_2925 (vL_365 rfl) rfl hA9.1 (Nat.le_of_ble_eq_true rfl) (by show k + 2 + 0 ≤ 601024; omega) (by show n + 12 + 0 ≤ 7293034; omega) (hmm) (fun r M2 z2 hq => ?_) (fun E M2 z2 hq => by obtain ⟨hq, -⟩ := hq; cases hq)
  obtain ⟨hr, ⟨⟨I3, A3, hA3, hk3⟩, ⟨fo, hfo, hv⟩, hJ3⟩, hf3⟩ := hq
  cases hr
  refine g_istore_6 rfl dL_law_2928 ?_
  refine g_aload_2 dL_law_2930 ?_
  refine g_v0_1 dL_law_2931 (vL_154 rfl) rfl hA3.1 (Nat.le_of_ble_eq_true rfl) ⟨rfl, rfl⟩ (by show k + 2 + 0 ≤ 601024; omega) (by show n + 12 + 0 ≤ 7293034; omega) (m_thrown hA3 hk3) ?_
  refine g_iload_5 dL_law_2934 ?_
  refine g_icmp_eq (tgt := 2941) dL_law_2936 (by decide)  (fun _ => ?_) (fun h2936 => absurd rfl h2936)
  refine g_iload_5 dL_law_2941 ?_
  refine g_if_neN (tgt := 2958) dL_law_2943 (by decide) (by omega) (fun h2943 => ?_) (fun h2943 => ?_)
  · refine g_goto (tgt := 2961) dL_law_2958 (by decide) ?_
    exact hK _ _ _ _ _ _ _ _ (by show k + 2 + 0 ≤ k + 23; omega) (by show n + 12 + 0 ≤ n + 984; omega) hJ3 ((hf3 sb hsb).trans hX2)
  · have hv0 := hv h2943
    refine g_aload_3 dL_law_2946 ?_
    refine g_iconst (v := nI 0) dL_law_2947 rfl ?_
    refine g_laldN dL_law_2948 hfo (by omega) (by decide) ?_
    refine g_iload_6 dL_law_2949 ?_
    refine g_i2l dL_law_2951 ?_
    refine g_lcmp dL_law_2952 ?_
    refine g_if_eq (tgt := 2958) dL_law_2953 (by decide)  (fun _ => ?_) (fun h2953 => absurd (lcmp_self hv0) h2953)
    refine g_goto (tgt := 2961) dL_law_2958 (by decide) ?_
    exact hK _ _ _ _ _ _ _ _ (by show k + 2 + 0 ≤ k + 23; omega) (by show n + 12 + 0 ≤ n + 984; omega) hJ3 ((hf3 sb hsb).trans hX2)
end P75

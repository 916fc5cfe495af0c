section P22
variable {M M0 : Hp} {z a c j : Nat} {f : Row} {x : Int32} {R : Nat → Row} {ln : Nat → Nat} {sg : Nat → Nat → Nat} {Φ : GR → Hp → Nat → Prop}
theorem fdraw0 : f_draw f c x 0 = upd f (432 + 5 * c) (f (432 + 5 * c) - tkv (f (432 + 5 * c)) x) := rfl
theorem fdraw2 : f_draw f c x 2 = upd (upd f (432 + 5 * c) (f (432 + 5 * c) - tkv (f (432 + 5 * c)) x)) (434 + 5 * c) (f (434 + 5 * c) + tkv (f (432 + 5 * c)) x) := by
  unfold f_draw
  simp only [show (2 : Nat) ≠ 0 by decide, if_false]
  rw [show 432 + 5 * c + 2 = 434 + 5 * c by omega, upd_ne (by omega)]
theorem fdraw3 : f_draw f c x 3 = upd (upd f (432 + 5 * c) (f (432 + 5 * c) - tkv (f (432 + 5 * c)) x)) (435 + 5 * c) (f (435 + 5 * c) + tkv (f (432 + 5 * c)) x) := by
  unfold f_draw
  simp only [show (3 : Nat) ≠ 0 by decide, if_false]
  rw [show 432 + 5 * c + 3 = 435 + 5 * c by omega, upd_ne (by omega)]
theorem fdraw4 : f_draw f c x 4 = upd (upd f (432 + 5 * c) (f (432 + 5 * c) - tkv (f (432 + 5 * c)) x)) (436 + 5 * c) (f (436 + 5 * c) + tkv (f (432 + 5 * c)) x) := by
  unfold f_draw
  simp only [show (4 : Nat) ≠ 0 by decide, if_false]
  rw [show 432 + 5 * c + 4 = 436 + 5 * c by omega, upd_ne (by omega)]
theorem Rel.dr4 (h : Rel R ln sg f) (hc : c < 5) : Rel (st2 (st2 R 3 c (R 3 c - tkv (R 3 c) x)) 7 c (R 7 c + tkv (R 3 c) x)) ln sg (f_draw f c x 4) := by
  have e := h.2.2.2.1.1 c hc
  have e2 := h.2.2.2.1.2.2.2.2 c hc
  rw [e, e2, fdraw4]
  exact (h.y0 hc).y4 hc
theorem feel_pull {y : Int32} : f_feel (upd (f_draw f c x 2) 461 y) c (f_drawn f c) = f_pull f c x 2 y := by
  have e1 : f_drawn (upd (f_draw f c x 2) 461 y) c = f_drawn (f_draw f c x 2) c := by
    unfold f_drawn
    by_cases h1 : 433 + 5 * c = 461
    · omega
    · rw [upd_ne h1, upd_ne (by omega)]
  unfold f_feel f_pull f_knot
  rw [e1]
  by_cases hk : f_drawn f c / nI 1000 < f_drawn (f_draw f c x 2) c / nI 1000
  · simp only [hk, if_true, decide_true]
    rw [upd_eq, upd_upd, upd_ne (show (462 : Nat) ≠ 461 by decide), upd_ne (show (462 : Nat) ≠ 461 by decide)]
  · simp only [hk, if_false, decide_false, Bool.false_eq_true, nI_add0]
    exact (upd_self rfl).symm
theorem q_jump_step0 (hF : RugF M a f) (hI : Rng f) (ht : tno f = 0) {n d : Nat} {l3 : Option Value} (hk : ∀ M' l3, RugF M' a (if 0 < tno f then f_pull f (tno f - 1) (nI 8) 2 (f 461 + nI 1) else f) → Out M M' a 20 → WP mX4_jumpOver 2 [some (.ref a), some (.int (nI n)), some (.int (nI (d))), l3] [] M' z 0 0 Φ)  : WP mX4_jumpOver 17 [some (.ref a), some (.int (nI n)), some (.int (nI (d))), l3] [] M z 0 0 Φ := by
  obtain ⟨R, ln, sg, hA, hRel⟩ := hF
  have hao := hA.1
  have hco := hA.2.1.1
  have hyo := hA.2.2.1.1
  obtain ⟨r0, r1, r2, ⟨k3, k4, k5, k6, k7⟩, ⟨s0, s1, s2, s3, s4, s5⟩, m1, m2, m3⟩ := id hRel
  have hnd := hI.ndl
  have hhd := hI.hdl
  rw [hI.nde] at s0
  rw [hI.hde] at s1
  rw [hI.thr0 ht] at s2
  refine g_aload_0 dX4_jumpOver_17 ?_
  refine g_get dX4_jumpOver_18 (fX4_31 rfl) hao rfl ?_
  rw [s2]
  refine g_iconst (v := -1) dX4_jumpOver_21 rfl ?_
  refine g_icmp_eq (tgt := 2) dX4_jumpOver_22 (by decide)  (fun _ => ?_) (fun h22 => absurd rfl h22)
  exact hk _ _ (by rw [if_neg (by omega)]; exact ⟨R, ln, sg, hA, hRel⟩) Out.rf
theorem q_jump_step1 (hF : RugF M a f) (hI : Rng f) (ht : tno f = c + 1) {n d : Nat} {l3 : Option Value} (hk : ∀ M' l3, RugF M' a (if 0 < tno f then f_pull f (tno f - 1) (nI 8) 2 (f 461 + nI 1) else f) → Out M M' a 20 → WP mX4_jumpOver 2 [some (.ref a), some (.int (nI n)), some (.int (nI (d))), l3] [] M' z 0 0 Φ)  : WP mX4_jumpOver 17 [some (.ref a), some (.int (nI n)), some (.int (nI (d))), l3] [] M z 0 0 Φ := by
  obtain ⟨R, ln, sg, hA, hRel⟩ := hF
  have hao := hA.1
  have hco := hA.2.1.1
  have hyo := hA.2.2.1.1
  obtain ⟨r0, r1, r2, ⟨k3, k4, k5, k6, k7⟩, ⟨s0, s1, s2, s3, s4, s5⟩, m1, m2, m3⟩ := id hRel
  have hnd := hI.ndl
  have hhd := hI.hdl
  rw [hI.nde] at s0
  rw [hI.hde] at s1
  have hc5 : c < 5 := by have := hI.tlt; omega
  rw [hI.thr ht] at s2
  refine g_aload_0 dX4_jumpOver_17 ?_
  refine g_get dX4_jumpOver_18 (fX4_31 rfl) hao rfl ?_
  rw [s2]
  refine g_iconst (v := -1) dX4_jumpOver_21 rfl ?_
  refine g_icmp_eq (tgt := 2) dX4_jumpOver_22 (by decide)  (fun h22 => absurd h22 (nI_nm1 (by omega))) (fun _ => ?_)
  refine g_aload_0 dX4_jumpOver_25 ?_
  refine g_get dX4_jumpOver_26 (fX4_21 rfl) hao rfl ?_
  refine g_aload_0 dX4_jumpOver_29 ?_
  refine g_get dX4_jumpOver_30 (fX4_31 rfl) hA.1 rfl ?_
  rw [s2]
  refine g_v1_1 dX4_jumpOver_33 (vX4_96 rfl) rfl (by assumption) (Nat.le_of_ble_eq_true rfl) ⟨rfl, rfl⟩ (Nat.le_of_ble_eq_true rfl) (Nat.le_of_ble_eq_true rfl) (c_drawn hA.2.2.1 hc5) ?_
  rw [k4 _ hc5, k3 _ hc5]
  refine g_istore_3 rfl dX4_jumpOver_36 ?_
  refine g_aload_0 dX4_jumpOver_37 ?_
  refine g_get dX4_jumpOver_38 (fX4_21 rfl) hao rfl ?_
  refine g_aload_0 dX4_jumpOver_41 ?_
  refine g_get dX4_jumpOver_42 (fX4_31 rfl) hA.1 rfl ?_
  rw [s2]
  refine g_bipush (v := nI 8) dX4_jumpOver_45 rfl ?_
  refine g_v2 dX4_jumpOver_47 (vX4_106 rfl) rfl (by assumption) (Nat.le_of_ble_eq_true rfl) (Nat.le_of_ble_eq_true rfl) (Nat.le_of_ble_eq_true rfl) (r_drawFloat hA hc5) (fun r M2 z2 hq => ?_) (fun E M2 z2 hq => by obtain ⟨hq, -⟩ := hq; cases hq)
  obtain ⟨hr, hA1, hO1, rfl⟩ := hq
  cases hr
  have hao1 := hA1.1
  have hco1 := hA1.2.1.1
  have hyo1 := hA1.2.2.1.1
  refine g_aload_0 dX4_jumpOver_50 ?_
  refine g_dup dX4_jumpOver_51 rfl ?_
  refine g_get dX4_jumpOver_52 (fX4_56 rfl) hao1 rfl ?_
  rw [show st2 (st2 R 3 _ _) 5 _ _ 13 4 = R 13 4 from rfl, s4]
  refine g_iconst (v := nI 1) dX4_jumpOver_55 rfl ?_
  refine g_iadd dX4_jumpOver_56 ?_
  refine g_putS (ty := .int) (s := 4) dX4_jumpOver_57 (fX4_56 rfl) (by decide) hA1 (fun M2 hA2 hO2 => ?_)
  have hao2 := hA2.1
  have hco2 := hA2.2.1.1
  have hyo2 := hA2.2.2.1.1
  have g2 := (hRel.dr2 (x := nI 8) hc5).s4 (v := f 461 + nI 1)
  rw [← fdraw2] at g2
  have i2 := (hI.draw (c := c) (m := 8) (what := 2) hc5 (by decide) (by decide)).free (i := 461) (w := f 461 + nI 1) (Or.inl (Or.inl rfl))
  have t2 : tno (upd (f_draw f c (nI 8) 2) 461 (f 461 + nI 1)) = c + 1 := (tno_of (by rw [fdraw2, upd_ne (by omega), upd_ne (by omega), upd_ne (by omega)])).trans ht
  have hfe := feel_pull (f := f) (c := c) (x := nI 8) (y := f 461 + nI 1)
  refine g_aload_0 dX4_jumpOver_60 ?_
  refine g_iload_3 dX4_jumpOver_61 ?_
  refine g_v1 dX4_jumpOver_62 (vX4_118 rfl) rfl (by assumption) (Nat.le_of_ble_eq_true rfl) (Nat.le_of_ble_eq_true rfl) (Nat.le_of_ble_eq_true rfl) (q_feelKnot ⟨_, ln, sg, hA2, g2⟩ i2 t2) (fun r M2 z2 hq => ?_) (fun E M2 z2 hq => by obtain ⟨hq, -⟩ := hq; cases hq)
  obtain ⟨hr, hF4, hO4, rfl⟩ := hq
  cases hr
  rw [show f_drawn f c = f (433 + 5 * c) - f (432 + 5 * c) from rfl] at hfe
  rw [hfe] at hF4
  refine g_goto (tgt := 2) dX4_jumpOver_65 (by decide) ?_
  exact hk _ _ (by rw [if_pos (by omega), show tno f - 1 = c by omega]; exact hF4) ((hO1.tr hO2).tr hO4)
theorem q_jump_step (hF : RugF M a f) (hI : Rng f) {n d : Nat} {l3 : Option Value} (hk : ∀ M' l3, RugF M' a (if 0 < tno f then f_pull f (tno f - 1) (nI 8) 2 (f 461 + nI 1) else f) → Out M M' a 20 → WP mX4_jumpOver 2 [some (.ref a), some (.int (nI n)), some (.int (nI (d))), l3] [] M' z 0 0 Φ) : WP mX4_jumpOver 17 [some (.ref a), some (.int (nI n)), some (.int (nI (d))), l3] [] M z 0 0 Φ := by
  cases ht : tno f with
  | zero => exact q_jump_step0 hF hI ht hk
  | succ c => exact q_jump_step1 hF hI ht hk
theorem q_jump_loop {n : Nat} (hn : n < 2 ^ 31) : ∀ k d {f : Row} {M : Hp} {l3 : Option Value}, RugF M a f → Rng f → d + k = n → Out M0 M a 20 → WP mX4_jumpOver 2 [some (.ref a), some (.int (nI n)), some (.int (nI (d))), l3] [] M z 0 0 (Mut (some (.int (nI (d + (f_jump k f).2)))) M0 a (f_jump k f).1 z) := by
  intro k
  induction k with
  | zero =>
    intro d f M l3 hF hI hd hO
    refine g_iload_2 dX4_jumpOver_2 ?_
    refine g_iload_1 dX4_jumpOver_3 ?_
    refine g_icmp_geN (tgt := 68) dX4_jumpOver_4 (by decide) (by omega) (by omega) (fun _ => ?_) (fun h4 => absurd h4 (by omega))
    refine g_iload_2 dX4_jumpOver_68 ?_
    exact g_ireturn rfl rfl dX4_jumpOver_69 (Nat.le_of_ble_eq_true rfl) (Nat.le_of_ble_eq_true rfl) ⟨rfl, hF, hO, rfl⟩
  | succ k ih =>
    intro d f M l3 hF hI hd hO
    obtain ⟨_, hao⟩ := hF.ao
    refine g_iload_2 dX4_jumpOver_2 ?_
    refine g_iload_1 dX4_jumpOver_3 ?_
    refine g_icmp_geN (tgt := 68) dX4_jumpOver_4 (by decide) (by omega) (by omega) (fun h4 => absurd h4 (by omega)) (fun _ => ?_)
    refine g_aload_0 dX4_jumpOver_7 ?_
    refine g_v0 dX4_jumpOver_8 (vX4_92 rfl) rfl (by assumption) (Nat.le_of_ble_eq_true rfl) (Nat.le_of_ble_eq_true rfl) (Nat.le_of_ble_eq_true rfl) (q_goOn hF hI) (fun r M2 z2 hq => ?_) (fun E M2 z2 hq => by obtain ⟨hq, -⟩ := hq; cases hq)
    obtain ⟨hr, hF2, hO2, rfl⟩ := hq
    cases hr
    obtain ⟨_, hao2⟩ := hF2.ao
    refine g_if_eqB (tgt := 68) dX4_jumpOver_11 (by decide)  (fun h11 => ?_) (fun h11 => ?_)
    · have hn : f_to f = none := by simpa using h11
      rw [goOn_to _ hn] at hF2
      have es : f_jump (k + 1) f = (f, 0) := by
        simp only [f_jump]; rw [if_neg (by rw [h11]; decide)]
      refine g_iload_2 dX4_jumpOver_68 ?_
      exact g_ireturn rfl rfl dX4_jumpOver_69 (Nat.le_of_ble_eq_true rfl) (Nat.le_of_ble_eq_true rfl) ⟨by rw [es]; rfl, by rw [es]; exact hF2, hO.tr hO2, rfl⟩
    · refine g_iincN_2 (q := 1) rfl dX4_jumpOver_14 rfl ?_
      have es : f_jump (k + 1) f = ((f_jump k (f_jump1 f)).1, (f_jump k (f_jump1 f)).2 + 1) := by
        simp only [f_jump]; rw [if_pos h11]
      rw [es]
      refine q_jump_step hF2 hI.goOn (fun M' l4 hF3 hO3 => ?_)
      have e := ih (d + 1) (f := f_jump1 f) (l3 := l4) hF3 hI.jump1 (by omega) ((hO.tr hO2).tr hO3)
      rw [show d + 1 + (f_jump k (f_jump1 f)).2 = d + ((f_jump k (f_jump1 f)).2 + 1) by omega] at e
      exact e
theorem q_jumpOver {n : Nat} (hF : RugF M a f) (hI : Rng f) (hn : n < 2 ^ 31) : Runs mX4_jumpOver [.ref a, .int (nI n)] M z (Mut (some (.int (nI (f_jump n f).2))) M a (f_jump n f).1 z) := by
  refine runs_of plX4 rfl (Nat.le_of_ble_eq_true rfl) ?_
  show WP mX4_jumpOver 0 [some (.ref a), some (.int (nI n)), none, none] [] M z 0 0 _
  refine g_iconst (v := nI 0) dX4_jumpOver_0 rfl ?_
  refine g_istore_2 rfl dX4_jumpOver_1 ?_
  have e := q_jump_loop (M0 := M) (z := z) (a := a) (l3 := none) hn n 0 hF hI (by omega) Out.rf
  rw [Nat.zero_add] at e
  exact e
def f_cut0 (f : Row) : Row := if 0 < tno f then f_cut f else f
theorem q_tryCut0 (hF : RugF M a f) (hI : Rng f) (ht : tno f = 0) : Runs mX4_tryCut [.ref a] M z (Mut (some (.int (bI (decide (0 < tno f))))) M a (f_cut0 f) z) := by
  obtain ⟨R, ln, sg, hA, hRel⟩ := hF
  have hao := hA.1
  have hco := hA.2.1.1
  have hyo := hA.2.2.1.1
  obtain ⟨r0, r1, r2, ⟨k3, k4, k5, k6, k7⟩, ⟨s0, s1, s2, s3, s4, s5⟩, m1, m2, m3⟩ := id hRel
  have hnd := hI.ndl
  have hhd := hI.hdl
  rw [hI.nde] at s0
  rw [hI.hde] at s1
  rw [hI.thr0 ht] at s2
  refine runs_of plX4 rfl (Nat.le_of_ble_eq_true rfl) ?_
  show WP mX4_tryCut 0 [some (.ref a)] [] M z 0 0 _
  refine g_aload_0 dX4_tryCut_0 ?_
  refine g_get dX4_tryCut_1 (fX4_31 rfl) hA.1 rfl ?_
  rw [s2]
  refine g_iconst (v := -1) dX4_tryCut_4 rfl ?_
  refine g_icmp_ne (tgt := 10) dX4_tryCut_5 (by decide)  (fun h5 => absurd rfl h5) (fun _ => ?_)
  refine g_iconst (v := nI 0) dX4_tryCut_8 rfl ?_
  exact g_ireturn rfl rfl dX4_tryCut_9 (Nat.le_of_ble_eq_true rfl) (Nat.le_of_ble_eq_true rfl) ⟨by rw [ht]; rfl, ⟨R, ln, sg, hA, by unfold f_cut0; rw [if_neg (by omega)]; exact hRel⟩, Out.rf, rfl⟩
theorem q_tryCut1 (hF : RugF M a f) (hI : Rng f) (ht : tno f = c + 1) : Runs mX4_tryCut [.ref a] M z (Mut (some (.int (bI (decide (0 < tno f))))) M a (f_cut0 f) z) := by
  obtain ⟨R, ln, sg, hA, hRel⟩ := hF
  have hao := hA.1
  have hco := hA.2.1.1
  have hyo := hA.2.2.1.1
  obtain ⟨r0, r1, r2, ⟨k3, k4, k5, k6, k7⟩, ⟨s0, s1, s2, s3, s4, s5⟩, m1, m2, m3⟩ := id hRel
  have hnd := hI.ndl
  have hhd := hI.hdl
  rw [hI.nde] at s0
  rw [hI.hde] at s1
  have hc5 : c < 5 := by have := hI.tlt; omega
  rw [hI.thr ht] at s2
  refine runs_of plX4 rfl (Nat.le_of_ble_eq_true rfl) ?_
  show WP mX4_tryCut 0 [some (.ref a)] [] M z 0 0 _
  refine g_aload_0 dX4_tryCut_0 ?_
  refine g_get dX4_tryCut_1 (fX4_31 rfl) hA.1 rfl ?_
  rw [s2]
  refine g_iconst (v := -1) dX4_tryCut_4 rfl ?_
  refine g_icmp_ne (tgt := 10) dX4_tryCut_5 (by decide)  (fun _ => ?_) (fun h5 => absurd h5 (nI_nm1 (by omega)))
  refine g_aload_0 dX4_tryCut_10 ?_
  refine g_get dX4_tryCut_11 (fX4_21 rfl) hao rfl ?_
  refine g_aload_0 dX4_tryCut_14 ?_
  refine g_get dX4_tryCut_15 (fX4_31 rfl) hA.1 rfl ?_
  rw [s2]
  refine g_v1 dX4_tryCut_18 (vX4_135 rfl) rfl (by assumption) (Nat.le_of_ble_eq_true rfl) (Nat.le_of_ble_eq_true rfl) (Nat.le_of_ble_eq_true rfl) (r_drawEnd hA hc5) (fun r M2 z2 hq => ?_) (fun E M2 z2 hq => by obtain ⟨hq, -⟩ := hq; cases hq)
  obtain ⟨hr, hA1, hO1, rfl⟩ := hq
  cases hr
  have hao1 := hA1.1
  have hco1 := hA1.2.1.1
  have hyo1 := hA1.2.2.1.1
  refine g_aload_0 dX4_tryCut_21 ?_
  refine g_iconst (v := -1) dX4_tryCut_22 rfl ?_
  refine g_putS (ty := .int) (s := 2) dX4_tryCut_23 (fX4_31 rfl) (by decide) hA1 (fun M2 hA2 hO2 => ?_)
  have hao2 := hA2.1
  have hco2 := hA2.2.1.1
  have hyo2 := hA2.2.2.1.1
  refine g_aload_0 dX4_tryCut_26 ?_
  refine g_iconst (v := nI 0) dX4_tryCut_27 rfl ?_
  refine g_putS (ty := .int) (s := 4) dX4_tryCut_28 (fX4_56 rfl) (by decide) hA2 (fun M3 hA3 hO3 => ?_)
  have hao3 := hA3.1
  have hco3 := hA3.2.1.1
  have hyo3 := hA3.2.2.1.1
  refine g_iconst (v := nI 1) dX4_tryCut_31 rfl ?_
  exact g_ireturn rfl rfl dX4_tryCut_32 (Nat.le_of_ble_eq_true rfl) (Nat.le_of_ble_eq_true rfl) ⟨by rw [ht]; rfl, ⟨_, ln, sg, hA3, by unfold f_cut0 f_cut; rw [if_pos (by omega), show tno f - 1 = c by omega, fdraw3]; exact ((hRel.dr3 hc5).s2 (v := nI 0) (by decide)).s4⟩, (hO1.tr hO2).tr hO3, rfl⟩
theorem q_tryCut (hF : RugF M a f) (hI : Rng f) : Runs mX4_tryCut [.ref a] M z (Mut (some (.int (bI (decide (0 < tno f))))) M a (f_cut0 f) z) := by
  cases ht : tno f with
  | zero => have e := q_tryCut0 (z := z) hF hI ht; rw [ht] at e; exact e
  | succ c => have e := q_tryCut1 (z := z) hF hI ht; rw [ht] at e; exact e
theorem Rng.cut0 (hI : Rng f) : Rng (f_cut0 f) := by
  unfold f_cut0
  split
  · next h => exact hI.cut h
  · exact hI
theorem q_thread2 (hF : RugF M a f) (hI : Rng f) (hc5 : c < 5) (hO : Out M0 M a 20)  : WP mX4_tryThread 18 [some (.ref a), some (.int (nI c))] [] M z 0 0 (Mut (some (.int (bI true))) M0 a (upd (upd (f_draw f c (nI 20) 3) 459 (nI (c + 1))) 461 (nI 0)) z) := by
  obtain ⟨R, ln, sg, hA, hRel⟩ := hF
  have hao := hA.1
  have hco := hA.2.1.1
  have hyo := hA.2.2.1.1
  obtain ⟨r0, r1, r2, ⟨k3, k4, k5, k6, k7⟩, ⟨s0, s1, s2, s3, s4, s5⟩, m1, m2, m3⟩ := id hRel
  have hnd := hI.ndl
  have hhd := hI.hdl
  rw [hI.nde] at s0
  rw [hI.hde] at s1
  refine g_aload_0 dX4_tryThread_18 ?_
  refine g_get dX4_tryThread_19 (fX4_21 rfl) hao rfl ?_
  refine g_iload_1 dX4_tryThread_22 ?_
  refine g_v1 dX4_tryThread_23 (vX4_135 rfl) rfl (by assumption) (Nat.le_of_ble_eq_true rfl) (Nat.le_of_ble_eq_true rfl) (Nat.le_of_ble_eq_true rfl) (r_drawEnd hA hc5) (fun r M2 z2 hq => ?_) (fun E M2 z2 hq => by obtain ⟨hq, -⟩ := hq; cases hq)
  obtain ⟨hr, hA1, hO1, rfl⟩ := hq
  cases hr
  have hao1 := hA1.1
  have hco1 := hA1.2.1.1
  have hyo1 := hA1.2.2.1.1
  refine g_aload_0 dX4_tryThread_26 ?_
  refine g_iload_1 dX4_tryThread_27 ?_
  refine g_putS (ty := .int) (s := 2) dX4_tryThread_28 (fX4_31 rfl) (by decide) hA1 (fun M2 hA2 hO2 => ?_)
  have hao2 := hA2.1
  have hco2 := hA2.2.1.1
  have hyo2 := hA2.2.2.1.1
  refine g_aload_0 dX4_tryThread_31 ?_
  refine g_iconst (v := nI 0) dX4_tryThread_32 rfl ?_
  refine g_putS (ty := .int) (s := 4) dX4_tryThread_33 (fX4_56 rfl) (by decide) hA2 (fun M3 hA3 hO3 => ?_)
  have hao3 := hA3.1
  have hco3 := hA3.2.1.1
  have hyo3 := hA3.2.2.1.1
  refine g_iconst (v := nI 1) dX4_tryThread_36 rfl ?_
  exact g_ireturn rfl rfl dX4_tryThread_37 (Nat.le_of_ble_eq_true rfl) (Nat.le_of_ble_eq_true rfl) ⟨rfl, ⟨_, ln, sg, hA3, by rw [fdraw3]; exact ((hRel.dr3 hc5).s2 (v := nI (c + 1)) (nI_pm c).symm).s4⟩, ((hO.tr hO1).tr hO2).tr hO3, rfl⟩
theorem q_tryThread (hF : RugF M a f) (hI : Rng f) (hc5 : c < 5) : Runs mX4_tryThread [.ref a, .int (nI c)] M z (Mut (some (.int (bI (decide (nI 20 ≤ f (432 + 5 * c)))))) M a (if nI 20 ≤ f (432 + 5 * c) then f_thread f c else f) z) := by
  obtain ⟨R, ln, sg, hA, hRel⟩ := hF
  have hao := hA.1
  have hco := hA.2.1.1
  have hyo := hA.2.2.1.1
  obtain ⟨r0, r1, r2, ⟨k3, k4, k5, k6, k7⟩, ⟨s0, s1, s2, s3, s4, s5⟩, m1, m2, m3⟩ := id hRel
  have hnd := hI.ndl
  have hhd := hI.hdl
  rw [hI.nde] at s0
  rw [hI.hde] at s1
  refine runs_of plX4 rfl (Nat.le_of_ble_eq_true rfl) ?_
  show WP mX4_tryThread 0 [some (.ref a), some (.int (nI c))] [] M z 0 0 _
  refine g_aload_0 dX4_tryThread_0 ?_
  refine g_get dX4_tryThread_1 (fX4_21 rfl) hao rfl ?_
  refine g_iload_1 dX4_tryThread_4 ?_
  refine g_v1_1 dX4_tryThread_5 (vX4_129 rfl) rfl (by assumption) (Nat.le_of_ble_eq_true rfl) ⟨rfl, rfl⟩ (Nat.le_of_ble_eq_true rfl) (Nat.le_of_ble_eq_true rfl) (c_hasEnd hA.2.2.1 hc5) ?_
  rw [k3 _ hc5]
  refine g_if_neB (tgt := 13) dX4_tryThread_8 (by decide)  (fun h8 => ?_) (fun h8 => ?_)
  · refine g_aload_0 dX4_tryThread_13 ?_
    refine g_v0 dX4_tryThread_14 (vX4_132 rfl) rfl (by assumption) (Nat.le_of_ble_eq_true rfl) (Nat.le_of_ble_eq_true rfl) (Nat.le_of_ble_eq_true rfl) (q_tryCut ⟨R, ln, sg, hA, hRel⟩ hI) (fun r M2 z2 hq => ?_) (fun E M2 z2 hq => by obtain ⟨hq, -⟩ := hq; cases hq)
    obtain ⟨hr, hF1, hO1, rfl⟩ := hq
    cases hr
    refine g_pop dX4_tryThread_17 rfl ?_
    rw [if_pos (by simpa using h8), show decide (nI 20 ≤ f (432 + 5 * c)) = true from h8]
    exact q_thread2 hF1 hI.cut0 hc5 hO1
  · refine g_iconst (v := nI 0) dX4_tryThread_11 rfl ?_
    exact g_ireturn rfl rfl dX4_tryThread_12 (Nat.le_of_ble_eq_true rfl) (Nat.le_of_ble_eq_true rfl) ⟨by rw [h8]; rfl, by rw [if_neg (by simpa using h8)]; exact ⟨R, ln, sg, hA, hRel⟩, Out.rf, rfl⟩
theorem q_tryEase0 (hF : RugF M a f) (hI : Rng f) (ht : tno f = 0) : Runs mX4_tryEase [.ref a] M z (Mut (some (.int (bI (decide (0 < tno f))))) M a (if 0 < tno f then f_ease f else f) z) := by
  obtain ⟨R, ln, sg, hA, hRel⟩ := hF
  have hao := hA.1
  have hco := hA.2.1.1
  have hyo := hA.2.2.1.1
  obtain ⟨r0, r1, r2, ⟨k3, k4, k5, k6, k7⟩, ⟨s0, s1, s2, s3, s4, s5⟩, m1, m2, m3⟩ := id hRel
  have hnd := hI.ndl
  have hhd := hI.hdl
  rw [hI.nde] at s0
  rw [hI.hde] at s1
  rw [hI.thr0 ht] at s2
  refine runs_of plX4 rfl (Nat.le_of_ble_eq_true rfl) ?_
  show WP mX4_tryEase 0 [some (.ref a)] [] M z 0 0 _
  refine g_aload_0 dX4_tryEase_0 ?_
  refine g_get dX4_tryEase_1 (fX4_31 rfl) hA.1 rfl ?_
  rw [s2]
  refine g_iconst (v := -1) dX4_tryEase_4 rfl ?_
  refine g_icmp_ne (tgt := 10) dX4_tryEase_5 (by decide)  (fun h5 => absurd rfl h5) (fun _ => ?_)
  refine g_iconst (v := nI 0) dX4_tryEase_8 rfl ?_
  exact g_ireturn rfl rfl dX4_tryEase_9 (Nat.le_of_ble_eq_true rfl) (Nat.le_of_ble_eq_true rfl) ⟨by rw [ht]; rfl, ⟨R, ln, sg, hA, by rw [if_neg (by omega)]; exact hRel⟩, Out.rf, rfl⟩
theorem q_tryEase1 (hF : RugF M a f) (hI : Rng f) (ht : tno f = c + 1) : Runs mX4_tryEase [.ref a] M z (Mut (some (.int (bI (decide (0 < tno f))))) M a (if 0 < tno f then f_ease f else f) z) := by
  obtain ⟨R, ln, sg, hA, hRel⟩ := hF
  have hao := hA.1
  have hco := hA.2.1.1
  have hyo := hA.2.2.1.1
  obtain ⟨r0, r1, r2, ⟨k3, k4, k5, k6, k7⟩, ⟨s0, s1, s2, s3, s4, s5⟩, m1, m2, m3⟩ := id hRel
  have hnd := hI.ndl
  have hhd := hI.hdl
  rw [hI.nde] at s0
  rw [hI.hde] at s1
  have hc5 : c < 5 := by have := hI.tlt; omega
  rw [hI.thr ht] at s2
  refine runs_of plX4 rfl (Nat.le_of_ble_eq_true rfl) ?_
  show WP mX4_tryEase 0 [some (.ref a)] [] M z 0 0 _
  refine g_aload_0 dX4_tryEase_0 ?_
  refine g_get dX4_tryEase_1 (fX4_31 rfl) hA.1 rfl ?_
  rw [s2]
  refine g_iconst (v := -1) dX4_tryEase_4 rfl ?_
  refine g_icmp_ne (tgt := 10) dX4_tryEase_5 (by decide)  (fun _ => ?_) (fun h5 => absurd h5 (nI_nm1 (by omega)))
  refine g_aload_0 dX4_tryEase_10 ?_
  refine g_get dX4_tryEase_11 (fX4_21 rfl) hao rfl ?_
  refine g_aload_0 dX4_tryEase_14 ?_
  refine g_get dX4_tryEase_15 (fX4_31 rfl) hA.1 rfl ?_
  rw [s2]
  refine g_aload_0 dX4_tryEase_18 ?_
  refine g_get dX4_tryEase_19 (fX4_21 rfl) hao rfl ?_
  refine g_aload_0 dX4_tryEase_22 ?_
  refine g_get dX4_tryEase_23 (fX4_31 rfl) hA.1 rfl ?_
  rw [s2]
  refine g_bipush (v := nI 10) dX4_tryEase_26 rfl ?_
  refine g_v2 dX4_tryEase_28 (vX4_114 rfl) rfl (by assumption) (Nat.le_of_ble_eq_true rfl) (Nat.le_of_ble_eq_true rfl) (Nat.le_of_ble_eq_true rfl) (r_draw hA hc5) (fun r M2 z2 hq => ?_) (fun E M2 z2 hq => by obtain ⟨hq, -⟩ := hq; cases hq)
  obtain ⟨hr, hA1, hO1, rfl⟩ := hq
  cases hr
  have hao1 := hA1.1
  have hco1 := hA1.2.1.1
  have hyo1 := hA1.2.2.1.1
  refine g_v2 dX4_tryEase_31 (vX4_138 rfl) rfl (by assumption) (Nat.le_of_ble_eq_true rfl) (Nat.le_of_ble_eq_true rfl) (Nat.le_of_ble_eq_true rfl) (r_addWaste hA1 hc5) (fun r M2 z2 hq => ?_) (fun E M2 z2 hq => by obtain ⟨hq, -⟩ := hq; cases hq)
  obtain ⟨hr, hA2, hO2, rfl⟩ := hq
  cases hr
  have hao2 := hA2.1
  have hco2 := hA2.2.1.1
  have hyo2 := hA2.2.2.1.1
  refine g_aload_0 dX4_tryEase_34 ?_
  refine g_iconst (v := nI 0) dX4_tryEase_35 rfl ?_
  refine g_putS (ty := .int) (s := 4) dX4_tryEase_36 (fX4_56 rfl) (by decide) hA2 (fun M3 hA3 hO3 => ?_)
  have hao3 := hA3.1
  have hco3 := hA3.2.1.1
  have hyo3 := hA3.2.2.1.1
  refine g_iconst (v := nI 1) dX4_tryEase_39 rfl ?_
  exact g_ireturn rfl rfl dX4_tryEase_40 (Nat.le_of_ble_eq_true rfl) (Nat.le_of_ble_eq_true rfl) ⟨by rw [ht]; rfl, ⟨_, ln, sg, hA3, by unfold f_ease; rw [if_pos (by omega), show tno f - 1 = c by omega]; exact (hRel.dr4 hc5).s4⟩, (hO1.tr hO2).tr hO3, rfl⟩
theorem q_tryEase (hF : RugF M a f) (hI : Rng f) : Runs mX4_tryEase [.ref a] M z (Mut (some (.int (bI (decide (0 < tno f))))) M a (if 0 < tno f then f_ease f else f) z) := by
  cases ht : tno f with
  | zero => have e := q_tryEase0 (z := z) hF hI ht; rw [ht] at e; exact e
  | succ c => have e := q_tryEase1 (z := z) hF hI ht; rw [ht] at e; exact e
theorem q_mendAt (hF : RugF M a f) (hI : Rng f) (hj : j < 144) (hm : missF f j = true) : Runs mX4_mendAt [.ref a, .int (nI j)] M z (Mut none M a (f_mend f j) z) := by
  obtain ⟨R, ln, sg, hA, hRel⟩ := hF
  have hao := hA.1
  have hco := hA.2.1.1
  have hyo := hA.2.2.1.1
  obtain ⟨r0, r1, r2, ⟨k3, k4, k5, k6, k7⟩, ⟨s0, s1, s2, s3, s4, s5⟩, m1, m2, m3⟩ := id hRel
  have hnd := hI.ndl
  have hhd := hI.hdl
  rw [hI.nde] at s0
  rw [hI.hde] at s1
  obtain ⟨p1, p2, p3⟩ := hI.plan hj hm
  have p4 : gv f j - 1 < 5 := by omega
  have pe := (hI.1 j hj).1
  have pd := dl_loop p4
  rw [show gv f j - 1 + 1 = gv f j by omega, ← pe] at pd
  refine runs_of plX4 rfl (Nat.le_of_ble_eq_true rfl) ?_
  show WP mX4_mendAt 0 [some (.ref a), some (.int (nI j)), none] [] M z 0 0 _
  refine g_aload_0 dX4_mendAt_0 ?_
  refine g_get dX4_mendAt_1 (fX4_12 rfl) hao rfl ?_
  refine g_iload_1 dX4_mendAt_4 ?_
  refine g_v1_1 dX4_mendAt_5 (vX4_82 rfl) rfl (by assumption) (Nat.le_of_ble_eq_true rfl) ⟨rfl, rfl⟩ (Nat.le_of_ble_eq_true rfl) (Nat.le_of_ble_eq_true rfl) (c_planAt hA.2.1 hj) ?_
  rw [r0 _ hj, p3]
  refine g_istore_2 rfl dX4_mendAt_8 ?_
  refine g_aload_0 dX4_mendAt_9 ?_
  refine g_get dX4_mendAt_10 (fX4_21 rfl) hao rfl ?_
  refine g_iload_2 dX4_mendAt_13 ?_
  refine g_aload_0 dX4_mendAt_14 ?_
  refine g_get dX4_mendAt_15 (fX4_35 rfl) hA.1 rfl ?_
  rw [s3]
  refine g_s1_1 dX4_mendAt_18 (sX4_75 rfl) rfl (Nat.le_of_ble_eq_true rfl) ⟨rfl, rfl⟩ (Nat.le_of_ble_eq_true rfl) (Nat.le_of_ble_eq_true rfl) (c_yarnForLoop) ?_
  refine g_v2 dX4_mendAt_21 (vX4_114 rfl) rfl (by assumption) (Nat.le_of_ble_eq_true rfl) (Nat.le_of_ble_eq_true rfl) (Nat.le_of_ble_eq_true rfl) (r_draw hA p4) (fun r M2 z2 hq => ?_) (fun E M2 z2 hq => by obtain ⟨hq, -⟩ := hq; cases hq)
  obtain ⟨hr, hA1, hO1, rfl⟩ := hq
  cases hr
  have hao1 := hA1.1
  have hco1 := hA1.2.1.1
  have hyo1 := hA1.2.2.1.1
  refine g_pop dX4_mendAt_24 rfl ?_
  refine g_aload_0 dX4_mendAt_25 ?_
  refine g_get dX4_mendAt_26 (fX4_12 rfl) hao1 rfl ?_
  refine g_iload_1 dX4_mendAt_29 ?_
  refine g_iload_2 dX4_mendAt_30 ?_
  refine g_aload_0 dX4_mendAt_31 ?_
  refine g_get dX4_mendAt_32 (fX4_35 rfl) hao1 rfl ?_
  rw [show st2 R 3 _ _ 13 3 = R 13 3 from rfl, s3]
  refine g_v3 dX4_mendAt_35 (vX4_110 rfl) rfl (by assumption) (Nat.le_of_ble_eq_true rfl) (Nat.le_of_ble_eq_true rfl) (Nat.le_of_ble_eq_true rfl) (r_putLoop hA1 hj) (fun r M2 z2 hq => ?_) (fun E M2 z2 hq => by obtain ⟨hq, -⟩ := hq; cases hq)
  obtain ⟨hr, hA2, hO2, rfl⟩ := hq
  cases hr
  have hao2 := hA2.1
  have hco2 := hA2.2.1.1
  have hyo2 := hA2.2.2.1.1
  exact g_return rfl dX4_mendAt_38 (Nat.le_of_ble_eq_true rfl) (Nat.le_of_ble_eq_true rfl) ⟨rfl, ⟨_, ln, sg, hA2, (hRel.dr0 p4).loop hj pd.2 pd.1.symm⟩, hO1.tr hO2, rfl⟩
theorem hasL_dl (hI : Rng f) (hj : j < 144) (hl : hasL (f (144 + j)) = true) : gv f (144 + j) - 1 < 5 ∧ dl (f (144 + j)) = nI (gv f (144 + j) - 1) ∧ lpv (dl (f (144 + j))) = nI (gv f (144 + j) - 1) := by
  have h := hasL_gv (hI.2.1 j hj) hl
  refine ⟨hI.lp5 hj hl, ?_, lp_val (hI.2.1 j hj) hl⟩
  conv => lhs; rw [(hI.2.1 j hj).1]
  rw [dl_num _ (by omega), if_neg (by omega), if_neg (by omega)]
theorem q_tryUnpick (hF : RugF M a f) (hI : Rng f) (hj : j < 144) : Runs mX4_tryUnpick [.ref a, .int (nI j)] M z (Mut none M a (if hasL (f (144 + j)) = true then f_unpick f j else f) z) := by
  obtain ⟨R, ln, sg, hA, hRel⟩ := hF
  have hao := hA.1
  have hco := hA.2.1.1
  have hyo := hA.2.2.1.1
  obtain ⟨r0, r1, r2, ⟨k3, k4, k5, k6, k7⟩, ⟨s0, s1, s2, s3, s4, s5⟩, m1, m2, m3⟩ := id hRel
  have hnd := hI.ndl
  have hhd := hI.hdl
  rw [hI.nde] at s0
  rw [hI.hde] at s1
  have hb := hI.2.1 j hj
  refine runs_of plX4 rfl (Nat.le_of_ble_eq_true rfl) ?_
  show WP mX4_tryUnpick 0 [some (.ref a), some (.int (nI j)), none] [] M z 0 0 _
  refine g_aload_0 dX4_tryUnpick_0 ?_
  refine g_get dX4_tryUnpick_1 (fX4_12 rfl) hao rfl ?_
  refine g_iload_1 dX4_tryUnpick_4 ?_
  refine g_v1_1 dX4_tryUnpick_5 (vX4_68 rfl) rfl (by assumption) (Nat.le_of_ble_eq_true rfl) ⟨rfl, rfl⟩ (Nat.le_of_ble_eq_true rfl) (Nat.le_of_ble_eq_true rfl) (c_loopAt hA.2.1 hj) ?_
  rw [r1 _ hj]
  refine g_istore_2 rfl dX4_tryUnpick_8 ?_
  refine g_iload_2 dX4_tryUnpick_9 ?_
  refine g_iconst (v := -1) dX4_tryUnpick_10 rfl ?_
  refine g_icmp_eq (tgt := 41) dX4_tryUnpick_11 (by decide)  (fun h11 => ?_) (fun h11 => ?_)
  · have hl := (lp_iff hb).mp h11
    exact g_return rfl dX4_tryUnpick_41 (Nat.le_of_ble_eq_true rfl) (Nat.le_of_ble_eq_true rfl) (by first | exact ⟨rfl, ⟨_, ln, sg, hA2, by rw [if_pos hl]; exact (hRel.ws p4).none (w := -1) (v := nI 0) hj (by decide) (by decide)⟩, hO1.tr hO2, rfl⟩ | exact ⟨rfl, ⟨R, ln, sg, hA, by rw [if_neg (by rw [hl]; decide)]; exact hRel⟩, Out.rf, rfl⟩)
  · have hl : hasL (f (144 + j)) = true := by
      cases q : hasL (f (144 + j)) with
      | true => rfl
      | false => exact absurd ((lp_iff hb).mpr q) h11
    obtain ⟨p4, p5, p6⟩ := hasL_dl hI hj hl
    rw [p6]
    refine g_aload_0 dX4_tryUnpick_14 ?_
    refine g_get dX4_tryUnpick_15 (fX4_21 rfl) hao rfl ?_
    refine g_iload_2 dX4_tryUnpick_18 ?_
    refine g_aload_0 dX4_tryUnpick_19 ?_
    refine g_get dX4_tryUnpick_20 (fX4_12 rfl) hao rfl ?_
    refine g_iload_1 dX4_tryUnpick_23 ?_
    refine g_v1_1 dX4_tryUnpick_24 (vX4_141 rfl) rfl (by assumption) (Nat.le_of_ble_eq_true rfl) ⟨rfl, rfl⟩ (Nat.le_of_ble_eq_true rfl) (Nat.le_of_ble_eq_true rfl) (c_heightAt hA.2.1 hj) ?_
    rw [r2 _ hj, if_pos hl]
    refine g_s1_1 dX4_tryUnpick_27 (sX4_75 rfl) rfl (Nat.le_of_ble_eq_true rfl) ⟨rfl, rfl⟩ (Nat.le_of_ble_eq_true rfl) (Nat.le_of_ble_eq_true rfl) (c_yarnForLoop) ?_
    refine g_v2 dX4_tryUnpick_30 (vX4_138 rfl) rfl (by assumption) (Nat.le_of_ble_eq_true rfl) (Nat.le_of_ble_eq_true rfl) (Nat.le_of_ble_eq_true rfl) (r_addWaste hA p4) (fun r M2 z2 hq => ?_) (fun E M2 z2 hq => by obtain ⟨hq, -⟩ := hq; cases hq)
    obtain ⟨hr, hA1, hO1, rfl⟩ := hq
    cases hr
    have hao1 := hA1.1
    have hco1 := hA1.2.1.1
    have hyo1 := hA1.2.2.1.1
    refine g_aload_0 dX4_tryUnpick_33 ?_
    refine g_get dX4_tryUnpick_34 (fX4_12 rfl) hao1 rfl ?_
    refine g_iload_1 dX4_tryUnpick_37 ?_
    refine g_v1 dX4_tryUnpick_38 (vX4_144 rfl) rfl (by assumption) (Nat.le_of_ble_eq_true rfl) (Nat.le_of_ble_eq_true rfl) (Nat.le_of_ble_eq_true rfl) (r_clearCell hA1 hj) (fun r M2 z2 hq => ?_) (fun E M2 z2 hq => by obtain ⟨hq, -⟩ := hq; cases hq)
    obtain ⟨hr, hA2, hO2, rfl⟩ := hq
    cases hr
    have hao2 := hA2.1
    have hco2 := hA2.2.1.1
    have hyo2 := hA2.2.2.1.1
    exact g_return rfl dX4_tryUnpick_41 (Nat.le_of_ble_eq_true rfl) (Nat.le_of_ble_eq_true rfl) (by first | exact ⟨rfl, ⟨_, ln, sg, hA2, by rw [if_pos hl]; exact (hRel.ws p4).none (w := -1) (v := nI 0) hj (by decide) (by decide)⟩, hO1.tr hO2, rfl⟩ | exact ⟨rfl, ⟨R, ln, sg, hA, by rw [if_neg (by rw [hl]; decide)]; exact hRel⟩, Out.rf, rfl⟩)
theorem sub_pos {a b : Nat} (ha : a < 2 ^ 31) (hb : b < 2 ^ 31) : nI a - nI b ≤ 0 ↔ a ≤ b := by
  rw [Int32.le_iff_toInt_le]
  have e : (nI a - nI b).toInt = (a : Int) - (b : Int) := by
    rw [Int32.toInt_sub, nI_toInt ha, nI_toInt hb]
    rw [Int.bmod_eq_of_le] <;> omega
  rw [e, Int32.toInt_zero]
  omega
theorem q_shear_step {h s : Nat} {l4 l5 : Option Value} (hF : RugF M a f) (hI : Rng f) (hj : j < 144) (hh : h < 10) (h0 : 0 < h) (hs : s < 1000) (hk : ∀ (M' : Hp) (l4 l5 : Option Value), RugF M' a (if f_shearC f j (nI h) = true then f_shear1 f j (nI h) else f) → Out M M' a 20 → WP mX4_shearTo 65 [some (.ref a), some (.int (nI h)), some (.int (nI (if f_shearC f j (nI h) = true then s + 1 else s))), some (.int (nI (j))), l4, l5] [] M' z 0 0 Φ)  : WP mX4_shearTo 11 [some (.ref a), some (.int (nI h)), some (.int (nI (s))), some (.int (nI (j))), l4, l5] [] M z 0 0 Φ := by
  obtain ⟨R, ln, sg, hA, hRel⟩ := hF
  have hao := hA.1
  have hco := hA.2.1.1
  have hyo := hA.2.2.1.1
  obtain ⟨r0, r1, r2, ⟨k3, k4, k5, k6, k7⟩, ⟨s0, s1, s2, s3, s4, s5⟩, m1, m2, m3⟩ := id hRel
  have hnd := hI.ndl
  have hhd := hI.hdl
  rw [hI.nde] at s0
  rw [hI.hde] at s1
  refine g_aload_0 dX4_shearTo_11 ?_
  refine g_get dX4_shearTo_12 (fX4_12 rfl) hao rfl ?_
  refine g_iload_3 dX4_shearTo_15 ?_
  refine g_v1_1 dX4_shearTo_16 (vX4_141 rfl) rfl (by assumption) (Nat.le_of_ble_eq_true rfl) ⟨rfl, rfl⟩ (Nat.le_of_ble_eq_true rfl) (Nat.le_of_ble_eq_true rfl) (c_heightAt hA.2.1 hj) ?_
  rw [r2 _ hj]
  refine g_iload_1 dX4_shearTo_19 ?_
  refine g_isub dX4_shearTo_20 ?_
  refine g_istore_4 rfl dX4_shearTo_21 ?_
  refine g_iload_4 dX4_shearTo_23 ?_
  refine g_if_le (tgt := 65) dX4_shearTo_25 (by decide)  (fun h25 => ?_) (fun h25 => ?_)
  · have hC : ¬ f_shearC f j (nI h) = true := by
      unfold f_shearC
      cases q : hasL (f (144 + j)) with
      | false => simp
      | true =>
        rw [q, if_pos rfl] at h25
        obtain ⟨⟨e1, e2⟩, e3⟩ := hI.2.2.1 j hj q
        rw [e1, sub_pos (by omega) (by omega)] at h25
        rw [e1]
        simp only [Bool.true_and, decide_eq_true_eq]
        rw [nI_ltI (by omega) (by omega)]
        omega
    rw [if_neg hC, if_neg hC] at hk
    first
      | exact hk _ _ _ ⟨R, ln, sg, hA, hRel⟩ Out.rf
      | (refine hk _ _ _ ⟨_, ln, sg, hA2, ?_⟩ (hO1.tr hO2)
         have e := (hRel.ws (x := nI 2 * (f (288 + j) - nI h)) p4).low (w := nI (gv f (144 + j) - 1)) (x := nI h) (j := j) hj (by rw [upd_ne (by omega)]; exact hl) (by rw [show st2 R 7 _ _ 1 = R 1 from rfl, r1 _ hj, p5])
         exact e)
  · have hl : hasL (f (144 + j)) = true := by
      cases q : hasL (f (144 + j)) with
      | true => rfl
      | false =>
        rw [q, if_neg (by decide), sub_pos (by decide) (by omega)] at h25
        omega
    rw [if_pos hl] at h25
    rw [if_pos hl]
    obtain ⟨⟨e1, e2⟩, e3⟩ := hI.2.2.1 j hj hl
    have hC : f_shearC f j (nI h) = true := by
      unfold f_shearC
      rw [hl]
      rw [e1, sub_pos (by omega) (by omega)] at h25
      rw [e1]
      simp only [Bool.true_and, decide_eq_true_eq]
      rw [nI_ltI (by omega) (by omega)]
      omega
    rw [if_pos hC, if_pos hC] at hk
    obtain ⟨p4, p5, p6⟩ := hasL_dl hI hj hl
    refine g_aload_0 dX4_shearTo_28 ?_
    refine g_get dX4_shearTo_29 (fX4_12 rfl) hao rfl ?_
    refine g_iload_3 dX4_shearTo_32 ?_
    refine g_v1_1 dX4_shearTo_33 (vX4_68 rfl) rfl (by assumption) (Nat.le_of_ble_eq_true rfl) ⟨rfl, rfl⟩ (Nat.le_of_ble_eq_true rfl) (Nat.le_of_ble_eq_true rfl) (c_loopAt hA.2.1 hj) ?_
    rw [r1 _ hj, p6]
    refine g_istore_5 rfl dX4_shearTo_36 ?_
    refine g_aload_0 dX4_shearTo_38 ?_
    refine g_get dX4_shearTo_39 (fX4_12 rfl) hao rfl ?_
    refine g_iload_3 dX4_shearTo_42 ?_
    refine g_iload_5 dX4_shearTo_43 ?_
    refine g_iload_1 dX4_shearTo_45 ?_
    refine g_v3 dX4_shearTo_46 (vX4_110 rfl) rfl (by assumption) (Nat.le_of_ble_eq_true rfl) (Nat.le_of_ble_eq_true rfl) (Nat.le_of_ble_eq_true rfl) (r_putLoop hA hj) (fun r M2 z2 hq => ?_) (fun E M2 z2 hq => by obtain ⟨hq, -⟩ := hq; cases hq)
    obtain ⟨hr, hA1, hO1, rfl⟩ := hq
    cases hr
    have hao1 := hA1.1
    have hco1 := hA1.2.1.1
    have hyo1 := hA1.2.2.1.1
    refine g_aload_0 dX4_shearTo_49 ?_
    refine g_get dX4_shearTo_50 (fX4_21 rfl) hao1 rfl ?_
    refine g_iload_5 dX4_shearTo_53 ?_
    refine g_iconst (v := nI 2) dX4_shearTo_55 rfl ?_
    refine g_iload_4 dX4_shearTo_56 ?_
    refine g_imul dX4_shearTo_58 ?_
    refine g_v2 dX4_shearTo_59 (vX4_138 rfl) rfl (by assumption) (Nat.le_of_ble_eq_true rfl) (Nat.le_of_ble_eq_true rfl) (Nat.le_of_ble_eq_true rfl) (r_addWaste hA1 p4) (fun r M2 z2 hq => ?_) (fun E M2 z2 hq => by obtain ⟨hq, -⟩ := hq; cases hq)
    obtain ⟨hr, hA2, hO2, rfl⟩ := hq
    cases hr
    have hao2 := hA2.1
    have hco2 := hA2.2.1.1
    have hyo2 := hA2.2.2.1.1
    refine g_iincN_2 (q := 1) rfl dX4_shearTo_62 rfl ?_
    first
      | exact hk _ _ _ ⟨R, ln, sg, hA, hRel⟩ Out.rf
      | (refine hk _ _ _ ⟨_, ln, sg, hA2, ?_⟩ (hO1.tr hO2)
         have e := (hRel.ws (x := nI 2 * (f (288 + j) - nI h)) p4).low (w := nI (gv f (144 + j) - 1)) (x := nI h) (j := j) hj (by rw [upd_ne (by omega)]; exact hl) (by rw [show st2 R 7 _ _ 1 = R 1 from rfl, r1 _ hj, p5])
         exact e)
theorem sh_le (h : Nat) : ∀ j (f : Row), (f_shear (nI h) j f).2 ≤ j
  | 0, _ => Nat.le_refl _
  | j + 1, f => by
    have ih := sh_le h j f
    unfold f_shear
    simp only []
    split
    · exact Nat.succ_le_succ ih
    · exact Nat.le_succ_of_le ih
theorem q_shear_loop {h : Nat} (hI : Rng f) (hh : h < 10) (h0 : 0 < h) : ∀ d j {M : Hp} (l4 l5 : Option Value), j + d = 144 → RugF M a (f_shear (nI h) j f).1 → Out M0 M a 20 → WP mX4_shearTo 4 [some (.ref a), some (.int (nI h)), some (.int (nI ((f_shear (nI h) j f).2))), some (.int (nI (j))), l4, l5] [] M z 0 0 (Mut (some (.int (nI (f_shear (nI h) 144 f).2))) M0 a (f_shear (nI h) 144 f).1 z) := by
  intro d
  induction d with
  | zero =>
    intro j M l4 l5 hj hF hO
    obtain rfl : j = 144 := by omega
    refine g_iload_3 dX4_shearTo_4 ?_
    refine g_sipush (v := nI 144) dX4_shearTo_5 rfl ?_
    refine g_icmp_geN (tgt := 71) dX4_shearTo_8 (by decide) (by omega) (by omega) (fun _ => ?_) (fun h8 => absurd h8 (by omega))
    refine g_iload_2 dX4_shearTo_71 ?_
    exact g_ireturn rfl rfl dX4_shearTo_72 (Nat.le_of_ble_eq_true rfl) (Nat.le_of_ble_eq_true rfl) ⟨rfl, hF, hO, rfl⟩
  | succ d ih =>
    intro j M l4 l5 hj hF hO
    refine g_iload_3 dX4_shearTo_4 ?_
    refine g_sipush (v := nI 144) dX4_shearTo_5 rfl ?_
    refine g_icmp_geN (tgt := 71) dX4_shearTo_8 (by decide) (by omega) (by omega) (fun h8 => absurd h8 (by omega)) (fun _ => ?_)
    have hq := sh_le h j f
    refine q_shear_step hF (Rng.shear hh h0 j (by omega) hI) (by omega) hh h0 (by omega) (fun M1 l4 l5 hF1 hO1 => ?_)
    have ef : f_shear (nI h) (j + 1) f = (if f_shearC (f_shear (nI h) j f).1 j (nI h) = true then f_shear1 (f_shear (nI h) j f).1 j (nI h) else (f_shear (nI h) j f).1, if f_shearC (f_shear (nI h) j f).1 j (nI h) = true then (f_shear (nI h) j f).2 + 1 else (f_shear (nI h) j f).2) := by
      conv => lhs; unfold f_shear
      simp only []
      split <;> rfl
    have e := ih (j + 1) (M := M1) l4 l5 (by omega) (by rw [ef]; exact hF1) (hO.tr hO1)
    rw [ef] at e
    refine g_iincN_3 (q := 1) rfl dX4_shearTo_65 rfl ?_
    refine g_goto (tgt := 4) dX4_shearTo_68 (by decide) ?_
    exact e
theorem q_shearTo {h : Nat} (hF : RugF M a f) (hI : Rng f) (hh : h < 10) (h0 : 0 < h) : Runs mX4_shearTo [.ref a, .int (nI h)] M z (Mut (some (.int (nI (f_shear (nI h) 144 f).2))) M a (f_shear (nI h) 144 f).1 z) := by
  refine runs_of plX4 rfl (Nat.le_of_ble_eq_true rfl) ?_
  show WP mX4_shearTo 0 [some (.ref a), some (.int (nI h)), none, none, none, none] [] M z 0 0 _
  refine g_iconst (v := nI 0) dX4_shearTo_0 rfl ?_
  refine g_istore_2 rfl dX4_shearTo_1 ?_
  refine g_iconst (v := nI 0) dX4_shearTo_2 rfl ?_
  refine g_istore_3 rfl dX4_shearTo_3 ?_
  exact q_shear_loop hI hh h0 144 0 none none rfl hF Out.rf
end P22

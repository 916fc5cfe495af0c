section P20
variable {M : Hp} {z a c j : Nat} {f : Row} {x : Int32}
def f_feel (f : Row) (c : Nat) (x : Int32) : Row := if x / nI 1000 < f_drawn f c / nI 1000 then upd (upd f 461 (f 461 + nI 4)) 462 (f 462 + nI 1) else f
theorem nI_add0 (x : Int32) : x + nI 0 = x := by rw [nI_0]; simp
theorem q_feelKnot (hF : RugF M a f) (hI : Rng f) (ht : tno f = c + 1) : Runs mX4_feelKnot [.ref a, .int x] M z (Mut none M a (f_feel f c x) z) := by
  obtain ⟨R, ln, sg, hA, hRel⟩ := hF
  have hao := hA.1
  have hco := hA.2.1.1
  have hyo := hA.2.2.1.1
  obtain ⟨r0, r1, r2, ⟨k3, k4, k5, k6, k7⟩, ⟨s0, s1, s2, s3, s4, s5⟩, m1, m2, m3⟩ := id hRel
  have hnd := hI.ndl
  have hhd := hI.hdl
  rw [hI.nde] at s0
  rw [hI.hde] at s1
  have hc5 : c < 5 := by have := hI.tlt; omega
  rw [hI.thr ht] at s2
  refine runs_of plX4 rfl (Nat.le_of_ble_eq_true rfl) ?_
  show WP mX4_feelKnot 0 [some (.ref a), some (.int x)] [] M z 0 0 _
  refine g_aload_0 dX4_feelKnot_0 ?_
  refine g_get dX4_feelKnot_1 (fX4_21 rfl) hA.1 rfl ?_
  refine g_aload_0 dX4_feelKnot_4 ?_
  refine g_get dX4_feelKnot_5 (fX4_31 rfl) hA.1 rfl ?_
  rw [s2]
  refine g_v1_1 dX4_feelKnot_8 (vX4_96 rfl) rfl (by assumption) (Nat.le_of_ble_eq_true rfl) ⟨rfl, rfl⟩ (Nat.le_of_ble_eq_true rfl) (Nat.le_of_ble_eq_true rfl) (c_drawn hA.2.2.1 hc5) ?_
  rw [k4 _ hc5, k3 _ hc5]
  refine g_sipush (v := nI 1000) dX4_feelKnot_11 rfl ?_
  refine g_idiv dX4_feelKnot_14 (by decide) ?_
  refine g_iload_1 dX4_feelKnot_15 ?_
  refine g_sipush (v := nI 1000) dX4_feelKnot_16 rfl ?_
  refine g_idiv dX4_feelKnot_19 (by decide) ?_
  refine g_icmp_le (tgt := 43) dX4_feelKnot_20 (by decide)  (fun h20 => ?_) (fun h20 => ?_)
  · exact g_return rfl dX4_feelKnot_43 (Nat.le_of_ble_eq_true rfl) (Nat.le_of_ble_eq_true rfl) (by first | exact ⟨rfl, ⟨_, ln, sg, hA2, by rw [show f_feel f c x = _ from if_pos (Int32.not_le.mp h20)]; exact hRel.s4.s5⟩, hO1.tr hO2, rfl⟩ | exact ⟨rfl, ⟨_, ln, sg, hA, by rw [show f_feel f c x = f from if_neg (Int32.not_lt.mpr h20)]; exact hRel⟩, Out.rf, rfl⟩)
  · refine g_aload_0 dX4_feelKnot_23 ?_
    refine g_dup dX4_feelKnot_24 rfl ?_
    refine g_get dX4_feelKnot_25 (fX4_56 rfl) hA.1 rfl ?_
    rw [s4]
    refine g_iconst (v := nI 4) dX4_feelKnot_28 rfl ?_
    refine g_iadd dX4_feelKnot_29 ?_
    refine g_putS (ty := .int) (s := 4) dX4_feelKnot_30 (fX4_56 rfl) (by decide) hA (fun M1 hA1 hO1 => ?_)
    have hao1 := hA1.1
    have hco1 := hA1.2.1.1
    have hyo1 := hA1.2.2.1.1
    refine g_aload_0 dX4_feelKnot_33 ?_
    refine g_dup dX4_feelKnot_34 rfl ?_
    refine g_get dX4_feelKnot_35 (fX4_59 rfl) hao1 rfl ?_
    rw [show st2 R 13 4 _ 13 5 = R 13 5 from rfl, s5]
    refine g_iconst (v := nI 1) dX4_feelKnot_38 rfl ?_
    refine g_iadd dX4_feelKnot_39 ?_
    refine g_putS (ty := .int) (s := 5) dX4_feelKnot_40 (fX4_59 rfl) (by decide) hA1 (fun M2 hA2 hO2 => ?_)
    have hao2 := hA2.1
    have hco2 := hA2.2.1.1
    have hyo2 := hA2.2.2.1.1
    exact g_return rfl dX4_feelKnot_43 (Nat.le_of_ble_eq_true rfl) (Nat.le_of_ble_eq_true rfl) (by first | exact ⟨rfl, ⟨_, ln, sg, hA2, by rw [show f_feel f c x = _ from if_pos (Int32.not_le.mp h20)]; exact hRel.s4.s5⟩, hO1.tr hO2, rfl⟩ | exact ⟨rfl, ⟨_, ln, sg, hA, by rw [show f_feel f c x = f from if_neg (Int32.not_lt.mpr h20)]; exact hRel⟩, Out.rf, rfl⟩)
theorem dl_num : ∀ v, v < 7 → dl (nI v) = if v = 0 then -1 else if v = 6 then -2 else nI (v - 1) := by decide +kernel
theorem feel_skip (hI : Rng f) (ht : tno f = c + 1) (hc : c < 5) (h10 : nI 10 ≤ f 461) :
    f_feel (upd (upd (upd (upd f (144 + nd f) (nI 6)) (432 + 5 * c) (f (432 + 5 * c) - tkv (f (432 + 5 * c)) (nI 4))) (434 + 5 * c) (f (434 + 5 * c) + tkv (f (432 + 5 * c)) (nI 4))) 461 (nI 2)) c (f_drawn f c) = f_punch f := by
  have hnd := hI.ndl
  have hc1 : tno f - 1 = c := by omega
  have e1 : f_drawn (upd (upd (upd (upd f (144 + nd f) (nI 6)) (432 + 5 * c) (f (432 + 5 * c) - tkv (f (432 + 5 * c)) (nI 4))) (434 + 5 * c) (f (434 + 5 * c) + tkv (f (432 + 5 * c)) (nI 4))) 461 (nI 2)) c = f_drawn (f_draw f c (nI 4) 2) c := by
    unfold f_drawn f_draw
    simp only [show (2 : Nat) ≠ 0 by decide, if_false]
    rw [upd_ne (by omega), upd_ne (by omega), upd_ne (by omega), upd_ne (by omega), upd_ne (by omega), upd_ne (by omega), upd_eq, upd_ne (by omega), upd_ne (by omega), upd_ne (by omega), upd_eq]
  unfold f_feel f_punch
  rw [if_pos h10, e1, hc1]
  unfold f_pull f_knot
  by_cases hk : f_drawn f c / nI 1000 < f_drawn (f_draw f c (nI 4) 2) c / nI 1000
  · simp only [hk, if_true, decide_true]
    funext k
    simp only [f_draw, upd, show (2 : Nat) ≠ 0 by decide, if_false]
    (repeat' split) <;> first | rfl | omega | (simp_all; done) | (exfalso; omega)
  · simp only [hk, if_false, decide_false, Bool.false_eq_true, nI_add0]
    funext k
    simp only [f_draw, upd, show (2 : Nat) ≠ 0 by decide, if_false]
    (repeat' split) <;> first | rfl | omega | (simp_all; done) | (exfalso; omega)
variable {v : Nat} {w : Int32} {t : Nat}
theorem Rng.free {i : Nat} (h : Rng f) (hi : (i = 461 ∨ i = 462 ∨ 467 ≤ i) ∨ ∃ c, c < 5 ∧ (i = 433 + 5 * c ∨ i = 434 + 5 * c ∨ i = 435 + 5 * c ∨ i = 436 + 5 * c)) : Rng (upd f i w) := by
  rcases hi with hi | ⟨c0, hc0, hi⟩
  all_goals
    obtain ⟨h1, h2, h3, h4, ⟨n1, n2, n3, n4, n5⟩, h6⟩ := h
    refine ⟨fun i hi => Bd_ne (by omega) (h1 i hi), fun i hi => Bd_ne (by omega) (h2 i hi), fun i hi hl => by rw [upd_ne (by omega)] at hl; exact ⟨Bd_ne (by omega) (h3 i hi hl).1, by rw [gv_ne (by omega)]; exact (h3 i hi hl).2⟩, fun c hc => Bd_ne (by omega) (h4 c hc), ⟨Bd_ne (by omega) n1, Bd_ne (by omega) n2, Bd_ne (by omega) n3, Bd_ne (by omega) n4, by rw [gv_ne (by omega)]; exact n5⟩, fun m hm => Bd_ne (by omega) (h6 m hm)⟩
theorem Rng.s457 (h : Rng f) (hv : v < 144) : Rng (upd f 457 (nI v)) := by
  obtain ⟨h1, h2, h3, h4, ⟨n1, n2, n3, n4, n5⟩, h6⟩ := h
  exact ⟨fun i hi => Bd_ne (by omega) (h1 i hi), fun i hi => Bd_ne (by omega) (h2 i hi), fun i hi hl => by rw [upd_ne (by omega)] at hl; exact ⟨Bd_ne (by omega) (h3 i hi hl).1, by rw [gv_ne (by omega)]; exact (h3 i hi hl).2⟩, fun c hc => Bd_ne (by omega) (h4 c hc), ⟨Bd_eq hv (by decide), Bd_ne (by omega) n2, Bd_ne (by omega) n3, Bd_ne (by omega) n4, by rw [gv_ne (by omega)]; exact n5⟩, fun m hm => Bd_ne (by omega) (h6 m hm)⟩
theorem Rng.s458 (h : Rng f) (hv : v < 4) : Rng (upd f 458 (nI v)) := by
  obtain ⟨h1, h2, h3, h4, ⟨n1, n2, n3, n4, n5⟩, h6⟩ := h
  exact ⟨fun i hi => Bd_ne (by omega) (h1 i hi), fun i hi => Bd_ne (by omega) (h2 i hi), fun i hi hl => by rw [upd_ne (by omega)] at hl; exact ⟨Bd_ne (by omega) (h3 i hi hl).1, by rw [gv_ne (by omega)]; exact (h3 i hi hl).2⟩, fun c hc => Bd_ne (by omega) (h4 c hc), ⟨Bd_ne (by omega) n1, Bd_eq hv (by decide), Bd_ne (by omega) n3, Bd_ne (by omega) n4, by rw [gv_ne (by omega)]; exact n5⟩, fun m hm => Bd_ne (by omega) (h6 m hm)⟩
theorem Rng.s459 (h : Rng f) (hv : v < 6) : Rng (upd f 459 (nI v)) := by
  obtain ⟨h1, h2, h3, h4, ⟨n1, n2, n3, n4, n5⟩, h6⟩ := h
  exact ⟨fun i hi => Bd_ne (by omega) (h1 i hi), fun i hi => Bd_ne (by omega) (h2 i hi), fun i hi hl => by rw [upd_ne (by omega)] at hl; exact ⟨Bd_ne (by omega) (h3 i hi hl).1, by rw [gv_ne (by omega)]; exact (h3 i hi hl).2⟩, fun c hc => Bd_ne (by omega) (h4 c hc), ⟨Bd_ne (by omega) n1, Bd_ne (by omega) n2, Bd_eq hv (by decide), Bd_ne (by omega) n4, by rw [gv_ne (by omega)]; exact n5⟩, fun m hm => Bd_ne (by omega) (h6 m hm)⟩
theorem Rng.s460 (h : Rng f) (hv : v < 10) (h0 : 0 < v) : Rng (upd f 460 (nI v)) := by
  obtain ⟨h1, h2, h3, h4, ⟨n1, n2, n3, n4, n5⟩, h6⟩ := h
  exact ⟨fun i hi => Bd_ne (by omega) (h1 i hi), fun i hi => Bd_ne (by omega) (h2 i hi), fun i hi hl => by rw [upd_ne (by omega)] at hl; exact ⟨Bd_ne (by omega) (h3 i hi hl).1, by rw [gv_ne (by omega)]; exact (h3 i hi hl).2⟩, fun c hc => Bd_ne (by omega) (h4 c hc), ⟨Bd_ne (by omega) n1, Bd_ne (by omega) n2, Bd_ne (by omega) n3, Bd_eq hv (by decide), by rw [gv_of upd_eq (by omega)]; exact h0⟩, fun m hm => Bd_ne (by omega) (h6 m hm)⟩
theorem Rng.cone (h : Rng f) (hc : c < 5) (hv : v < 20001) : Rng (upd f (432 + 5 * c) (nI v)) := by
  obtain ⟨h1, h2, h3, h4, ⟨n1, n2, n3, n4, n5⟩, h6⟩ := h
  exact ⟨fun i hi => Bd_ne (by omega) (h1 i hi), fun i hi => Bd_ne (by omega) (h2 i hi), fun i hi hl => by rw [upd_ne (by omega)] at hl; exact ⟨Bd_ne (by omega) (h3 i hi hl).1, by rw [gv_ne (by omega)]; exact (h3 i hi hl).2⟩, fun i hi => by
    by_cases hic : i = c
    · subst hic; exact Bd_eq hv (by decide)
    · exact Bd_ne (by omega) (h4 i hi), ⟨Bd_ne (by omega) n1, Bd_ne (by omega) n2, Bd_ne (by omega) n3, Bd_ne (by omega) n4, by rw [gv_ne (by omega)]; exact n5⟩, fun m hm => Bd_ne (by omega) (h6 m hm)⟩
theorem Rng.plan1 (h : Rng f) (hj : j < 144) (hv : v < 6) : Rng (upd f j (nI v)) := by
  obtain ⟨h1, h2, h3, h4, ⟨n1, n2, n3, n4, n5⟩, h6⟩ := h
  exact ⟨fun i hi => by
    by_cases hic : i = j
    · subst hic; exact Bd_eq hv (by decide)
    · exact Bd_ne hic (h1 i hi), fun i hi => Bd_ne (by omega) (h2 i hi), fun i hi hl => by rw [upd_ne (by omega)] at hl; exact ⟨Bd_ne (by omega) (h3 i hi hl).1, by rw [gv_ne (by omega)]; exact (h3 i hi hl).2⟩, fun c hc => Bd_ne (by omega) (h4 c hc), ⟨Bd_ne (by omega) n1, Bd_ne (by omega) n2, Bd_ne (by omega) n3, Bd_ne (by omega) n4, by rw [gv_ne (by omega)]; exact n5⟩, fun m hm => Bd_ne (by omega) (h6 m hm)⟩
theorem Rng.cellN (h : Rng f) (hj : j < 144) (hv : v = 0 ∨ v = 6) : Rng (upd f (144 + j) (nI v)) := by
  obtain ⟨h1, h2, h3, h4, ⟨n1, n2, n3, n4, n5⟩, h6⟩ := h
  exact ⟨fun i hi => Bd_ne (by omega) (h1 i hi), fun i hi => by
    by_cases hic : i = j
    · subst hic; exact Bd_eq (by omega) (by decide)
    · exact Bd_ne (by omega) (h2 i hi), fun i hi hl => by
    by_cases hic : i = j
    · subst hic; rw [upd_eq, (hasL_num v (by omega))] at hl; omega
    · rw [upd_ne (by omega)] at hl; exact ⟨Bd_ne (by omega) (h3 i hi hl).1, by rw [gv_ne (by omega)]; exact (h3 i hi hl).2⟩, fun c hc => Bd_ne (by omega) (h4 c hc), ⟨Bd_ne (by omega) n1, Bd_ne (by omega) n2, Bd_ne (by omega) n3, Bd_ne (by omega) n4, by rw [gv_ne (by omega)]; exact n5⟩, fun m hm => Bd_ne (by omega) (h6 m hm)⟩
theorem Rng.high (h : Rng f) (hj : j < 144) (hv : v < 10) (h0 : 0 < v) : Rng (upd f (288 + j) (nI v)) := by
  obtain ⟨h1, h2, h3, h4, ⟨n1, n2, n3, n4, n5⟩, h6⟩ := h
  exact ⟨fun i hi => Bd_ne (by omega) (h1 i hi), fun i hi => Bd_ne (by omega) (h2 i hi), fun i hi hl => by
    rw [upd_ne (by omega)] at hl
    by_cases hic : i = j
    · subst hic; exact ⟨Bd_eq hv (by decide), by rw [gv_of upd_eq (by omega)]; exact h0⟩
    · exact ⟨Bd_ne (by omega) (h3 i hi hl).1, by rw [gv_ne (by omega)]; exact (h3 i hi hl).2⟩, fun c hc => Bd_ne (by omega) (h4 c hc), ⟨Bd_ne (by omega) n1, Bd_ne (by omega) n2, Bd_ne (by omega) n3, Bd_ne (by omega) n4, by rw [gv_ne (by omega)]; exact n5⟩, fun m hm => Bd_ne (by omega) (h6 m hm)⟩
theorem Rng.loop (h : Rng f) (hj : j < 144) (hv : v < 6) (hw : w = nI t) (ht : t < 10) (h0 : 0 < t) : Rng (upd (upd f (144 + j) (nI v)) (288 + j) w) := by
  subst hw
  have e : upd (upd f (144 + j) (nI v)) (288 + j) (nI t) = upd (upd f (288 + j) (nI t)) (144 + j) (nI v) := upd_comm (by omega)
  rw [e]
  have h' := h.high hj ht h0
  have hh : Bd (upd f (288 + j) (nI t)) (288 + j) 10 ∧ 0 < gv (upd f (288 + j) (nI t)) (288 + j) := ⟨Bd_eq ht (by decide), by rw [gv_of upd_eq (by omega)]; exact h0⟩
  revert h' hh
  generalize upd f (288 + j) (nI t) = g
  intro h hh
  obtain ⟨h1, h2, h3, h4, ⟨n1, n2, n3, n4, n5⟩, h6⟩ := h
  exact ⟨fun i hi => Bd_ne (by omega) (h1 i hi), fun i hi => by
    by_cases hic : i = j
    · subst hic; exact Bd_eq (by omega) (by decide)
    · exact Bd_ne (by omega) (h2 i hi), fun i hi hl => by
    by_cases hic : i = j
    · subst hic; exact ⟨Bd_ne (by omega) hh.1, by rw [gv_ne (by omega)]; exact hh.2⟩
    · rw [upd_ne (by omega)] at hl; exact ⟨Bd_ne (by omega) (h3 i hi hl).1, by rw [gv_ne (by omega)]; exact (h3 i hi hl).2⟩, fun c hc => Bd_ne (by omega) (h4 c hc), ⟨Bd_ne (by omega) n1, Bd_ne (by omega) n2, Bd_ne (by omega) n3, Bd_ne (by omega) n4, by rw [gv_ne (by omega)]; exact n5⟩, fun m hm => Bd_ne (by omega) (h6 m hm)⟩
/-- what is taken, as a number -/
theorem tk_num {a m : Nat} (ha : a < 2 ^ 31) (hm : m < 2 ^ 31) : tkv (nI a) (nI m) = nI (min a m) := by
  unfold tkv
  by_cases h : a < m
  · rw [if_pos ((nI_ltI ha hm).mpr h), Nat.min_eq_left (by omega)]
  · rw [if_neg (fun q => h ((nI_ltI ha hm).mp q)), Nat.min_eq_right (by omega)]
theorem Rng.take {m : Nat} (h : Rng f) (hc : c < 5) (hm : m < 2 ^ 31) : Rng (upd f (432 + 5 * c) (f (432 + 5 * c) - tkv (f (432 + 5 * c)) (nI m))) := by
  obtain ⟨e, l⟩ := h.2.2.2.1 c hc
  rw [e, tk_num (by omega) hm, pk_sub (Nat.min_le_left _ _)]
  exact h.cone hc (by omega)
theorem Rng.draw {m what : Nat} (h : Rng f) (hc : c < 5) (hm : m < 2 ^ 31) (hw : what < 5) : Rng (f_draw f c (nI m) what) := by
  unfold f_draw
  have h' := h.take hc hm
  by_cases h0 : what = 0
  · simp only [h0, if_true]; exact h'
  · simp only [h0, if_false]
    exact h'.free (Or.inr ⟨c, hc, by omega⟩)
theorem Rng.hte (h : Rng f) : ∃ t, f 460 = nI t ∧ t < 10 ∧ 0 < t := ⟨gv f 460, h.2.2.2.2.1.2.2.2.1.1, h.2.2.2.2.1.2.2.2.1.2, h.2.2.2.2.1.2.2.2.2⟩
theorem Rng.yarn (h : Rng f) : ∃ m, f_yarn (f 460) = nI m ∧ m ≤ 22 := by
  obtain ⟨t, e, h1, h2⟩ := h.hte
  exact ⟨2 * t + 4, by unfold f_yarn; rw [e, pk_mul, nI_add], by omega⟩
theorem Rng.pull {m what : Nat} {x : Int32} (h : Rng f) (hc : c < 5) (hm : m < 2 ^ 31) (hw : what < 5) : Rng (f_pull f c (nI m) what x) :=
  ((h.draw hc hm hw).free (Or.inl (Or.inl rfl))).free (Or.inl (Or.inr (Or.inl rfl)))
theorem Rng.feel {x : Int32} (h : Rng f) : Rng (f_feel f c x) := by
  unfold f_feel
  split
  · exact (h.free (Or.inl (Or.inl rfl))).free (Or.inl (Or.inr (Or.inl rfl)))
  · exact h
theorem feel_loop (hI : Rng f) (ht : tno f = c + 1) (hc : c < 5) (h10 : ¬ nI 10 ≤ f 461) {y : Int32} (hy : y = f_yarn (f 460)) :
    f_feel (upd (upd (upd (upd f (144 + nd f) (nI (c + 1))) (288 + nd f) (f 460)) (432 + 5 * c) (f (432 + 5 * c) - tkv (f (432 + 5 * c)) y)) 461 (f 461 + (if nI 6 < f 460 then nI 2 else nI 1))) c (f_drawn f c) = f_punch f := by
  subst hy
  have hnd := hI.ndl
  have hc1 : tno f - 1 = c := by omega
  have e1 : f_drawn (upd (upd (upd (upd f (144 + nd f) (nI (c + 1))) (288 + nd f) (f 460)) (432 + 5 * c) (f (432 + 5 * c) - tkv (f (432 + 5 * c)) (f_yarn (f 460)))) 461 (f 461 + (if nI 6 < f 460 then nI 2 else nI 1))) c = f_drawn (f_draw f c (f_yarn (f 460)) 0) c := by
    unfold f_drawn f_draw
    simp only [if_true]
    rw [upd_ne (by omega), upd_ne (by omega), upd_ne (by omega), upd_ne (by omega), upd_ne (by omega), upd_eq, upd_ne (by omega), upd_eq]
  unfold f_feel f_punch
  rw [if_neg h10, e1, hc1, ht]
  unfold f_pull f_knot
  by_cases hk : f_drawn f c / nI 1000 < f_drawn (f_draw f c (f_yarn (f 460)) 0) c / nI 1000
  · simp only [hk, if_true, decide_true]
    funext k
    simp only [f_draw, upd, if_true]
    generalize (if nI 6 < f 460 then nI 2 else nI 1) = q
    (repeat' split) <;> first | rfl | omega | (simp_all; done) | (exfalso; omega)
  · simp only [hk, if_false, decide_false, Bool.false_eq_true, nI_add0]
    funext k
    simp only [f_draw, upd, if_true]
    generalize (if nI 6 < f 460 then nI 2 else nI 1) = q
    (repeat' split) <;> first | rfl | omega | (simp_all; done) | (exfalso; omega)
end P20

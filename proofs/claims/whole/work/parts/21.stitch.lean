section P21
variable {M : Hp} {z a c j : Nat} {f : Row} {x : Int32} {R : Nat → Row} {ln : Nat → Nat} {sg : Nat → Nat → Nat}
theorem Rel.dr0 (h : Rel R ln sg f) (hc : c < 5) : Rel (st2 R 3 c (R 3 c - tkv (R 3 c) x)) ln sg (upd f (432 + 5 * c) (f (432 + 5 * c) - tkv (f (432 + 5 * c)) x)) := by
  have e := h.2.2.2.1.1 c hc
  rw [e]
  exact h.y0 hc
theorem Rel.dr2 (h : Rel R ln sg f) (hc : c < 5) : Rel (st2 (st2 R 3 c (R 3 c - tkv (R 3 c) x)) 5 c (R 5 c + tkv (R 3 c) x)) ln sg (upd (upd f (432 + 5 * c) (f (432 + 5 * c) - tkv (f (432 + 5 * c)) x)) (434 + 5 * c) (f (434 + 5 * c) + tkv (f (432 + 5 * c)) x)) := by
  have e := h.2.2.2.1.1 c hc
  have e2 := h.2.2.2.1.2.2.1 c hc
  rw [e, e2]
  exact (h.y0 hc).y2 hc
theorem Rel.dr3 (h : Rel R ln sg f) (hc : c < 5) : Rel (st2 (st2 R 3 c (R 3 c - tkv (R 3 c) x)) 6 c (R 6 c + tkv (R 3 c) x)) ln sg (upd (upd f (432 + 5 * c) (f (432 + 5 * c) - tkv (f (432 + 5 * c)) x)) (435 + 5 * c) (f (435 + 5 * c) + tkv (f (432 + 5 * c)) x)) := by
  have e := h.2.2.2.1.1 c hc
  have e2 := h.2.2.2.1.2.2.2.1 c hc
  rw [e, e2]
  exact (h.y0 hc).y3 hc
theorem Rel.ws (h : Rel R ln sg f) (hc : c < 5) : Rel (st2 R 7 c (R 7 c + x)) ln sg (upd f (436 + 5 * c) (f (436 + 5 * c) + x)) := by
  have e2 := h.2.2.2.1.2.2.2.2 c hc
  rw [e2]
  exact h.y4 hc
theorem dl_loop (hc : c < 5) : dl (nI (c + 1)) = nI c ∧ hasL (nI (c + 1)) = true := by
  refine ⟨?_, (hasL_num _ (by omega)).mpr (by omega)⟩
  rw [dl_num _ (by omega), if_neg (by omega), if_neg (by omega)]
  rfl
theorem tno_of {g : Row} (h : g 459 = f 459) : tno g = tno f := by unfold tno gv; rw [h]
theorem q_punch (hF : RugF M a f) (hI : Rng f) (ht : tno f = c + 1) : Runs mX4_punch [.ref a] M z (Mut none M a (f_punch f) z) := by
  obtain ⟨R, ln, sg, hA, hRel⟩ := hF
  have hao := hA.1
  have hco := hA.2.1.1
  have hyo := hA.2.2.1.1
  obtain ⟨r0, r1, r2, ⟨k3, k4, k5, k6, k7⟩, ⟨s0, s1, s2, s3, s4, s5⟩, m1, m2, m3⟩ := id hRel
  have hnd := hI.ndl
  have hhd := hI.hdl
  rw [hI.nde] at s0
  rw [hI.hde] at s1
  have hc5 : c < 5 := by have := hI.tlt; omega
  rw [hI.thr ht] at s2
  refine runs_of plX4 rfl (Nat.le_of_ble_eq_true rfl) ?_
  show WP mX4_punch 0 [some (.ref a), none] [] M z 0 0 _
  refine g_aload_0 dX4_punch_0 ?_
  refine g_get dX4_punch_1 (fX4_21 rfl) hA.1 rfl ?_
  refine g_aload_0 dX4_punch_4 ?_
  refine g_get dX4_punch_5 (fX4_31 rfl) hA.1 rfl ?_
  rw [s2]
  refine g_v1_1 dX4_punch_8 (vX4_96 rfl) rfl (by assumption) (Nat.le_of_ble_eq_true rfl) ⟨rfl, rfl⟩ (Nat.le_of_ble_eq_true rfl) (Nat.le_of_ble_eq_true rfl) (c_drawn hA.2.2.1 hc5) ?_
  rw [k4 _ hc5, k3 _ hc5]
  refine g_istore_1 rfl dX4_punch_11 ?_
  refine g_aload_0 dX4_punch_12 ?_
  refine g_v0_1 dX4_punch_13 (vX4_99 rfl) rfl (by assumption) (Nat.le_of_ble_eq_true rfl) ⟨rfl, rfl⟩ (Nat.le_of_ble_eq_true rfl) (Nat.le_of_ble_eq_true rfl) (q_isTight ⟨R, ln, sg, hA, hRel⟩ hI) ?_
  refine g_if_eqB (tgt := 50) dX4_punch_16 (by decide)  (fun h16 => ?_) (fun h16 => ?_)
  · refine g_aload_0 dX4_punch_50 ?_
    refine g_get dX4_punch_51 (fX4_12 rfl) hA.1 rfl ?_
    refine g_aload_0 dX4_punch_54 ?_
    refine g_get dX4_punch_55 (fX4_50 rfl) hA.1 rfl ?_
    rw [s0]
    refine g_aload_0 dX4_punch_58 ?_
    refine g_get dX4_punch_59 (fX4_31 rfl) hA.1 rfl ?_
    rw [s2]
    refine g_aload_0 dX4_punch_62 ?_
    refine g_get dX4_punch_63 (fX4_35 rfl) hA.1 rfl ?_
    rw [s3]
    refine g_v3 dX4_punch_66 (vX4_110 rfl) rfl (by assumption) (Nat.le_of_ble_eq_true rfl) (Nat.le_of_ble_eq_true rfl) (Nat.le_of_ble_eq_true rfl) (r_putLoop hA hnd) (fun r M2 z2 hq => ?_) (fun E M2 z2 hq => by obtain ⟨hq, -⟩ := hq; cases hq)
    obtain ⟨hr, hA1, hO1, rfl⟩ := hq
    cases hr
    have hao1 := hA1.1
    have hco1 := hA1.2.1.1
    have hyo1 := hA1.2.2.1.1
    refine g_aload_0 dX4_punch_69 ?_
    refine g_get dX4_punch_70 (fX4_21 rfl) hao1 rfl ?_
    refine g_aload_0 dX4_punch_73 ?_
    refine g_get dX4_punch_74 (fX4_31 rfl) hao1 rfl ?_
    rw [show st2 (st2 R 1 _ _) 2 _ _ 13 2 = R 13 2 from rfl, s2]
    refine g_aload_0 dX4_punch_77 ?_
    refine g_get dX4_punch_78 (fX4_35 rfl) hao1 rfl ?_
    rw [show st2 (st2 R 1 _ _) 2 _ _ 13 3 = R 13 3 from rfl, s3]
    refine g_s1_1 dX4_punch_81 (sX4_75 rfl) rfl (Nat.le_of_ble_eq_true rfl) ⟨rfl, rfl⟩ (Nat.le_of_ble_eq_true rfl) (Nat.le_of_ble_eq_true rfl) (c_yarnForLoop) ?_
    refine g_v2 dX4_punch_84 (vX4_114 rfl) rfl (by assumption) (Nat.le_of_ble_eq_true rfl) (Nat.le_of_ble_eq_true rfl) (Nat.le_of_ble_eq_true rfl) (r_draw hA1 hc5) (fun r M2 z2 hq => ?_) (fun E M2 z2 hq => by obtain ⟨hq, -⟩ := hq; cases hq)
    obtain ⟨hr, hA2, hO2, rfl⟩ := hq
    cases hr
    have hao2 := hA2.1
    have hco2 := hA2.2.1.1
    have hyo2 := hA2.2.2.1.1
    refine g_pop dX4_punch_87 rfl ?_
    refine g_aload_0 dX4_punch_88 ?_
    refine g_dup dX4_punch_89 rfl ?_
    refine g_get dX4_punch_90 (fX4_56 rfl) hao2 rfl ?_
    rw [show st2 (st2 (st2 R 1 _ _) 2 _ _) 3 _ _ 13 4 = R 13 4 from rfl, s4]
    refine g_aload_0 dX4_punch_93 ?_
    refine g_get dX4_punch_94 (fX4_35 rfl) hao2 rfl ?_
    rw [show st2 (st2 (st2 R 1 _ _) 2 _ _) 3 _ _ 13 3 = R 13 3 from rfl, s3]
    refine g_bipush (v := nI 6) dX4_punch_97 rfl ?_
    refine g_icmp_le (tgt := 106) dX4_punch_99 (by decide)  (fun h99 => ?_) (fun h99 => ?_)
    · have hq : (if nI 6 < f 460 then nI 2 else nI 1) = nI 1 := if_neg (Int32.not_lt.mpr h99)
      refine g_iconst (v := nI 1) dX4_punch_106 rfl ?_
      refine g_iadd dX4_punch_107 ?_
      rw [← hq]
      refine g_putS (ty := .int) (s := 4) dX4_punch_108 (fX4_56 rfl) (by decide) hA2 (fun M3 hA3 hO3 => ?_)
      have hao3 := hA3.1
      have hco3 := hA3.2.1.1
      have hyo3 := hA3.2.2.1.1
      obtain ⟨t, th, tl, t0⟩ := hI.hte
      obtain ⟨y, yh, yl⟩ := hI.yarn
      have g1 := hRel.loop (w := nI c) (v := nI (c + 1)) (x := f 460) hnd (dl_loop hc5).2 (dl_loop hc5).1.symm
      have g2 := (g1.dr0 (x := f_yarn (f 460)) hc5).s4 (v := f 461 + (if nI 6 < f 460 then nI 2 else nI 1))
      rw [show upd (upd f (144 + nd f) (nI (c + 1))) (288 + nd f) (f 460) (432 + 5 * c) = f (432 + 5 * c) from by rw [upd_ne (by omega), upd_ne (by omega)]] at g2
      have i2 : Rng (upd (upd (upd (upd f (144 + nd f) (nI (c + 1))) (288 + nd f) (f 460)) (432 + 5 * c) (f (432 + 5 * c) - tkv (f (432 + 5 * c)) (f_yarn (f 460)))) 461 (f 461 + (if nI 6 < f 460 then nI 2 else nI 1))) := by
        have e := (hI.loop hnd (v := c + 1) (by omega) th tl t0).take (c := c) (m := y) hc5 (by omega)
        rw [show upd (upd f (144 + nd f) (nI (c + 1))) (288 + nd f) (f 460) (432 + 5 * c) = f (432 + 5 * c) from by rw [upd_ne (by omega), upd_ne (by omega)], ← yh] at e
        exact e.free (Or.inl (Or.inl rfl))
      have t2 := (tno_of (f := f) (g := upd (upd (upd (upd f (144 + nd f) (nI (c + 1))) (288 + nd f) (f 460)) (432 + 5 * c) (f (432 + 5 * c) - tkv (f (432 + 5 * c)) (f_yarn (f 460)))) 461 (f 461 + (if nI 6 < f 460 then nI 2 else nI 1))) (by rw [upd_ne (by omega), upd_ne (by omega), upd_ne (by omega), upd_ne (by omega)])).trans ht
      have hfe := feel_loop hI ht hc5 (by simpa using h16) rfl
      refine g_aload_0 dX4_punch_111 ?_
      refine g_iload_1 dX4_punch_112 ?_
      refine g_v1 dX4_punch_113 (vX4_118 rfl) rfl (by assumption) (Nat.le_of_ble_eq_true rfl) (Nat.le_of_ble_eq_true rfl) (Nat.le_of_ble_eq_true rfl) (q_feelKnot ⟨_, ln, sg, hA3, g2⟩ i2 t2) (fun r M2 z2 hq => ?_) (fun E M2 z2 hq => by obtain ⟨hq, -⟩ := hq; cases hq)
      obtain ⟨hr, hF4, hO4, rfl⟩ := hq
      cases hr
      rw [show f_drawn f c = f (433 + 5 * c) - f (432 + 5 * c) from rfl] at hfe
      rw [hfe] at hF4
      exact g_return rfl dX4_punch_116 (Nat.le_of_ble_eq_true rfl) (Nat.le_of_ble_eq_true rfl) ⟨rfl, hF4, ((hO1.tr hO2).tr hO3).tr hO4, rfl⟩
    · have hq : (if nI 6 < f 460 then nI 2 else nI 1) = nI 2 := if_pos (Int32.not_le.mp h99)
      refine g_iconst (v := nI 2) dX4_punch_102 rfl ?_
      refine g_goto (tgt := 107) dX4_punch_103 (by decide) ?_
      refine g_iadd dX4_punch_107 ?_
      rw [← hq]
      refine g_putS (ty := .int) (s := 4) dX4_punch_108 (fX4_56 rfl) (by decide) hA2 (fun M3 hA3 hO3 => ?_)
      have hao3 := hA3.1
      have hco3 := hA3.2.1.1
      have hyo3 := hA3.2.2.1.1
      obtain ⟨t, th, tl, t0⟩ := hI.hte
      obtain ⟨y, yh, yl⟩ := hI.yarn
      have g1 := hRel.loop (w := nI c) (v := nI (c + 1)) (x := f 460) hnd (dl_loop hc5).2 (dl_loop hc5).1.symm
      have g2 := (g1.dr0 (x := f_yarn (f 460)) hc5).s4 (v := f 461 + (if nI 6 < f 460 then nI 2 else nI 1))
      rw [show upd (upd f (144 + nd f) (nI (c + 1))) (288 + nd f) (f 460) (432 + 5 * c) = f (432 + 5 * c) from by rw [upd_ne (by omega), upd_ne (by omega)]] at g2
      have i2 : Rng (upd (upd (upd (upd f (144 + nd f) (nI (c + 1))) (288 + nd f) (f 460)) (432 + 5 * c) (f (432 + 5 * c) - tkv (f (432 + 5 * c)) (f_yarn (f 460)))) 461 (f 461 + (if nI 6 < f 460 then nI 2 else nI 1))) := by
        have e := (hI.loop hnd (v := c + 1) (by omega) th tl t0).take (c := c) (m := y) hc5 (by omega)
        rw [show upd (upd f (144 + nd f) (nI (c + 1))) (288 + nd f) (f 460) (432 + 5 * c) = f (432 + 5 * c) from by rw [upd_ne (by omega), upd_ne (by omega)], ← yh] at e
        exact e.free (Or.inl (Or.inl rfl))
      have t2 := (tno_of (f := f) (g := upd (upd (upd (upd f (144 + nd f) (nI (c + 1))) (288 + nd f) (f 460)) (432 + 5 * c) (f (432 + 5 * c) - tkv (f (432 + 5 * c)) (f_yarn (f 460)))) 461 (f 461 + (if nI 6 < f 460 then nI 2 else nI 1))) (by rw [upd_ne (by omega), upd_ne (by omega), upd_ne (by omega), upd_ne (by omega)])).trans ht
      have hfe := feel_loop hI ht hc5 (by simpa using h16) rfl
      refine g_aload_0 dX4_punch_111 ?_
      refine g_iload_1 dX4_punch_112 ?_
      refine g_v1 dX4_punch_113 (vX4_118 rfl) rfl (by assumption) (Nat.le_of_ble_eq_true rfl) (Nat.le_of_ble_eq_true rfl) (Nat.le_of_ble_eq_true rfl) (q_feelKnot ⟨_, ln, sg, hA3, g2⟩ i2 t2) (fun r M2 z2 hq => ?_) (fun E M2 z2 hq => by obtain ⟨hq, -⟩ := hq; cases hq)
      obtain ⟨hr, hF4, hO4, rfl⟩ := hq
      cases hr
      rw [show f_drawn f c = f (433 + 5 * c) - f (432 + 5 * c) from rfl] at hfe
      rw [hfe] at hF4
      exact g_return rfl dX4_punch_116 (Nat.le_of_ble_eq_true rfl) (Nat.le_of_ble_eq_true rfl) ⟨rfl, hF4, ((hO1.tr hO2).tr hO3).tr hO4, rfl⟩
  · refine g_aload_0 dX4_punch_19 ?_
    refine g_get dX4_punch_20 (fX4_12 rfl) hA.1 rfl ?_
    refine g_aload_0 dX4_punch_23 ?_
    refine g_get dX4_punch_24 (fX4_50 rfl) hA.1 rfl ?_
    rw [s0]
    refine g_v1 dX4_punch_27 (vX4_102 rfl) rfl (by assumption) (Nat.le_of_ble_eq_true rfl) (Nat.le_of_ble_eq_true rfl) (Nat.le_of_ble_eq_true rfl) (r_putSkipped hA hnd) (fun r M2 z2 hq => ?_) (fun E M2 z2 hq => by obtain ⟨hq, -⟩ := hq; cases hq)
    obtain ⟨hr, hA1, hO1, rfl⟩ := hq
    cases hr
    have hao1 := hA1.1
    have hco1 := hA1.2.1.1
    have hyo1 := hA1.2.2.1.1
    refine g_aload_0 dX4_punch_30 ?_
    refine g_get dX4_punch_31 (fX4_21 rfl) hao1 rfl ?_
    refine g_aload_0 dX4_punch_34 ?_
    refine g_get dX4_punch_35 (fX4_31 rfl) hao1 rfl ?_
    rw [show st2 (st2 R 1 _ _) 2 _ _ 13 2 = R 13 2 from rfl, s2]
    refine g_iconst (v := nI 4) dX4_punch_38 rfl ?_
    refine g_v2 dX4_punch_39 (vX4_106 rfl) rfl (by assumption) (Nat.le_of_ble_eq_true rfl) (Nat.le_of_ble_eq_true rfl) (Nat.le_of_ble_eq_true rfl) (r_drawFloat hA1 hc5) (fun r M2 z2 hq => ?_) (fun E M2 z2 hq => by obtain ⟨hq, -⟩ := hq; cases hq)
    obtain ⟨hr, hA2, hO2, rfl⟩ := hq
    cases hr
    have hao2 := hA2.1
    have hco2 := hA2.2.1.1
    have hyo2 := hA2.2.2.1.1
    refine g_aload_0 dX4_punch_42 ?_
    refine g_iconst (v := nI 2) dX4_punch_43 rfl ?_
    refine g_putS (ty := .int) (s := 4) dX4_punch_44 (fX4_56 rfl) (by decide) hA2 (fun M3 hA3 hO3 => ?_)
    have hao3 := hA3.1
    have hco3 := hA3.2.1.1
    have hyo3 := hA3.2.2.1.1
    have g1 := hRel.none (w := -2) (v := nI 6) hnd (by decide) (by decide)
    have g2 := (g1.dr2 (x := nI 4) hc5).s4 (v := nI 2)
    rw [show upd f (144 + nd f) (nI 6) (432 + 5 * c) = f (432 + 5 * c) from upd_ne (by omega), show upd f (144 + nd f) (nI 6) (434 + 5 * c) = f (434 + 5 * c) from upd_ne (by omega)] at g2
    have i2 : Rng (upd (upd (upd (upd f (144 + nd f) (nI 6)) (432 + 5 * c) (f (432 + 5 * c) - tkv (f (432 + 5 * c)) (nI 4))) (434 + 5 * c) (f (434 + 5 * c) + tkv (f (432 + 5 * c)) (nI 4))) 461 (nI 2)) := by
      have e := (hI.cellN hnd (Or.inr (rfl : 6 = 6))).take (c := c) (m := 4) hc5 (by decide)
      rw [show upd f (144 + nd f) (nI 6) (432 + 5 * c) = f (432 + 5 * c) from upd_ne (by omega)] at e
      exact (e.free (Or.inr ⟨c, hc5, by omega⟩)).free (Or.inl (Or.inl rfl))
    have t2 := (tno_of (f := f) (g := upd (upd (upd (upd f (144 + nd f) (nI 6)) (432 + 5 * c) (f (432 + 5 * c) - tkv (f (432 + 5 * c)) (nI 4))) (434 + 5 * c) (f (434 + 5 * c) + tkv (f (432 + 5 * c)) (nI 4))) 461 (nI 2)) (by rw [upd_ne (by omega), upd_ne (by omega), upd_ne (by omega), upd_ne (by omega)])).trans ht
    have hfe := feel_skip hI ht hc5 (by simpa using h16)
    refine g_goto (tgt := 111) dX4_punch_47 (by decide) ?_
    refine g_aload_0 dX4_punch_111 ?_
    refine g_iload_1 dX4_punch_112 ?_
    refine g_v1 dX4_punch_113 (vX4_118 rfl) rfl (by assumption) (Nat.le_of_ble_eq_true rfl) (Nat.le_of_ble_eq_true rfl) (Nat.le_of_ble_eq_true rfl) (q_feelKnot ⟨_, ln, sg, hA3, g2⟩ i2 t2) (fun r M2 z2 hq => ?_) (fun E M2 z2 hq => by obtain ⟨hq, -⟩ := hq; cases hq)
    obtain ⟨hr, hF4, hO4, rfl⟩ := hq
    cases hr
    rw [show f_drawn f c = f (433 + 5 * c) - f (432 + 5 * c) from rfl] at hfe
    rw [hfe] at hF4
    exact g_return rfl dX4_punch_116 (Nat.le_of_ble_eq_true rfl) (Nat.le_of_ble_eq_true rfl) ⟨rfl, hF4, ((hO1.tr hO2).tr hO3).tr hO4, rfl⟩
theorem Rng.punch (hI : Rng f) (ht : 0 < tno f) : Rng (f_punch f) := by
  have hnd := hI.ndl
  have hth := hI.tlt
  obtain ⟨t, th, tl, t0⟩ := hI.hte
  obtain ⟨y, yh, yl⟩ := hI.yarn
  unfold f_punch
  split
  · exact (hI.pull (c := tno f - 1) (m := 4) (by omega) (by decide) (by decide)).cellN hnd (Or.inr rfl)
  · rw [yh]
    exact (hI.pull (c := tno f - 1) (m := y) (by omega) (by omega) (by decide)).loop hnd (by omega) th tl t0
theorem to_lt (hI : Rng f) {k : Nat} (h : f_to f = some k) : k < 144 := besd_lt hI.ndl h
theorem Rng.goOn (hI : Rng f) : Rng (f_goOn f) := by
  unfold f_goOn
  cases h : f_to f with
  | none => exact hI
  | some k => exact hI.s457 (to_lt hI h)
theorem noSt_t (h : f_noStitch f = 0) : 0 < tno f := by
  unfold f_noStitch at h
  split at h
  · cases h
  · omega
theorem noSt_lt (f : Row) : f_noStitch f < 4 := by
  unfold f_noStitch
  (repeat' split) <;> decide
theorem Rng.sew : ∀ k {f : Row}, Rng f → Rng (f_sew k f).1
  | 0, _, h => h
  | k + 1, f, h => by
    unfold f_sew
    split
    · next h0 =>
      split
      · exact Rng.sew k ((h.punch (noSt_t h0)).goOn)
      · exact h.punch (noSt_t h0)
    · exact h
theorem goOn_to (f : Row) (h : f_to f = none) : f_goOn f = f := by unfold f_goOn; rw [h]
theorem goOn_459 (f : Row) : tno (f_goOn f) = tno f := by
  refine tno_of ?_
  unfold f_goOn
  cases f_to f with
  | none => rfl
  | some k => exact upd_ne (by decide)
theorem Rng.jump1 (hI : Rng f) : Rng (f_jump1 f) := by
  have h := hI.goOn
  have hth := h.tlt
  unfold f_jump1
  simp only []
  split
  · exact h.pull (m := 8) (by omega) (by decide) (by decide)
  · exact h
theorem Rng.jump : ∀ k {f : Row}, Rng f → Rng (f_jump k f).1
  | 0, _, h => h
  | k + 1, f, h => by
    unfold f_jump
    split
    · exact Rng.jump k h.jump1
    · exact h
theorem Rng.turn (hI : Rng f) (q : Nat) : Rng (f_turn f q) := (hI.s458 (Nat.mod_lt _ (by decide))).free (Or.inl (Or.inl rfl))
theorem Rng.cut (hI : Rng f) (ht : 0 < tno f) : Rng (f_cut f) :=
  (((hI.draw (c := tno f - 1) (m := 20) (by have := hI.tlt; omega) (by decide) (by decide)).s459 (by decide)).free (Or.inl (Or.inl rfl)))
theorem Rng.thread (hI : Rng f) (hc : c < 5) : Rng (f_thread f c) := by
  unfold f_thread
  simp only []
  have h : Rng (if 0 < tno f then f_cut f else f) := by
    split
    · next h => exact hI.cut h
    · exact hI
  exact (((h.draw (m := 20) hc (by decide) (by decide)).s459 (by omega)).free (Or.inl (Or.inl rfl)))
theorem Rng.ease (hI : Rng f) (ht : 0 < tno f) : Rng (f_ease f) :=
  (hI.draw (c := tno f - 1) (m := 10) (by have := hI.tlt; omega) (by decide) (by decide)).free (Or.inl (Or.inl rfl))
theorem Rng.lp5 (hI : Rng f) (hj : j < 144) (hl : hasL (f (144 + j)) = true) : gv f (144 + j) - 1 < 5 := by
  have := hasL_gv (hI.2.1 j hj) hl
  omega
theorem Rng.unpick (hI : Rng f) (hj : j < 144) (hl : hasL (f (144 + j)) = true) : Rng (f_unpick f j) :=
  (hI.free (Or.inr ⟨gv f (144 + j) - 1, hI.lp5 hj hl, by omega⟩)).cellN hj (Or.inl (rfl : 0 = 0))
theorem Rng.shear1 {h : Nat} (hI : Rng f) (hj : j < 144) (hl : hasL (f (144 + j)) = true) (hh : h < 10) (h0 : 0 < h) : Rng (f_shear1 f j (nI h)) :=
  (hI.free (Or.inr ⟨gv f (144 + j) - 1, hI.lp5 hj hl, by omega⟩)).high hj hh h0
theorem Rng.shear {h : Nat} (hh : h < 10) (h0 : 0 < h) : ∀ j, j ≤ 144 → ∀ {f : Row}, Rng f → Rng (f_shear (nI h) j f).1
  | 0, _, _, hf => hf
  | j + 1, hj, f, hf => by
    have ih := Rng.shear hh h0 j (by omega) hf
    unfold f_shear
    simp only []
    split
    · next hc =>
      unfold f_shearC at hc
      simp only [Bool.and_eq_true] at hc
      exact ih.shear1 (by omega) hc.1 hh h0
    · exact ih
theorem Rng.mend (hI : Rng f) (hj : j < 144) (hm : missF f j = true) : Rng (f_mend f j) := by
  obtain ⟨p1, p2, p3⟩ := hI.plan hj hm
  obtain ⟨t, th, tl, t0⟩ := hI.hte
  obtain ⟨y, yh, yl⟩ := hI.yarn
  unfold f_mend
  rw [yh]
  have e := (hI.draw (c := gv f j - 1) (m := y) (what := 0) (by omega) (by omega) (by decide)).loop hj (v := gv f j) (by omega) th tl t0
  rw [← (hI.1 j hj).1] at e
  exact e
variable {M0 : Hp}
theorem q_sew_end {n d : Nat}  : WP mX4_sewUpTo 4 [some (.ref a), some (.int (nI n)), some (.int (nI (d))), some (.int (bI false))] [] M z 0 0 (gD (some (.int (nI d))) M z) := by
  refine g_iload_3 dX4_sewUpTo_4 ?_
  refine g_if_eqB (tgt := 35) dX4_sewUpTo_5 (by decide) (fun _ => ?_) (fun h5 => absurd h5 (by decide))
  refine g_iload_2 dX4_sewUpTo_35 ?_
  exact g_ireturn rfl rfl dX4_sewUpTo_36 (Nat.le_of_ble_eq_true rfl) (Nat.le_of_ble_eq_true rfl) (gDi rfl)
theorem wp_mono {m : GM} {pc k n : Nat} {L : List (Option Value)} {st : List Value} {Φ Φ' : GR → Hp → Nat → Prop} (h : WP m pc L st M z k n Φ) (hi : ∀ r M' z', Φ r M' z' → Φ' r M' z') : WP m pc L st M z k n Φ' := by
  intro D dA base p l e s mid args below meth c C H locs ls hR hS hL T hT X
  obtain ⟨t, a1, o, b1, b2, hQ⟩ := h D dA base p l e s mid args below meth c C H locs ls hR hS hL T hT X
  refine ⟨t, a1, o, b1, b2, ?_⟩
  rcases hQ with ⟨⟨⟨r, M', z', e1, e2, e3⟩, hF⟩, hfr⟩ | ⟨q, e0, E, ce, Ls, ⟨⟨M', z', e1, e2⟩, hF⟩, hrest⟩
  · exact Or.inl ⟨⟨⟨r, M', z', e1, hi _ _ _ e2, e3⟩, hF⟩, hfr⟩
  · exact Or.inr ⟨q, e0, E, ce, Ls, ⟨⟨M', z', hi _ _ _ e1, e2⟩, hF⟩, hrest⟩
theorem RugF.ao (h : RugF M a f) : ∃ L, M a = some (.inr (4, L)) := by obtain ⟨R, ln, sg, hA, -⟩ := h; exact ⟨_, hA.1⟩
theorem q_sew_loop {n : Nat} (hn : n < 2 ^ 31) : ∀ k d {f : Row} {M : Hp}, RugF M a f → Rng f → d + k = n → Out M0 M a 20 → WP mX4_sewUpTo 4 [some (.ref a), some (.int (nI n)), some (.int (nI (d))), some (.int (bI true))] [] M z 0 0 (Mut (some (.int (nI (d + (f_sew k f).2)))) M0 a (f_sew k f).1 z) := by
  intro k
  induction k with
  | zero =>
    intro d f M hF hI hd hO
    refine g_iload_3 dX4_sewUpTo_4 ?_
    refine g_if_eqB (tgt := 35) dX4_sewUpTo_5 (by decide)  (fun h5 => absurd h5 (by decide)) (fun _ => ?_)
    refine g_iload_2 dX4_sewUpTo_8 ?_
    refine g_iload_1 dX4_sewUpTo_9 ?_
    refine g_icmp_geN (tgt := 35) dX4_sewUpTo_10 (by decide) (by omega) (by omega) (fun _ => ?_) (fun h10 => absurd h10 (by omega))
    refine g_iload_2 dX4_sewUpTo_35 ?_
    exact g_ireturn rfl rfl dX4_sewUpTo_36 (Nat.le_of_ble_eq_true rfl) (Nat.le_of_ble_eq_true rfl) ⟨rfl, hF, hO, rfl⟩
  | succ k ih =>
    intro d f M hF hI hd hO
    have hlt := noSt_lt f
    obtain ⟨_, hao⟩ := hF.ao
    refine g_iload_3 dX4_sewUpTo_4 ?_
    refine g_if_eqB (tgt := 35) dX4_sewUpTo_5 (by decide)  (fun h5 => absurd h5 (by decide)) (fun _ => ?_)
    refine g_iload_2 dX4_sewUpTo_8 ?_
    refine g_iload_1 dX4_sewUpTo_9 ?_
    refine g_icmp_geN (tgt := 35) dX4_sewUpTo_10 (by decide) (by omega) (by omega) (fun h10 => absurd h10 (by omega)) (fun _ => ?_)
    refine g_aload_0 dX4_sewUpTo_13 ?_
    refine g_v0_1 dX4_sewUpTo_14 (vX4_85 rfl) rfl (by assumption) (Nat.le_of_ble_eq_true rfl) ⟨rfl, rfl⟩ (Nat.le_of_ble_eq_true rfl) (Nat.le_of_ble_eq_true rfl) (q_reasonStitch hF hI) ?_
    refine g_if_neN (tgt := 35) dX4_sewUpTo_17 (by decide) (by omega) (fun h17 => ?_) (fun h17 => ?_)
    · have es : f_sew (k + 1) f = (f, 0) := by
        simp only [f_sew]; rw [if_neg h17]
      refine g_iload_2 dX4_sewUpTo_35 ?_
      exact g_ireturn rfl rfl dX4_sewUpTo_36 (Nat.le_of_ble_eq_true rfl) (Nat.le_of_ble_eq_true rfl) ⟨by rw [es]; rfl, by rw [es]; exact hF, hO, rfl⟩
    · have ht0 := noSt_t h17
      obtain ⟨c, ht⟩ : ∃ c, tno f = c + 1 := ⟨tno f - 1, by omega⟩
      have i1 := hI.punch ht0
      refine g_aload_0 dX4_sewUpTo_20 ?_
      refine g_v0 dX4_sewUpTo_21 (vX4_89 rfl) rfl (by assumption) (Nat.le_of_ble_eq_true rfl) (Nat.le_of_ble_eq_true rfl) (Nat.le_of_ble_eq_true rfl) (q_punch hF hI ht) (fun r M2 z2 hq => ?_) (fun E M2 z2 hq => by obtain ⟨hq, -⟩ := hq; cases hq)
      obtain ⟨hr, hF1, hO1, rfl⟩ := hq
      cases hr
      obtain ⟨_, hao1⟩ := hF1.ao
      refine g_iincN_2 (q := 1) rfl dX4_sewUpTo_24 rfl ?_
      refine g_aload_0 dX4_sewUpTo_27 ?_
      refine g_v0 dX4_sewUpTo_28 (vX4_92 rfl) rfl (by assumption) (Nat.le_of_ble_eq_true rfl) (Nat.le_of_ble_eq_true rfl) (Nat.le_of_ble_eq_true rfl) (q_goOn hF1 i1) (fun r M2 z2 hq => ?_) (fun E M2 z2 hq => by obtain ⟨hq, -⟩ := hq; cases hq)
      obtain ⟨hr, hF2, hO2, rfl⟩ := hq
      cases hr
      refine g_istore_3 rfl dX4_sewUpTo_31 ?_
      refine g_goto (tgt := 4) dX4_sewUpTo_32 (by decide) ?_
      cases hto : (f_to (f_punch f)).isSome with
      | true =>
        have es : f_sew (k + 1) f = ((f_sew k (f_goOn (f_punch f))).1, (f_sew k (f_goOn (f_punch f))).2 + 1) := by
          simp only [f_sew]; rw [if_pos h17, if_pos hto]
        rw [es]
        have e := ih (d + 1) hF2 i1.goOn (by omega) ((hO.tr hO1).tr hO2)
        rw [show d + 1 + (f_sew k (f_goOn (f_punch f))).2 = d + ((f_sew k (f_goOn (f_punch f))).2 + 1) by omega] at e
        exact e
      | false =>
        have es : f_sew (k + 1) f = (f_punch f, 1) := by
          simp only [f_sew]; rw [if_pos h17, if_neg (by rw [hto]; decide)]
        rw [es]
        have hn : f_to (f_punch f) = none := by simpa using hto
        rw [goOn_to _ hn] at hF2
        exact wp_mono q_sew_end (by rintro r M' z' ⟨rfl, rfl, rfl⟩; exact ⟨rfl, hF2, (hO.tr hO1).tr hO2, rfl⟩)
theorem q_sewUpTo {n : Nat} (hF : RugF M a f) (hI : Rng f) (hn : n < 2 ^ 31) : Runs mX4_sewUpTo [.ref a, .int (nI n)] M z (Mut (some (.int (nI (f_sew n f).2))) M a (f_sew n f).1 z) := by
  refine runs_of plX4 rfl (Nat.le_of_ble_eq_true rfl) ?_
  show WP mX4_sewUpTo 0 [some (.ref a), some (.int (nI n)), none, none] [] M z 0 0 _
  refine g_iconst (v := nI 0) dX4_sewUpTo_0 rfl ?_
  refine g_istore_2 rfl dX4_sewUpTo_1 ?_
  refine g_iconst (v := nI 1) dX4_sewUpTo_2 rfl ?_
  refine g_istore_3 rfl dX4_sewUpTo_3 ?_
  have e := q_sew_loop (M0 := M) (z := z) (a := a) hn n 0 hF hI (by omega) Out.rf
  rw [Nat.zero_add] at e
  exact e
end P21

section P67
variable {M M0 : Hp} {z lo a n len j c i s : Nat} {f : Row} {h : Nat → Row} {sv : Nat → Option Row} {g : Nat → Nat} {x y w0 w1 w2 : Int32} {Φ : GR → Hp → Nat → Prop}
theorem cm_lt {x y : Int32} (h : ¬ x < y) (q : x < y) {P : Prop} : P := absurd q h
theorem nI_xn {x : Int32} {N : Nat} (hN : N < 2 ^ 31) (hx : x < 0 ∨ nI N ≤ x) (h0 : ¬ x < 0) (h1 : x < nI N) : False := by
  rcases hx with q | q
  · exact h0 q
  · exact absurd h1 (Int32.not_lt.mpr q)
theorem enc_fin {c : Nat} {q : Int} (hc : c < 2 ^ 53) (hq : q ≤ FP.Core.b64.qmax) : FP.Core.encode FP.Core.b64 (.fin false c q) ≤ 9218868437227405312 := by
  have e1 : FP.Core.b64.tails = 4503599627370496 := by decide
  have e2 : FP.Core.b64.exps = 2048 := by decide
  have e3 : FP.Core.b64.qmin = -1074 := by decide
  have e4 : FP.Core.b64.qmax = 971 := by decide
  rw [e4] at hq
  simp only [FP.Core.encode, FP.Core.assemble, e1, e2, e3]
  split
  · simp only [Bool.toNat_false]
    omega
  · have : (q - -1074).toNat ≤ 2045 := by omega
    simp only [Bool.toNat_false]
    omega
theorem enc_bound {c : Nat} {q : Int} (hc : c < 2 ^ 53) : FP.Core.encode FP.Core.b64 (FP.Core.bound FP.Core.b64 false c q) ≤ 9218868437227405312 := by
  unfold FP.Core.bound
  split
  · next h => exact enc_fin hc h
  · decide
theorem enc_ratio {c d : Nat} {q : Int} : FP.Core.encode FP.Core.b64 (FP.Core.roundRatio FP.Core.b64 false c d q) ≤ 9218868437227405312 := by
  unfold FP.Core.roundRatio
  split
  · exact enc_fin (by decide) (by decide)
  · unfold FP.Core.roundAt FP.Core.settle
    split
    · next h => exact enc_bound h
    · exact enc_bound (by decide)
theorem vf_ofNat {x : Nat} (h : x ≤ 9218868437227405312) : vf_n64 (UInt64.ofNat x) := by
  unfold vf_n64
  rw [UInt64.le_iff_toNat_le, UInt64.toNat_and]
  refine Nat.le_trans Nat.and_le_left ?_
  rw [UInt64.toNat_ofNat]
  exact Nat.le_trans (Nat.mod_le _ _) h
/-- what a small whole number is, as a double -/
def dfin (n : Nat) : Bool := match FP.Core.decode FP.Core.b64 (FP.i2d (nI n)).toNat with
  | .fin s c _ => !s && (decide (c = 0) == decide (n = 0))
  | _ => false
theorem dfin_all : ∀ n, n < 1297 → dfin n = true := by decide +kernel
theorem dfin_at {n : Nat} (hn : n < 1297) : ∃ c q, FP.Core.decode FP.Core.b64 (FP.i2d (nI n)).toNat = .fin false c q ∧ (c = 0 ↔ n = 0) := by
  have h := dfin_all n hn
  unfold dfin at h
  cases e : FP.Core.decode FP.Core.b64 (FP.i2d (nI n)).toNat with
  | nan => rw [e] at h; cases h
  | inf s => rw [e] at h; cases h
  | fin s c q =>
    rw [e] at h
    simp only [Bool.and_eq_true, Bool.not_eq_true', beq_iff_eq, decide_eq_decide] at h
    obtain ⟨rfl, h2⟩ := h
    exact ⟨c, q, rfl, h2⟩
theorem vf_div {s n : Nat} (hs : s < 1297) (hn : n < 1297) (h0 : n ≠ 0) : vf_n64 (FP.ddiv (FP.i2d (nI s)) (FP.i2d (nI n))) := by
  obtain ⟨c, q, e1, -⟩ := dfin_at hs
  obtain ⟨d, r, e2, e3⟩ := dfin_at hn
  refine vf_ofNat ?_
  show FP.Core.encode FP.Core.b64 (FP.Core.quotient FP.Core.b64 (FP.Core.decode FP.Core.b64 (FP.i2d (nI s)).toNat) (FP.Core.decode FP.Core.b64 (FP.i2d (nI n)).toNat)) ≤ _
  rw [e1, e2]
  show FP.Core.encode FP.Core.b64 (if d = 0 then (if c = 0 then .nan else .inf (false != false)) else FP.Core.roundRatio FP.Core.b64 (false != false) c d (q - r)) ≤ _
  rw [if_neg (fun w => h0 (e3.mp w))]
  exact enc_ratio
theorem vf_dens : ∀ n, n < 145 → (FP.fdiv (FP.i2f (nI n)) 1125122048) &&& 0x7fffffff ≤ 0x7f800000 := by decide +kernel
theorem vf_dens2 : ∀ n, n < 145 → (FP.f2d (FP.fdiv (FP.i2f (nI n)) 1125122048)) &&& 0x7fffffffffffffff ≤ 0x7ff0000000000000 := by decide +kernel
theorem c_needCell_ok (hj : j < 144) : Runs mX7_needCell [.int (nI j)] M z (gD none M z) := by
  refine runs_of plX7 rfl (Nat.le_of_ble_eq_true rfl) ?_
  show WP mX7_needCell 0 [some (.int (nI j))] [] M z 0 0 _
  refine g_iload_0 dX7_needCell_0 ?_
  refine g_if_ltN (tgt := 11) dX7_needCell_1 (by decide) (by omega) ?_
  refine g_iload_0 dX7_needCell_4 ?_
  refine g_sipush (v := nI 144) dX7_needCell_5 rfl ?_
  refine g_icmp_ltN (tgt := 22) dX7_needCell_8 (by decide) (by omega) (by omega) (fun _ => ?_) (fun h8 => absurd h8 (by omega))
  exact g_return rfl dX7_needCell_22 (Nat.le_of_ble_eq_true rfl) (Nat.le_of_ble_eq_true rfl) ⟨rfl, rfl, rfl⟩
theorem c_needCell_x (hx : x < 0 ∨ nI 144 ≤ x) : Runs mX7_needCell [.int x] M z (gE IOE M z) := by
  refine runs_of plX7 rfl (Nat.le_of_ble_eq_true rfl) ?_
  show WP mX7_needCell 0 [some (.int x)] [] M z 0 0 _
  refine g_iload_0 dX7_needCell_0 ?_
  refine g_if_lt (tgt := 11) dX7_needCell_1 (by decide)  (fun h1 => ?_) (fun h1 => ?_)
  · exact g_throw (tX7_313 rfl) rfl dX7_needCell_11 dX7_needCell_14 (Or.inr ⟨dX7_needCell_15, dX7_needCell_18, dX7_needCell_21⟩) (Nat.le_of_ble_eq_true rfl) (Nat.le_of_ble_eq_true rfl) (Nat.le_of_ble_eq_true rfl) (Nat.le_of_ble_eq_true rfl) (fun z2 hz2 => ⟨rfl, rfl, hz2⟩)
  · refine g_iload_0 dX7_needCell_4 ?_
    refine g_sipush (v := nI 144) dX7_needCell_5 rfl ?_
    refine g_icmp_lt (tgt := 22) dX7_needCell_8 (by decide)  (fun h8 => (nI_xn (by decide) hx h1 h8).elim) (fun _ => ?_)
    exact g_throw (tX7_313 rfl) rfl dX7_needCell_11 dX7_needCell_14 (Or.inr ⟨dX7_needCell_15, dX7_needCell_18, dX7_needCell_21⟩) (Nat.le_of_ble_eq_true rfl) (Nat.le_of_ble_eq_true rfl) (Nat.le_of_ble_eq_true rfl) (Nat.le_of_ble_eq_true rfl) (fun z2 hz2 => ⟨rfl, rfl, hz2⟩)
theorem c_needColour_ok (hj : j < 5) : Runs mX7_needColour [.int (nI j)] M z (gD none M z) := by
  refine runs_of plX7 rfl (Nat.le_of_ble_eq_true rfl) ?_
  show WP mX7_needColour 0 [some (.int (nI j))] [] M z 0 0 _
  refine g_iload_0 dX7_needColour_0 ?_
  refine g_if_ltN (tgt := 9) dX7_needColour_1 (by decide) (by omega) ?_
  refine g_iload_0 dX7_needColour_4 ?_
  refine g_iconst (v := nI 5) dX7_needColour_5 rfl ?_
  refine g_icmp_ltN (tgt := 20) dX7_needColour_6 (by decide) (by omega) (by omega) (fun _ => ?_) (fun h6 => absurd h6 (by omega))
  exact g_return rfl dX7_needColour_20 (Nat.le_of_ble_eq_true rfl) (Nat.le_of_ble_eq_true rfl) ⟨rfl, rfl, rfl⟩
theorem c_needColour_x (hx : x < 0 ∨ nI 5 ≤ x) : Runs mX7_needColour [.int x] M z (gE IOE M z) := by
  refine runs_of plX7 rfl (Nat.le_of_ble_eq_true rfl) ?_
  show WP mX7_needColour 0 [some (.int x)] [] M z 0 0 _
  refine g_iload_0 dX7_needColour_0 ?_
  refine g_if_lt (tgt := 9) dX7_needColour_1 (by decide)  (fun h1 => ?_) (fun h1 => ?_)
  · exact g_throw (tX7_315 rfl) rfl dX7_needColour_9 dX7_needColour_12 (Or.inr ⟨dX7_needColour_13, dX7_needColour_16, dX7_needColour_19⟩) (Nat.le_of_ble_eq_true rfl) (Nat.le_of_ble_eq_true rfl) (Nat.le_of_ble_eq_true rfl) (Nat.le_of_ble_eq_true rfl) (fun z2 hz2 => ⟨rfl, rfl, hz2⟩)
  · refine g_iload_0 dX7_needColour_4 ?_
    refine g_iconst (v := nI 5) dX7_needColour_5 rfl ?_
    refine g_icmp_lt (tgt := 20) dX7_needColour_6 (by decide)  (fun h6 => (nI_xn (by decide) hx h1 h6).elim) (fun _ => ?_)
    exact g_throw (tX7_315 rfl) rfl dX7_needColour_9 dX7_needColour_12 (Or.inr ⟨dX7_needColour_13, dX7_needColour_16, dX7_needColour_19⟩) (Nat.le_of_ble_eq_true rfl) (Nat.le_of_ble_eq_true rfl) (Nat.le_of_ble_eq_true rfl) (Nat.le_of_ble_eq_true rfl) (fun z2 hz2 => ⟨rfl, rfl, hz2⟩)
theorem c_needMotif_ok (hj : j < 4) : Runs mX7_needMotif [.int (nI j)] M z (gD none M z) := by
  refine runs_of plX7 rfl (Nat.le_of_ble_eq_true rfl) ?_
  show WP mX7_needMotif 0 [some (.int (nI j))] [] M z 0 0 _
  refine g_iload_0 dX7_needMotif_0 ?_
  refine g_if_ltN (tgt := 9) dX7_needMotif_1 (by decide) (by omega) ?_
  refine g_iload_0 dX7_needMotif_4 ?_
  refine g_iconst (v := nI 4) dX7_needMotif_5 rfl ?_
  refine g_icmp_ltN (tgt := 20) dX7_needMotif_6 (by decide) (by omega) (by omega) (fun _ => ?_) (fun h6 => absurd h6 (by omega))
  exact g_return rfl dX7_needMotif_20 (Nat.le_of_ble_eq_true rfl) (Nat.le_of_ble_eq_true rfl) ⟨rfl, rfl, rfl⟩
theorem c_needMotif_x (hx : x < 0 ∨ nI 4 ≤ x) : Runs mX7_needMotif [.int x] M z (gE IOE M z) := by
  refine runs_of plX7 rfl (Nat.le_of_ble_eq_true rfl) ?_
  show WP mX7_needMotif 0 [some (.int x)] [] M z 0 0 _
  refine g_iload_0 dX7_needMotif_0 ?_
  refine g_if_lt (tgt := 9) dX7_needMotif_1 (by decide)  (fun h1 => ?_) (fun h1 => ?_)
  · exact g_throw (tX7_317 rfl) rfl dX7_needMotif_9 dX7_needMotif_12 (Or.inr ⟨dX7_needMotif_13, dX7_needMotif_16, dX7_needMotif_19⟩) (Nat.le_of_ble_eq_true rfl) (Nat.le_of_ble_eq_true rfl) (Nat.le_of_ble_eq_true rfl) (Nat.le_of_ble_eq_true rfl) (fun z2 hz2 => ⟨rfl, rfl, hz2⟩)
  · refine g_iload_0 dX7_needMotif_4 ?_
    refine g_iconst (v := nI 4) dX7_needMotif_5 rfl ?_
    refine g_icmp_lt (tgt := 20) dX7_needMotif_6 (by decide)  (fun h6 => (nI_xn (by decide) hx h1 h6).elim) (fun _ => ?_)
    exact g_throw (tX7_317 rfl) rfl dX7_needMotif_9 dX7_needMotif_12 (Or.inr ⟨dX7_needMotif_13, dX7_needMotif_16, dX7_needMotif_19⟩) (Nat.le_of_ble_eq_true rfl) (Nat.le_of_ble_eq_true rfl) (Nat.le_of_ble_eq_true rfl) (Nat.le_of_ble_eq_true rfl) (fun z2 hz2 => ⟨rfl, rfl, hz2⟩)
theorem c_needSlot_ok (hj : j < 2) : Runs mX7_needSlot [.int (nI j)] M z (gD none M z) := by
  refine runs_of plX7 rfl (Nat.le_of_ble_eq_true rfl) ?_
  show WP mX7_needSlot 0 [some (.int (nI j))] [] M z 0 0 _
  refine g_iload_0 dX7_needSlot_0 ?_
  refine g_if_ltN (tgt := 9) dX7_needSlot_1 (by decide) (by omega) ?_
  refine g_iload_0 dX7_needSlot_4 ?_
  refine g_iconst (v := nI 2) dX7_needSlot_5 rfl ?_
  refine g_icmp_ltN (tgt := 20) dX7_needSlot_6 (by decide) (by omega) (by omega) (fun _ => ?_) (fun h6 => absurd h6 (by omega))
  exact g_return rfl dX7_needSlot_20 (Nat.le_of_ble_eq_true rfl) (Nat.le_of_ble_eq_true rfl) ⟨rfl, rfl, rfl⟩
theorem c_needSlot_x (hx : x < 0 ∨ nI 2 ≤ x) : Runs mX7_needSlot [.int x] M z (gE IOE M z) := by
  refine runs_of plX7 rfl (Nat.le_of_ble_eq_true rfl) ?_
  show WP mX7_needSlot 0 [some (.int x)] [] M z 0 0 _
  refine g_iload_0 dX7_needSlot_0 ?_
  refine g_if_lt (tgt := 9) dX7_needSlot_1 (by decide)  (fun h1 => ?_) (fun h1 => ?_)
  · exact g_throw (tX7_319 rfl) rfl dX7_needSlot_9 dX7_needSlot_12 (Or.inr ⟨dX7_needSlot_13, dX7_needSlot_16, dX7_needSlot_19⟩) (Nat.le_of_ble_eq_true rfl) (Nat.le_of_ble_eq_true rfl) (Nat.le_of_ble_eq_true rfl) (Nat.le_of_ble_eq_true rfl) (fun z2 hz2 => ⟨rfl, rfl, hz2⟩)
  · refine g_iload_0 dX7_needSlot_4 ?_
    refine g_iconst (v := nI 2) dX7_needSlot_5 rfl ?_
    refine g_icmp_lt (tgt := 20) dX7_needSlot_6 (by decide)  (fun h6 => (nI_xn (by decide) hx h1 h6).elim) (fun _ => ?_)
    exact g_throw (tX7_319 rfl) rfl dX7_needSlot_9 dX7_needSlot_12 (Or.inr ⟨dX7_needSlot_13, dX7_needSlot_16, dX7_needSlot_19⟩) (Nat.le_of_ble_eq_true rfl) (Nat.le_of_ble_eq_true rfl) (Nat.le_of_ble_eq_true rfl) (Nat.le_of_ble_eq_true rfl) (fun z2 hz2 => ⟨rfl, rfl, hz2⟩)
theorem c_needRange_ok (h1 : ¬ x < y) (h2 : x ≤ w0) : Runs mX7_needRange [.int x, .int y, .int w0] M z (gD none M z) := by
  refine runs_of plX7 rfl (Nat.le_of_ble_eq_true rfl) ?_
  show WP mX7_needRange 0 [some (.int x), some (.int y), some (.int w0)] [] M z 0 0 _
  refine g_iload_0 dX7_needRange_0 ?_
  refine g_iload_1 dX7_needRange_1 ?_
  refine g_icmp_lt (tgt := 10) dX7_needRange_2 (by decide)  (fun q => absurd q h1) (fun _ => ?_)
  refine g_iload_0 dX7_needRange_5 ?_
  refine g_iload_2 dX7_needRange_6 ?_
  refine g_icmp_le (tgt := 21) dX7_needRange_7 (by decide)  (fun _ => ?_) (fun h7 => absurd h2 h7)
  exact g_return rfl dX7_needRange_21 (Nat.le_of_ble_eq_true rfl) (Nat.le_of_ble_eq_true rfl) ⟨rfl, rfl, rfl⟩
theorem c_needRange_x (hx : x < y ∨ w0 < x) : Runs mX7_needRange [.int x, .int y, .int w0] M z (gE IAE M z) := by
  refine runs_of plX7 rfl (Nat.le_of_ble_eq_true rfl) ?_
  show WP mX7_needRange 0 [some (.int x), some (.int y), some (.int w0)] [] M z 0 0 _
  refine g_iload_0 dX7_needRange_0 ?_
  refine g_iload_1 dX7_needRange_1 ?_
  refine g_icmp_lt (tgt := 10) dX7_needRange_2 (by decide)  (fun h2 => ?_) (fun h2 => ?_)
  · exact g_throw (tX7_323 rfl) rfl dX7_needRange_10 dX7_needRange_13 (Or.inr ⟨dX7_needRange_14, dX7_needRange_17, dX7_needRange_20⟩) (Nat.le_of_ble_eq_true rfl) (Nat.le_of_ble_eq_true rfl) (Nat.le_of_ble_eq_true rfl) (Nat.le_of_ble_eq_true rfl) (fun z2 hz2 => ⟨rfl, rfl, hz2⟩)
  · refine g_iload_0 dX7_needRange_5 ?_
    refine g_iload_2 dX7_needRange_6 ?_
    refine g_icmp_le (tgt := 21) dX7_needRange_7 (by decide)  (fun h7 => absurd h7 (Int32.not_le.mpr (hx.resolve_left h2))) (fun _ => ?_)
    exact g_throw (tX7_323 rfl) rfl dX7_needRange_10 dX7_needRange_13 (Or.inr ⟨dX7_needRange_14, dX7_needRange_17, dX7_needRange_20⟩) (Nat.le_of_ble_eq_true rfl) (Nat.le_of_ble_eq_true rfl) (Nat.le_of_ble_eq_true rfl) (Nat.le_of_ble_eq_true rfl) (fun z2 hz2 => ⟨rfl, rfl, hz2⟩)
theorem c_needThr_ok (hC : CInv M a lo z f n h sv len g) (hI : Rng f) (ht : 0 < tno f) : Runs mX7_needThreaded [.ref a] M z (gD none M z) := by
  obtain ⟨ho, hF, ⟨ft, hFt⟩, hH, hS, ⟨sc, pl, gr, ti, lv, od, bk, hP⟩, ⟨O, Rq, rc, Cq, hAr⟩, l1, l2⟩ := id hC
  obtain ⟨R, ln, sg, hA, hRel⟩ := id hF
  obtain ⟨r0, r1, r2, ⟨k3, k4, k5, k6, k7⟩, ⟨s0, s1, s2, s3, s4, s5⟩, m1, m2, m3⟩ := id hRel
  have htl := hI.tlt
  refine runs_of plX7 rfl (Nat.le_of_ble_eq_true rfl) ?_
  show WP mX7_needThreaded 0 [some (.ref a)] [] M z 0 0 _
  refine g_aload_0 dX7_needThreaded_0 ?_
  refine g_get dX7_needThreaded_1 (fX7_12 rfl) ho rfl ?_
  refine g_get dX7_needThreaded_4 (fX7_130 rfl) hA.1 rfl ?_
  rw [s2, hI.thr (c := tno f - 1) (by omega)]
  refine g_iconst (v := -1) dX7_needThreaded_7 rfl ?_
  refine g_icmp_ne (tgt := 22) dX7_needThreaded_8 (by decide)  (fun _ => ?_) (fun h8 => absurd h8 (nI_nm1 (by omega)))
  exact g_return rfl dX7_needThreaded_22 (Nat.le_of_ble_eq_true rfl) (Nat.le_of_ble_eq_true rfl) ⟨rfl, rfl, rfl⟩
theorem c_needThr_x (hC : CInv M a lo z f n h sv len g) (hI : Rng f) (ht : tno f = 0) : Runs mX7_needThreaded [.ref a] M z (gE ISE M z) := by
  obtain ⟨ho, hF, ⟨ft, hFt⟩, hH, hS, ⟨sc, pl, gr, ti, lv, od, bk, hP⟩, ⟨O, Rq, rc, Cq, hAr⟩, l1, l2⟩ := id hC
  obtain ⟨R, ln, sg, hA, hRel⟩ := id hF
  obtain ⟨r0, r1, r2, ⟨k3, k4, k5, k6, k7⟩, ⟨s0, s1, s2, s3, s4, s5⟩, m1, m2, m3⟩ := id hRel
  refine runs_of plX7 rfl (Nat.le_of_ble_eq_true rfl) ?_
  show WP mX7_needThreaded 0 [some (.ref a)] [] M z 0 0 _
  refine g_aload_0 dX7_needThreaded_0 ?_
  refine g_get dX7_needThreaded_1 (fX7_12 rfl) ho rfl ?_
  refine g_get dX7_needThreaded_4 (fX7_130 rfl) hA.1 rfl ?_
  rw [s2, hI.thr0 ht]
  refine g_iconst (v := -1) dX7_needThreaded_7 rfl ?_
  refine g_icmp_ne (tgt := 22) dX7_needThreaded_8 (by decide)  (fun h8 => absurd rfl h8) (fun _ => ?_)
  exact g_throw (tX7_309 rfl) rfl dX7_needThreaded_11 dX7_needThreaded_14 (Or.inr ⟨dX7_needThreaded_15, dX7_needThreaded_18, dX7_needThreaded_21⟩) (Nat.le_of_ble_eq_true rfl) (Nat.le_of_ble_eq_true rfl) (Nat.le_of_ble_eq_true rfl) (Nat.le_of_ble_eq_true rfl) (fun z2 hz2 => ⟨rfl, rfl, hz2⟩)
theorem c_needTxt_ok (hC : CInv M a lo z f n h sv len g) (hg : CharsOK g) (hl : len ≤ 120) (ht : TxOK g len) : Runs mX7_needMotifText [.ref a] M z (gD none M z) := by
  obtain ⟨ho, hF, ⟨ft, hFt⟩, hH, hS, ⟨sc, pl, gr, ti, lv, od, bk, hP⟩, ⟨O, Rq, rc, Cq, hAr⟩, l1, l2⟩ := id hC
  obtain ⟨R, ln, sg, hA, hRel⟩ := id hF
  obtain ⟨r0, r1, r2, ⟨k3, k4, k5, k6, k7⟩, ⟨s0, s1, s2, s3, s4, s5⟩, m1, m2, m3⟩ := id hRel
  refine runs_of plX7 rfl (Nat.le_of_ble_eq_true rfl) ?_
  show WP mX7_needMotifText 0 [some (.ref a)] [] M z 0 0 _
  refine g_aload_0 dX7_needMotifText_0 ?_
  refine g_get dX7_needMotifText_1 (fX7_33 rfl) ho rfl ?_
  refine g_v0_1 dX7_needMotifText_4 (vX7_70 rfl) rfl hS.1 (Nat.le_of_ble_eq_true rfl) ⟨rfl, rfl⟩ (Nat.le_of_ble_eq_true rfl) (Nat.le_of_ble_eq_true rfl) (c_firstError hS hg hl) ?_
  refine g_iconst (v := -1) dX7_needMotifText_7 rfl ?_
  refine g_icmp_eq (tgt := 22) dX7_needMotifText_8 (by decide)  (fun _ => ?_) (fun h8 => absurd ht h8)
  exact g_return rfl dX7_needMotifText_22 (Nat.le_of_ble_eq_true rfl) (Nat.le_of_ble_eq_true rfl) ⟨rfl, rfl, rfl⟩
theorem c_needTxt_x (hC : CInv M a lo z f n h sv len g) (hg : CharsOK g) (hl : len ≤ 120) (ht : ¬ TxOK g len) : Runs mX7_needMotifText [.ref a] M z (gE ISE M z) := by
  obtain ⟨ho, hF, ⟨ft, hFt⟩, hH, hS, ⟨sc, pl, gr, ti, lv, od, bk, hP⟩, ⟨O, Rq, rc, Cq, hAr⟩, l1, l2⟩ := id hC
  obtain ⟨R, ln, sg, hA, hRel⟩ := id hF
  obtain ⟨r0, r1, r2, ⟨k3, k4, k5, k6, k7⟩, ⟨s0, s1, s2, s3, s4, s5⟩, m1, m2, m3⟩ := id hRel
  refine runs_of plX7 rfl (Nat.le_of_ble_eq_true rfl) ?_
  show WP mX7_needMotifText 0 [some (.ref a)] [] M z 0 0 _
  refine g_aload_0 dX7_needMotifText_0 ?_
  refine g_get dX7_needMotifText_1 (fX7_33 rfl) ho rfl ?_
  refine g_v0_1 dX7_needMotifText_4 (vX7_70 rfl) rfl hS.1 (Nat.le_of_ble_eq_true rfl) ⟨rfl, rfl⟩ (Nat.le_of_ble_eq_true rfl) (Nat.le_of_ble_eq_true rfl) (c_firstError hS hg hl) ?_
  refine g_iconst (v := -1) dX7_needMotifText_7 rfl ?_
  refine g_icmp_eq (tgt := 22) dX7_needMotifText_8 (by decide)  (fun h8 => absurd h8 ht) (fun _ => ?_)
  exact g_throw (tX7_311 rfl) rfl dX7_needMotifText_11 dX7_needMotifText_14 (Or.inr ⟨dX7_needMotifText_15, dX7_needMotifText_18, dX7_needMotifText_21⟩) (Nat.le_of_ble_eq_true rfl) (Nat.le_of_ble_eq_true rfl) (Nat.le_of_ble_eq_true rfl) (Nat.le_of_ble_eq_true rfl) (fun z2 hz2 => ⟨rfl, rfl, hz2⟩)
theorem c_yarnFL  : Runs mX7_yarnForLoop [.int x] M z (gD (some (.int (f_yarn x))) M z) := by
  refine runs_of plX7 rfl (Nat.le_of_ble_eq_true rfl) ?_
  show WP mX7_yarnForLoop 0 [some (.int x)] [] M z 0 0 _
  refine g_iconst (v := nI 2) dX7_yarnForLoop_0 rfl ?_
  refine g_iload_0 dX7_yarnForLoop_1 ?_
  refine g_imul dX7_yarnForLoop_2 ?_
  refine g_iconst (v := nI 4) dX7_yarnForLoop_3 rfl ?_
  refine g_iadd dX7_yarnForLoop_4 ?_
  exact g_ireturn rfl rfl dX7_yarnForLoop_5 (Nat.le_of_ble_eq_true rfl) (Nat.le_of_ble_eq_true rfl) ⟨rfl, rfl, rfl⟩
theorem Rel.cR {R : Nat → Row} {ln : Nat → Nat} {sg : Nat → Nat → Nat} (hr : Rel R ln sg f) (hI : Rng f) : cnt (fun i => decide (0 ≤ R 1 i)) 144 = cnt (fun i => hasL (f (144 + i))) 144 := cnt_congr (fun i hi => by
  have hb := hI.2.1 i hi
  show decide (0 ≤ R 1 i) = hasL (f (144 + i))
  rw [hr.2.1 i hi, hb.1]
  exact Bool.eq_iff_iff.mpr (by rw [decide_eq_true_iff]; exact (lp_num _ hb.2).2.2.2))
theorem dl_sub : ∀ v, v < 7 → ∀ w, w < 6 → ((decide (0 ≤ dl (nI v)) && decide (dl (nI v) = nI w - nI 1)) = (hasL (nI v) && decide (nI v = nI w))) := by decide +kernel
theorem Rel.cRight {R : Nat → Row} {ln : Nat → Nat} {sg : Nat → Nat → Nat} (hr : Rel R ln sg f) (hI : Rng f) : cnt (fun i => decide (0 ≤ R 1 i) && decide (R 1 i = R 0 i)) 144 = cnt (fun i => hasL (f (144 + i)) && decide (f (144 + i) = f i)) 144 := cnt_congr (fun i hi => by
  have hb := hI.2.1 i hi
  have hp := hI.1 i hi
  show (decide (0 ≤ R 1 i) && decide (R 1 i = R 0 i)) = (hasL (f (144 + i)) && decide (f (144 + i) = f i))
  rw [hr.2.1 i hi, hr.1 i hi, hb.1, hp.1]
  exact dl_sub _ hb.2 _ hp.2)
theorem Rel.cMiss {R : Nat → Row} {ln : Nat → Nat} {sg : Nat → Nat → Nat} (hr : Rel R ln sg f) (hI : Rng f) : cnt (missB (R 0) (R 1)) 144 = cnt (missF f) 144 := cnt_congr (fun i hi => hr.miss hI hi)
theorem Rel.cSkip {R : Nat → Row} {ln : Nat → Nat} {sg : Nat → Nat → Nat} (hr : Rel R ln sg f) (hI : Rng f) : cnt (fun i => decide (R 1 i = -2)) 144 = cnt (fun i => decide (f (144 + i) = nI 6)) 144 := cnt_congr (fun i hi => by
  have hb := hI.2.1 i hi
  show decide (R 1 i = -2) = decide (f (144 + i) = nI 6)
  rw [hr.2.1 i hi, hb.1]
  have h3 := (lp_num _ hb.2).2.2.1
  rw [decide_eq_decide, h3]
  have := hb.2
  exact ⟨fun e => by rw [e], fun e => (nI_eq (by omega) (by omega)).mp e⟩)
theorem cnt_part {P Q : Nat → Bool} : ∀ n, cnt (fun i => P i && Q i) n + cnt (fun i => P i && !Q i) n = cnt P n
  | 0 => rfl
  | n + 1 => by
    have := cnt_part (P := P) (Q := Q) n
    simp only [cnt]
    by_cases e1 : P n = true <;> by_cases e2 : Q n = true <;> simp [e1, e2] <;> omega
def wrongF (f : Row) (i : Nat) : Bool := hasL (f (144 + i)) && !decide (f (144 + i) = f i)
theorem wrong_eq : nI (cnt (fun i => hasL (f (144 + i))) 144) - nI (cnt (fun i => hasL (f (144 + i)) && decide (f (144 + i) = f i)) 144) = nI (cnt (wrongF f) 144) := by
  have e := cnt_part (P := fun i => hasL (f (144 + i))) (Q := fun i => decide (f (144 + i) = f i)) 144
  have e' : cnt (wrongF f) 144 = cnt (fun i => hasL (f (144 + i)) && !decide (f (144 + i) = f i)) 144 := rfl
  rw [pk_sub (by omega), e']
  congr 1
  omega
theorem sub1_eq {x : Int32} {c : Nat} : (x - nI 1 = nI c) ↔ x = nI (c + 1) := by
  rw [← nI_pm c]
  constructor
  · intro e
    grind
  · intro e
    rw [e]
def needF (f : Row) (c : Nat) : Nat → Bool := fun i => decide (f i = nI (c + 1)) && missF f i
theorem Rel.cNeed {R : Nat → Row} {ln : Nat → Nat} {sg : Nat → Nat → Nat} (hr : Rel R ln sg f) (hI : Rng f) : cnt (fun i => decide (R 0 i = nI c) && missB (R 0) (R 1) i) 144 = cnt (needF f c) 144 := cnt_congr (fun i hi => by
  show (decide (R 0 i = nI c) && missB (R 0) (R 1) i) = (decide (f i = nI (c + 1)) && missF f i)
  rw [hr.miss hI hi, hr.1 i hi]
  congr 1
  exact decide_eq_decide.mpr sub1_eq)
theorem Rel.fit {R : Nat → Row} {ln : Nat → Nat} {sg : Nat → Nat → Nat} (hr : Rel R ln sg f) (hI : Rng f) (hi : i < 144) : fitP (R 0) (R 1) (nI c) i = needF f c i := by
  show (decide (R 0 i = nI c) && missB (R 0) (R 1) i) = (decide (f i = nI (c + 1)) && missF f i)
  rw [hr.miss hI hi, hr.1 i hi]
  congr 1
  exact decide_eq_decide.mpr sub1_eq
theorem IsNear.cong {P Q : Nat → Bool} {far : Nat → Nat} {v : Int32} (hq : ∀ k, k < 144 → P k = Q k) (h : IsNear P far v) : IsNear Q far v := by
  rcases h with ⟨h1, h2⟩ | ⟨b, h1, h2, h3, h4⟩
  · exact Or.inl ⟨h1, fun k hk => by rw [← hq k hk]; exact h2 k hk⟩
  · exact Or.inr ⟨b, h1, h2, by rw [← hq b h1]; exact h3, fun k hk hp => h4 k hk (by rw [hq k hk]; exact hp)⟩
theorem NearM.ex (P : Nat → Bool) (far : Nat → Nat) : ∀ i, i ≤ 144 → ∃ v l, NearM P far i v l
  | 0, _ => ⟨-1, 0, Or.inl ⟨rfl, rfl, fun k hk => absurd hk (Nat.not_lt_zero _)⟩⟩
  | i + 1, hi => by
    obtain ⟨v, l, hN⟩ := NearM.ex P far i (by omega)
    by_cases hp : P i = true
    · by_cases hv : v = -1 ∨ far i < l
      · exact ⟨_, _, hN.take (by omega) hp hv⟩
      · exact ⟨v, l, hN.keep (Or.inr ⟨fun e => hv (Or.inl e), by have := fun q => hv (Or.inr q); omega⟩)⟩
    · exact ⟨v, l, hN.keep (Or.inl (by simpa using hp))⟩
theorem IsNear.ex (P : Nat → Bool) (far : Nat → Nat) : ∃ v, IsNear P far v := by
  obtain ⟨v, l, h⟩ := NearM.ex P far 144 (Nat.le_refl _)
  exact ⟨v, h.fin⟩
noncomputable def nearV (P : Nat → Bool) (far : Nat → Nat) : Int32 := Classical.choose (IsNear.ex P far)
theorem nearV_eq {P : Nat → Bool} {far : Nat → Nat} {v : Int32} (h : IsNear P far v) : v = nearV P far := h.uniq (Classical.choose_spec (IsNear.ex P far))
theorem pE_gD {m : GM} {as : List Value} {P : Nat → Bool} {far : Nat → Nat} (h : Runs m as M z (pE (IsNear P far) M z)) : Runs m as M z (gD (some (.int (nearV P far))) M z) := c_mono h (fun r M' z' hq => by
  obtain ⟨v, hv, h1, h2, h3⟩ := hq
  exact ⟨by rw [h1, nearV_eq hv], h2, h3⟩)
def hgtF (f : Row) (i : Nat) : Int32 := if hasL (f (144 + i)) then f (288 + i) else nI 0
theorem Rel.cSum {R : Nat → Row} {ln : Nat → Nat} {sg : Nat → Nat → Nat} (hr : Rel R ln sg f) : sumI (R 2) 144 = sumI (hgtF f) 144 := sumI_congr (fun i hi => hr.2.2.1 i hi)
def sumN (f : Row) : Nat → Nat
  | 0 => 0
  | n + 1 => sumN f n + (if hasL (f (144 + n)) then gv f (288 + n) else 0)
theorem sum_num (hI : Rng f) : ∀ n, n ≤ 144 → sumI (hgtF f) n = nI (sumN f n) ∧ sumN f n ≤ 9 * n ∧ (sumN f n = 0 ↔ cnt (fun i => hasL (f (144 + i))) n = 0)
  | 0, _ => ⟨rfl, Nat.le_refl _, by simp [sumN, cnt]⟩
  | n + 1, hn => by
    obtain ⟨h1, h2, h3⟩ := sum_num hI n (by omega)
    simp only [sumI, sumN, cnt, h1, hgtF]
    by_cases hl : hasL (f (144 + n)) = true
    · obtain ⟨⟨b1, b2⟩, b3⟩ := hI.2.2.1 n (by omega) hl
      rw [if_pos hl, if_pos hl, if_pos hl]
      refine ⟨by rw [← nI_add]; exact congrArg _ b1, by omega, by omega⟩
    · rw [if_neg hl, if_neg hl, if_neg hl]
      exact ⟨by rw [nI_add], by omega, by omega⟩
theorem Rel.cYarn {R : Nat → Row} {ln : Nat → Nat} {sg : Nat → Nat → Nat} (hr : Rel R ln sg f) (hI : Rng f) (hc : c < 5) : sumI (fun i => if R 1 i = nI c then nI 2 * R 2 i + nI 4 else nI 0) 144 = smC f c 144 := by
  have e : ∀ n, n ≤ 144 → sumI (fun i => if R 1 i = nI c then nI 2 * R 2 i + nI 4 else nI 0) n = smC f c n := by
    intro n
    induction n with
    | zero => intro _; rfl
    | succ n ih =>
      intro hn
      have hb := hI.2.1 n (by omega)
      have e1 : (if R 1 n = nI c then nI 2 * R 2 n + nI 4 else nI 0) = trm f c n := by
        unfold trm
        rw [hr.2.1 n (by omega), hr.2.2.1 n (by omega)]
        by_cases q : f (144 + n) = nI (c + 1)
        · rw [if_pos q, q, (dl_loop hc).1, if_pos rfl, (dl_loop hc).2, if_pos rfl]
          rfl
        · rw [if_neg q, if_neg]
          · rfl
          · intro w
            refine q ?_
            rw [hb.1] at w ⊢
            rw [dl_num _ hb.2] at w
            have := hb.2
            split at w
            · exact absurd w.symm (nI_nm1 (by omega))
            · split at w
              · exact absurd w (fun w => absurd w.symm (by intro w2; have := (Int32.toInt_inj.mpr w2); rw [nI_toInt (by omega)] at this; revert this; show ¬ ((c : Int) = -2); omega))
              · have := (nI_eq (by omega) (by omega)).mp w
                exact congrArg _ (by omega)
      show sumI _ n + (if R 1 n = nI c then nI 2 * R 2 n + nI 4 else nI 0) = smC f c n + trm f c n
      rw [ih (by omega), e1]
  exact e 144 (Nat.le_refl _)
theorem c_planOf (hC : CInv M a lo z f n h sv len g) (hI : Rng f) (hj : j < 144) : Runs mX7_planOf [.ref a, .int (nI j)] M z (gD (some (.int (f j - nI 1))) M z) := by
  obtain ⟨ho, hF, ⟨ft, hFt⟩, hH, hS, ⟨sc, pl, gr, ti, lv, od, bk, hP⟩, ⟨O, Rq, rc, Cq, hAr⟩, l1, l2⟩ := id hC
  obtain ⟨R, ln, sg, hA, hRel⟩ := id hF
  obtain ⟨r0, r1, r2, ⟨k3, k4, k5, k6, k7⟩, ⟨s0, s1, s2, s3, s4, s5⟩, m1, m2, m3⟩ := id hRel
  refine runs_of plX7 rfl (Nat.le_of_ble_eq_true rfl) ?_
  show WP mX7_planOf 0 [some (.ref a), some (.int (nI j))] [] M z 0 0 _
  refine g_iload_1 dX7_planOf_0 ?_
  refine g_s1_0r dX7_planOf_1 (sX7_74 rfl) rfl (Nat.le_of_ble_eq_true rfl) (Nat.le_of_ble_eq_true rfl) (Nat.le_of_ble_eq_true rfl) (c_needCell_ok hj) ?_
  refine g_aload_0 dX7_planOf_4 ?_
  refine g_get dX7_planOf_5 (fX7_12 rfl) ho rfl ?_
  refine g_get dX7_planOf_8 (fX7_78 rfl) hA.1 rfl ?_
  refine g_iload_1 dX7_planOf_11 ?_
  refine g_v1_1 dX7_planOf_12 (vX7_82 rfl) rfl hA.2.1.1 (Nat.le_of_ble_eq_true rfl) ⟨rfl, rfl⟩ (Nat.le_of_ble_eq_true rfl) (Nat.le_of_ble_eq_true rfl) (c_planAt hA.2.1 hj) ?_
  rw [r0 j hj]
  exact g_ireturn rfl rfl dX7_planOf_15 (Nat.le_of_ble_eq_true rfl) (Nat.le_of_ble_eq_true rfl) ⟨rfl, rfl, rfl⟩
theorem c_loopOf (hC : CInv M a lo z f n h sv len g) (hI : Rng f) (hj : j < 144) : Runs mX7_loopOf [.ref a, .int (nI j)] M z (gD (some (.int (lpv (dl (f (144 + j)))))) M z) := by
  obtain ⟨ho, hF, ⟨ft, hFt⟩, hH, hS, ⟨sc, pl, gr, ti, lv, od, bk, hP⟩, ⟨O, Rq, rc, Cq, hAr⟩, l1, l2⟩ := id hC
  obtain ⟨R, ln, sg, hA, hRel⟩ := id hF
  obtain ⟨r0, r1, r2, ⟨k3, k4, k5, k6, k7⟩, ⟨s0, s1, s2, s3, s4, s5⟩, m1, m2, m3⟩ := id hRel
  refine runs_of plX7 rfl (Nat.le_of_ble_eq_true rfl) ?_
  show WP mX7_loopOf 0 [some (.ref a), some (.int (nI j))] [] M z 0 0 _
  refine g_iload_1 dX7_loopOf_0 ?_
  refine g_s1_0r dX7_loopOf_1 (sX7_74 rfl) rfl (Nat.le_of_ble_eq_true rfl) (Nat.le_of_ble_eq_true rfl) (Nat.le_of_ble_eq_true rfl) (c_needCell_ok hj) ?_
  refine g_aload_0 dX7_loopOf_4 ?_
  refine g_get dX7_loopOf_5 (fX7_12 rfl) ho rfl ?_
  refine g_get dX7_loopOf_8 (fX7_78 rfl) hA.1 rfl ?_
  refine g_iload_1 dX7_loopOf_11 ?_
  refine g_v1_1 dX7_loopOf_12 (vX7_88 rfl) rfl hA.2.1.1 (Nat.le_of_ble_eq_true rfl) ⟨rfl, rfl⟩ (Nat.le_of_ble_eq_true rfl) (Nat.le_of_ble_eq_true rfl) (c_loopAt hA.2.1 hj) ?_
  rw [r1 j hj]
  exact g_ireturn rfl rfl dX7_loopOf_15 (Nat.le_of_ble_eq_true rfl) (Nat.le_of_ble_eq_true rfl) ⟨rfl, rfl, rfl⟩
theorem c_heightOf (hC : CInv M a lo z f n h sv len g) (hI : Rng f) (hj : j < 144) : Runs mX7_heightOf [.ref a, .int (nI j)] M z (gD (some (.int (hgtF f j))) M z) := by
  obtain ⟨ho, hF, ⟨ft, hFt⟩, hH, hS, ⟨sc, pl, gr, ti, lv, od, bk, hP⟩, ⟨O, Rq, rc, Cq, hAr⟩, l1, l2⟩ := id hC
  obtain ⟨R, ln, sg, hA, hRel⟩ := id hF
  obtain ⟨r0, r1, r2, ⟨k3, k4, k5, k6, k7⟩, ⟨s0, s1, s2, s3, s4, s5⟩, m1, m2, m3⟩ := id hRel
  refine runs_of plX7 rfl (Nat.le_of_ble_eq_true rfl) ?_
  show WP mX7_heightOf 0 [some (.ref a), some (.int (nI j))] [] M z 0 0 _
  refine g_iload_1 dX7_heightOf_0 ?_
  refine g_s1_0r dX7_heightOf_1 (sX7_74 rfl) rfl (Nat.le_of_ble_eq_true rfl) (Nat.le_of_ble_eq_true rfl) (Nat.le_of_ble_eq_true rfl) (c_needCell_ok hj) ?_
  refine g_aload_0 dX7_heightOf_4 ?_
  refine g_get dX7_heightOf_5 (fX7_12 rfl) ho rfl ?_
  refine g_get dX7_heightOf_8 (fX7_78 rfl) hA.1 rfl ?_
  refine g_iload_1 dX7_heightOf_11 ?_
  refine g_v1_1 dX7_heightOf_12 (vX7_91 rfl) rfl hA.2.1.1 (Nat.le_of_ble_eq_true rfl) ⟨rfl, rfl⟩ (Nat.le_of_ble_eq_true rfl) (Nat.le_of_ble_eq_true rfl) (c_heightAt hA.2.1 hj) ?_
  rw [r2 j hj]
  exact g_ireturn rfl rfl dX7_heightOf_15 (Nat.le_of_ble_eq_true rfl) (Nat.le_of_ble_eq_true rfl) ⟨rfl, rfl, rfl⟩
theorem c_isSkipped (hC : CInv M a lo z f n h sv len g) (hI : Rng f) (hj : j < 144) : Runs mX7_isSkipped [.ref a, .int (nI j)] M z (gD (some (.int (bI (decide (f (144 + j) = nI 6))))) M z) := by
  obtain ⟨ho, hF, ⟨ft, hFt⟩, hH, hS, ⟨sc, pl, gr, ti, lv, od, bk, hP⟩, ⟨O, Rq, rc, Cq, hAr⟩, l1, l2⟩ := id hC
  obtain ⟨R, ln, sg, hA, hRel⟩ := id hF
  obtain ⟨r0, r1, r2, ⟨k3, k4, k5, k6, k7⟩, ⟨s0, s1, s2, s3, s4, s5⟩, m1, m2, m3⟩ := id hRel
  refine runs_of plX7 rfl (Nat.le_of_ble_eq_true rfl) ?_
  show WP mX7_isSkipped 0 [some (.ref a), some (.int (nI j))] [] M z 0 0 _
  refine g_iload_1 dX7_isSkipped_0 ?_
  refine g_s1_0r dX7_isSkipped_1 (sX7_74 rfl) rfl (Nat.le_of_ble_eq_true rfl) (Nat.le_of_ble_eq_true rfl) (Nat.le_of_ble_eq_true rfl) (c_needCell_ok hj) ?_
  refine g_aload_0 dX7_isSkipped_4 ?_
  refine g_get dX7_isSkipped_5 (fX7_12 rfl) ho rfl ?_
  refine g_get dX7_isSkipped_8 (fX7_78 rfl) hA.1 rfl ?_
  refine g_iload_1 dX7_isSkipped_11 ?_
  refine g_v1_1 dX7_isSkipped_12 (vX7_94 rfl) rfl hA.2.1.1 (Nat.le_of_ble_eq_true rfl) ⟨rfl, rfl⟩ (Nat.le_of_ble_eq_true rfl) (Nat.le_of_ble_eq_true rfl) (c_skippedAt hA.2.1 hj) ?_
  exact g_ireturn rfl (bI_narrow _) dX7_isSkipped_15 (Nat.le_of_ble_eq_true rfl) (Nat.le_of_ble_eq_true rfl) ⟨by
    have hb := hI.2.1 j hj
    rw [r1 j hj]
    have e : decide (dl (f (144 + j)) = -2) = decide (f (144 + j) = nI 6) := by
      rw [hb.1, decide_eq_decide, (lp_num _ hb.2).2.2.1]
      have := hb.2
      exact ⟨fun e => by rw [e], fun e => (nI_eq (by omega) (by omega)).mp e⟩
    rw [e], rfl, rfl⟩
theorem c_planOf_x (hC : CInv M a lo z f n h sv len g) (hx : x < 0 ∨ nI 144 ≤ x) : Runs mX7_planOf [.ref a, .int x] M z (gE IOE M z) := by
  obtain ⟨ho, hF, ⟨ft, hFt⟩, hH, hS, ⟨sc, pl, gr, ti, lv, od, bk, hP⟩, ⟨O, Rq, rc, Cq, hAr⟩, l1, l2⟩ := id hC
  obtain ⟨R, ln, sg, hA, hRel⟩ := id hF
  obtain ⟨r0, r1, r2, ⟨k3, k4, k5, k6, k7⟩, ⟨s0, s1, s2, s3, s4, s5⟩, m1, m2, m3⟩ := id hRel
  refine runs_of plX7 rfl (Nat.le_of_ble_eq_true rfl) ?_
  show WP mX7_planOf 0 [some (.ref a), some (.int x)] [] M z 0 0 _
  refine g_iload_1 dX7_planOf_0 ?_
  refine g_s1_x dX7_planOf_1 (sX7_74 rfl) rfl (Nat.le_of_ble_eq_true rfl) (Nat.le_of_ble_eq_true rfl) (Nat.le_of_ble_eq_true rfl) (c_needCell_x hx) (fun z2 hz2 => ?_)
  exact x_out rfl (Nat.le_of_ble_eq_true rfl) (Nat.le_of_ble_eq_true rfl) ⟨rfl, rfl, hz2⟩
theorem c_loopOf_x (hC : CInv M a lo z f n h sv len g) (hx : x < 0 ∨ nI 144 ≤ x) : Runs mX7_loopOf [.ref a, .int x] M z (gE IOE M z) := by
  obtain ⟨ho, hF, ⟨ft, hFt⟩, hH, hS, ⟨sc, pl, gr, ti, lv, od, bk, hP⟩, ⟨O, Rq, rc, Cq, hAr⟩, l1, l2⟩ := id hC
  obtain ⟨R, ln, sg, hA, hRel⟩ := id hF
  obtain ⟨r0, r1, r2, ⟨k3, k4, k5, k6, k7⟩, ⟨s0, s1, s2, s3, s4, s5⟩, m1, m2, m3⟩ := id hRel
  refine runs_of plX7 rfl (Nat.le_of_ble_eq_true rfl) ?_
  show WP mX7_loopOf 0 [some (.ref a), some (.int x)] [] M z 0 0 _
  refine g_iload_1 dX7_loopOf_0 ?_
  refine g_s1_x dX7_loopOf_1 (sX7_74 rfl) rfl (Nat.le_of_ble_eq_true rfl) (Nat.le_of_ble_eq_true rfl) (Nat.le_of_ble_eq_true rfl) (c_needCell_x hx) (fun z2 hz2 => ?_)
  exact x_out rfl (Nat.le_of_ble_eq_true rfl) (Nat.le_of_ble_eq_true rfl) ⟨rfl, rfl, hz2⟩
theorem c_heightOf_x (hC : CInv M a lo z f n h sv len g) (hx : x < 0 ∨ nI 144 ≤ x) : Runs mX7_heightOf [.ref a, .int x] M z (gE IOE M z) := by
  obtain ⟨ho, hF, ⟨ft, hFt⟩, hH, hS, ⟨sc, pl, gr, ti, lv, od, bk, hP⟩, ⟨O, Rq, rc, Cq, hAr⟩, l1, l2⟩ := id hC
  obtain ⟨R, ln, sg, hA, hRel⟩ := id hF
  obtain ⟨r0, r1, r2, ⟨k3, k4, k5, k6, k7⟩, ⟨s0, s1, s2, s3, s4, s5⟩, m1, m2, m3⟩ := id hRel
  refine runs_of plX7 rfl (Nat.le_of_ble_eq_true rfl) ?_
  show WP mX7_heightOf 0 [some (.ref a), some (.int x)] [] M z 0 0 _
  refine g_iload_1 dX7_heightOf_0 ?_
  refine g_s1_x dX7_heightOf_1 (sX7_74 rfl) rfl (Nat.le_of_ble_eq_true rfl) (Nat.le_of_ble_eq_true rfl) (Nat.le_of_ble_eq_true rfl) (c_needCell_x hx) (fun z2 hz2 => ?_)
  exact x_out rfl (Nat.le_of_ble_eq_true rfl) (Nat.le_of_ble_eq_true rfl) ⟨rfl, rfl, hz2⟩
theorem c_isSkipped_x (hC : CInv M a lo z f n h sv len g) (hx : x < 0 ∨ nI 144 ≤ x) : Runs mX7_isSkipped [.ref a, .int x] M z (gE IOE M z) := by
  obtain ⟨ho, hF, ⟨ft, hFt⟩, hH, hS, ⟨sc, pl, gr, ti, lv, od, bk, hP⟩, ⟨O, Rq, rc, Cq, hAr⟩, l1, l2⟩ := id hC
  obtain ⟨R, ln, sg, hA, hRel⟩ := id hF
  obtain ⟨r0, r1, r2, ⟨k3, k4, k5, k6, k7⟩, ⟨s0, s1, s2, s3, s4, s5⟩, m1, m2, m3⟩ := id hRel
  refine runs_of plX7 rfl (Nat.le_of_ble_eq_true rfl) ?_
  show WP mX7_isSkipped 0 [some (.ref a), some (.int x)] [] M z 0 0 _
  refine g_iload_1 dX7_isSkipped_0 ?_
  refine g_s1_x dX7_isSkipped_1 (sX7_74 rfl) rfl (Nat.le_of_ble_eq_true rfl) (Nat.le_of_ble_eq_true rfl) (Nat.le_of_ble_eq_true rfl) (c_needCell_x hx) (fun z2 hz2 => ?_)
  exact x_out rfl (Nat.le_of_ble_eq_true rfl) (Nat.le_of_ble_eq_true rfl) ⟨rfl, rfl, hz2⟩
theorem c_whyNoMending_x (hC : CInv M a lo z f n h sv len g) (hx : x < 0 ∨ nI 144 ≤ x) : Runs mX7_whyNoMending [.ref a, .int x] M z (gE IOE M z) := by
  obtain ⟨ho, hF, ⟨ft, hFt⟩, hH, hS, ⟨sc, pl, gr, ti, lv, od, bk, hP⟩, ⟨O, Rq, rc, Cq, hAr⟩, l1, l2⟩ := id hC
  obtain ⟨R, ln, sg, hA, hRel⟩ := id hF
  obtain ⟨r0, r1, r2, ⟨k3, k4, k5, k6, k7⟩, ⟨s0, s1, s2, s3, s4, s5⟩, m1, m2, m3⟩ := id hRel
  refine runs_of plX7 rfl (Nat.le_of_ble_eq_true rfl) ?_
  show WP mX7_whyNoMending 0 [some (.ref a), some (.int x)] [] M z 0 0 _
  refine g_iload_1 dX7_whyNoMending_0 ?_
  refine g_s1_x dX7_whyNoMending_1 (sX7_74 rfl) rfl (Nat.le_of_ble_eq_true rfl) (Nat.le_of_ble_eq_true rfl) (Nat.le_of_ble_eq_true rfl) (c_needCell_x hx) (fun z2 hz2 => ?_)
  exact x_out rfl (Nat.le_of_ble_eq_true rfl) (Nat.le_of_ble_eq_true rfl) ⟨rfl, rfl, hz2⟩
theorem c_areasBySpreading_x (hC : CInv M a lo z f n h sv len g) (hx : x < 0 ∨ nI 5 ≤ x) : Runs mX7_areasBySpreading [.ref a, .int x] M z (gE IOE M z) := by
  obtain ⟨ho, hF, ⟨ft, hFt⟩, hH, hS, ⟨sc, pl, gr, ti, lv, od, bk, hP⟩, ⟨O, Rq, rc, Cq, hAr⟩, l1, l2⟩ := id hC
  obtain ⟨R, ln, sg, hA, hRel⟩ := id hF
  obtain ⟨r0, r1, r2, ⟨k3, k4, k5, k6, k7⟩, ⟨s0, s1, s2, s3, s4, s5⟩, m1, m2, m3⟩ := id hRel
  refine runs_of plX7 rfl (Nat.le_of_ble_eq_true rfl) ?_
  show WP mX7_areasBySpreading 0 [some (.ref a), some (.int x)] [] M z 0 0 _
  refine g_iload_1 dX7_areasBySpreading_0 ?_
  refine g_s1_x dX7_areasBySpreading_1 (sX7_110 rfl) rfl (Nat.le_of_ble_eq_true rfl) (Nat.le_of_ble_eq_true rfl) (Nat.le_of_ble_eq_true rfl) (c_needColour_x hx) (fun z2 hz2 => ?_)
  exact x_out rfl (Nat.le_of_ble_eq_true rfl) (Nat.le_of_ble_eq_true rfl) ⟨rfl, rfl, hz2⟩
theorem c_areasByJoining_x (hC : CInv M a lo z f n h sv len g) (hx : x < 0 ∨ nI 5 ≤ x) : Runs mX7_areasByJoining [.ref a, .int x] M z (gE IOE M z) := by
  obtain ⟨ho, hF, ⟨ft, hFt⟩, hH, hS, ⟨sc, pl, gr, ti, lv, od, bk, hP⟩, ⟨O, Rq, rc, Cq, hAr⟩, l1, l2⟩ := id hC
  obtain ⟨R, ln, sg, hA, hRel⟩ := id hF
  obtain ⟨r0, r1, r2, ⟨k3, k4, k5, k6, k7⟩, ⟨s0, s1, s2, s3, s4, s5⟩, m1, m2, m3⟩ := id hRel
  refine runs_of plX7 rfl (Nat.le_of_ble_eq_true rfl) ?_
  show WP mX7_areasByJoining 0 [some (.ref a), some (.int x)] [] M z 0 0 _
  refine g_iload_1 dX7_areasByJoining_0 ?_
  refine g_s1_x dX7_areasByJoining_1 (sX7_110 rfl) rfl (Nat.le_of_ble_eq_true rfl) (Nat.le_of_ble_eq_true rfl) (Nat.le_of_ble_eq_true rfl) (c_needColour_x hx) (fun z2 hz2 => ?_)
  exact x_out rfl (Nat.le_of_ble_eq_true rfl) (Nat.le_of_ble_eq_true rfl) ⟨rfl, rfl, hz2⟩
theorem c_coneOf_x (hC : CInv M a lo z f n h sv len g) (hx : x < 0 ∨ nI 5 ≤ x) : Runs mX7_coneOf [.ref a, .int x] M z (gE IOE M z) := by
  obtain ⟨ho, hF, ⟨ft, hFt⟩, hH, hS, ⟨sc, pl, gr, ti, lv, od, bk, hP⟩, ⟨O, Rq, rc, Cq, hAr⟩, l1, l2⟩ := id hC
  obtain ⟨R, ln, sg, hA, hRel⟩ := id hF
  obtain ⟨r0, r1, r2, ⟨k3, k4, k5, k6, k7⟩, ⟨s0, s1, s2, s3, s4, s5⟩, m1, m2, m3⟩ := id hRel
  refine runs_of plX7 rfl (Nat.le_of_ble_eq_true rfl) ?_
  show WP mX7_coneOf 0 [some (.ref a), some (.int x)] [] M z 0 0 _
  refine g_iload_1 dX7_coneOf_0 ?_
  refine g_s1_x dX7_coneOf_1 (sX7_110 rfl) rfl (Nat.le_of_ble_eq_true rfl) (Nat.le_of_ble_eq_true rfl) (Nat.le_of_ble_eq_true rfl) (c_needColour_x hx) (fun z2 hz2 => ?_)
  exact x_out rfl (Nat.le_of_ble_eq_true rfl) (Nat.le_of_ble_eq_true rfl) ⟨rfl, rfl, hz2⟩
theorem c_drawnByCone_x (hC : CInv M a lo z f n h sv len g) (hx : x < 0 ∨ nI 5 ≤ x) : Runs mX7_drawnByCone [.ref a, .int x] M z (gE IOE M z) := by
  obtain ⟨ho, hF, ⟨ft, hFt⟩, hH, hS, ⟨sc, pl, gr, ti, lv, od, bk, hP⟩, ⟨O, Rq, rc, Cq, hAr⟩, l1, l2⟩ := id hC
  obtain ⟨R, ln, sg, hA, hRel⟩ := id hF
  obtain ⟨r0, r1, r2, ⟨k3, k4, k5, k6, k7⟩, ⟨s0, s1, s2, s3, s4, s5⟩, m1, m2, m3⟩ := id hRel
  refine runs_of plX7 rfl (Nat.le_of_ble_eq_true rfl) ?_
  show WP mX7_drawnByCone 0 [some (.ref a), some (.int x)] [] M z 0 0 _
  refine g_iload_1 dX7_drawnByCone_0 ?_
  refine g_s1_x dX7_drawnByCone_1 (sX7_110 rfl) rfl (Nat.le_of_ble_eq_true rfl) (Nat.le_of_ble_eq_true rfl) (Nat.le_of_ble_eq_true rfl) (c_needColour_x hx) (fun z2 hz2 => ?_)
  exact x_out rfl (Nat.le_of_ble_eq_true rfl) (Nat.le_of_ble_eq_true rfl) ⟨rfl, rfl, hz2⟩
theorem c_drawnByRug_x (hC : CInv M a lo z f n h sv len g) (hx : x < 0 ∨ nI 5 ≤ x) : Runs mX7_drawnByRug [.ref a, .int x] M z (gE IOE M z) := by
  obtain ⟨ho, hF, ⟨ft, hFt⟩, hH, hS, ⟨sc, pl, gr, ti, lv, od, bk, hP⟩, ⟨O, Rq, rc, Cq, hAr⟩, l1, l2⟩ := id hC
  obtain ⟨R, ln, sg, hA, hRel⟩ := id hF
  obtain ⟨r0, r1, r2, ⟨k3, k4, k5, k6, k7⟩, ⟨s0, s1, s2, s3, s4, s5⟩, m1, m2, m3⟩ := id hRel
  refine runs_of plX7 rfl (Nat.le_of_ble_eq_true rfl) ?_
  show WP mX7_drawnByRug 0 [some (.ref a), some (.int x)] [] M z 0 0 _
  refine g_iload_1 dX7_drawnByRug_0 ?_
  refine g_s1_x dX7_drawnByRug_1 (sX7_110 rfl) rfl (Nat.le_of_ble_eq_true rfl) (Nat.le_of_ble_eq_true rfl) (Nat.le_of_ble_eq_true rfl) (c_needColour_x hx) (fun z2 hz2 => ?_)
  exact x_out rfl (Nat.le_of_ble_eq_true rfl) (Nat.le_of_ble_eq_true rfl) ⟨rfl, rfl, hz2⟩
theorem c_wasteOf_x (hC : CInv M a lo z f n h sv len g) (hx : x < 0 ∨ nI 5 ≤ x) : Runs mX7_wasteOf [.ref a, .int x] M z (gE IOE M z) := by
  obtain ⟨ho, hF, ⟨ft, hFt⟩, hH, hS, ⟨sc, pl, gr, ti, lv, od, bk, hP⟩, ⟨O, Rq, rc, Cq, hAr⟩, l1, l2⟩ := id hC
  obtain ⟨R, ln, sg, hA, hRel⟩ := id hF
  obtain ⟨r0, r1, r2, ⟨k3, k4, k5, k6, k7⟩, ⟨s0, s1, s2, s3, s4, s5⟩, m1, m2, m3⟩ := id hRel
  refine runs_of plX7 rfl (Nat.le_of_ble_eq_true rfl) ?_
  show WP mX7_wasteOf 0 [some (.ref a), some (.int x)] [] M z 0 0 _
  refine g_iload_1 dX7_wasteOf_0 ?_
  refine g_s1_x dX7_wasteOf_1 (sX7_110 rfl) rfl (Nat.le_of_ble_eq_true rfl) (Nat.le_of_ble_eq_true rfl) (Nat.le_of_ble_eq_true rfl) (c_needColour_x hx) (fun z2 hz2 => ?_)
  exact x_out rfl (Nat.le_of_ble_eq_true rfl) (Nat.le_of_ble_eq_true rfl) ⟨rfl, rfl, hz2⟩
theorem c_neededFor_x (hC : CInv M a lo z f n h sv len g) (hx : x < 0 ∨ nI 5 ≤ x) : Runs mX7_neededFor [.ref a, .int x] M z (gE IOE M z) := by
  obtain ⟨ho, hF, ⟨ft, hFt⟩, hH, hS, ⟨sc, pl, gr, ti, lv, od, bk, hP⟩, ⟨O, Rq, rc, Cq, hAr⟩, l1, l2⟩ := id hC
  obtain ⟨R, ln, sg, hA, hRel⟩ := id hF
  obtain ⟨r0, r1, r2, ⟨k3, k4, k5, k6, k7⟩, ⟨s0, s1, s2, s3, s4, s5⟩, m1, m2, m3⟩ := id hRel
  refine runs_of plX7 rfl (Nat.le_of_ble_eq_true rfl) ?_
  show WP mX7_neededFor 0 [some (.ref a), some (.int x)] [] M z 0 0 _
  refine g_iload_1 dX7_neededFor_0 ?_
  refine g_s1_x dX7_neededFor_1 (sX7_110 rfl) rfl (Nat.le_of_ble_eq_true rfl) (Nat.le_of_ble_eq_true rfl) (Nat.le_of_ble_eq_true rfl) (c_needColour_x hx) (fun z2 hz2 => ?_)
  exact x_out rfl (Nat.le_of_ble_eq_true rfl) (Nat.le_of_ble_eq_true rfl) ⟨rfl, rfl, hz2⟩
theorem c_untilKnot_x (hC : CInv M a lo z f n h sv len g) (hx : x < 0 ∨ nI 5 ≤ x) : Runs mX7_untilKnot [.ref a, .int x] M z (gE IOE M z) := by
  obtain ⟨ho, hF, ⟨ft, hFt⟩, hH, hS, ⟨sc, pl, gr, ti, lv, od, bk, hP⟩, ⟨O, Rq, rc, Cq, hAr⟩, l1, l2⟩ := id hC
  obtain ⟨R, ln, sg, hA, hRel⟩ := id hF
  obtain ⟨r0, r1, r2, ⟨k3, k4, k5, k6, k7⟩, ⟨s0, s1, s2, s3, s4, s5⟩, m1, m2, m3⟩ := id hRel
  refine runs_of plX7 rfl (Nat.le_of_ble_eq_true rfl) ?_
  show WP mX7_untilKnot 0 [some (.ref a), some (.int x)] [] M z 0 0 _
  refine g_iload_1 dX7_untilKnot_0 ?_
  refine g_s1_x dX7_untilKnot_1 (sX7_110 rfl) rfl (Nat.le_of_ble_eq_true rfl) (Nat.le_of_ble_eq_true rfl) (Nat.le_of_ble_eq_true rfl) (c_needColour_x hx) (fun z2 hz2 => ?_)
  exact x_out rfl (Nat.le_of_ble_eq_true rfl) (Nat.le_of_ble_eq_true rfl) ⟨rfl, rfl, hz2⟩
theorem c_nearestByRings_x (hC : CInv M a lo z f n h sv len g) (hx : x < 0 ∨ nI 5 ≤ x) : Runs mX7_nearestByRings [.ref a, .int x] M z (gE IOE M z) := by
  obtain ⟨ho, hF, ⟨ft, hFt⟩, hH, hS, ⟨sc, pl, gr, ti, lv, od, bk, hP⟩, ⟨O, Rq, rc, Cq, hAr⟩, l1, l2⟩ := id hC
  obtain ⟨R, ln, sg, hA, hRel⟩ := id hF
  obtain ⟨r0, r1, r2, ⟨k3, k4, k5, k6, k7⟩, ⟨s0, s1, s2, s3, s4, s5⟩, m1, m2, m3⟩ := id hRel
  refine runs_of plX7 rfl (Nat.le_of_ble_eq_true rfl) ?_
  show WP mX7_nearestByRings 0 [some (.ref a), some (.int x)] [] M z 0 0 _
  refine g_iload_1 dX7_nearestByRings_0 ?_
  refine g_s1_x dX7_nearestByRings_1 (sX7_110 rfl) rfl (Nat.le_of_ble_eq_true rfl) (Nat.le_of_ble_eq_true rfl) (Nat.le_of_ble_eq_true rfl) (c_needColour_x hx) (fun z2 hz2 => ?_)
  exact x_out rfl (Nat.le_of_ble_eq_true rfl) (Nat.le_of_ble_eq_true rfl) ⟨rfl, rfl, hz2⟩
theorem c_nearestByCells_x (hC : CInv M a lo z f n h sv len g) (hx : x < 0 ∨ nI 5 ≤ x) : Runs mX7_nearestByCells [.ref a, .int x] M z (gE IOE M z) := by
  obtain ⟨ho, hF, ⟨ft, hFt⟩, hH, hS, ⟨sc, pl, gr, ti, lv, od, bk, hP⟩, ⟨O, Rq, rc, Cq, hAr⟩, l1, l2⟩ := id hC
  obtain ⟨R, ln, sg, hA, hRel⟩ := id hF
  obtain ⟨r0, r1, r2, ⟨k3, k4, k5, k6, k7⟩, ⟨s0, s1, s2, s3, s4, s5⟩, m1, m2, m3⟩ := id hRel
  refine runs_of plX7 rfl (Nat.le_of_ble_eq_true rfl) ?_
  show WP mX7_nearestByCells 0 [some (.ref a), some (.int x)] [] M z 0 0 _
  refine g_iload_1 dX7_nearestByCells_0 ?_
  refine g_s1_x dX7_nearestByCells_1 (sX7_110 rfl) rfl (Nat.le_of_ble_eq_true rfl) (Nat.le_of_ble_eq_true rfl) (Nat.le_of_ble_eq_true rfl) (c_needColour_x hx) (fun z2 hz2 => ?_)
  exact x_out rfl (Nat.le_of_ble_eq_true rfl) (Nat.le_of_ble_eq_true rfl) ⟨rfl, rfl, hz2⟩
theorem c_yarnBy_x (hC : CInv M a lo z f n h sv len g) (hx : x < 0 ∨ nI 5 ≤ x) : Runs mX7_yarnBy [.ref a, .int x] M z (gE IOE M z) := by
  obtain ⟨ho, hF, ⟨ft, hFt⟩, hH, hS, ⟨sc, pl, gr, ti, lv, od, bk, hP⟩, ⟨O, Rq, rc, Cq, hAr⟩, l1, l2⟩ := id hC
  obtain ⟨R, ln, sg, hA, hRel⟩ := id hF
  obtain ⟨r0, r1, r2, ⟨k3, k4, k5, k6, k7⟩, ⟨s0, s1, s2, s3, s4, s5⟩, m1, m2, m3⟩ := id hRel
  refine runs_of plX7 rfl (Nat.le_of_ble_eq_true rfl) ?_
  show WP mX7_yarnBy 0 [some (.ref a), some (.int x)] [] M z 0 0 _
  refine g_iload_1 dX7_yarnBy_0 ?_
  refine g_s1_x dX7_yarnBy_1 (sX7_110 rfl) rfl (Nat.le_of_ble_eq_true rfl) (Nat.le_of_ble_eq_true rfl) (Nat.le_of_ble_eq_true rfl) (c_needColour_x hx) (fun z2 hz2 => ?_)
  exact x_out rfl (Nat.le_of_ble_eq_true rfl) (Nat.le_of_ble_eq_true rfl) ⟨rfl, rfl, hz2⟩
theorem c_thread_x (hC : CInv M a lo z f n h sv len g) (hx : x < 0 ∨ nI 5 ≤ x) : Runs mX7_thread [.ref a, .int x] M z (gE IOE M z) := by
  obtain ⟨ho, hF, ⟨ft, hFt⟩, hH, hS, ⟨sc, pl, gr, ti, lv, od, bk, hP⟩, ⟨O, Rq, rc, Cq, hAr⟩, l1, l2⟩ := id hC
  obtain ⟨R, ln, sg, hA, hRel⟩ := id hF
  obtain ⟨r0, r1, r2, ⟨k3, k4, k5, k6, k7⟩, ⟨s0, s1, s2, s3, s4, s5⟩, m1, m2, m3⟩ := id hRel
  refine runs_of plX7 rfl (Nat.le_of_ble_eq_true rfl) ?_
  show WP mX7_thread 0 [some (.ref a), some (.int x)] [] M z 0 0 _
  refine g_iload_1 dX7_thread_0 ?_
  refine g_s1_x dX7_thread_1 (sX7_110 rfl) rfl (Nat.le_of_ble_eq_true rfl) (Nat.le_of_ble_eq_true rfl) (Nat.le_of_ble_eq_true rfl) (c_needColour_x hx) (fun z2 hz2 => ?_)
  exact x_out rfl (Nat.le_of_ble_eq_true rfl) (Nat.le_of_ble_eq_true rfl) ⟨rfl, rfl, hz2⟩
theorem c_motifLength_x (hC : CInv M a lo z f n h sv len g) (hx : x < 0 ∨ nI 4 ≤ x) : Runs mX7_motifLength [.ref a, .int x] M z (gE IOE M z) := by
  obtain ⟨ho, hF, ⟨ft, hFt⟩, hH, hS, ⟨sc, pl, gr, ti, lv, od, bk, hP⟩, ⟨O, Rq, rc, Cq, hAr⟩, l1, l2⟩ := id hC
  obtain ⟨R, ln, sg, hA, hRel⟩ := id hF
  obtain ⟨r0, r1, r2, ⟨k3, k4, k5, k6, k7⟩, ⟨s0, s1, s2, s3, s4, s5⟩, m1, m2, m3⟩ := id hRel
  refine runs_of plX7 rfl (Nat.le_of_ble_eq_true rfl) ?_
  show WP mX7_motifLength 0 [some (.ref a), some (.int x), none] [] M z 0 0 _
  refine g_iload_1 dX7_motifLength_0 ?_
  refine g_s1_x dX7_motifLength_1 (sX7_177 rfl) rfl (Nat.le_of_ble_eq_true rfl) (Nat.le_of_ble_eq_true rfl) (Nat.le_of_ble_eq_true rfl) (c_needMotif_x hx) (fun z2 hz2 => ?_)
  exact x_out rfl (Nat.le_of_ble_eq_true rfl) (Nat.le_of_ble_eq_true rfl) ⟨rfl, rfl, hz2⟩
theorem c_store_x (hC : CInv M a lo z f n h sv len g) (hx : x < 0 ∨ nI 4 ≤ x) : Runs mX7_store [.ref a, .int x] M z (gE IOE M z) := by
  obtain ⟨ho, hF, ⟨ft, hFt⟩, hH, hS, ⟨sc, pl, gr, ti, lv, od, bk, hP⟩, ⟨O, Rq, rc, Cq, hAr⟩, l1, l2⟩ := id hC
  obtain ⟨R, ln, sg, hA, hRel⟩ := id hF
  obtain ⟨r0, r1, r2, ⟨k3, k4, k5, k6, k7⟩, ⟨s0, s1, s2, s3, s4, s5⟩, m1, m2, m3⟩ := id hRel
  refine runs_of plX7 rfl (Nat.le_of_ble_eq_true rfl) ?_
  show WP mX7_store 0 [some (.ref a), some (.int x)] [] M z 0 0 _
  refine g_iload_1 dX7_store_0 ?_
  refine g_s1_x dX7_store_1 (sX7_177 rfl) rfl (Nat.le_of_ble_eq_true rfl) (Nat.le_of_ble_eq_true rfl) (Nat.le_of_ble_eq_true rfl) (c_needMotif_x hx) (fun z2 hz2 => ?_)
  exact x_out rfl (Nat.le_of_ble_eq_true rfl) (Nat.le_of_ble_eq_true rfl) ⟨rfl, rfl, hz2⟩
theorem c_run_x (hC : CInv M a lo z f n h sv len g) (hx : x < 0 ∨ nI 4 ≤ x) : Runs mX7_run [.ref a, .int x] M z (gE IOE M z) := by
  obtain ⟨ho, hF, ⟨ft, hFt⟩, hH, hS, ⟨sc, pl, gr, ti, lv, od, bk, hP⟩, ⟨O, Rq, rc, Cq, hAr⟩, l1, l2⟩ := id hC
  obtain ⟨R, ln, sg, hA, hRel⟩ := id hF
  obtain ⟨r0, r1, r2, ⟨k3, k4, k5, k6, k7⟩, ⟨s0, s1, s2, s3, s4, s5⟩, m1, m2, m3⟩ := id hRel
  refine runs_of plX7 rfl (Nat.le_of_ble_eq_true rfl) ?_
  show WP mX7_run 0 [some (.ref a), some (.int x), none] [] M z 0 0 _
  refine g_iload_1 dX7_run_0 ?_
  refine g_s1_x dX7_run_1 (sX7_177 rfl) rfl (Nat.le_of_ble_eq_true rfl) (Nat.le_of_ble_eq_true rfl) (Nat.le_of_ble_eq_true rfl) (c_needMotif_x hx) (fun z2 hz2 => ?_)
  exact x_out rfl (Nat.le_of_ble_eq_true rfl) (Nat.le_of_ble_eq_true rfl) ⟨rfl, rfl, hz2⟩
theorem c_motifSign_x (hC : CInv M a lo z f n h sv len g) (hx : x < 0 ∨ nI 4 ≤ x) : Runs mX7_motifSign [.ref a, .int x, .int y] M z (gE IOE M z) := by
  obtain ⟨ho, hF, ⟨ft, hFt⟩, hH, hS, ⟨sc, pl, gr, ti, lv, od, bk, hP⟩, ⟨O, Rq, rc, Cq, hAr⟩, l1, l2⟩ := id hC
  obtain ⟨R, ln, sg, hA, hRel⟩ := id hF
  obtain ⟨r0, r1, r2, ⟨k3, k4, k5, k6, k7⟩, ⟨s0, s1, s2, s3, s4, s5⟩, m1, m2, m3⟩ := id hRel
  refine runs_of plX7 rfl (Nat.le_of_ble_eq_true rfl) ?_
  show WP mX7_motifSign 0 [some (.ref a), some (.int x), some (.int y), none] [] M z 0 0 _
  refine g_iload_1 dX7_motifSign_0 ?_
  refine g_s1_x dX7_motifSign_1 (sX7_177 rfl) rfl (Nat.le_of_ble_eq_true rfl) (Nat.le_of_ble_eq_true rfl) (Nat.le_of_ble_eq_true rfl) (c_needMotif_x hx) (fun z2 hz2 => ?_)
  exact x_out rfl (Nat.le_of_ble_eq_true rfl) (Nat.le_of_ble_eq_true rfl) ⟨rfl, rfl, hz2⟩
theorem c_save_x (hC : CInv M a lo z f n h sv len g) (hx : x < 0 ∨ nI 2 ≤ x) : Runs mX7_save [.ref a, .int x] M z (gE IOE M z) := by
  obtain ⟨ho, hF, ⟨ft, hFt⟩, hH, hS, ⟨sc, pl, gr, ti, lv, od, bk, hP⟩, ⟨O, Rq, rc, Cq, hAr⟩, l1, l2⟩ := id hC
  obtain ⟨R, ln, sg, hA, hRel⟩ := id hF
  obtain ⟨r0, r1, r2, ⟨k3, k4, k5, k6, k7⟩, ⟨s0, s1, s2, s3, s4, s5⟩, m1, m2, m3⟩ := id hRel
  refine runs_of plX7 rfl (Nat.le_of_ble_eq_true rfl) ?_
  show WP mX7_save 0 [some (.ref a), some (.int x)] [] M z 0 0 _
  refine g_iload_1 dX7_save_0 ?_
  refine g_s1_x dX7_save_1 (sX7_304 rfl) rfl (Nat.le_of_ble_eq_true rfl) (Nat.le_of_ble_eq_true rfl) (Nat.le_of_ble_eq_true rfl) (c_needSlot_x hx) (fun z2 hz2 => ?_)
  exact x_out rfl (Nat.le_of_ble_eq_true rfl) (Nat.le_of_ble_eq_true rfl) ⟨rfl, rfl, hz2⟩
theorem c_restore_x (hC : CInv M a lo z f n h sv len g) (hx : x < 0 ∨ nI 2 ≤ x) : Runs mX7_restore [.ref a, .int x] M z (gE IOE M z) := by
  obtain ⟨ho, hF, ⟨ft, hFt⟩, hH, hS, ⟨sc, pl, gr, ti, lv, od, bk, hP⟩, ⟨O, Rq, rc, Cq, hAr⟩, l1, l2⟩ := id hC
  obtain ⟨R, ln, sg, hA, hRel⟩ := id hF
  obtain ⟨r0, r1, r2, ⟨k3, k4, k5, k6, k7⟩, ⟨s0, s1, s2, s3, s4, s5⟩, m1, m2, m3⟩ := id hRel
  refine runs_of plX7 rfl (Nat.le_of_ble_eq_true rfl) ?_
  show WP mX7_restore 0 [some (.ref a), some (.int x), none] [] M z 0 0 _
  refine g_iload_1 dX7_restore_0 ?_
  refine g_s1_x dX7_restore_1 (sX7_304 rfl) rfl (Nat.le_of_ble_eq_true rfl) (Nat.le_of_ble_eq_true rfl) (Nat.le_of_ble_eq_true rfl) (c_needSlot_x hx) (fun z2 hz2 => ?_)
  exact x_out rfl (Nat.le_of_ble_eq_true rfl) (Nat.le_of_ble_eq_true rfl) ⟨rfl, rfl, hz2⟩
theorem c_right (hC : CInv M a lo z f n h sv len g) (hI : Rng f) : Runs mX7_right [.ref a] M z (gD (some (.int (nI (cnt (fun i => hasL (f (144 + i)) && decide (f (144 + i) = f i)) 144)))) M z) := by
  obtain ⟨ho, hF, ⟨ft, hFt⟩, hH, hS, ⟨sc, pl, gr, ti, lv, od, bk, hP⟩, ⟨O, Rq, rc, Cq, hAr⟩, l1, l2⟩ := id hC
  obtain ⟨R, ln, sg, hA, hRel⟩ := id hF
  obtain ⟨r0, r1, r2, ⟨k3, k4, k5, k6, k7⟩, ⟨s0, s1, s2, s3, s4, s5⟩, m1, m2, m3⟩ := id hRel
  refine runs_of plX7 rfl (Nat.le_of_ble_eq_true rfl) ?_
  show WP mX7_right 0 [some (.ref a)] [] M z 0 0 _
  refine g_aload_0 dX7_right_0 ?_
  refine g_get dX7_right_1 (fX7_12 rfl) ho rfl ?_
  refine g_get dX7_right_4 (fX7_78 rfl) hA.1 rfl ?_
  refine g_v0_1 dX7_right_7 (vX7_98 rfl) rfl hA.2.1.1 (Nat.le_of_ble_eq_true rfl) ⟨rfl, rfl⟩ (Nat.le_of_ble_eq_true rfl) (Nat.le_of_ble_eq_true rfl) (c_countRight hA.2.1) ?_
  rw [hRel.cRight hI]
  exact g_ireturn rfl rfl dX7_right_10 (Nat.le_of_ble_eq_true rfl) (Nat.le_of_ble_eq_true rfl) ⟨rfl, rfl, rfl⟩
theorem c_missing (hC : CInv M a lo z f n h sv len g) (hI : Rng f) : Runs mX7_missing [.ref a] M z (gD (some (.int (nI (cnt (missF f) 144)))) M z) := by
  obtain ⟨ho, hF, ⟨ft, hFt⟩, hH, hS, ⟨sc, pl, gr, ti, lv, od, bk, hP⟩, ⟨O, Rq, rc, Cq, hAr⟩, l1, l2⟩ := id hC
  obtain ⟨R, ln, sg, hA, hRel⟩ := id hF
  obtain ⟨r0, r1, r2, ⟨k3, k4, k5, k6, k7⟩, ⟨s0, s1, s2, s3, s4, s5⟩, m1, m2, m3⟩ := id hRel
  refine runs_of plX7 rfl (Nat.le_of_ble_eq_true rfl) ?_
  show WP mX7_missing 0 [some (.ref a)] [] M z 0 0 _
  refine g_aload_0 dX7_missing_0 ?_
  refine g_get dX7_missing_1 (fX7_12 rfl) ho rfl ?_
  refine g_get dX7_missing_4 (fX7_78 rfl) hA.1 rfl ?_
  refine g_v0_1 dX7_missing_7 (vX7_101 rfl) rfl hA.2.1.1 (Nat.le_of_ble_eq_true rfl) ⟨rfl, rfl⟩ (Nat.le_of_ble_eq_true rfl) (Nat.le_of_ble_eq_true rfl) (c_countMissing hA.2.1) ?_
  rw [hRel.cMiss hI]
  exact g_ireturn rfl rfl dX7_missing_10 (Nat.le_of_ble_eq_true rfl) (Nat.le_of_ble_eq_true rfl) ⟨rfl, rfl, rfl⟩
theorem c_wrong (hC : CInv M a lo z f n h sv len g) (hI : Rng f) : Runs mX7_wrong [.ref a] M z (gD (some (.int (nI (cnt (wrongF f) 144)))) M z) := by
  obtain ⟨ho, hF, ⟨ft, hFt⟩, hH, hS, ⟨sc, pl, gr, ti, lv, od, bk, hP⟩, ⟨O, Rq, rc, Cq, hAr⟩, l1, l2⟩ := id hC
  obtain ⟨R, ln, sg, hA, hRel⟩ := id hF
  obtain ⟨r0, r1, r2, ⟨k3, k4, k5, k6, k7⟩, ⟨s0, s1, s2, s3, s4, s5⟩, m1, m2, m3⟩ := id hRel
  refine runs_of plX7 rfl (Nat.le_of_ble_eq_true rfl) ?_
  show WP mX7_wrong 0 [some (.ref a)] [] M z 0 0 _
  refine g_aload_0 dX7_wrong_0 ?_
  refine g_get dX7_wrong_1 (fX7_12 rfl) ho rfl ?_
  refine g_get dX7_wrong_4 (fX7_78 rfl) hA.1 rfl ?_
  refine g_v0_1 dX7_wrong_7 (vX7_104 rfl) rfl hA.2.1.1 (Nat.le_of_ble_eq_true rfl) ⟨rfl, rfl⟩ (Nat.le_of_ble_eq_true rfl) (Nat.le_of_ble_eq_true rfl) (c_countLoops hA.2.1) ?_
  rw [hRel.cR hI]
  refine g_aload_0 dX7_wrong_10 ?_
  refine g_get dX7_wrong_11 (fX7_12 rfl) ho rfl ?_
  refine g_get dX7_wrong_14 (fX7_78 rfl) hA.1 rfl ?_
  refine g_v0_1 dX7_wrong_17 (vX7_98 rfl) rfl hA.2.1.1 (Nat.le_of_ble_eq_true rfl) ⟨rfl, rfl⟩ (Nat.le_of_ble_eq_true rfl) (Nat.le_of_ble_eq_true rfl) (c_countRight hA.2.1) ?_
  rw [hRel.cRight hI]
  refine g_isub dX7_wrong_20 ?_
  rw [wrong_eq]
  exact g_ireturn rfl rfl dX7_wrong_21 (Nat.le_of_ble_eq_true rfl) (Nat.le_of_ble_eq_true rfl) ⟨rfl, rfl, rfl⟩
theorem c_skipped (hC : CInv M a lo z f n h sv len g) (hI : Rng f) : Runs mX7_skipped [.ref a] M z (gD (some (.int (nI (cnt (fun i => decide (f (144 + i) = nI 6)) 144)))) M z) := by
  obtain ⟨ho, hF, ⟨ft, hFt⟩, hH, hS, ⟨sc, pl, gr, ti, lv, od, bk, hP⟩, ⟨O, Rq, rc, Cq, hAr⟩, l1, l2⟩ := id hC
  obtain ⟨R, ln, sg, hA, hRel⟩ := id hF
  obtain ⟨r0, r1, r2, ⟨k3, k4, k5, k6, k7⟩, ⟨s0, s1, s2, s3, s4, s5⟩, m1, m2, m3⟩ := id hRel
  refine runs_of plX7 rfl (Nat.le_of_ble_eq_true rfl) ?_
  show WP mX7_skipped 0 [some (.ref a)] [] M z 0 0 _
  refine g_aload_0 dX7_skipped_0 ?_
  refine g_get dX7_skipped_1 (fX7_12 rfl) ho rfl ?_
  refine g_get dX7_skipped_4 (fX7_78 rfl) hA.1 rfl ?_
  refine g_v0_1 dX7_skipped_7 (vX7_107 rfl) rfl hA.2.1.1 (Nat.le_of_ble_eq_true rfl) ⟨rfl, rfl⟩ (Nat.le_of_ble_eq_true rfl) (Nat.le_of_ble_eq_true rfl) (c_countSkipped hA.2.1) ?_
  rw [hRel.cSkip hI]
  exact g_ireturn rfl rfl dX7_skipped_10 (Nat.le_of_ble_eq_true rfl) (Nat.le_of_ble_eq_true rfl) ⟨rfl, rfl, rfl⟩
theorem c_density (hC : CInv M a lo z f n h sv len g) (hI : Rng f) : Runs mX7_density [.ref a] M z (gD (some (.float (FP.fdiv (FP.i2f (nI (cnt (fun i => hasL (f (144 + i))) 144))) 1125122048))) M z) := by
  obtain ⟨ho, hF, ⟨ft, hFt⟩, hH, hS, ⟨sc, pl, gr, ti, lv, od, bk, hP⟩, ⟨O, Rq, rc, Cq, hAr⟩, l1, l2⟩ := id hC
  obtain ⟨R, ln, sg, hA, hRel⟩ := id hF
  obtain ⟨r0, r1, r2, ⟨k3, k4, k5, k6, k7⟩, ⟨s0, s1, s2, s3, s4, s5⟩, m1, m2, m3⟩ := id hRel
  refine runs_of plX7 rfl (Nat.le_of_ble_eq_true rfl) ?_
  show WP mX7_density 0 [some (.ref a)] [] M z 0 0 _
  refine g_aload_0 dX7_density_0 ?_
  refine g_get dX7_density_1 (fX7_12 rfl) ho rfl ?_
  refine g_get dX7_density_4 (fX7_78 rfl) hA.1 rfl ?_
  refine g_v0_1 dX7_density_7 (vX7_104 rfl) rfl hA.2.1.1 (Nat.le_of_ble_eq_true rfl) ⟨rfl, rfl⟩ (Nat.le_of_ble_eq_true rfl) (Nat.le_of_ble_eq_true rfl) (c_countLoops hA.2.1) ?_
  rw [hRel.cR hI]
  refine g_i2f dX7_density_10 rfl ?_
  refine g_ldcf dX7_density_11 (zX7_120 rfl) ?_
  refine g_fdiv dX7_density_13 (vf_dens _ (Nat.lt_succ_of_le (cnt_le _ _))) ?_
  exact g_freturn rfl dX7_density_14 (Nat.le_of_ble_eq_true rfl) (Nat.le_of_ble_eq_true rfl) ⟨rfl, rfl, rfl⟩
theorem c_meanHeight (hC : CInv M a lo z f n h sv len g) (hI : Rng f) : Runs mX7_meanHeight [.ref a] M z (gD (some (.double (if cnt (fun i => hasL (f (144 + i))) 144 = 0 then 0 else FP.ddiv (FP.i2d (nI (sumN f 144))) (FP.i2d (nI (cnt (fun i => hasL (f (144 + i))) 144)))))) M z) := by
  obtain ⟨ho, hF, ⟨ft, hFt⟩, hH, hS, ⟨sc, pl, gr, ti, lv, od, bk, hP⟩, ⟨O, Rq, rc, Cq, hAr⟩, l1, l2⟩ := id hC
  obtain ⟨R, ln, sg, hA, hRel⟩ := id hF
  obtain ⟨r0, r1, r2, ⟨k3, k4, k5, k6, k7⟩, ⟨s0, s1, s2, s3, s4, s5⟩, m1, m2, m3⟩ := id hRel
  have hcl := cnt_le (fun i => hasL (f (144 + i))) 144
  refine runs_of plX7 rfl (Nat.le_of_ble_eq_true rfl) ?_
  show WP mX7_meanHeight 0 [some (.ref a), none] [] M z 0 0 _
  refine g_aload_0 dX7_meanHeight_0 ?_
  refine g_get dX7_meanHeight_1 (fX7_12 rfl) ho rfl ?_
  refine g_get dX7_meanHeight_4 (fX7_78 rfl) hA.1 rfl ?_
  refine g_v0_1 dX7_meanHeight_7 (vX7_104 rfl) rfl hA.2.1.1 (Nat.le_of_ble_eq_true rfl) ⟨rfl, rfl⟩ (Nat.le_of_ble_eq_true rfl) (Nat.le_of_ble_eq_true rfl) (c_countLoops hA.2.1) ?_
  rw [hRel.cR hI]
  refine g_istore_1 rfl dX7_meanHeight_10 ?_
  refine g_iload_1 dX7_meanHeight_11 ?_
  refine g_if_neN (tgt := 19) dX7_meanHeight_12 (by decide) (by omega) (fun h12 => ?_) (fun h12 => ?_)
  · refine g_aload_0 dX7_meanHeight_19 ?_
    refine g_get dX7_meanHeight_20 (fX7_12 rfl) ho rfl ?_
    refine g_get dX7_meanHeight_23 (fX7_78 rfl) hA.1 rfl ?_
    refine g_v0_1 dX7_meanHeight_26 (vX7_121 rfl) rfl hA.2.1.1 (Nat.le_of_ble_eq_true rfl) ⟨rfl, rfl⟩ (Nat.le_of_ble_eq_true rfl) (Nat.le_of_ble_eq_true rfl) (c_sumHeights hA.2.1) ?_
    rw [hRel.cSum, (sum_num hI 144 (Nat.le_refl _)).1]
    refine g_i2d dX7_meanHeight_29 rfl ?_
    refine g_iload_1 dX7_meanHeight_30 ?_
    refine g_i2d dX7_meanHeight_31 rfl ?_
    refine g_ddiv dX7_meanHeight_32 (vf_div (by have := (sum_num hI 144 (Nat.le_refl _)).2.1; omega) (by omega) h12) ?_
    exact g_dreturn rfl dX7_meanHeight_33 (Nat.le_of_ble_eq_true rfl) (Nat.le_of_ble_eq_true rfl) ⟨by first | rw [if_pos h12] | rw [if_neg h12], rfl, rfl⟩
  · refine g_dconst0 dX7_meanHeight_15 ?_
    refine g_goto (tgt := 33) dX7_meanHeight_16 (by decide) ?_
    exact g_dreturn rfl dX7_meanHeight_33 (Nat.le_of_ble_eq_true rfl) (Nat.le_of_ble_eq_true rfl) ⟨by first | rw [if_pos h12] | rw [if_neg h12], rfl, rfl⟩
theorem c_needle (hC : CInv M a lo z f n h sv len g) (hI : Rng f) : Runs mX7_needle [.ref a] M z (gD (some (.int (f 457))) M z) := by
  obtain ⟨ho, hF, ⟨ft, hFt⟩, hH, hS, ⟨sc, pl, gr, ti, lv, od, bk, hP⟩, ⟨O, Rq, rc, Cq, hAr⟩, l1, l2⟩ := id hC
  obtain ⟨R, ln, sg, hA, hRel⟩ := id hF
  obtain ⟨r0, r1, r2, ⟨k3, k4, k5, k6, k7⟩, ⟨s0, s1, s2, s3, s4, s5⟩, m1, m2, m3⟩ := id hRel
  refine runs_of plX7 rfl (Nat.le_of_ble_eq_true rfl) ?_
  show WP mX7_needle 0 [some (.ref a)] [] M z 0 0 _
  refine g_aload_0 dX7_needle_0 ?_
  refine g_get dX7_needle_1 (fX7_12 rfl) ho rfl ?_
  refine g_get dX7_needle_4 (fX7_124 rfl) hA.1 rfl ?_
  rw [s0]
  exact g_ireturn rfl rfl dX7_needle_7 (Nat.le_of_ble_eq_true rfl) (Nat.le_of_ble_eq_true rfl) ⟨rfl, rfl, rfl⟩
theorem c_heading (hC : CInv M a lo z f n h sv len g) (hI : Rng f) : Runs mX7_heading [.ref a] M z (gD (some (.int (f 458))) M z) := by
  obtain ⟨ho, hF, ⟨ft, hFt⟩, hH, hS, ⟨sc, pl, gr, ti, lv, od, bk, hP⟩, ⟨O, Rq, rc, Cq, hAr⟩, l1, l2⟩ := id hC
  obtain ⟨R, ln, sg, hA, hRel⟩ := id hF
  obtain ⟨r0, r1, r2, ⟨k3, k4, k5, k6, k7⟩, ⟨s0, s1, s2, s3, s4, s5⟩, m1, m2, m3⟩ := id hRel
  refine runs_of plX7 rfl (Nat.le_of_ble_eq_true rfl) ?_
  show WP mX7_heading 0 [some (.ref a)] [] M z 0 0 _
  refine g_aload_0 dX7_heading_0 ?_
  refine g_get dX7_heading_1 (fX7_12 rfl) ho rfl ?_
  refine g_get dX7_heading_4 (fX7_127 rfl) hA.1 rfl ?_
  rw [s1]
  exact g_ireturn rfl rfl dX7_heading_7 (Nat.le_of_ble_eq_true rfl) (Nat.le_of_ble_eq_true rfl) ⟨rfl, rfl, rfl⟩
theorem c_threaded (hC : CInv M a lo z f n h sv len g) (hI : Rng f) : Runs mX7_threaded [.ref a] M z (gD (some (.int (f 459 - nI 1))) M z) := by
  obtain ⟨ho, hF, ⟨ft, hFt⟩, hH, hS, ⟨sc, pl, gr, ti, lv, od, bk, hP⟩, ⟨O, Rq, rc, Cq, hAr⟩, l1, l2⟩ := id hC
  obtain ⟨R, ln, sg, hA, hRel⟩ := id hF
  obtain ⟨r0, r1, r2, ⟨k3, k4, k5, k6, k7⟩, ⟨s0, s1, s2, s3, s4, s5⟩, m1, m2, m3⟩ := id hRel
  refine runs_of plX7 rfl (Nat.le_of_ble_eq_true rfl) ?_
  show WP mX7_threaded 0 [some (.ref a)] [] M z 0 0 _
  refine g_aload_0 dX7_threaded_0 ?_
  refine g_get dX7_threaded_1 (fX7_12 rfl) ho rfl ?_
  refine g_get dX7_threaded_4 (fX7_130 rfl) hA.1 rfl ?_
  rw [s2]
  exact g_ireturn rfl rfl dX7_threaded_7 (Nat.le_of_ble_eq_true rfl) (Nat.le_of_ble_eq_true rfl) ⟨rfl, rfl, rfl⟩
theorem c_height (hC : CInv M a lo z f n h sv len g) (hI : Rng f) : Runs mX7_height [.ref a] M z (gD (some (.int (f 460))) M z) := by
  obtain ⟨ho, hF, ⟨ft, hFt⟩, hH, hS, ⟨sc, pl, gr, ti, lv, od, bk, hP⟩, ⟨O, Rq, rc, Cq, hAr⟩, l1, l2⟩ := id hC
  obtain ⟨R, ln, sg, hA, hRel⟩ := id hF
  obtain ⟨r0, r1, r2, ⟨k3, k4, k5, k6, k7⟩, ⟨s0, s1, s2, s3, s4, s5⟩, m1, m2, m3⟩ := id hRel
  refine runs_of plX7 rfl (Nat.le_of_ble_eq_true rfl) ?_
  show WP mX7_height 0 [some (.ref a)] [] M z 0 0 _
  refine g_aload_0 dX7_height_0 ?_
  refine g_get dX7_height_1 (fX7_12 rfl) ho rfl ?_
  refine g_get dX7_height_4 (fX7_133 rfl) hA.1 rfl ?_
  rw [s3]
  exact g_ireturn rfl rfl dX7_height_7 (Nat.le_of_ble_eq_true rfl) (Nat.le_of_ble_eq_true rfl) ⟨rfl, rfl, rfl⟩
theorem c_tension (hC : CInv M a lo z f n h sv len g) (hI : Rng f) : Runs mX7_tension [.ref a] M z (gD (some (.int (f 461))) M z) := by
  obtain ⟨ho, hF, ⟨ft, hFt⟩, hH, hS, ⟨sc, pl, gr, ti, lv, od, bk, hP⟩, ⟨O, Rq, rc, Cq, hAr⟩, l1, l2⟩ := id hC
  obtain ⟨R, ln, sg, hA, hRel⟩ := id hF
  obtain ⟨r0, r1, r2, ⟨k3, k4, k5, k6, k7⟩, ⟨s0, s1, s2, s3, s4, s5⟩, m1, m2, m3⟩ := id hRel
  refine runs_of plX7 rfl (Nat.le_of_ble_eq_true rfl) ?_
  show WP mX7_tension 0 [some (.ref a)] [] M z 0 0 _
  refine g_aload_0 dX7_tension_0 ?_
  refine g_get dX7_tension_1 (fX7_12 rfl) ho rfl ?_
  refine g_get dX7_tension_4 (fX7_136 rfl) hA.1 rfl ?_
  rw [s4]
  exact g_ireturn rfl rfl dX7_tension_7 (Nat.le_of_ble_eq_true rfl) (Nat.le_of_ble_eq_true rfl) ⟨rfl, rfl, rfl⟩
theorem c_knots (hC : CInv M a lo z f n h sv len g) (hI : Rng f) : Runs mX7_knots [.ref a] M z (gD (some (.int (f 462))) M z) := by
  obtain ⟨ho, hF, ⟨ft, hFt⟩, hH, hS, ⟨sc, pl, gr, ti, lv, od, bk, hP⟩, ⟨O, Rq, rc, Cq, hAr⟩, l1, l2⟩ := id hC
  obtain ⟨R, ln, sg, hA, hRel⟩ := id hF
  obtain ⟨r0, r1, r2, ⟨k3, k4, k5, k6, k7⟩, ⟨s0, s1, s2, s3, s4, s5⟩, m1, m2, m3⟩ := id hRel
  refine runs_of plX7 rfl (Nat.le_of_ble_eq_true rfl) ?_
  show WP mX7_knots 0 [some (.ref a)] [] M z 0 0 _
  refine g_aload_0 dX7_knots_0 ?_
  refine g_get dX7_knots_1 (fX7_12 rfl) ho rfl ?_
  refine g_get dX7_knots_4 (fX7_174 rfl) hA.1 rfl ?_
  rw [s5]
  exact g_ireturn rfl rfl dX7_knots_7 (Nat.le_of_ble_eq_true rfl) (Nat.le_of_ble_eq_true rfl) ⟨rfl, rfl, rfl⟩
theorem c_canGo (hC : CInv M a lo z f n h sv len g) (hI : Rng f) : Runs mX7_canGo [.ref a] M z (gD (some (.int (bI (f_to f).isSome))) M z) := by
  obtain ⟨ho, hF, ⟨ft, hFt⟩, hH, hS, ⟨sc, pl, gr, ti, lv, od, bk, hP⟩, ⟨O, Rq, rc, Cq, hAr⟩, l1, l2⟩ := id hC
  obtain ⟨R, ln, sg, hA, hRel⟩ := id hF
  obtain ⟨r0, r1, r2, ⟨k3, k4, k5, k6, k7⟩, ⟨s0, s1, s2, s3, s4, s5⟩, m1, m2, m3⟩ := id hRel
  refine runs_of plX7 rfl (Nat.le_of_ble_eq_true rfl) ?_
  show WP mX7_canGo 0 [some (.ref a)] [] M z 0 0 _
  refine g_aload_0 dX7_canGo_0 ?_
  refine g_get dX7_canGo_1 (fX7_12 rfl) ho rfl ?_
  refine g_get dX7_canGo_4 (fX7_124 rfl) hA.1 rfl ?_
  rw [s0, hI.nde]
  refine g_aload_0 dX7_canGo_7 ?_
  refine g_get dX7_canGo_8 (fX7_12 rfl) ho rfl ?_
  refine g_get dX7_canGo_11 (fX7_127 rfl) hA.1 rfl ?_
  rw [s1, hI.hde]
  refine g_s2_1 dX7_canGo_14 (sX7_139 rfl) rfl (Nat.le_of_ble_eq_true rfl) ⟨rfl, rfl⟩ (Nat.le_of_ble_eq_true rfl) (Nat.le_of_ble_eq_true rfl) (c_beside hI.ndl hI.hdl) ?_
  refine g_iconst (v := -1) dX7_canGo_17 rfl ?_
  refine g_icmp_eq (tgt := 25) dX7_canGo_18 (by decide)  (fun h18 => ?_) (fun h18 => ?_)
  · refine g_iconst (v := nI 0) dX7_canGo_25 rfl ?_
    exact g_ireturn rfl rfl dX7_canGo_26 (Nat.le_of_ble_eq_true rfl) (Nat.le_of_ble_eq_true rfl) ⟨by
      have e : f_to f = besd (nd f) (hdg f) := rfl
      rw [e]
      cases hb : besd (nd f) (hdg f) with
      | none => first | rfl | (rw [hb] at h18; exact absurd rfl h18)
      | some k => first | rfl | (rw [hb] at h18; exact absurd h18 (nI_nm1 (by have := besd_lt hI.ndl hb; omega))), rfl, rfl⟩
  · refine g_iconst (v := nI 1) dX7_canGo_21 rfl ?_
    refine g_goto (tgt := 26) dX7_canGo_22 (by decide) ?_
    exact g_ireturn rfl rfl dX7_canGo_26 (Nat.le_of_ble_eq_true rfl) (Nat.le_of_ble_eq_true rfl) ⟨by
      have e : f_to f = besd (nd f) (hdg f) := rfl
      rw [e]
      cases hb : besd (nd f) (hdg f) with
      | none => first | rfl | (rw [hb] at h18; exact absurd rfl h18)
      | some k => first | rfl | (rw [hb] at h18; exact absurd h18 (nI_nm1 (by have := besd_lt hI.ndl hb; omega))), rfl, rfl⟩
theorem c_wouldSkip (hC : CInv M a lo z f n h sv len g) (hI : Rng f) : Runs mX7_wouldSkip [.ref a] M z (gD (some (.int (bI (decide (nI 10 ≤ f 461))))) M z) := by
  obtain ⟨ho, hF, ⟨ft, hFt⟩, hH, hS, ⟨sc, pl, gr, ti, lv, od, bk, hP⟩, ⟨O, Rq, rc, Cq, hAr⟩, l1, l2⟩ := id hC
  obtain ⟨R, ln, sg, hA, hRel⟩ := id hF
  obtain ⟨r0, r1, r2, ⟨k3, k4, k5, k6, k7⟩, ⟨s0, s1, s2, s3, s4, s5⟩, m1, m2, m3⟩ := id hRel
  refine runs_of plX7 rfl (Nat.le_of_ble_eq_true rfl) ?_
  show WP mX7_wouldSkip 0 [some (.ref a)] [] M z 0 0 _
  refine g_aload_0 dX7_wouldSkip_0 ?_
  refine g_get dX7_wouldSkip_1 (fX7_12 rfl) ho rfl ?_
  refine g_v0_1 dX7_wouldSkip_4 (vX7_143 rfl) rfl hA.1 (Nat.le_of_ble_eq_true rfl) ⟨rfl, rfl⟩ (Nat.le_of_ble_eq_true rfl) (Nat.le_of_ble_eq_true rfl) (q_isTight hF hI) ?_
  exact g_ireturn rfl (bI_narrow _) dX7_wouldSkip_7 (Nat.le_of_ble_eq_true rfl) (Nat.le_of_ble_eq_true rfl) ⟨rfl, rfl, rfl⟩
theorem c_coneOf (hC : CInv M a lo z f n h sv len g) (hI : Rng f) (hc : c < 5) : Runs mX7_coneOf [.ref a, .int (nI c)] M z (gD (some (.int (f (432 + 5 * c)))) M z) := by
  obtain ⟨ho, hF, ⟨ft, hFt⟩, hH, hS, ⟨sc, pl, gr, ti, lv, od, bk, hP⟩, ⟨O, Rq, rc, Cq, hAr⟩, l1, l2⟩ := id hC
  obtain ⟨R, ln, sg, hA, hRel⟩ := id hF
  obtain ⟨r0, r1, r2, ⟨k3, k4, k5, k6, k7⟩, ⟨s0, s1, s2, s3, s4, s5⟩, m1, m2, m3⟩ := id hRel
  refine runs_of plX7 rfl (Nat.le_of_ble_eq_true rfl) ?_
  show WP mX7_coneOf 0 [some (.ref a), some (.int (nI c))] [] M z 0 0 _
  refine g_iload_1 dX7_coneOf_0 ?_
  refine g_s1_0r dX7_coneOf_1 (sX7_110 rfl) rfl (Nat.le_of_ble_eq_true rfl) (Nat.le_of_ble_eq_true rfl) (Nat.le_of_ble_eq_true rfl) (c_needColour_ok hc) ?_
  refine g_aload_0 dX7_coneOf_4 ?_
  refine g_get dX7_coneOf_5 (fX7_12 rfl) ho rfl ?_
  refine g_get dX7_coneOf_8 (fX7_147 rfl) hA.1 rfl ?_
  refine g_iload_1 dX7_coneOf_11 ?_
  refine g_v1_1 dX7_coneOf_12 (vX7_151 rfl) rfl hA.2.2.1.1 (Nat.le_of_ble_eq_true rfl) ⟨rfl, rfl⟩ (Nat.le_of_ble_eq_true rfl) (Nat.le_of_ble_eq_true rfl) (c_onCone hA.2.2.1 hc) ?_
  rw [k3 c hc]
  exact g_ireturn rfl rfl dX7_coneOf_15 (Nat.le_of_ble_eq_true rfl) (Nat.le_of_ble_eq_true rfl) ⟨rfl, rfl, rfl⟩
theorem c_drawnByCone (hC : CInv M a lo z f n h sv len g) (hI : Rng f) (hc : c < 5) : Runs mX7_drawnByCone [.ref a, .int (nI c)] M z (gD (some (.int (f_drawn f c))) M z) := by
  obtain ⟨ho, hF, ⟨ft, hFt⟩, hH, hS, ⟨sc, pl, gr, ti, lv, od, bk, hP⟩, ⟨O, Rq, rc, Cq, hAr⟩, l1, l2⟩ := id hC
  obtain ⟨R, ln, sg, hA, hRel⟩ := id hF
  obtain ⟨r0, r1, r2, ⟨k3, k4, k5, k6, k7⟩, ⟨s0, s1, s2, s3, s4, s5⟩, m1, m2, m3⟩ := id hRel
  refine runs_of plX7 rfl (Nat.le_of_ble_eq_true rfl) ?_
  show WP mX7_drawnByCone 0 [some (.ref a), some (.int (nI c))] [] M z 0 0 _
  refine g_iload_1 dX7_drawnByCone_0 ?_
  refine g_s1_0r dX7_drawnByCone_1 (sX7_110 rfl) rfl (Nat.le_of_ble_eq_true rfl) (Nat.le_of_ble_eq_true rfl) (Nat.le_of_ble_eq_true rfl) (c_needColour_ok hc) ?_
  refine g_aload_0 dX7_drawnByCone_4 ?_
  refine g_get dX7_drawnByCone_5 (fX7_12 rfl) ho rfl ?_
  refine g_get dX7_drawnByCone_8 (fX7_147 rfl) hA.1 rfl ?_
  refine g_iload_1 dX7_drawnByCone_11 ?_
  refine g_v1_1 dX7_drawnByCone_12 (vX7_156 rfl) rfl hA.2.2.1.1 (Nat.le_of_ble_eq_true rfl) ⟨rfl, rfl⟩ (Nat.le_of_ble_eq_true rfl) (Nat.le_of_ble_eq_true rfl) (c_drawn hA.2.2.1 hc) ?_
  rw [k4 c hc, k3 c hc]
  exact g_ireturn rfl rfl dX7_drawnByCone_15 (Nat.le_of_ble_eq_true rfl) (Nat.le_of_ble_eq_true rfl) ⟨rfl, rfl, rfl⟩
theorem c_wasteOf (hC : CInv M a lo z f n h sv len g) (hI : Rng f) (hc : c < 5) : Runs mX7_wasteOf [.ref a, .int (nI c)] M z (gD (some (.int (f (436 + 5 * c)))) M z) := by
  obtain ⟨ho, hF, ⟨ft, hFt⟩, hH, hS, ⟨sc, pl, gr, ti, lv, od, bk, hP⟩, ⟨O, Rq, rc, Cq, hAr⟩, l1, l2⟩ := id hC
  obtain ⟨R, ln, sg, hA, hRel⟩ := id hF
  obtain ⟨r0, r1, r2, ⟨k3, k4, k5, k6, k7⟩, ⟨s0, s1, s2, s3, s4, s5⟩, m1, m2, m3⟩ := id hRel
  refine runs_of plX7 rfl (Nat.le_of_ble_eq_true rfl) ?_
  show WP mX7_wasteOf 0 [some (.ref a), some (.int (nI c))] [] M z 0 0 _
  refine g_iload_1 dX7_wasteOf_0 ?_
  refine g_s1_0r dX7_wasteOf_1 (sX7_110 rfl) rfl (Nat.le_of_ble_eq_true rfl) (Nat.le_of_ble_eq_true rfl) (Nat.le_of_ble_eq_true rfl) (c_needColour_ok hc) ?_
  refine g_aload_0 dX7_wasteOf_4 ?_
  refine g_get dX7_wasteOf_5 (fX7_12 rfl) ho rfl ?_
  refine g_get dX7_wasteOf_8 (fX7_147 rfl) hA.1 rfl ?_
  refine g_iload_1 dX7_wasteOf_11 ?_
  refine g_v1_1 dX7_wasteOf_12 (vX7_165 rfl) rfl hA.2.2.1.1 (Nat.le_of_ble_eq_true rfl) ⟨rfl, rfl⟩ (Nat.le_of_ble_eq_true rfl) (Nat.le_of_ble_eq_true rfl) (c_wasted hA.2.2.1 hc) ?_
  rw [k7 c hc]
  exact g_ireturn rfl rfl dX7_wasteOf_15 (Nat.le_of_ble_eq_true rfl) (Nat.le_of_ble_eq_true rfl) ⟨rfl, rfl, rfl⟩
theorem c_drawnByRug (hC : CInv M a lo z f n h sv len g) (hI : Rng f) (hc : c < 5) (hK : Cons f) : Runs mX7_drawnByRug [.ref a, .int (nI c)] M z (gD (some (.int (f_drawn f c))) M z) := by
  obtain ⟨ho, hF, ⟨ft, hFt⟩, hH, hS, ⟨sc, pl, gr, ti, lv, od, bk, hP⟩, ⟨O, Rq, rc, Cq, hAr⟩, l1, l2⟩ := id hC
  obtain ⟨R, ln, sg, hA, hRel⟩ := id hF
  obtain ⟨r0, r1, r2, ⟨k3, k4, k5, k6, k7⟩, ⟨s0, s1, s2, s3, s4, s5⟩, m1, m2, m3⟩ := id hRel
  refine runs_of plX7 rfl (Nat.le_of_ble_eq_true rfl) ?_
  show WP mX7_drawnByRug 0 [some (.ref a), some (.int (nI c))] [] M z 0 0 _
  refine g_iload_1 dX7_drawnByRug_0 ?_
  refine g_s1_0r dX7_drawnByRug_1 (sX7_110 rfl) rfl (Nat.le_of_ble_eq_true rfl) (Nat.le_of_ble_eq_true rfl) (Nat.le_of_ble_eq_true rfl) (c_needColour_ok hc) ?_
  refine g_aload_0 dX7_drawnByRug_4 ?_
  refine g_get dX7_drawnByRug_5 (fX7_12 rfl) ho rfl ?_
  refine g_get dX7_drawnByRug_8 (fX7_78 rfl) hA.1 rfl ?_
  refine g_iload_1 dX7_drawnByRug_11 ?_
  refine g_v1_1 dX7_drawnByRug_12 (vX7_159 rfl) rfl hA.2.1.1 (Nat.le_of_ble_eq_true rfl) ⟨rfl, rfl⟩ (Nat.le_of_ble_eq_true rfl) (Nat.le_of_ble_eq_true rfl) (c_yarnInLoops hA.2.1) ?_
  rw [hRel.cYarn hI hc]
  refine g_aload_0 dX7_drawnByRug_15 ?_
  refine g_get dX7_drawnByRug_16 (fX7_12 rfl) ho rfl ?_
  refine g_get dX7_drawnByRug_19 (fX7_147 rfl) hA.1 rfl ?_
  refine g_iload_1 dX7_drawnByRug_22 ?_
  refine g_v1_1 dX7_drawnByRug_23 (vX7_162 rfl) rfl hA.2.2.1.1 (Nat.le_of_ble_eq_true rfl) ⟨rfl, rfl⟩ (Nat.le_of_ble_eq_true rfl) (Nat.le_of_ble_eq_true rfl) (c_outsideLoops hA.2.2.1 hc) ?_
  rw [k5 c hc, k6 c hc, k7 c hc]
  refine g_iadd dX7_drawnByRug_26 ?_
  rw [← hK c hc]
  exact g_ireturn rfl rfl dX7_drawnByRug_27 (Nat.le_of_ble_eq_true rfl) (Nat.le_of_ble_eq_true rfl) ⟨rfl, rfl, rfl⟩
theorem c_neededFor (hC : CInv M a lo z f n h sv len g) (hI : Rng f) (hc : c < 5) : Runs mX7_neededFor [.ref a, .int (nI c)] M z (gD (some (.int (nI (cnt (needF f c) 144) * f_yarn (f 460)))) M z) := by
  obtain ⟨ho, hF, ⟨ft, hFt⟩, hH, hS, ⟨sc, pl, gr, ti, lv, od, bk, hP⟩, ⟨O, Rq, rc, Cq, hAr⟩, l1, l2⟩ := id hC
  obtain ⟨R, ln, sg, hA, hRel⟩ := id hF
  obtain ⟨r0, r1, r2, ⟨k3, k4, k5, k6, k7⟩, ⟨s0, s1, s2, s3, s4, s5⟩, m1, m2, m3⟩ := id hRel
  refine runs_of plX7 rfl (Nat.le_of_ble_eq_true rfl) ?_
  show WP mX7_neededFor 0 [some (.ref a), some (.int (nI c))] [] M z 0 0 _
  refine g_iload_1 dX7_neededFor_0 ?_
  refine g_s1_0r dX7_neededFor_1 (sX7_110 rfl) rfl (Nat.le_of_ble_eq_true rfl) (Nat.le_of_ble_eq_true rfl) (Nat.le_of_ble_eq_true rfl) (c_needColour_ok hc) ?_
  refine g_aload_0 dX7_neededFor_4 ?_
  refine g_get dX7_neededFor_5 (fX7_12 rfl) ho rfl ?_
  refine g_get dX7_neededFor_8 (fX7_78 rfl) hA.1 rfl ?_
  refine g_iload_1 dX7_neededFor_11 ?_
  refine g_v1_1 dX7_neededFor_12 (vX7_168 rfl) rfl hA.2.1.1 (Nat.le_of_ble_eq_true rfl) ⟨rfl, rfl⟩ (Nat.le_of_ble_eq_true rfl) (Nat.le_of_ble_eq_true rfl) (c_countMissingOf hA.2.1) ?_
  rw [hRel.cNeed hI]
  refine g_aload_0 dX7_neededFor_15 ?_
  refine g_get dX7_neededFor_16 (fX7_12 rfl) ho rfl ?_
  refine g_get dX7_neededFor_19 (fX7_133 rfl) hA.1 rfl ?_
  rw [s3]
  refine g_s1_1 dX7_neededFor_22 (sX7_171 rfl) rfl (Nat.le_of_ble_eq_true rfl) ⟨rfl, rfl⟩ (Nat.le_of_ble_eq_true rfl) (Nat.le_of_ble_eq_true rfl) (c_yarnFL) ?_
  refine g_imul dX7_neededFor_25 ?_
  exact g_ireturn rfl rfl dX7_neededFor_26 (Nat.le_of_ble_eq_true rfl) (Nat.le_of_ble_eq_true rfl) ⟨rfl, rfl, rfl⟩
theorem c_untilKnot (hC : CInv M a lo z f n h sv len g) (hI : Rng f) (hc : c < 5) : Runs mX7_untilKnot [.ref a, .int (nI c)] M z (gD (some (.int (nI 1000 - (f_drawn f c - f_drawn f c / nI 1000 * nI 1000)))) M z) := by
  obtain ⟨ho, hF, ⟨ft, hFt⟩, hH, hS, ⟨sc, pl, gr, ti, lv, od, bk, hP⟩, ⟨O, Rq, rc, Cq, hAr⟩, l1, l2⟩ := id hC
  obtain ⟨R, ln, sg, hA, hRel⟩ := id hF
  obtain ⟨r0, r1, r2, ⟨k3, k4, k5, k6, k7⟩, ⟨s0, s1, s2, s3, s4, s5⟩, m1, m2, m3⟩ := id hRel
  refine runs_of plX7 rfl (Nat.le_of_ble_eq_true rfl) ?_
  show WP mX7_untilKnot 0 [some (.ref a), some (.int (nI c))] [] M z 0 0 _
  refine g_iload_1 dX7_untilKnot_0 ?_
  refine g_s1_0r dX7_untilKnot_1 (sX7_110 rfl) rfl (Nat.le_of_ble_eq_true rfl) (Nat.le_of_ble_eq_true rfl) (Nat.le_of_ble_eq_true rfl) (c_needColour_ok hc) ?_
  refine g_sipush (v := nI 1000) dX7_untilKnot_4 rfl ?_
  refine g_aload_0 dX7_untilKnot_7 ?_
  refine g_get dX7_untilKnot_8 (fX7_12 rfl) ho rfl ?_
  refine g_get dX7_untilKnot_11 (fX7_147 rfl) hA.1 rfl ?_
  refine g_iload_1 dX7_untilKnot_14 ?_
  refine g_v1_1 dX7_untilKnot_15 (vX7_156 rfl) rfl hA.2.2.1.1 (Nat.le_of_ble_eq_true rfl) ⟨rfl, rfl⟩ (Nat.le_of_ble_eq_true rfl) (Nat.le_of_ble_eq_true rfl) (c_drawn hA.2.2.1 hc) ?_
  rw [k4 c hc, k3 c hc, show f (433 + 5 * c) - f (432 + 5 * c) = f_drawn f c from rfl]
  refine g_sipush (v := nI 1000) dX7_untilKnot_18 rfl ?_
  refine g_irem dX7_untilKnot_21 (by decide) ?_
  refine g_isub dX7_untilKnot_22 ?_
  exact g_ireturn rfl rfl dX7_untilKnot_23 (Nat.le_of_ble_eq_true rfl) (Nat.le_of_ble_eq_true rfl) ⟨rfl, rfl, rfl⟩
theorem c_whyNoStitch (hC : CInv M a lo z f n h sv len g) (hI : Rng f) : Runs mX7_whyNoStitch [.ref a] M z (gD (some (.int (nI (f_noStitch f)))) M z) := by
  obtain ⟨ho, hF, ⟨ft, hFt⟩, hH, hS, ⟨sc, pl, gr, ti, lv, od, bk, hP⟩, ⟨O, Rq, rc, Cq, hAr⟩, l1, l2⟩ := id hC
  obtain ⟨R, ln, sg, hA, hRel⟩ := id hF
  obtain ⟨r0, r1, r2, ⟨k3, k4, k5, k6, k7⟩, ⟨s0, s1, s2, s3, s4, s5⟩, m1, m2, m3⟩ := id hRel
  refine runs_of plX7 rfl (Nat.le_of_ble_eq_true rfl) ?_
  show WP mX7_whyNoStitch 0 [some (.ref a)] [] M z 0 0 _
  refine g_aload_0 dX7_whyNoStitch_0 ?_
  refine g_get dX7_whyNoStitch_1 (fX7_12 rfl) ho rfl ?_
  refine g_v0_1 dX7_whyNoStitch_4 (vX7_219 rfl) rfl hA.1 (Nat.le_of_ble_eq_true rfl) ⟨rfl, rfl⟩ (Nat.le_of_ble_eq_true rfl) (Nat.le_of_ble_eq_true rfl) (q_reasonStitch hF hI) ?_
  exact g_ireturn rfl rfl dX7_whyNoStitch_7 (Nat.le_of_ble_eq_true rfl) (Nat.le_of_ble_eq_true rfl) ⟨rfl, rfl, rfl⟩
theorem c_whyNoMending (hC : CInv M a lo z f n h sv len g) (hI : Rng f) (hj : j < 144) : Runs mX7_whyNoMending [.ref a, .int (nI j)] M z (gD (some (.int (nI (f_noMend f j)))) M z) := by
  obtain ⟨ho, hF, ⟨ft, hFt⟩, hH, hS, ⟨sc, pl, gr, ti, lv, od, bk, hP⟩, ⟨O, Rq, rc, Cq, hAr⟩, l1, l2⟩ := id hC
  obtain ⟨R, ln, sg, hA, hRel⟩ := id hF
  obtain ⟨r0, r1, r2, ⟨k3, k4, k5, k6, k7⟩, ⟨s0, s1, s2, s3, s4, s5⟩, m1, m2, m3⟩ := id hRel
  refine runs_of plX7 rfl (Nat.le_of_ble_eq_true rfl) ?_
  show WP mX7_whyNoMending 0 [some (.ref a), some (.int (nI j))] [] M z 0 0 _
  refine g_iload_1 dX7_whyNoMending_0 ?_
  refine g_s1_0r dX7_whyNoMending_1 (sX7_74 rfl) rfl (Nat.le_of_ble_eq_true rfl) (Nat.le_of_ble_eq_true rfl) (Nat.le_of_ble_eq_true rfl) (c_needCell_ok hj) ?_
  refine g_aload_0 dX7_whyNoMending_4 ?_
  refine g_get dX7_whyNoMending_5 (fX7_12 rfl) ho rfl ?_
  refine g_iload_1 dX7_whyNoMending_8 ?_
  refine g_v1_1 dX7_whyNoMending_9 (vX7_243 rfl) rfl hA.1 (Nat.le_of_ble_eq_true rfl) ⟨rfl, rfl⟩ (Nat.le_of_ble_eq_true rfl) (Nat.le_of_ble_eq_true rfl) (q_reasonMending hF hI hj) ?_
  exact g_ireturn rfl rfl dX7_whyNoMending_12 (Nat.le_of_ble_eq_true rfl) (Nat.le_of_ble_eq_true rfl) ⟨rfl, rfl, rfl⟩
theorem c_nearestByRings (hC : CInv M a lo z f n h sv len g) (hI : Rng f) (hc : c < 5) : Runs mX7_nearestByRings [.ref a, .int (nI c)] M z (gD (some (.int (nearV (needF f c) (farF (nd f))))) M z) := by
  obtain ⟨ho, hF, ⟨ft, hFt⟩, hH, hS, ⟨sc, pl, gr, ti, lv, od, bk, hP⟩, ⟨O, Rq, rc, Cq, hAr⟩, l1, l2⟩ := id hC
  obtain ⟨R, ln, sg, hA, hRel⟩ := id hF
  obtain ⟨r0, r1, r2, ⟨k3, k4, k5, k6, k7⟩, ⟨s0, s1, s2, s3, s4, s5⟩, m1, m2, m3⟩ := id hRel
  refine runs_of plX7 rfl (Nat.le_of_ble_eq_true rfl) ?_
  show WP mX7_nearestByRings 0 [some (.ref a), some (.int (nI c))] [] M z 0 0 _
  refine g_iload_1 dX7_nearestByRings_0 ?_
  refine g_s1_0r dX7_nearestByRings_1 (sX7_110 rfl) rfl (Nat.le_of_ble_eq_true rfl) (Nat.le_of_ble_eq_true rfl) (Nat.le_of_ble_eq_true rfl) (c_needColour_ok hc) ?_
  refine g_aload_0 dX7_nearestByRings_4 ?_
  refine g_get dX7_nearestByRings_5 (fX7_12 rfl) ho rfl ?_
  refine g_get dX7_nearestByRings_8 (fX7_78 rfl) hA.1 rfl ?_
  refine g_aload_0 dX7_nearestByRings_11 ?_
  refine g_get dX7_nearestByRings_12 (fX7_12 rfl) ho rfl ?_
  refine g_get dX7_nearestByRings_15 (fX7_124 rfl) hA.1 rfl ?_
  rw [s0, hI.nde]
  refine g_iload_1 dX7_nearestByRings_18 ?_
  refine g_v2_1 dX7_nearestByRings_19 (vX7_288 rfl) rfl hA.2.1.1 (Nat.le_of_ble_eq_true rfl) ⟨rfl, rfl⟩ (Nat.le_of_ble_eq_true rfl) (Nat.le_of_ble_eq_true rfl) (pE_gD (c_mono (c_nearestInRings (x := nI c) hI.ndl hA.2.1) (fun r M2 z2 hq => by obtain ⟨v, hv, hr⟩ := hq; exact ⟨v, hv.cong (fun k hk => hRel.fit hI hk), hr⟩))) ?_
  exact g_ireturn rfl rfl dX7_nearestByRings_22 (Nat.le_of_ble_eq_true rfl) (Nat.le_of_ble_eq_true rfl) ⟨rfl, rfl, rfl⟩
theorem c_nearestByCells (hC : CInv M a lo z f n h sv len g) (hI : Rng f) (hc : c < 5) : Runs mX7_nearestByCells [.ref a, .int (nI c)] M z (gD (some (.int (nearV (needF f c) (farF (nd f))))) M z) := by
  obtain ⟨ho, hF, ⟨ft, hFt⟩, hH, hS, ⟨sc, pl, gr, ti, lv, od, bk, hP⟩, ⟨O, Rq, rc, Cq, hAr⟩, l1, l2⟩ := id hC
  obtain ⟨R, ln, sg, hA, hRel⟩ := id hF
  obtain ⟨r0, r1, r2, ⟨k3, k4, k5, k6, k7⟩, ⟨s0, s1, s2, s3, s4, s5⟩, m1, m2, m3⟩ := id hRel
  refine runs_of plX7 rfl (Nat.le_of_ble_eq_true rfl) ?_
  show WP mX7_nearestByCells 0 [some (.ref a), some (.int (nI c))] [] M z 0 0 _
  refine g_iload_1 dX7_nearestByCells_0 ?_
  refine g_s1_0r dX7_nearestByCells_1 (sX7_110 rfl) rfl (Nat.le_of_ble_eq_true rfl) (Nat.le_of_ble_eq_true rfl) (Nat.le_of_ble_eq_true rfl) (c_needColour_ok hc) ?_
  refine g_aload_0 dX7_nearestByCells_4 ?_
  refine g_get dX7_nearestByCells_5 (fX7_12 rfl) ho rfl ?_
  refine g_get dX7_nearestByCells_8 (fX7_78 rfl) hA.1 rfl ?_
  refine g_aload_0 dX7_nearestByCells_11 ?_
  refine g_get dX7_nearestByCells_12 (fX7_12 rfl) ho rfl ?_
  refine g_get dX7_nearestByCells_15 (fX7_124 rfl) hA.1 rfl ?_
  rw [s0, hI.nde]
  refine g_iload_1 dX7_nearestByCells_18 ?_
  refine g_v2_1 dX7_nearestByCells_19 (vX7_291 rfl) rfl hA.2.1.1 (Nat.le_of_ble_eq_true rfl) ⟨rfl, rfl⟩ (Nat.le_of_ble_eq_true rfl) (Nat.le_of_ble_eq_true rfl) (pE_gD (c_mono (c_nearestInCells (x := nI c) hI.ndl hA.2.1) (fun r M2 z2 hq => by obtain ⟨v, hv, hr⟩ := hq; exact ⟨v, hv.cong (fun k hk => hRel.fit hI hk), hr⟩))) ?_
  exact g_ireturn rfl rfl dX7_nearestByCells_22 (Nat.le_of_ble_eq_true rfl) (Nat.le_of_ble_eq_true rfl) ⟨rfl, rfl, rfl⟩
theorem c_errorPosition (hC : CInv M a lo z f n h sv len g) (hI : Rng f) (hg : CharsOK g) (hl : len ≤ 120) : Runs mX7_errorPosition [.ref a] M z (gD (some (.int (pf g len len 0 0 false))) M z) := by
  obtain ⟨ho, hF, ⟨ft, hFt⟩, hH, hS, ⟨sc, pl, gr, ti, lv, od, bk, hP⟩, ⟨O, Rq, rc, Cq, hAr⟩, l1, l2⟩ := id hC
  obtain ⟨R, ln, sg, hA, hRel⟩ := id hF
  obtain ⟨r0, r1, r2, ⟨k3, k4, k5, k6, k7⟩, ⟨s0, s1, s2, s3, s4, s5⟩, m1, m2, m3⟩ := id hRel
  refine runs_of plX7 rfl (Nat.le_of_ble_eq_true rfl) ?_
  show WP mX7_errorPosition 0 [some (.ref a)] [] M z 0 0 _
  refine g_aload_0 dX7_errorPosition_0 ?_
  refine g_get dX7_errorPosition_1 (fX7_33 rfl) ho rfl ?_
  refine g_v0_1 dX7_errorPosition_4 (vX7_70 rfl) rfl hS.1 (Nat.le_of_ble_eq_true rfl) ⟨rfl, rfl⟩ (Nat.le_of_ble_eq_true rfl) (Nat.le_of_ble_eq_true rfl) (c_firstError hS hg hl) ?_
  exact g_ireturn rfl rfl dX7_errorPosition_7 (Nat.le_of_ble_eq_true rfl) (Nat.le_of_ble_eq_true rfl) ⟨rfl, rfl, rfl⟩
theorem c_motifLength1 (hC : CInv M a lo z f n h sv len g) (hs : s < 4) (hm : Bd f (463 + s) 121) (h0 : 0 < mLn f s) : Runs mX7_motifLength [.ref a, .int (nI s)] M z (gD (some (.int (f (463 + s)))) M z) := by
  obtain ⟨ho, hF, ⟨ft, hFt⟩, hH, hS, ⟨sc, pl, gr, ti, lv, od, bk, hP⟩, ⟨O, Rq, rc, Cq, hAr⟩, l1, l2⟩ := id hC
  obtain ⟨R, ln, sg, hA, hRel⟩ := id hF
  obtain ⟨r0, r1, r2, ⟨k3, k4, k5, k6, k7⟩, ⟨s0, s1, s2, s3, s4, s5⟩, m1, m2, m3⟩ := id hRel
  obtain ⟨_, hsc⟩ := hA.2.2.2
  have hS1 := hsc s hs
  have hm1 := m1 s hs
  refine runs_of plX7 rfl (Nat.le_of_ble_eq_true rfl) ?_
  show WP mX7_motifLength 0 [some (.ref a), some (.int (nI s)), none] [] M z 0 0 _
  refine g_iload_1 dX7_motifLength_0 ?_
  refine g_s1_0r dX7_motifLength_1 (sX7_177 rfl) rfl (Nat.le_of_ble_eq_true rfl) (Nat.le_of_ble_eq_true rfl) (Nat.le_of_ble_eq_true rfl) (c_needMotif_ok hs) ?_
  refine g_aload_0 dX7_motifLength_4 ?_
  refine g_get dX7_motifLength_5 (fX7_12 rfl) ho rfl ?_
  refine g_iload_1 dX7_motifLength_8 ?_
  refine g_v1_1 dX7_motifLength_9 (vX7_180 rfl) rfl hA.1 (Nat.le_of_ble_eq_true rfl) ⟨rfl, rfl⟩ (Nat.le_of_ble_eq_true rfl) (Nat.le_of_ble_eq_true rfl) (q_motifAt1 hF hs hm.1 (by have := hm.2; unfold mLn at h0; omega) h0) ?_
  refine g_astore_2 rfl dX7_motifLength_12 ?_
  refine g_aload_2 dX7_motifLength_13 ?_
  refine g_ifnonnull (tgt := 21) dX7_motifLength_14 (by decide) ?_
  refine g_aload_2 dX7_motifLength_21 ?_
  refine g_get dX7_motifLength_22 (fX7_55 rfl) hS1.1 rfl ?_
  rw [← hm1.2]
  exact g_ireturn rfl rfl dX7_motifLength_25 (Nat.le_of_ble_eq_true rfl) (Nat.le_of_ble_eq_true rfl) ⟨rfl, rfl, rfl⟩
theorem c_motifLength0 (hC : CInv M a lo z f n h sv len g) (hs : s < 4) (hm : Bd f (463 + s) 121) (h0 : mLn f s = 0) : Runs mX7_motifLength [.ref a, .int (nI s)] M z (gD (some (.int (f (463 + s)))) M z) := by
  obtain ⟨ho, hF, ⟨ft, hFt⟩, hH, hS, ⟨sc, pl, gr, ti, lv, od, bk, hP⟩, ⟨O, Rq, rc, Cq, hAr⟩, l1, l2⟩ := id hC
  obtain ⟨R, ln, sg, hA, hRel⟩ := id hF
  obtain ⟨r0, r1, r2, ⟨k3, k4, k5, k6, k7⟩, ⟨s0, s1, s2, s3, s4, s5⟩, m1, m2, m3⟩ := id hRel
  refine runs_of plX7 rfl (Nat.le_of_ble_eq_true rfl) ?_
  show WP mX7_motifLength 0 [some (.ref a), some (.int (nI s)), none] [] M z 0 0 _
  refine g_iload_1 dX7_motifLength_0 ?_
  refine g_s1_0r dX7_motifLength_1 (sX7_177 rfl) rfl (Nat.le_of_ble_eq_true rfl) (Nat.le_of_ble_eq_true rfl) (Nat.le_of_ble_eq_true rfl) (c_needMotif_ok hs) ?_
  refine g_aload_0 dX7_motifLength_4 ?_
  refine g_get dX7_motifLength_5 (fX7_12 rfl) ho rfl ?_
  refine g_iload_1 dX7_motifLength_8 ?_
  refine g_v1_1 dX7_motifLength_9 (vX7_180 rfl) rfl hA.1 (Nat.le_of_ble_eq_true rfl) ⟨rfl, rfl⟩ (Nat.le_of_ble_eq_true rfl) (Nat.le_of_ble_eq_true rfl) (q_motifAt0 hF hs hm.1 (by have := hm.2; omega) h0) ?_
  refine g_astore_2N rfl dX7_motifLength_12 ?_
  refine g_aload_2N dX7_motifLength_13 ?_
  refine g_ifnonnullN dX7_motifLength_14 ?_
  refine g_iconst (v := nI 0) dX7_motifLength_17 rfl ?_
  refine g_goto (tgt := 25) dX7_motifLength_18 (by decide) ?_
  exact g_ireturn rfl rfl dX7_motifLength_25 (Nat.le_of_ble_eq_true rfl) (Nat.le_of_ble_eq_true rfl) ⟨by rw [hm.1]; show _ = _; rw [show gv f (463 + s) = 0 from h0], rfl, rfl⟩
theorem c_motifSign (hC : CInv M a lo z f n h sv len g) (hs : s < 4) (hm : Bd f (463 + s) 121) (h0 : i < mLn f s) : Runs mX7_motifSign [.ref a, .int (nI s), .int (nI i)] M z (gD (some (.int (f (467 + 120 * s + i)))) M z) := by
  obtain ⟨ho, hF, ⟨ft, hFt⟩, hH, hS, ⟨sc, pl, gr, ti, lv, od, bk, hP⟩, ⟨O, Rq, rc, Cq, hAr⟩, l1, l2⟩ := id hC
  obtain ⟨R, ln, sg, hA, hRel⟩ := id hF
  obtain ⟨r0, r1, r2, ⟨k3, k4, k5, k6, k7⟩, ⟨s0, s1, s2, s3, s4, s5⟩, m1, m2, m3⟩ := id hRel
  obtain ⟨_, hsc⟩ := hA.2.2.2
  have hS1 := hsc s hs
  have hm1 := m1 s hs
  have hm3 := hm.2
  have hl9 : mLn f s < 121 := hm3
  have hln : ln s = mLn f s := by
    have e := hm1.2.symm.trans hm.1
    exact (nI_eq (by omega) (by omega)).mp e
  refine runs_of plX7 rfl (Nat.le_of_ble_eq_true rfl) ?_
  show WP mX7_motifSign 0 [some (.ref a), some (.int (nI s)), some (.int (nI i)), none] [] M z 0 0 _
  refine g_iload_1 dX7_motifSign_0 ?_
  refine g_s1_0r dX7_motifSign_1 (sX7_177 rfl) rfl (Nat.le_of_ble_eq_true rfl) (Nat.le_of_ble_eq_true rfl) (Nat.le_of_ble_eq_true rfl) (c_needMotif_ok hs) ?_
  refine g_aload_0 dX7_motifSign_4 ?_
  refine g_get dX7_motifSign_5 (fX7_12 rfl) ho rfl ?_
  refine g_iload_1 dX7_motifSign_8 ?_
  refine g_v1_1 dX7_motifSign_9 (vX7_180 rfl) rfl hA.1 (Nat.le_of_ble_eq_true rfl) ⟨rfl, rfl⟩ (Nat.le_of_ble_eq_true rfl) (Nat.le_of_ble_eq_true rfl) (q_motifAt1 hF hs hm.1 (by omega) (by show 0 < mLn f s; omega)) ?_
  refine g_astore_3 rfl dX7_motifSign_12 ?_
  refine g_aload_3 dX7_motifSign_13 ?_
  refine g_ifnull dX7_motifSign_14 ?_
  refine g_iload_2 dX7_motifSign_17 ?_
  refine g_if_ltN (tgt := 29) dX7_motifSign_18 (by decide) (by omega) ?_
  refine g_iload_2 dX7_motifSign_21 ?_
  refine g_aload_3 dX7_motifSign_22 ?_
  refine g_get dX7_motifSign_23 (fX7_55 rfl) hS1.1 rfl ?_
  refine g_icmp_ltN (tgt := 39) dX7_motifSign_26 (by decide) (by omega) (by omega) (fun _ => ?_) (fun h26 => absurd h26 (by omega))
  refine g_aload_3 dX7_motifSign_39 ?_
  refine g_iload_2 dX7_motifSign_40 ?_
  refine g_v1_1 dX7_motifSign_41 (vX7_189 rfl) rfl hS1.1 (Nat.le_of_ble_eq_true rfl) ⟨rfl, rfl⟩ (Nat.le_of_ble_eq_true rfl) (Nat.le_of_ble_eq_true rfl) (c_signAt hS1 (m3 s) hm1.1 (by omega)) ?_
  rw [show sgn (ln s) (sg s) i = sg s i from if_pos (by omega), ← m2 s hs i (by omega)]
  exact g_ireturn rfl rfl dX7_motifSign_44 (Nat.le_of_ble_eq_true rfl) (Nat.le_of_ble_eq_true rfl) ⟨rfl, rfl, rfl⟩
theorem c_motifSign_x0 (hC : CInv M a lo z f n h sv len g) (hs : s < 4) (hm : Bd f (463 + s) 121) (h0 : mLn f s = 0) : Runs mX7_motifSign [.ref a, .int (nI s), .int y] M z (gE IOE M z) := by
  obtain ⟨ho, hF, ⟨ft, hFt⟩, hH, hS, ⟨sc, pl, gr, ti, lv, od, bk, hP⟩, ⟨O, Rq, rc, Cq, hAr⟩, l1, l2⟩ := id hC
  obtain ⟨R, ln, sg, hA, hRel⟩ := id hF
  obtain ⟨r0, r1, r2, ⟨k3, k4, k5, k6, k7⟩, ⟨s0, s1, s2, s3, s4, s5⟩, m1, m2, m3⟩ := id hRel
  refine runs_of plX7 rfl (Nat.le_of_ble_eq_true rfl) ?_
  show WP mX7_motifSign 0 [some (.ref a), some (.int (nI s)), some (.int y), none] [] M z 0 0 _
  refine g_iload_1 dX7_motifSign_0 ?_
  refine g_s1_0r dX7_motifSign_1 (sX7_177 rfl) rfl (Nat.le_of_ble_eq_true rfl) (Nat.le_of_ble_eq_true rfl) (Nat.le_of_ble_eq_true rfl) (c_needMotif_ok hs) ?_
  refine g_aload_0 dX7_motifSign_4 ?_
  refine g_get dX7_motifSign_5 (fX7_12 rfl) ho rfl ?_
  refine g_iload_1 dX7_motifSign_8 ?_
  refine g_v1_1 dX7_motifSign_9 (vX7_180 rfl) rfl hA.1 (Nat.le_of_ble_eq_true rfl) ⟨rfl, rfl⟩ (Nat.le_of_ble_eq_true rfl) (Nat.le_of_ble_eq_true rfl) (q_motifAt0 hF hs hm.1 (by have := hm.2; omega) h0) ?_
  refine g_astore_3N rfl dX7_motifSign_12 ?_
  refine g_aload_3N dX7_motifSign_13 ?_
  refine g_ifnullN (tgt := 29) dX7_motifSign_14 (by decide) ?_
  exact g_throw (tX7_186 rfl) rfl dX7_motifSign_29 dX7_motifSign_32 (Or.inl ⟨dX7_motifSign_33, dX7_motifSign_35, dX7_motifSign_38⟩) (Nat.le_of_ble_eq_true rfl) (Nat.le_of_ble_eq_true rfl) (Nat.le_of_ble_eq_true rfl) (Nat.le_of_ble_eq_true rfl) (fun z2 hz2 => ⟨rfl, rfl, hz2⟩)
theorem c_motifSign_x1 (hC : CInv M a lo z f n h sv len g) (hs : s < 4) (hm : Bd f (463 + s) 121) (h0 : 0 < mLn f s) (hy : y < 0 ∨ nI (mLn f s) ≤ y) : Runs mX7_motifSign [.ref a, .int (nI s), .int y] M z (gE IOE M z) := by
  obtain ⟨ho, hF, ⟨ft, hFt⟩, hH, hS, ⟨sc, pl, gr, ti, lv, od, bk, hP⟩, ⟨O, Rq, rc, Cq, hAr⟩, l1, l2⟩ := id hC
  obtain ⟨R, ln, sg, hA, hRel⟩ := id hF
  obtain ⟨r0, r1, r2, ⟨k3, k4, k5, k6, k7⟩, ⟨s0, s1, s2, s3, s4, s5⟩, m1, m2, m3⟩ := id hRel
  obtain ⟨_, hsc⟩ := hA.2.2.2
  have hS1 := hsc s hs
  have hm1 := m1 s hs
  have hm3 := hm.2
  have hl9 : mLn f s < 121 := hm3
  have hln : ln s = mLn f s := by
    have e := hm1.2.symm.trans hm.1
    exact (nI_eq (by omega) (by omega)).mp e
  refine runs_of plX7 rfl (Nat.le_of_ble_eq_true rfl) ?_
  show WP mX7_motifSign 0 [some (.ref a), some (.int (nI s)), some (.int y), none] [] M z 0 0 _
  refine g_iload_1 dX7_motifSign_0 ?_
  refine g_s1_0r dX7_motifSign_1 (sX7_177 rfl) rfl (Nat.le_of_ble_eq_true rfl) (Nat.le_of_ble_eq_true rfl) (Nat.le_of_ble_eq_true rfl) (c_needMotif_ok hs) ?_
  refine g_aload_0 dX7_motifSign_4 ?_
  refine g_get dX7_motifSign_5 (fX7_12 rfl) ho rfl ?_
  refine g_iload_1 dX7_motifSign_8 ?_
  refine g_v1_1 dX7_motifSign_9 (vX7_180 rfl) rfl hA.1 (Nat.le_of_ble_eq_true rfl) ⟨rfl, rfl⟩ (Nat.le_of_ble_eq_true rfl) (Nat.le_of_ble_eq_true rfl) (q_motifAt1 hF hs hm.1 (by omega) h0) ?_
  refine g_astore_3 rfl dX7_motifSign_12 ?_
  refine g_aload_3 dX7_motifSign_13 ?_
  refine g_ifnull dX7_motifSign_14 ?_
  refine g_iload_2 dX7_motifSign_17 ?_
  refine g_if_lt (tgt := 29) dX7_motifSign_18 (by decide)  (fun h18 => ?_) (fun h18 => ?_)
  · exact g_throw (tX7_186 rfl) rfl dX7_motifSign_29 dX7_motifSign_32 (Or.inl ⟨dX7_motifSign_33, dX7_motifSign_35, dX7_motifSign_38⟩) (Nat.le_of_ble_eq_true rfl) (Nat.le_of_ble_eq_true rfl) (Nat.le_of_ble_eq_true rfl) (Nat.le_of_ble_eq_true rfl) (fun z2 hz2 => ⟨rfl, rfl, hz2⟩)
  · refine g_iload_2 dX7_motifSign_21 ?_
    refine g_aload_3 dX7_motifSign_22 ?_
    refine g_get dX7_motifSign_23 (fX7_55 rfl) hS1.1 rfl ?_
    rw [hln]
    refine g_icmp_lt (tgt := 39) dX7_motifSign_26 (by decide)  (fun h26 => (nI_xn (by omega) hy h18 h26).elim) (fun _ => ?_)
    exact g_throw (tX7_186 rfl) rfl dX7_motifSign_29 dX7_motifSign_32 (Or.inl ⟨dX7_motifSign_33, dX7_motifSign_35, dX7_motifSign_38⟩) (Nat.le_of_ble_eq_true rfl) (Nat.le_of_ble_eq_true rfl) (Nat.le_of_ble_eq_true rfl) (Nat.le_of_ble_eq_true rfl) (fun z2 hz2 => ⟨rfl, rfl, hz2⟩)
end P67

section P19
variable {M : Hp} {z a c j : Nat} {f : Row} {x : Int32}
theorem nI_nm1 : ∀ {i : Nat}, i < 2 ^ 31 → ¬ nI i = -1 := fun {i} hi h => by
  have := congrArg Int32.toInt h
  rw [nI_toInt hi] at this
  have h1 : (-1 : Int32).toInt = -1 := by decide
  omega
theorem hasL_num : ∀ v, v < 7 → (hasL (nI v) = true ↔ 1 ≤ v ∧ v ≤ 5) := by decide +kernel
theorem lp_num : ∀ v, v < 7 → (lpv (dl (nI v)) = -1 ↔ hasL (nI v) = false) ∧ (hasL (nI v) = true → lpv (dl (nI v)) = nI (v - 1)) ∧ (dl (nI v) = -2 ↔ v = 6) ∧ (0 ≤ dl (nI v) ↔ hasL (nI v) = true) := by decide +kernel
theorem lp_iff {i : Nat} (h : Bd f i 7) : lpv (dl (f i)) = -1 ↔ hasL (f i) = false := by rw [h.1]; exact (lp_num _ h.2).1
theorem lp_val {i : Nat} (h : Bd f i 7) (hl : hasL (f i) = true) : lpv (dl (f i)) = nI (gv f i - 1) := by
  have := (lp_num _ h.2).2.1
  rw [← h.1] at this
  exact this hl
theorem hasL_gv {i : Nat} (h : Bd f i 7) (hl : hasL (f i) = true) : 1 ≤ gv f i ∧ gv f i ≤ 5 := by
  have := (hasL_num _ h.2).mp
  rw [← h.1] at this
  exact this hl
theorem miss_num : ∀ v, v < 6 → ∀ w, w < 7 → (decide (nI v - nI 1 ≠ -1) && decide (lpv (dl (nI w)) = -1)) = (decide (nI 0 < nI v) && !hasL (nI w)) := by decide +kernel
theorem Rel.miss {R : Nat → Row} {ln : Nat → Nat} {sg : Nat → Nat → Nat} (h : Rel R ln sg f) (hI : Rng f) (hj : j < 144) : missB (R 0) (R 1) j = missF f j := by
  unfold missB missF
  rw [h.1 j hj, h.2.1 j hj, (hI.1 j hj).1, (hI.2.1 j hj).1]
  exact miss_num _ (hI.1 j hj).2 _ (hI.2.1 j hj).2
theorem Rng.thr (hI : Rng f) (ht : tno f = c + 1) : f 459 - nI 1 = nI c := by
  have h : f 459 = nI (tno f) := hI.2.2.2.2.1.2.2.1.1
  rw [h, ht]
  exact nI_pm c
theorem Rng.thr0 (hI : Rng f) (ht : tno f = 0) : f 459 - nI 1 = -1 := by
  have h : f 459 = nI (tno f) := hI.2.2.2.2.1.2.2.1.1
  rw [h, ht]
  exact nI_m1
theorem Rng.tlt (hI : Rng f) : tno f < 6 := hI.2.2.2.2.1.2.2.1.2
theorem Rng.nde (hI : Rng f) : f 457 = nI (nd f) := hI.2.2.2.2.1.1.1
theorem Rng.ndl (hI : Rng f) : nd f < 144 := hI.2.2.2.2.1.1.2
theorem Rng.hde (hI : Rng f) : f 458 = nI (hdg f) := hI.2.2.2.2.1.2.1.1
theorem Rng.hdl (hI : Rng f) : hdg f < 4 := hI.2.2.2.2.1.2.1.2
theorem q_isTight (hF : RugF M a f) (hI : Rng f) : Runs mX4_isTight [.ref a] M z (gD (some (.int (bI (decide (nI 10 ≤ f 461))))) M z) := by
  obtain ⟨R, ln, sg, hA, hRel⟩ := hF
  have hao := hA.1
  have hco := hA.2.1.1
  have hyo := hA.2.2.1.1
  obtain ⟨r0, r1, r2, ⟨k3, k4, k5, k6, k7⟩, ⟨s0, s1, s2, s3, s4, s5⟩, m1, m2, m3⟩ := id hRel
  have hnd := hI.ndl
  have hhd := hI.hdl
  rw [hI.nde] at s0
  rw [hI.hde] at s1
  refine runs_of plX4 rfl (Nat.le_of_ble_eq_true rfl) ?_
  show WP mX4_isTight 0 [some (.ref a)] [] M z 0 0 _
  refine g_aload_0 dX4_isTight_0 ?_
  refine g_get dX4_isTight_1 (fX4_56 rfl) hA.1 rfl ?_
  rw [s4]
  refine g_bipush (v := nI 10) dX4_isTight_4 rfl ?_
  refine g_icmp_lt (tgt := 13) dX4_isTight_6 (by decide)  (fun h6 => ?_) (fun h6 => ?_)
  · refine g_iconst (v := nI 0) dX4_isTight_13 rfl ?_
    exact g_ireturn rfl rfl dX4_isTight_14 (Nat.le_of_ble_eq_true rfl) (Nat.le_of_ble_eq_true rfl) (gDb (by simp only [bI, decide_eq_true_eq]; first | rw [if_pos (Int32.not_lt.mp h6)] | rw [if_neg (Int32.not_le.mpr h6)]))
  · refine g_iconst (v := nI 1) dX4_isTight_9 rfl ?_
    refine g_goto (tgt := 14) dX4_isTight_10 (by decide) ?_
    exact g_ireturn rfl rfl dX4_isTight_14 (Nat.le_of_ble_eq_true rfl) (Nat.le_of_ble_eq_true rfl) (gDb (by simp only [bI, decide_eq_true_eq]; first | rw [if_pos (Int32.not_lt.mp h6)] | rw [if_neg (Int32.not_le.mpr h6)]))
theorem q_reasonStitch0 (hF : RugF M a f) (hI : Rng f) (ht : tno f = 0) : Runs mX4_reasonAgainstStitch [.ref a] M z (gD (some (.int (nI (f_noStitch f)))) M z) := by
  obtain ⟨R, ln, sg, hA, hRel⟩ := hF
  have hao := hA.1
  have hco := hA.2.1.1
  have hyo := hA.2.2.1.1
  obtain ⟨r0, r1, r2, ⟨k3, k4, k5, k6, k7⟩, ⟨s0, s1, s2, s3, s4, s5⟩, m1, m2, m3⟩ := id hRel
  have hnd := hI.ndl
  have hhd := hI.hdl
  rw [hI.nde] at s0
  rw [hI.hde] at s1
  rw [hI.thr0 ht] at s2
  refine runs_of plX4 rfl (Nat.le_of_ble_eq_true rfl) ?_
  show WP mX4_reasonAgainstStitch 0 [some (.ref a)] [] M z 0 0 _
  refine g_aload_0 dX4_reasonAgainstStitch_0 ?_
  refine g_get dX4_reasonAgainstStitch_1 (fX4_31 rfl) hA.1 rfl ?_
  rw [s2]
  refine g_iconst (v := -1) dX4_reasonAgainstStitch_4 rfl ?_
  refine g_icmp_ne (tgt := 10) dX4_reasonAgainstStitch_5 (by decide)  (fun h5 => absurd h5 (fun q => q rfl)) (fun _ => ?_)
  refine g_iconst (v := nI 1) dX4_reasonAgainstStitch_8 rfl ?_
  exact g_ireturn rfl rfl dX4_reasonAgainstStitch_9 (Nat.le_of_ble_eq_true rfl) (Nat.le_of_ble_eq_true rfl) (gDi (by simp [f_noStitch, ht]))
theorem q_reasonStitch1 (hF : RugF M a f) (hI : Rng f) (ht : tno f = c + 1) : Runs mX4_reasonAgainstStitch [.ref a] M z (gD (some (.int (nI (f_noStitch f)))) M z) := by
  obtain ⟨R, ln, sg, hA, hRel⟩ := hF
  have hao := hA.1
  have hco := hA.2.1.1
  have hyo := hA.2.2.1.1
  obtain ⟨r0, r1, r2, ⟨k3, k4, k5, k6, k7⟩, ⟨s0, s1, s2, s3, s4, s5⟩, m1, m2, m3⟩ := id hRel
  have hnd := hI.ndl
  have hhd := hI.hdl
  rw [hI.nde] at s0
  rw [hI.hde] at s1
  have hc5 : c < 5 := by have := hI.tlt; omega
  rw [hI.thr ht] at s2
  have hb := hI.2.1 (nd f) hnd
  refine runs_of plX4 rfl (Nat.le_of_ble_eq_true rfl) ?_
  show WP mX4_reasonAgainstStitch 0 [some (.ref a)] [] M z 0 0 _
  refine g_aload_0 dX4_reasonAgainstStitch_0 ?_
  refine g_get dX4_reasonAgainstStitch_1 (fX4_31 rfl) hA.1 rfl ?_
  rw [s2]
  refine g_iconst (v := -1) dX4_reasonAgainstStitch_4 rfl ?_
  refine g_icmp_ne (tgt := 10) dX4_reasonAgainstStitch_5 (by decide)  (fun _ => ?_) (fun h5 => absurd h5 (nI_nm1 (by omega)))
  refine g_aload_0 dX4_reasonAgainstStitch_10 ?_
  refine g_get dX4_reasonAgainstStitch_11 (fX4_12 rfl) hA.1 rfl ?_
  refine g_aload_0 dX4_reasonAgainstStitch_14 ?_
  refine g_get dX4_reasonAgainstStitch_15 (fX4_50 rfl) hA.1 rfl ?_
  rw [s0]
  refine g_v1_1 dX4_reasonAgainstStitch_18 (vX4_68 rfl) rfl (by assumption) (Nat.le_of_ble_eq_true rfl) ⟨rfl, rfl⟩ (Nat.le_of_ble_eq_true rfl) (Nat.le_of_ble_eq_true rfl) (c_loopAt hA.2.1 hnd) ?_
  refine g_iconst (v := -1) dX4_reasonAgainstStitch_21 rfl ?_
  refine g_icmp_eq (tgt := 27) dX4_reasonAgainstStitch_22 (by decide)  (fun h22 => ?_) (fun h22 => ?_)
  · refine g_aload_0 dX4_reasonAgainstStitch_27 ?_
    refine g_get dX4_reasonAgainstStitch_28 (fX4_21 rfl) hA.1 rfl ?_
    refine g_aload_0 dX4_reasonAgainstStitch_31 ?_
    refine g_get dX4_reasonAgainstStitch_32 (fX4_31 rfl) hA.1 rfl ?_
    rw [s2]
    refine g_v1_1 dX4_reasonAgainstStitch_35 (vX4_72 rfl) rfl (by assumption) (Nat.le_of_ble_eq_true rfl) ⟨rfl, rfl⟩ (Nat.le_of_ble_eq_true rfl) (Nat.le_of_ble_eq_true rfl) (c_onCone hA.2.2.1 hc5) ?_
    rw [k3 _ hc5]
    refine g_aload_0 dX4_reasonAgainstStitch_38 ?_
    refine g_get dX4_reasonAgainstStitch_39 (fX4_35 rfl) hA.1 rfl ?_
    rw [s3]
    refine g_s1_1 dX4_reasonAgainstStitch_42 (sX4_75 rfl) rfl (Nat.le_of_ble_eq_true rfl) ⟨rfl, rfl⟩ (Nat.le_of_ble_eq_true rfl) (Nat.le_of_ble_eq_true rfl) (c_yarnForLoop) ?_
    refine g_icmp_ge (tgt := 52) dX4_reasonAgainstStitch_45 (by decide)  (fun h45 => ?_) (fun h45 => ?_)
    · refine g_iconst (v := nI 0) dX4_reasonAgainstStitch_52 rfl ?_
      exact g_ireturn rfl rfl dX4_reasonAgainstStitch_53 (Nat.le_of_ble_eq_true rfl) (Nat.le_of_ble_eq_true rfl) (gDi (by rw [r1 _ hnd, lp_iff hb] at h22; first | (have h46 := Int32.not_lt.mpr h45; simp [f_noStitch, ht, h22, f_yarn, h46]) | (have h46 := Int32.not_le.mp h45; simp [f_noStitch, ht, h22, f_yarn, h46])))
    · refine g_iconst (v := nI 3) dX4_reasonAgainstStitch_48 rfl ?_
      refine g_goto (tgt := 53) dX4_reasonAgainstStitch_49 (by decide) ?_
      exact g_ireturn rfl rfl dX4_reasonAgainstStitch_53 (Nat.le_of_ble_eq_true rfl) (Nat.le_of_ble_eq_true rfl) (gDi (by rw [r1 _ hnd, lp_iff hb] at h22; first | (have h46 := Int32.not_lt.mpr h45; simp [f_noStitch, ht, h22, f_yarn, h46]) | (have h46 := Int32.not_le.mp h45; simp [f_noStitch, ht, h22, f_yarn, h46])))
  · refine g_iconst (v := nI 2) dX4_reasonAgainstStitch_25 rfl ?_
    exact g_ireturn rfl rfl dX4_reasonAgainstStitch_26 (Nat.le_of_ble_eq_true rfl) (Nat.le_of_ble_eq_true rfl) (gDi (by rw [r1 _ hnd, lp_iff hb] at h22; simp [f_noStitch, ht, h22]))
theorem q_reasonStitch (hF : RugF M a f) (hI : Rng f) : Runs mX4_reasonAgainstStitch [.ref a] M z (gD (some (.int (nI (f_noStitch f)))) M z) := by
  cases ht : tno f with
  | zero => exact q_reasonStitch0 hF hI ht
  | succ c => exact q_reasonStitch1 hF hI ht
def f_noMend (f : Row) (j : Nat) : Nat := if missF f j = true then (if f (432 + 5 * (gv f j - 1)) < f_yarn (f 460) then 2 else 0) else 1
theorem Rng.plan (hI : Rng f) (hj : j < 144) (hm : missF f j = true) : 1 ≤ gv f j ∧ gv f j ≤ 5 ∧ f j - nI 1 = nI (gv f j - 1) := by
  have h := hI.1 j hj
  unfold missF at hm
  simp only [Bool.and_eq_true, decide_eq_true_eq] at hm
  have h1 := hm.1
  rw [h.1, nI_ltI (by omega) (by have := h.2; omega)] at h1
  refine ⟨h1, by have := h.2; omega, ?_⟩
  rw [h.1]
  exact pk_sub h1
theorem q_reasonMending (hF : RugF M a f) (hI : Rng f) (hj : j < 144) : Runs mX4_reasonAgainstMending [.ref a, .int (nI j)] M z (gD (some (.int (nI (f_noMend f j)))) M z) := by
  obtain ⟨R, ln, sg, hA, hRel⟩ := hF
  have hao := hA.1
  have hco := hA.2.1.1
  have hyo := hA.2.2.1.1
  obtain ⟨r0, r1, r2, ⟨k3, k4, k5, k6, k7⟩, ⟨s0, s1, s2, s3, s4, s5⟩, m1, m2, m3⟩ := id hRel
  have hnd := hI.ndl
  have hhd := hI.hdl
  rw [hI.nde] at s0
  rw [hI.hde] at s1
  refine runs_of plX4 rfl (Nat.le_of_ble_eq_true rfl) ?_
  show WP mX4_reasonAgainstMending 0 [some (.ref a), some (.int (nI j))] [] M z 0 0 _
  refine g_aload_0 dX4_reasonAgainstMending_0 ?_
  refine g_get dX4_reasonAgainstMending_1 (fX4_12 rfl) hA.1 rfl ?_
  refine g_iload_1 dX4_reasonAgainstMending_4 ?_
  refine g_v1_1 dX4_reasonAgainstMending_5 (vX4_78 rfl) rfl (by assumption) (Nat.le_of_ble_eq_true rfl) ⟨rfl, rfl⟩ (Nat.le_of_ble_eq_true rfl) (Nat.le_of_ble_eq_true rfl) (c_missingAt hA.2.1 hj) ?_
  rw [hRel.miss hI hj]
  refine g_if_neB (tgt := 13) dX4_reasonAgainstMending_8 (by decide)  (fun h8 => ?_) (fun h8 => ?_)
  · obtain ⟨p1, p2, p3⟩ := hI.plan hj h8
    have p4 : gv f j - 1 < 5 := by omega
    refine g_aload_0 dX4_reasonAgainstMending_13 ?_
    refine g_get dX4_reasonAgainstMending_14 (fX4_21 rfl) hA.1 rfl ?_
    refine g_aload_0 dX4_reasonAgainstMending_17 ?_
    refine g_get dX4_reasonAgainstMending_18 (fX4_12 rfl) hA.1 rfl ?_
    refine g_iload_1 dX4_reasonAgainstMending_21 ?_
    refine g_v1_1 dX4_reasonAgainstMending_22 (vX4_82 rfl) rfl (by assumption) (Nat.le_of_ble_eq_true rfl) ⟨rfl, rfl⟩ (Nat.le_of_ble_eq_true rfl) (Nat.le_of_ble_eq_true rfl) (c_planAt hA.2.1 hj) ?_
    rw [r0 _ hj, p3]
    refine g_v1_1 dX4_reasonAgainstMending_25 (vX4_72 rfl) rfl (by assumption) (Nat.le_of_ble_eq_true rfl) ⟨rfl, rfl⟩ (Nat.le_of_ble_eq_true rfl) (Nat.le_of_ble_eq_true rfl) (c_onCone hA.2.2.1 p4) ?_
    rw [k3 _ p4]
    refine g_aload_0 dX4_reasonAgainstMending_28 ?_
    refine g_get dX4_reasonAgainstMending_29 (fX4_35 rfl) hA.1 rfl ?_
    rw [s3]
    refine g_s1_1 dX4_reasonAgainstMending_32 (sX4_75 rfl) rfl (Nat.le_of_ble_eq_true rfl) ⟨rfl, rfl⟩ (Nat.le_of_ble_eq_true rfl) (Nat.le_of_ble_eq_true rfl) (c_yarnForLoop) ?_
    refine g_icmp_ge (tgt := 42) dX4_reasonAgainstMending_35 (by decide)  (fun h35 => ?_) (fun h35 => ?_)
    · refine g_iconst (v := nI 0) dX4_reasonAgainstMending_42 rfl ?_
      exact g_ireturn rfl rfl dX4_reasonAgainstMending_43 (Nat.le_of_ble_eq_true rfl) (Nat.le_of_ble_eq_true rfl) (gDi (by first | (have h46 := Int32.not_lt.mpr h35; simp [f_noMend, h8, f_yarn, h46]) | (have h46 := Int32.not_le.mp h35; simp [f_noMend, h8, f_yarn, h46])))
    · refine g_iconst (v := nI 2) dX4_reasonAgainstMending_38 rfl ?_
      refine g_goto (tgt := 43) dX4_reasonAgainstMending_39 (by decide) ?_
      exact g_ireturn rfl rfl dX4_reasonAgainstMending_43 (Nat.le_of_ble_eq_true rfl) (Nat.le_of_ble_eq_true rfl) (gDi (by first | (have h46 := Int32.not_lt.mpr h35; simp [f_noMend, h8, f_yarn, h46]) | (have h46 := Int32.not_le.mp h35; simp [f_noMend, h8, f_yarn, h46])))
  · refine g_iconst (v := nI 1) dX4_reasonAgainstMending_11 rfl ?_
    exact g_ireturn rfl rfl dX4_reasonAgainstMending_12 (Nat.le_of_ble_eq_true rfl) (Nat.le_of_ble_eq_true rfl) (gDi (by simp [f_noMend, h8]))
theorem xor_nn {i m : Nat} (hi : i < 2 ^ 31) (hm : m < 2 ^ 31) : 0 ≤ nI i ^^^ nI m := by
  have h : nI i ^^^ nI m = nI (i ^^^ m) := by
    apply Int32.toBitVec_inj.mp
    simp only [Int32.toBitVec_xor]
    show BitVec.ofNat 32 i ^^^ BitVec.ofNat 32 m = BitVec.ofNat 32 (i ^^^ m)
    apply BitVec.eq_of_getLsbD_eq
    intro k hk
    simp [Nat.testBit_xor]
  rw [h]
  exact nI_pos' (Nat.xor_lt_two_pow hi hm)
theorem c_floorMod {i k : Nat} (hi : i < 2 ^ 31) (h0 : 0 < k) (hk : k < 2 ^ 31) : Runs mJ_floorMod [.int (nI i), .int (nI k)] M z (gD (some (.int (nI (i % k)))) M z) := by
  have hm := Nat.mod_lt i h0
  refine runs_ofF plJ_floorMod rfl (Nat.le_of_ble_eq_true rfl) ?_
  show WP mJ_floorMod 0 [some (.int (nI i)), some (.int (nI k)), none] [] M z 0 0 _
  refine g_iload_0 dJ_floorMod_0 ?_
  refine g_iload_1 dJ_floorMod_1 ?_
  refine g_iremN dJ_floorMod_2 (by omega) (by omega) (by omega) ?_
  refine g_istore_2 rfl dJ_floorMod_3 ?_
  refine g_iload_0 dJ_floorMod_4 ?_
  refine g_iload_1 dJ_floorMod_5 ?_
  refine g_ixor dJ_floorMod_6 ?_
  refine g_if_ge (tgt := 18) dJ_floorMod_7 (by decide)  (fun _ => ?_) (fun h7 => absurd (xor_nn hi hk) h7)
  refine g_iload_2 dJ_floorMod_18 ?_
  exact g_ireturn rfl rfl dJ_floorMod_19 (Nat.le_of_ble_eq_true rfl) (Nat.le_of_ble_eq_true rfl) (gDi rfl)
theorem c_floorModm : Runs mJ_floorMod [.int (-1), .int (nI 4)] M z (gD (some (.int (nI 3))) M z) := by
  refine runs_ofF plJ_floorMod rfl (Nat.le_of_ble_eq_true rfl) ?_
  show WP mJ_floorMod 0 [some (.int (-1)), some (.int (nI 4)), none] [] M z 0 0 _
  refine g_iload_0 dJ_floorMod_0 ?_
  refine g_iload_1 dJ_floorMod_1 ?_
  refine g_irem dJ_floorMod_2 (by decide) ?_
  refine g_istore_2 rfl dJ_floorMod_3 ?_
  refine g_iload_0 dJ_floorMod_4 ?_
  refine g_iload_1 dJ_floorMod_5 ?_
  refine g_ixor dJ_floorMod_6 ?_
  refine g_if_ge (tgt := 18) dJ_floorMod_7 (by decide) (fun h => absurd h (by decide)) (fun _ => ?_)
  refine g_iload_2 dJ_floorMod_10 ?_
  refine g_if_eq (tgt := 18) dJ_floorMod_11 (by decide) (fun h => absurd h (by decide)) (fun _ => ?_)
  refine g_iload_2 dJ_floorMod_14 ?_
  refine g_iload_1 dJ_floorMod_15 ?_
  refine g_iadd dJ_floorMod_16 ?_
  exact g_ireturn rfl rfl dJ_floorMod_17 (Nat.le_of_ble_eq_true rfl) (Nat.le_of_ble_eq_true rfl) (gDi (by decide))
theorem c_floorModt {h : Nat} (hh : h < 4) : Runs mJ_floorMod [.int (nI h + -1), .int (nI 4)] M z (gD (some (.int (nI ((h + 3) % 4)))) M z) := by
  cases h with
  | zero => exact c_floorModm
  | succ k =>
    rw [pk_m1, show (k + 1 + 3) % 4 = k % 4 by omega]
    exact c_floorMod (by omega) (by decide) (by decide)
theorem f_t0 (ht : tno f = 0) : upd (upd f 458 x) 461 (upd f 458 x 461 + if 0 < tno (upd f 458 x) then nI 2 else nI 0) = upd f 458 x := by
  have h : tno (upd f 458 x) = tno f := gv_ne (by decide)
  rw [h, ht, if_neg (by decide)]
  refine upd_self ?_
  rw [nI_0]; simp
theorem f_t1 (ht : tno f = c + 1) : upd (upd f 458 x) 461 (upd f 458 x 461 + if 0 < tno (upd f 458 x) then nI 2 else nI 0) = upd (upd f 458 x) 461 (f 461 + nI 2) := by
  have h : tno (upd f 458 x) = tno f := gv_ne (by decide)
  rw [h, ht, if_pos (by omega), upd_ne (by decide)]
theorem q_turn10 (hF : RugF M a f) (hI : Rng f) (ht : tno f = 0) : Runs mX4_turnBy [.ref a, .int (nI 1)] M z (Mut none M a (f_turn f 1) z) := by
  obtain ⟨R, ln, sg, hA, hRel⟩ := hF
  have hao := hA.1
  have hco := hA.2.1.1
  have hyo := hA.2.2.1.1
  obtain ⟨r0, r1, r2, ⟨k3, k4, k5, k6, k7⟩, ⟨s0, s1, s2, s3, s4, s5⟩, m1, m2, m3⟩ := id hRel
  have hnd := hI.ndl
  have hhd := hI.hdl
  rw [hI.nde] at s0
  rw [hI.hde] at s1
  rw [hI.thr0 ht] at s2
  refine runs_of plX4 rfl (Nat.le_of_ble_eq_true rfl) ?_
  show WP mX4_turnBy 0 [some (.ref a), some (.int (nI 1))] [] M z 0 0 _
  refine g_aload_0 dX4_turnBy_0 ?_
  refine g_aload_0 dX4_turnBy_1 ?_
  refine g_get dX4_turnBy_2 (fX4_53 rfl) hA.1 rfl ?_
  rw [s1]
  refine g_iload_1 dX4_turnBy_5 ?_
  refine g_iaddN dX4_turnBy_6 ?_
  refine g_iconst (v := nI 4) dX4_turnBy_7 rfl ?_
  refine g_s2_1 dX4_turnBy_8 (sX4_124 rfl) rfl (Nat.le_of_ble_eq_true rfl) ⟨rfl, rfl⟩ (Nat.le_of_ble_eq_true rfl) (Nat.le_of_ble_eq_true rfl) (c_floorMod (by omega) (by decide) (by decide)) ?_
  refine g_putS (ty := .int) (s := 1) dX4_turnBy_11 (fX4_53 rfl) (by decide) hA (fun M1 hA1 hO1 => ?_)
  have hao1 := hA1.1
  have hco1 := hA1.2.1.1
  have hyo1 := hA1.2.2.1.1
  refine g_aload_0 dX4_turnBy_14 ?_
  refine g_get dX4_turnBy_15 (fX4_31 rfl) hao1 rfl ?_
  rw [show st2 R 13 1 _ 13 2 = R 13 2 from rfl, s2]
  refine g_iconst (v := -1) dX4_turnBy_18 rfl ?_
  refine g_icmp_eq (tgt := 32) dX4_turnBy_19 (by decide)  (fun _ => ?_) (fun h19 => absurd rfl h19)
  exact g_return rfl dX4_turnBy_32 (Nat.le_of_ble_eq_true rfl) (Nat.le_of_ble_eq_true rfl) ⟨rfl, ⟨_, ln, sg, hA1, by rw [show f_turn f 1 = upd f 458 (nI ((hdg f + 1) % 4)) from by unfold f_turn; exact f_t0 ht]; exact hRel.s1⟩, hO1, rfl⟩
theorem q_turn11 (hF : RugF M a f) (hI : Rng f) (ht : tno f = c + 1) : Runs mX4_turnBy [.ref a, .int (nI 1)] M z (Mut none M a (f_turn f 1) z) := by
  obtain ⟨R, ln, sg, hA, hRel⟩ := hF
  have hao := hA.1
  have hco := hA.2.1.1
  have hyo := hA.2.2.1.1
  obtain ⟨r0, r1, r2, ⟨k3, k4, k5, k6, k7⟩, ⟨s0, s1, s2, s3, s4, s5⟩, m1, m2, m3⟩ := id hRel
  have hnd := hI.ndl
  have hhd := hI.hdl
  rw [hI.nde] at s0
  rw [hI.hde] at s1
  have hc5 : c < 5 := by have := hI.tlt; omega
  rw [hI.thr ht] at s2
  refine runs_of plX4 rfl (Nat.le_of_ble_eq_true rfl) ?_
  show WP mX4_turnBy 0 [some (.ref a), some (.int (nI 1))] [] M z 0 0 _
  refine g_aload_0 dX4_turnBy_0 ?_
  refine g_aload_0 dX4_turnBy_1 ?_
  refine g_get dX4_turnBy_2 (fX4_53 rfl) hA.1 rfl ?_
  rw [s1]
  refine g_iload_1 dX4_turnBy_5 ?_
  refine g_iaddN dX4_turnBy_6 ?_
  refine g_iconst (v := nI 4) dX4_turnBy_7 rfl ?_
  refine g_s2_1 dX4_turnBy_8 (sX4_124 rfl) rfl (Nat.le_of_ble_eq_true rfl) ⟨rfl, rfl⟩ (Nat.le_of_ble_eq_true rfl) (Nat.le_of_ble_eq_true rfl) (c_floorMod (by omega) (by decide) (by decide)) ?_
  refine g_putS (ty := .int) (s := 1) dX4_turnBy_11 (fX4_53 rfl) (by decide) hA (fun M1 hA1 hO1 => ?_)
  have hao1 := hA1.1
  have hco1 := hA1.2.1.1
  have hyo1 := hA1.2.2.1.1
  refine g_aload_0 dX4_turnBy_14 ?_
  refine g_get dX4_turnBy_15 (fX4_31 rfl) hao1 rfl ?_
  rw [show st2 R 13 1 _ 13 2 = R 13 2 from rfl, s2]
  refine g_iconst (v := -1) dX4_turnBy_18 rfl ?_
  refine g_icmp_eq (tgt := 32) dX4_turnBy_19 (by decide)  (fun h19 => absurd h19 (nI_nm1 (by omega))) (fun _ => ?_)
  refine g_aload_0 dX4_turnBy_22 ?_
  refine g_dup dX4_turnBy_23 rfl ?_
  refine g_get dX4_turnBy_24 (fX4_56 rfl) hao1 rfl ?_
  rw [show st2 R 13 1 _ 13 4 = R 13 4 from rfl, s4]
  refine g_iconst (v := nI 2) dX4_turnBy_27 rfl ?_
  refine g_iadd dX4_turnBy_28 ?_
  refine g_putS (ty := .int) (s := 4) dX4_turnBy_29 (fX4_56 rfl) (by decide) hA1 (fun M2 hA2 hO2 => ?_)
  have hao2 := hA2.1
  have hco2 := hA2.2.1.1
  have hyo2 := hA2.2.2.1.1
  exact g_return rfl dX4_turnBy_32 (Nat.le_of_ble_eq_true rfl) (Nat.le_of_ble_eq_true rfl) ⟨rfl, ⟨_, ln, sg, hA2, by rw [show f_turn f 1 = upd (upd f 458 (nI ((hdg f + 1) % 4))) 461 (f 461 + nI 2) from by unfold f_turn; exact f_t1 ht]; exact hRel.s1.s4⟩, hO1.tr hO2, rfl⟩
theorem q_turnm0 (hF : RugF M a f) (hI : Rng f) (ht : tno f = 0) : Runs mX4_turnBy [.ref a, .int (-1)] M z (Mut none M a (f_turn f 3) z) := by
  obtain ⟨R, ln, sg, hA, hRel⟩ := hF
  have hao := hA.1
  have hco := hA.2.1.1
  have hyo := hA.2.2.1.1
  obtain ⟨r0, r1, r2, ⟨k3, k4, k5, k6, k7⟩, ⟨s0, s1, s2, s3, s4, s5⟩, m1, m2, m3⟩ := id hRel
  have hnd := hI.ndl
  have hhd := hI.hdl
  rw [hI.nde] at s0
  rw [hI.hde] at s1
  rw [hI.thr0 ht] at s2
  refine runs_of plX4 rfl (Nat.le_of_ble_eq_true rfl) ?_
  show WP mX4_turnBy 0 [some (.ref a), some (.int (-1))] [] M z 0 0 _
  refine g_aload_0 dX4_turnBy_0 ?_
  refine g_aload_0 dX4_turnBy_1 ?_
  refine g_get dX4_turnBy_2 (fX4_53 rfl) hA.1 rfl ?_
  rw [s1]
  refine g_iload_1 dX4_turnBy_5 ?_
  refine g_iadd dX4_turnBy_6 ?_
  refine g_iconst (v := nI 4) dX4_turnBy_7 rfl ?_
  refine g_s2_1 dX4_turnBy_8 (sX4_124 rfl) rfl (Nat.le_of_ble_eq_true rfl) ⟨rfl, rfl⟩ (Nat.le_of_ble_eq_true rfl) (Nat.le_of_ble_eq_true rfl) (c_floorModt hhd) ?_
  refine g_putS (ty := .int) (s := 1) dX4_turnBy_11 (fX4_53 rfl) (by decide) hA (fun M1 hA1 hO1 => ?_)
  have hao1 := hA1.1
  have hco1 := hA1.2.1.1
  have hyo1 := hA1.2.2.1.1
  refine g_aload_0 dX4_turnBy_14 ?_
  refine g_get dX4_turnBy_15 (fX4_31 rfl) hao1 rfl ?_
  rw [show st2 R 13 1 _ 13 2 = R 13 2 from rfl, s2]
  refine g_iconst (v := -1) dX4_turnBy_18 rfl ?_
  refine g_icmp_eq (tgt := 32) dX4_turnBy_19 (by decide)  (fun _ => ?_) (fun h19 => absurd rfl h19)
  exact g_return rfl dX4_turnBy_32 (Nat.le_of_ble_eq_true rfl) (Nat.le_of_ble_eq_true rfl) ⟨rfl, ⟨_, ln, sg, hA1, by rw [show f_turn f 3 = upd f 458 (nI ((hdg f + 3) % 4)) from by unfold f_turn; exact f_t0 ht]; exact hRel.s1⟩, hO1, rfl⟩
theorem q_turnm1 (hF : RugF M a f) (hI : Rng f) (ht : tno f = c + 1) : Runs mX4_turnBy [.ref a, .int (-1)] M z (Mut none M a (f_turn f 3) z) := by
  obtain ⟨R, ln, sg, hA, hRel⟩ := hF
  have hao := hA.1
  have hco := hA.2.1.1
  have hyo := hA.2.2.1.1
  obtain ⟨r0, r1, r2, ⟨k3, k4, k5, k6, k7⟩, ⟨s0, s1, s2, s3, s4, s5⟩, m1, m2, m3⟩ := id hRel
  have hnd := hI.ndl
  have hhd := hI.hdl
  rw [hI.nde] at s0
  rw [hI.hde] at s1
  have hc5 : c < 5 := by have := hI.tlt; omega
  rw [hI.thr ht] at s2
  refine runs_of plX4 rfl (Nat.le_of_ble_eq_true rfl) ?_
  show WP mX4_turnBy 0 [some (.ref a), some (.int (-1))] [] M z 0 0 _
  refine g_aload_0 dX4_turnBy_0 ?_
  refine g_aload_0 dX4_turnBy_1 ?_
  refine g_get dX4_turnBy_2 (fX4_53 rfl) hA.1 rfl ?_
  rw [s1]
  refine g_iload_1 dX4_turnBy_5 ?_
  refine g_iadd dX4_turnBy_6 ?_
  refine g_iconst (v := nI 4) dX4_turnBy_7 rfl ?_
  refine g_s2_1 dX4_turnBy_8 (sX4_124 rfl) rfl (Nat.le_of_ble_eq_true rfl) ⟨rfl, rfl⟩ (Nat.le_of_ble_eq_true rfl) (Nat.le_of_ble_eq_true rfl) (c_floorModt hhd) ?_
  refine g_putS (ty := .int) (s := 1) dX4_turnBy_11 (fX4_53 rfl) (by decide) hA (fun M1 hA1 hO1 => ?_)
  have hao1 := hA1.1
  have hco1 := hA1.2.1.1
  have hyo1 := hA1.2.2.1.1
  refine g_aload_0 dX4_turnBy_14 ?_
  refine g_get dX4_turnBy_15 (fX4_31 rfl) hao1 rfl ?_
  rw [show st2 R 13 1 _ 13 2 = R 13 2 from rfl, s2]
  refine g_iconst (v := -1) dX4_turnBy_18 rfl ?_
  refine g_icmp_eq (tgt := 32) dX4_turnBy_19 (by decide)  (fun h19 => absurd h19 (nI_nm1 (by omega))) (fun _ => ?_)
  refine g_aload_0 dX4_turnBy_22 ?_
  refine g_dup dX4_turnBy_23 rfl ?_
  refine g_get dX4_turnBy_24 (fX4_56 rfl) hao1 rfl ?_
  rw [show st2 R 13 1 _ 13 4 = R 13 4 from rfl, s4]
  refine g_iconst (v := nI 2) dX4_turnBy_27 rfl ?_
  refine g_iadd dX4_turnBy_28 ?_
  refine g_putS (ty := .int) (s := 4) dX4_turnBy_29 (fX4_56 rfl) (by decide) hA1 (fun M2 hA2 hO2 => ?_)
  have hao2 := hA2.1
  have hco2 := hA2.2.1.1
  have hyo2 := hA2.2.2.1.1
  exact g_return rfl dX4_turnBy_32 (Nat.le_of_ble_eq_true rfl) (Nat.le_of_ble_eq_true rfl) ⟨rfl, ⟨_, ln, sg, hA2, by rw [show f_turn f 3 = upd (upd f 458 (nI ((hdg f + 3) % 4))) 461 (f 461 + nI 2) from by unfold f_turn; exact f_t1 ht]; exact hRel.s1.s4⟩, hO1.tr hO2, rfl⟩
theorem q_turn1 (hF : RugF M a f) (hI : Rng f) : Runs mX4_turnBy [.ref a, .int (nI 1)] M z (Mut none M a (f_turn f 1) z) := by
  cases ht : tno f with
  | zero => exact q_turn10 hF hI ht
  | succ c => exact q_turn11 hF hI ht
theorem q_turnm (hF : RugF M a f) (hI : Rng f) : Runs mX4_turnBy [.ref a, .int (-1)] M z (Mut none M a (f_turn f 3) z) := by
  cases ht : tno f with
  | zero => exact q_turnm0 hF hI ht
  | succ c => exact q_turnm1 hF hI ht
theorem q_goOn (hF : RugF M a f) (hI : Rng f) : Runs mX4_goOn [.ref a] M z (Mut (some (.int (bI (f_to f).isSome))) M a (f_goOn f) z) := by
  obtain ⟨R, ln, sg, hA, hRel⟩ := hF
  have hao := hA.1
  have hco := hA.2.1.1
  have hyo := hA.2.2.1.1
  obtain ⟨r0, r1, r2, ⟨k3, k4, k5, k6, k7⟩, ⟨s0, s1, s2, s3, s4, s5⟩, m1, m2, m3⟩ := id hRel
  have hnd := hI.ndl
  have hhd := hI.hdl
  rw [hI.nde] at s0
  rw [hI.hde] at s1
  have hto : oI (besd (nd f) (hdg f)) = -1 ↔ f_to f = none := by
    unfold f_to
    cases hb : besd (nd f) (hdg f) with
    | none => simp [oI]
    | some k => simp [oI]; exact nI_nm1 (by have := besd_lt hnd hb; omega)
  refine runs_of plX4 rfl (Nat.le_of_ble_eq_true rfl) ?_
  show WP mX4_goOn 0 [some (.ref a), none] [] M z 0 0 _
  refine g_aload_0 dX4_goOn_0 ?_
  refine g_get dX4_goOn_1 (fX4_50 rfl) hA.1 rfl ?_
  rw [s0]
  refine g_aload_0 dX4_goOn_4 ?_
  refine g_get dX4_goOn_5 (fX4_53 rfl) hA.1 rfl ?_
  rw [s1]
  refine g_s2_1 dX4_goOn_8 (sX4_121 rfl) rfl (Nat.le_of_ble_eq_true rfl) ⟨rfl, rfl⟩ (Nat.le_of_ble_eq_true rfl) (Nat.le_of_ble_eq_true rfl) (c_beside hnd hhd) ?_
  refine g_istore_1 rfl dX4_goOn_11 ?_
  refine g_iload_1 dX4_goOn_12 ?_
  refine g_iconst (v := -1) dX4_goOn_13 rfl ?_
  refine g_icmp_ne (tgt := 19) dX4_goOn_14 (by decide)  (fun h14 => ?_) (fun h14 => ?_)
  · obtain ⟨k, hk⟩ : ∃ k, f_to f = some k := by
      cases hq : f_to f with
      | none => exact absurd (hto.mpr hq) h14
      | some k => exact ⟨k, rfl⟩
    refine g_aload_0 dX4_goOn_19 ?_
    refine g_iload_1 dX4_goOn_20 ?_
    refine g_putS (ty := .int) (s := 0) dX4_goOn_21 (fX4_50 rfl) (by decide) hA (fun M1 hA1 hO1 => ?_)
    have hao1 := hA1.1
    have hco1 := hA1.2.1.1
    have hyo1 := hA1.2.2.1.1
    refine g_iconst (v := nI 1) dX4_goOn_24 rfl ?_
    exact g_ireturn rfl rfl dX4_goOn_25 (Nat.le_of_ble_eq_true rfl) (Nat.le_of_ble_eq_true rfl) ⟨by rw [hk]; rfl, ⟨_, ln, sg, hA1, by unfold f_goOn; rw [hk]; have := hRel.s0 (v := nI k); unfold f_to at hk; rw [hk]; exact this⟩, hO1, rfl⟩
  · refine g_iconst (v := nI 0) dX4_goOn_17 rfl ?_
    exact g_ireturn rfl rfl dX4_goOn_18 (Nat.le_of_ble_eq_true rfl) (Nat.le_of_ble_eq_true rfl) ⟨by rw [hto.mp h14]; rfl, ⟨_, ln, sg, hA, by unfold f_goOn; rw [hto.mp h14]; exact hRel⟩, Out.rf, rfl⟩
end P19

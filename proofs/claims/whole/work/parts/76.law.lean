section P76
theorem good00 : Good f00 := by
  refine ⟨Rng.zero, fun s hs => ?_, fun c hc => ?_⟩
  · have h0 : f00 (463 + s) = nI 0 := by
      unfold f00
      rw [if_neg (by omega), if_neg (by omega)]
    have h1 : mLn f00 s = 0 := gv_of h0 (by omega)
    refine ⟨Bd.of h0 (by omega) (by decide), fun i hi => absurd hi (by omega), ?_, fun i hi => absurd hi (by omega)⟩
    rw [h1]
    first | rfl | (unfold pfa; simp) | simp [pfa]
  · have h1 : ∀ n, n ≤ 144 → smC f00 c n = 0 := by
      intro n
      induction n with
      | zero => intro _; rfl
      | succ n ih =>
        intro hn
        have e : f00 (144 + n) = nI 0 := by
          unfold f00
          rw [if_neg (by omega), if_neg (by omega)]
        show smC f00 c n + trm f00 c n = 0
        unfold trm
        rw [ih (by omega), e, if_neg (fun h => by
          have h2 := congrArg Int32.toInt h
          rw [nI_toInt (by omega), nI_toInt (by omega)] at h2
          omega)]
        rfl
    rw [h1 144 (Nat.le_refl _)]
    have e1 : f00 (433 + 5 * c) = nI 8000 := by unfold f00; rw [if_pos (by omega)]
    have e2 : f00 (432 + 5 * c) = nI 8000 := by unfold f00; rw [if_pos (by omega)]
    have e3 : f00 (434 + 5 * c) = nI 0 := by unfold f00; rw [if_neg (by omega), if_neg (by omega)]
    have e4 : f00 (435 + 5 * c) = nI 0 := by unfold f00; rw [if_neg (by omega), if_neg (by omega)]
    have e5 : f00 (436 + 5 * c) = nI 0 := by unfold f00; rw [if_neg (by omega), if_neg (by omega)]
    rw [e1, e2, e3, e4, e5]
    decide
theorem lt61 : ∀ j, j < 61 → j = 0 ∨ j = 1 ∨ j = 2 ∨ j = 3 ∨ j = 4 ∨ j = 5 ∨ j = 6 ∨ j = 7 ∨ j = 8 ∨ j = 9 ∨ j = 10 ∨ j = 11 ∨ j = 12 ∨ j = 13 ∨ j = 14 ∨ j = 15 ∨ j = 16 ∨ j = 17 ∨ j = 18 ∨ j = 19 ∨ j = 20 ∨ j = 21 ∨ j = 22 ∨ j = 23 ∨ j = 24 ∨ j = 25 ∨ j = 26 ∨ j = 27 ∨ j = 28 ∨ j = 29 ∨ j = 30 ∨ j = 31 ∨ j = 32 ∨ j = 33 ∨ j = 34 ∨ j = 35 ∨ j = 36 ∨ j = 37 ∨ j = 38 ∨ j = 39 ∨ j = 40 ∨ j = 41 ∨ j = 42 ∨ j = 43 ∨ j = 44 ∨ j = 45 ∨ j = 46 ∨ j = 47 ∨ j = 48 ∨ j = 49 ∨ j = 50 ∨ j = 51 ∨ j = 52 ∨ j = 53 ∨ j = 54 ∨ j = 55 ∨ j = 56 ∨ j = 57 ∨ j = 58 ∨ j = 59 ∨ j = 60 := by omega
theorem and63 (x : Int32) : ∃ j, j < 64 ∧ x &&& nI 63 = nI j := by
  refine ⟨(x &&& nI 63).toBitVec.toNat, ?_, ?_⟩
  · have h : (x &&& nI 63).toBitVec.toNat ≤ (nI 63).toBitVec.toNat := by
      rw [Int32.toBitVec_and, BitVec.toNat_and]
      exact Nat.and_le_right
    have e : (nI 63).toBitVec.toNat = 63 := by decide
    omega
  · apply Int32.toBitVec_inj.mp
    show _ = (Int32.ofNat _).toBitVec
    rw [Int32.toBitVec_ofNat', BitVec.ofNat_toNat, BitVec.setWidth_eq]
theorem law_lt {i n : Nat} (hi : i ≤ 2048) (hn : n ≤ 2048) : nI n - nI 4 < nI i ↔ n < i + 4 := by
  rw [Int32.lt_iff_toInt_lt, Int32.toInt_sub, nI_toInt (by omega), nI_toInt (by omega), nI_toInt (by omega)]
  have e : (((n : Int) - (4 : Nat)).bmod (2 ^ 32)) = (n : Int) - 4 := by
    rw [Int.bmod_eq_of_le (by omega) (by omega)]
    rfl
  rw [e]
  omega
theorem law_sw {Φ : GR → Hp → Nat → Prop} {M : Hp} {z k n sb a b o lo i Ln : Nat} {xs : Nat → Int32} {l5 l6 l7 l8 : Option Value} {j : Nat} (hJ : JS M a b o lo z) (hX : M sb = some (aX Ln xs)) (hsb : sb < a) (hi : i + 3 < Ln) (hLn : Ln ≤ 2048) (hk0 : k + 23 ≤ 601024) (hn0 : n + 984 ≤ 7293034)  (hj : j < 64) (hK : ∀ M' z' k' n' l5 l6 l7 l8, k' ≤ k + 23 → n' ≤ n + 984 → JS M' a b o lo z' → M' sb = some (aX Ln xs) → WP mL_law 2961 [some (.ref sb), some (.ref a), some (.ref b), some (.ref o), some (.int (nI (i))), l5, l6, l7, l8] [] M' z' k' n' Φ) : WP mL_law 39 [some (.ref sb), some (.ref a), some (.ref b), some (.ref o), some (.int (nI (i))), l5, l6, l7, l8] [.int (nI j)] M z k n Φ := by
  by_cases h61 : j < 61
  · rcases lt61 j h61 with rfl | rfl | rfl | rfl | rfl | rfl | rfl | rfl | rfl | rfl | rfl | rfl | rfl | rfl | rfl | rfl | rfl | rfl | rfl | rfl | rfl | rfl | rfl | rfl | rfl | rfl | rfl | rfl | rfl | rfl | rfl | rfl | rfl | rfl | rfl | rfl | rfl | rfl | rfl | rfl | rfl | rfl | rfl | rfl | rfl | rfl | rfl | rfl | rfl | rfl | rfl | rfl | rfl | rfl | rfl | rfl | rfl | rfl | rfl | rfl | rfl
    · refine g_tabIn (x := nI 0) (off := 257) (tgt := 296) dL_law_39 (by decide) (by decide) rfl (by decide) ?_
      exact w_0 hJ hX hsb (by omega) hLn (by omega) (by omega) hK
    · refine g_tabIn (x := nI 1) (off := 313) (tgt := 352) dL_law_39 (by decide) (by decide) rfl (by decide) ?_
      exact w_1 hJ hX hsb (by omega) hLn (by omega) (by omega) hK
    · refine g_tabIn (x := nI 2) (off := 326) (tgt := 365) dL_law_39 (by decide) (by decide) rfl (by decide) ?_
      exact w_2 hJ hX hsb (by omega) hLn (by omega) (by omega) hK
    · refine g_tabIn (x := nI 3) (off := 339) (tgt := 378) dL_law_39 (by decide) (by decide) rfl (by decide) ?_
      exact w_3 hJ hX hsb (by omega) hLn (by omega) (by omega) hK
    · refine g_tabIn (x := nI 4) (off := 395) (tgt := 434) dL_law_39 (by decide) (by decide) rfl (by decide) ?_
      exact w_4 hJ hX hsb (by omega) hLn (by omega) (by omega) hK
    · refine g_tabIn (x := nI 5) (off := 451) (tgt := 490) dL_law_39 (by decide) (by decide) rfl (by decide) ?_
      exact w_5 hJ hX hsb (by omega) hLn (by omega) (by omega) hK
    · refine g_tabIn (x := nI 6) (off := 507) (tgt := 546) dL_law_39 (by decide) (by decide) rfl (by decide) ?_
      exact w_6 hJ hX hsb (by omega) hLn (by omega) (by omega) hK
    · refine g_tabIn (x := nI 7) (off := 570) (tgt := 609) dL_law_39 (by decide) (by decide) rfl (by decide) ?_
      exact w_7 hJ hX hsb (by omega) hLn (by omega) (by omega) hK
    · refine g_tabIn (x := nI 8) (off := 583) (tgt := 622) dL_law_39 (by decide) (by decide) rfl (by decide) ?_
      exact w_8 hJ hX hsb (by omega) hLn (by omega) (by omega) hK
    · refine g_tabIn (x := nI 9) (off := 596) (tgt := 635) dL_law_39 (by decide) (by decide) rfl (by decide) ?_
      exact w_9 hJ hX hsb (by omega) hLn (by omega) (by omega) hK
    · refine g_tabIn (x := nI 10) (off := 609) (tgt := 648) dL_law_39 (by decide) (by decide) rfl (by decide) ?_
      exact w_10 hJ hX hsb (by omega) hLn (by omega) (by omega) hK
    · refine g_tabIn (x := nI 11) (off := 622) (tgt := 661) dL_law_39 (by decide) (by decide) rfl (by decide) ?_
      exact w_11 hJ hX hsb (by omega) hLn (by omega) (by omega) hK
    · refine g_tabIn (x := nI 12) (off := 678) (tgt := 717) dL_law_39 (by decide) (by decide) rfl (by decide) ?_
      exact w_12 hJ hX hsb (by omega) hLn (by omega) (by omega) hK
    · refine g_tabIn (x := nI 13) (off := 734) (tgt := 773) dL_law_39 (by decide) (by decide) rfl (by decide) ?_
      exact w_13 hJ hX hsb (by omega) hLn (by omega) (by omega) hK
    · refine g_tabIn (x := nI 14) (off := 777) (tgt := 816) dL_law_39 (by decide) (by decide) rfl (by decide) ?_
      exact w_14 hJ hX hsb (by omega) hLn (by omega) (by omega) hK
    · refine g_tabIn (x := nI 15) (off := 818) (tgt := 857) dL_law_39 (by decide) (by decide) rfl (by decide) ?_
      exact w_15 hJ hX hsb (by omega) hLn (by omega) (by omega) hK
    · refine g_tabIn (x := nI 16) (off := 831) (tgt := 870) dL_law_39 (by decide) (by decide) rfl (by decide) ?_
      exact w_16 hJ hX hsb (by omega) hLn (by omega) (by omega) hK
    · refine g_tabIn (x := nI 17) (off := 844) (tgt := 883) dL_law_39 (by decide) (by decide) rfl (by decide) ?_
      exact w_17 hJ hX hsb (by omega) hLn (by omega) (by omega) hK
    · refine g_tabIn (x := nI 18) (off := 857) (tgt := 896) dL_law_39 (by decide) (by decide) rfl (by decide) ?_
      exact w_18 hJ hX hsb (by omega) hLn (by omega) (by omega) hK
    · refine g_tabIn (x := nI 19) (off := 870) (tgt := 909) dL_law_39 (by decide) (by decide) rfl (by decide) ?_
      exact w_19 hJ hX hsb (by omega) hLn (by omega) (by omega) hK
    · refine g_tabIn (x := nI 20) (off := 883) (tgt := 922) dL_law_39 (by decide) (by decide) rfl (by decide) ?_
      exact w_20 hJ hX hsb (by omega) hLn (by omega) (by omega) hK
    · refine g_tabIn (x := nI 21) (off := 896) (tgt := 935) dL_law_39 (by decide) (by decide) rfl (by decide) ?_
      exact w_21 hJ hX hsb (by omega) hLn (by omega) (by omega) hK
    · refine g_tabIn (x := nI 22) (off := 909) (tgt := 948) dL_law_39 (by decide) (by decide) rfl (by decide) ?_
      exact w_22 hJ hX hsb (by omega) hLn (by omega) (by omega) hK
    · refine g_tabIn (x := nI 23) (off := 965) (tgt := 1004) dL_law_39 (by decide) (by decide) rfl (by decide) ?_
      exact w_23 hJ hX hsb (by omega) hLn (by omega) (by omega) hK
    · refine g_tabIn (x := nI 24) (off := 1021) (tgt := 1060) dL_law_39 (by decide) (by decide) rfl (by decide) ?_
      exact w_24 hJ hX hsb (by omega) hLn (by omega) (by omega) hK
    · refine g_tabIn (x := nI 25) (off := 1077) (tgt := 1116) dL_law_39 (by decide) (by decide) rfl (by decide) ?_
      exact w_25 hJ hX hsb (by omega) hLn (by omega) (by omega) hK
    · refine g_tabIn (x := nI 26) (off := 1133) (tgt := 1172) dL_law_39 (by decide) (by decide) rfl (by decide) ?_
      exact w_26 hJ hX hsb (by omega) hLn (by omega) (by omega) hK
    · refine g_tabIn (x := nI 27) (off := 1189) (tgt := 1228) dL_law_39 (by decide) (by decide) rfl (by decide) ?_
      exact w_27 hJ hX hsb (by omega) hLn (by omega) (by omega) hK
    · refine g_tabIn (x := nI 28) (off := 1245) (tgt := 1284) dL_law_39 (by decide) (by decide) rfl (by decide) ?_
      exact w_28 hJ hX hsb (by omega) hLn (by omega) (by omega) hK
    · refine g_tabIn (x := nI 29) (off := 1258) (tgt := 1297) dL_law_39 (by decide) (by decide) rfl (by decide) ?_
      exact w_29 hJ hX hsb (by omega) hLn (by omega) (by omega) hK
    · refine g_tabIn (x := nI 30) (off := 1314) (tgt := 1353) dL_law_39 (by decide) (by decide) rfl (by decide) ?_
      exact w_30 hJ hX hsb (by omega) hLn (by omega) (by omega) hK
    · refine g_tabIn (x := nI 31) (off := 1382) (tgt := 1421) dL_law_39 (by decide) (by decide) rfl (by decide) ?_
      exact w_31 hJ hX hsb (by omega) hLn (by omega) (by omega) hK
    · refine g_tabIn (x := nI 32) (off := 1450) (tgt := 1489) dL_law_39 (by decide) (by decide) rfl (by decide) ?_
      exact w_32 hJ hX hsb (by omega) hLn (by omega) (by omega) hK
    · refine g_tabIn (x := nI 33) (off := 1530) (tgt := 1569) dL_law_39 (by decide) (by decide) rfl (by decide) ?_
      exact w_33 hJ hX hsb (by omega) hLn (by omega) (by omega) hK
    · refine g_tabIn (x := nI 34) (off := 1586) (tgt := 1625) dL_law_39 (by decide) (by decide) rfl (by decide) ?_
      exact w_34 hJ hX hsb (by omega) hLn (by omega) (by omega) hK
    · refine g_tabIn (x := nI 35) (off := 1630) (tgt := 1669) dL_law_39 (by decide) (by decide) rfl (by decide) ?_
      exact w_35 hJ hX hsb (by omega) hLn (by omega) (by omega) hK
    · refine g_tabIn (x := nI 36) (off := 1686) (tgt := 1725) dL_law_39 (by decide) (by decide) rfl (by decide) ?_
      exact w_36 hJ hX hsb (by omega) hLn (by omega) (by omega) hK
    · refine g_tabIn (x := nI 37) (off := 1742) (tgt := 1781) dL_law_39 (by decide) (by decide) rfl (by decide) ?_
      exact w_37 hJ hX hsb (by omega) hLn (by omega) (by omega) hK
    · refine g_tabIn (x := nI 38) (off := 1755) (tgt := 1794) dL_law_39 (by decide) (by decide) rfl (by decide) ?_
      exact w_38 hJ hX hsb (by omega) hLn (by omega) (by omega) hK
    · refine g_tabIn (x := nI 39) (off := 1768) (tgt := 1807) dL_law_39 (by decide) (by decide) rfl (by decide) ?_
      exact w_39 hJ hX hsb (by omega) hLn (by omega) (by omega) hK
    · refine g_tabIn (x := nI 40) (off := 1812) (tgt := 1851) dL_law_39 (by decide) (by decide) rfl (by decide) ?_
      exact w_40 hJ hX hsb (by omega) hLn (by omega) (by omega) hK
    · refine g_tabIn (x := nI 41) (off := 1868) (tgt := 1907) dL_law_39 (by decide) (by decide) rfl (by decide) ?_
      exact w_41 hJ hX hsb (by omega) hLn (by omega) (by omega) hK
    · refine g_tabIn (x := nI 42) (off := 1936) (tgt := 1975) dL_law_39 (by decide) (by decide) rfl (by decide) ?_
      exact w_42 hJ hX hsb (by omega) hLn (by omega) (by omega) hK
    · refine g_tabIn (x := nI 43) (off := 2004) (tgt := 2043) dL_law_39 (by decide) (by decide) rfl (by decide) ?_
      exact w_43 hJ hX hsb (by omega) hLn (by omega) (by omega) hK
    · refine g_tabIn (x := nI 44) (off := 2060) (tgt := 2099) dL_law_39 (by decide) (by decide) rfl (by decide) ?_
      exact w_44 hJ hX hsb (by omega) hLn (by omega) (by omega) hK
    · refine g_tabIn (x := nI 45) (off := 2116) (tgt := 2155) dL_law_39 (by decide) (by decide) rfl (by decide) ?_
      exact w_45 hJ hX hsb (by omega) hLn (by omega) (by omega) hK
    · refine g_tabIn (x := nI 46) (off := 2172) (tgt := 2211) dL_law_39 (by decide) (by decide) rfl (by decide) ?_
      exact w_46 hJ hX hsb (by omega) hLn (by omega) (by omega) hK
    · refine g_tabIn (x := nI 47) (off := 2228) (tgt := 2267) dL_law_39 (by decide) (by decide) rfl (by decide) ?_
      exact w_47 hJ hX hsb (by omega) hLn (by omega) (by omega) hK
    · refine g_tabIn (x := nI 48) (off := 2284) (tgt := 2323) dL_law_39 (by decide) (by decide) rfl (by decide) ?_
      exact w_48 hJ hX hsb (by omega) hLn (by omega) (by omega) hK
    · refine g_tabIn (x := nI 49) (off := 2328) (tgt := 2367) dL_law_39 (by decide) (by decide) rfl (by decide) ?_
      exact w_49 hJ hX hsb (by omega) hLn (by omega) (by omega) hK
    · refine g_tabIn (x := nI 50) (off := 2372) (tgt := 2411) dL_law_39 (by decide) (by decide) rfl (by decide) ?_
      exact w_50 hJ hX hsb (by omega) hLn (by omega) (by omega) hK
    · refine g_tabIn (x := nI 51) (off := 2385) (tgt := 2424) dL_law_39 (by decide) (by decide) rfl (by decide) ?_
      exact w_51 hJ hX hsb (by omega) hLn (by omega) (by omega) hK
    · refine g_tabIn (x := nI 52) (off := 2441) (tgt := 2480) dL_law_39 (by decide) (by decide) rfl (by decide) ?_
      exact w_52 hJ hX hsb (by omega) hLn (by omega) (by omega) hK
    · refine g_tabIn (x := nI 53) (off := 2454) (tgt := 2493) dL_law_39 (by decide) (by decide) rfl (by decide) ?_
      exact w_53 hJ hX hsb (by omega) hLn (by omega) (by omega) hK
    · refine g_tabIn (x := nI 54) (off := 2510) (tgt := 2549) dL_law_39 (by decide) (by decide) rfl (by decide) ?_
      exact w_54 hJ hX hsb (by omega) hLn (by omega) (by omega) hK
    · refine g_tabIn (x := nI 55) (off := 2566) (tgt := 2605) dL_law_39 (by decide) (by decide) rfl (by decide) ?_
      exact w_55 hJ hX hsb (by omega) hLn (by omega) (by omega) hK
    · refine g_tabIn (x := nI 56) (off := 2610) (tgt := 2649) dL_law_39 (by decide) (by decide) rfl (by decide) ?_
      exact w_56 hJ hX hsb (by omega) hLn (by omega) (by omega) hK
    · refine g_tabIn (x := nI 57) (off := 2654) (tgt := 2693) dL_law_39 (by decide) (by decide) rfl (by decide) ?_
      exact w_57 hJ hX hsb (by omega) hLn (by omega) (by omega) hK
    · refine g_tabIn (x := nI 58) (off := 2710) (tgt := 2749) dL_law_39 (by decide) (by decide) rfl (by decide) ?_
      exact w_58 hJ hX hsb (by omega) hLn (by omega) (by omega) hK
    · refine g_tabIn (x := nI 59) (off := 2810) (tgt := 2849) dL_law_39 (by decide) (by decide) rfl (by decide) ?_
      exact w_59 hJ hX hsb (by omega) hLn (by omega) (by omega) hK
    · refine g_tabIn (x := nI 60) (off := 2866) (tgt := 2905) dL_law_39 (by decide) (by decide) rfl (by decide) ?_
      exact w_60 hJ hX hsb (by omega) hLn (by omega) (by omega) hK
  · refine g_tabOut (x := nI j) (tgt := 2961) dL_law_39 (Or.inr (by rw [nI_toInt (by omega)]; omega)) (by decide) ?_
    exact hK M z k n l5 l6 l7 l8 (by omega) (by omega) hJ hX
theorem law_loop {sb a b o lo Ln : Nat} {xs : Nat → Int32} (hsb : sb < a) (hLn : Ln ≤ 2048) : ∀ (d i : Nat) (M : Hp) (z k n : Nat) (l5 l6 l7 l8 : Option Value), i ≤ 2048 → Ln ≤ i + 4 * d + 3 → k + 23 * d ≤ 601024 → n + 984 * d ≤ 7293034 → JS M a b o lo z → M sb = some (aX Ln xs) → WP mL_law 23 [some (.ref sb), some (.ref a), some (.ref b), some (.ref o), some (.int (nI (i))), l5, l6, l7, l8] [] M z k n (fun r _ _ => r = .inl (some (.int (nI 1)))) := by
  intro d
  induction d with
  | zero =>
    intro i M z k n l5 l6 l7 l8 hi hd hk hn hJ hX
    refine g_iload_4 dL_law_23 ?_
    refine g_aload_0 dL_law_25 ?_
    refine g_alenX dL_law_26 hX ?_
    refine g_iconst (v := nI 4) dL_law_27 rfl ?_
    refine g_isub dL_law_28 ?_
    refine g_icmp_gt (tgt := 2967) dL_law_29 (by decide)  (fun _ => ?_) (fun h29 => absurd ((law_lt hi hLn).mpr (by omega)) h29)
    refine g_iconst (v := nI 1) dL_law_2967 rfl ?_
    exact g_ireturn rfl (by decide) dL_law_2968 (by show k ≤ 601024; omega) (by show n ≤ 7293034; omega) rfl
  | succ d ih =>
    intro i M z k n l5 l6 l7 l8 hi hd hk hn hJ hX
    refine g_iload_4 dL_law_23 ?_
    refine g_aload_0 dL_law_25 ?_
    refine g_alenX dL_law_26 hX ?_
    refine g_iconst (v := nI 4) dL_law_27 rfl ?_
    refine g_isub dL_law_28 ?_
    refine g_icmp_gt (tgt := 2967) dL_law_29 (by decide)  (fun h29 => ?_) (fun h29 => ?_)
    · refine g_iconst (v := nI 1) dL_law_2967 rfl ?_
      exact g_ireturn rfl (by decide) dL_law_2968 (by show k ≤ 601024; omega) (by show n ≤ 7293034; omega) rfl
    · refine g_aload_0 dL_law_32 ?_
      refine g_iload_4 dL_law_33 ?_
      refine g_ialdXN dL_law_35 hX (by have := mt (law_lt hi hLn).mpr h29; omega) (by omega) ?_
      refine g_bipush (v := nI 63) dL_law_36 rfl ?_
      refine g_iand dL_law_38 ?_
      obtain ⟨j, hj, ej⟩ := and63 (xs i)
      rw [ej]
      have hi4 : i + 3 < Ln := by have := mt (law_lt hi hLn).mpr h29; omega
      have hk4 : k + 23 ≤ 601024 := by omega
      have hn4 : n + 984 ≤ 7293034 := Nat.le_trans (Nat.add_le_add_left (Nat.le_mul_of_pos_right 984 (Nat.succ_pos d)) n) hn
      have hs4 := fun hK => law_sw (Φ := fun r _ _ => r = .inl (some (.int (nI 1)))) (l5 := l5) (l6 := l6) (l7 := l7) (l8 := l8) hJ hX hsb hi4 hLn hk4 hn4 hj hK
      refine hs4 ?_
      intro M' z' k' n' l5 l6 l7 l8 h1 h2 h3 h4
      refine g_iincN_4 (q := 4) rfl dL_law_2961 rfl ?_
      refine g_goto (tgt := 23) dL_law_2964 (by decide) ?_
      refine ih (i + 4) M' z' k' n' l5 l6 l7 l8 ?_ ?_ ?_ ?_ h3 h4
      · omega
      · omega
      · omega
      · rw [Nat.mul_succ] at hn
        exact Nat.le_trans (Nat.add_le_add_right h2 _) (by rw [Nat.add_assoc, Nat.add_comm 984]; exact hn)
theorem law_all {M : Hp} {z sb Ln : Nat} {xs : Nat → Int32} (hX : M sb = some (aX Ln xs)) (hsb : sb < z) (hLn : Ln ≤ 2048) : WP mL_law 0 [some (.ref sb), none, none, none, none, none, none, none, none] [] M z 0 0 (fun r _ _ => r = .inl (some (.int (nI 1)))) := by
  refine g_newQ dL_law_0 (nL_8 rfl) (Nat.le_of_ble_eq_true rfl) (Nat.le_of_ble_eq_true rfl) (fun M1 hN1 n1 => ?_)
  refine g_dup dL_law_3 rfl ?_
  refine g_i0 dL_law_4 (iL_144 rfl) rfl (Nat.le_of_ble_eq_true rfl) (Nat.le_of_ble_eq_true rfl) (Nat.le_of_ble_eq_true rfl) (c_init hN1) (fun r M2 z2 hq => ?_) (fun E M2 z2 hq => by obtain ⟨hq, -⟩ := hq; cases hq)
  obtain ⟨hr, hcl, hO1, hz1⟩ := hq
  cases hr
  subst hz1
  refine g_astore_1 rfl dL_law_7 ?_
  refine g_newQ dL_law_8 (nL_145 rfl) (Nat.le_of_ble_eq_true rfl) (Nat.le_of_ble_eq_true rfl) (fun M3 hN3 n3 => ?_)
  refine g_dup dL_law_11 rfl ?_
  refine g_i0 dL_law_12 (iL_147 rfl) rfl (Nat.le_of_ble_eq_true rfl) (Nat.le_of_ble_eq_true rfl) (Nat.le_of_ble_eq_true rfl) (n_init hN3) (fun r M4 z4 hq => ?_) (fun E M2 z2 hq => by obtain ⟨hq, -⟩ := hq; cases hq)
  obtain ⟨hr, ⟨I4, A4, hA4, hr4⟩, hO4, hz4⟩ := hq
  cases hr
  subst hz4
  refine g_astore_2 rfl dL_law_15 ?_
  refine g_iconst (v := nI 1) dL_law_16 rfl ?_
  refine g_newarrQ (kd := 3) (N := 1) (a0 := (1, .inr (.inl (fun _ => 0)))) dL_law_17 gA_long (by decide) rfl (nIc (by decide)) (nI_pos (by decide)) (by decide) (fun _ => rfl) (Nat.le_of_ble_eq_true rfl) (Nat.le_of_ble_eq_true rfl) (fun M5 hN5 n5 => ?_)
  refine g_astore_3 rfl dL_law_19 ?_
  refine g_iconst (v := nI 0) dL_law_20 rfl ?_
  refine g_istore_4 rfl dL_law_21 ?_
  exact law_loop (a := z) (b := z + 55) (o := z + 55 + 13) (lo := z + 55 + 13 + 1) hsb hLn 512 0 M5 _ _ _ _ _ _ _ (by omega) (by omega) (Nat.le_of_ble_eq_true rfl) (Nat.le_of_ble_eq_true rfl) ⟨f00, fun _ => 0, 0, fun _ => f00, fun _ => none, 0, fun _ => 0, (hcl (z + 55 + 13 + 1) (z + 55 + 13 + 1) (by omega) (Nat.le_refl _)).keep (Nat.le_refl _) (fun q q1 => ((n5 q (by omega)).trans (hO4 q (by omega))).trans (n3 q (by omega))), ⟨I4, A4, hA4.keep (fun q q1 q2 => n5 q (by omega)), hr4⟩, ⟨_, hN5⟩, ⟨good00, fun k hk => absurd hk (by omega), fun s r _ h => (nomatch h), by omega, fun k => by show (0 : Nat) < 256; omega⟩, by omega, by omega, by omega⟩ (((((n5 sb (by omega)).trans (hO4 sb (by omega))).trans (n3 sb (by omega))).trans (hO1 sb (by omega))).trans ((n1 sb (by omega)).trans hX))
end P76

section P57
variable {M M0 : Hp} {z b c n r q k : Nat} {f g : Row} {v w x y : Int32} {I I0 : Row} {A A0 : Nat → Row} {T : Nat → Nat → Nat} {Ln : Nat → Nat} {Φ : GR → Hp → Nat → Prop}
/-- a turn of the simulation -/
def f_sim (T : Nat → Nat → Nat) (Ln : Nat → Nat) (f : Row) (q k : Nat) : Row :=
  if k < 14 then (f_sew (1 + q % 12) f).1
  else if k < 17 then (f_jump (1 + q % 3) f).1
  else if k < 20 then f_turn f 3
  else if k < 23 then f_turn f 1
  else if k < 26 then (if f (432 + 5 * (q % 5)) < nI 20 then f else f_thread f (q % 5))
  else if k = 26 then (if 0 < tno f ∧ q % 4 = 0 then f_cut f else f)
  else if k = 27 then (if 0 < tno f then f_ease f else f)
  else if k = 28 then upd f 460 (nI (1 + q % 9))
  else if k = 29 then (if hasL (f (144 + q % 144)) = true then f_unpick f (q % 144) else f)
  else if k = 30 then (if q / 9 % 8 = 0 then (f_shear (nI (1 + q % 9)) 144 f).1 else f)
  else if Ln (q % 4) = 0 then f else (prun T Ln 4001 f [(q % 4, 0, 0, 0)] 0 0).1
def SimQ (M : Hp) (b : Nat) (I : Row) (A : Nat → Row) (f' : Row) (z : Nat) : GR → Hp → Nat → Prop := fun r M' z' => (∃ v, r = .inl (some (.int v))) ∧ (∃ I' A', MAt M' b I' A' ∧ A' 2 = f' ∧ (∀ k, k ≠ 9 → k ≠ 10 → I' k = I k) ∧ (∀ k, k ≠ 2 → (k < 4 ∨ 8 < k) → A' k = A k)) ∧ Out M M' b 13 ∧ z' = z
theorem SimQ.same (hA : MAt M b I A) : SimQ M b I A (A 2) z (.inl (some (.int v))) M z := ⟨⟨_, rfl⟩, ⟨I, A, hA, rfl, fun _ _ _ => rfl, fun _ _ _ => rfl⟩, Out.rf, rfl⟩
theorem SimQ.row (hA : MAt M b I A) : SimQ M b I A f z (.inl (some (.int v))) (hpu M (b + 2) (aI 947 f)) z := ⟨⟨_, rfl⟩, ⟨I, _, hA.a2, stg_eq, fun _ _ _ => rfl, fun _ a _ => stg_ne a⟩, Out.put (by omega) (by omega), rfl⟩
theorem m_stir0 (hA : MAt M b I A) (hI : Rng (A 2)) (hr : r < 2 ^ 31) (hk : WP mX8_stir 28 [some (.ref b), some (.int (nI r)), some (.int (nI (r / 32))), some (.int (nI (r % 32))), some (.int (bI (decide (0 < tno (A 2)))))] [] M z 0 0 Φ) : WP mX8_stir 0 [some (.ref b), some (.int (nI r)), none, none, none] [] M z 0 0 Φ := by
  have htl := hI.tlt
  refine g_iload_1 dX8_stir_0 ?_
  refine g_bipush (v := nI 32) dX8_stir_1 rfl ?_
  refine g_idivN dX8_stir_3 (by omega) (by omega) (by omega) ?_
  refine g_istore_2 rfl dX8_stir_4 ?_
  refine g_iload_1 dX8_stir_5 ?_
  refine g_bipush (v := nI 32) dX8_stir_6 rfl ?_
  refine g_iremN dX8_stir_8 (by omega) (by omega) (by omega) ?_
  refine g_istore_3 rfl dX8_stir_9 ?_
  refine g_aload_0 dX8_stir_10 ?_
  refine g_get dX8_stir_11 (fX8_13 rfl) hA.1 rfl ?_
  refine g_sipush (v := nI 459) dX8_stir_14 rfl ?_
  refine g_ialdN dX8_stir_17 hA.2.2.1 (by decide) (by decide) ?_
  rw [show A 2 459 = nI (tno (A 2)) from hI.2.2.2.2.1.2.2.1.1]
  refine g_if_leN (tgt := 25) dX8_stir_18 (by decide) (by omega) (fun h18 => ?_) (fun h18 => ?_)
  · refine g_iconst (v := nI 0) dX8_stir_25 rfl ?_
    refine g_istore_4 rfl dX8_stir_26 ?_
    first
      | (have e : decide (0 < tno (A 2)) = false := decide_eq_false (by omega)
         rw [e] at hk
         exact hk)
      | (have e : decide (0 < tno (A 2)) = true := decide_eq_true (by omega)
         rw [e] at hk
         exact hk)
  · refine g_iconst (v := nI 1) dX8_stir_21 rfl ?_
    refine g_goto (tgt := 26) dX8_stir_22 (by decide) ?_
    refine g_istore_4 rfl dX8_stir_26 ?_
    first
      | (have e : decide (0 < tno (A 2)) = false := decide_eq_false (by omega)
         rw [e] at hk
         exact hk)
      | (have e : decide (0 < tno (A 2)) = true := decide_eq_true (by omega)
         rw [e] at hk
         exact hk)
theorem m_stir_sew (hA : MAt M b I A) (hI : Rng (A 2)) (hq : q < 2 ^ 27) (hk : k < 14) : WP mX8_stir 28 [some (.ref b), some (.int (nI r)), some (.int (nI q)), some (.int (nI k)), some (.int (bI (decide (0 < tno (A 2)))))] [] M z 0 0 (SimQ M b I A ((f_sew (1 + q % 12) (A 2)).1) z) := by
  refine g_iload_3 dX8_stir_28 ?_
  refine g_bipush (v := nI 14) dX8_stir_29 rfl ?_
  refine g_icmp_geN (tgt := 48) dX8_stir_31 (by decide) (by omega) (by omega) (fun h31 => absurd h31 (by omega)) (fun _ => ?_)
  refine g_aload_0 dX8_stir_34 ?_
  refine g_get dX8_stir_35 (fX8_13 rfl) hA.1 rfl ?_
  refine g_iconst (v := nI 1) dX8_stir_38 rfl ?_
  refine g_iload_2 dX8_stir_39 ?_
  refine g_bipush (v := nI 12) dX8_stir_40 rfl ?_
  refine g_iremN dX8_stir_42 (by omega) (by omega) (by omega) ?_
  refine g_iaddN dX8_stir_43 ?_
  refine g_s2_1 dX8_stir_44 (sX8_111 rfl) rfl (Nat.le_of_ble_eq_true rfl) ⟨rfl, rfl⟩ (Nat.le_of_ble_eq_true rfl) (Nat.le_of_ble_eq_true rfl) (m_goSew hA.2.2.1 hI (by omega)) ?_
  exact g_ireturn rfl rfl dX8_stir_47 (Nat.le_of_ble_eq_true rfl) (Nat.le_of_ble_eq_true rfl) (SimQ.row hA)
theorem m_stir_jump (hA : MAt M b I A) (hI : Rng (A 2)) (hq : q < 2 ^ 27) (hk : 14 ≤ k ∧ k < 17) : WP mX8_stir 28 [some (.ref b), some (.int (nI r)), some (.int (nI q)), some (.int (nI k)), some (.int (bI (decide (0 < tno (A 2)))))] [] M z 0 0 (SimQ M b I A ((f_jump (1 + q % 3) (A 2)).1) z) := by
  refine g_iload_3 dX8_stir_28 ?_
  refine g_bipush (v := nI 14) dX8_stir_29 rfl ?_
  refine g_icmp_geN (tgt := 48) dX8_stir_31 (by decide) (by omega) (by omega) (fun _ => ?_) (fun h31 => absurd h31 (by omega))
  refine g_iload_3 dX8_stir_48 ?_
  refine g_bipush (v := nI 17) dX8_stir_49 rfl ?_
  refine g_icmp_geN (tgt := 67) dX8_stir_51 (by decide) (by omega) (by omega) (fun h51 => absurd h51 (by omega)) (fun _ => ?_)
  refine g_aload_0 dX8_stir_54 ?_
  refine g_get dX8_stir_55 (fX8_13 rfl) hA.1 rfl ?_
  refine g_iconst (v := nI 1) dX8_stir_58 rfl ?_
  refine g_iload_2 dX8_stir_59 ?_
  refine g_iconst (v := nI 3) dX8_stir_60 rfl ?_
  refine g_iremN dX8_stir_61 (by omega) (by omega) (by omega) ?_
  refine g_iaddN dX8_stir_62 ?_
  refine g_s2_1 dX8_stir_63 (sX8_114 rfl) rfl (Nat.le_of_ble_eq_true rfl) ⟨rfl, rfl⟩ (Nat.le_of_ble_eq_true rfl) (Nat.le_of_ble_eq_true rfl) (m_goJump hA.2.2.1 hI (by omega)) ?_
  exact g_ireturn rfl rfl dX8_stir_66 (Nat.le_of_ble_eq_true rfl) (Nat.le_of_ble_eq_true rfl) (SimQ.row hA)
theorem m_stir_l (hA : MAt M b I A) (hI : Rng (A 2)) (hq : q < 2 ^ 27) (hk : 17 ≤ k ∧ k < 20) : WP mX8_stir 28 [some (.ref b), some (.int (nI r)), some (.int (nI q)), some (.int (nI k)), some (.int (bI (decide (0 < tno (A 2)))))] [] M z 0 0 (SimQ M b I A (f_turn (A 2) 3) z) := by
  refine g_iload_3 dX8_stir_28 ?_
  refine g_bipush (v := nI 14) dX8_stir_29 rfl ?_
  refine g_icmp_geN (tgt := 48) dX8_stir_31 (by decide) (by omega) (by omega) (fun _ => ?_) (fun h31 => absurd h31 (by omega))
  refine g_iload_3 dX8_stir_48 ?_
  refine g_bipush (v := nI 17) dX8_stir_49 rfl ?_
  refine g_icmp_geN (tgt := 67) dX8_stir_51 (by decide) (by omega) (by omega) (fun _ => ?_) (fun h51 => absurd h51 (by omega))
  refine g_iload_3 dX8_stir_67 ?_
  refine g_bipush (v := nI 23) dX8_stir_68 rfl ?_
  refine g_icmp_geN (tgt := 92) dX8_stir_70 (by decide) (by omega) (by omega) (fun h70 => absurd h70 (by omega)) (fun _ => ?_)
  refine g_aload_0 dX8_stir_73 ?_
  refine g_get dX8_stir_74 (fX8_13 rfl) hA.1 rfl ?_
  refine g_iload_3 dX8_stir_77 ?_
  refine g_bipush (v := nI 20) dX8_stir_78 rfl ?_
  refine g_icmp_geN (tgt := 87) dX8_stir_80 (by decide) (by omega) (by omega) (fun h80 => absurd h80 (by omega)) (fun _ => ?_)
  refine g_iconst (v := nI 3) dX8_stir_83 rfl ?_
  refine g_goto (tgt := 88) dX8_stir_84 (by decide) ?_
  refine g_s2_1 dX8_stir_88 (sX8_121 rfl) rfl (Nat.le_of_ble_eq_true rfl) ⟨rfl, rfl⟩ (Nat.le_of_ble_eq_true rfl) (Nat.le_of_ble_eq_true rfl) (m_goTurn (n := 3) hA.2.2.1 hI (by decide)) ?_
  exact g_ireturn rfl rfl dX8_stir_91 (Nat.le_of_ble_eq_true rfl) (Nat.le_of_ble_eq_true rfl) (SimQ.row hA)
theorem m_stir_r (hA : MAt M b I A) (hI : Rng (A 2)) (hq : q < 2 ^ 27) (hk : 20 ≤ k ∧ k < 23) : WP mX8_stir 28 [some (.ref b), some (.int (nI r)), some (.int (nI q)), some (.int (nI k)), some (.int (bI (decide (0 < tno (A 2)))))] [] M z 0 0 (SimQ M b I A (f_turn (A 2) 1) z) := by
  refine g_iload_3 dX8_stir_28 ?_
  refine g_bipush (v := nI 14) dX8_stir_29 rfl ?_
  refine g_icmp_geN (tgt := 48) dX8_stir_31 (by decide) (by omega) (by omega) (fun _ => ?_) (fun h31 => absurd h31 (by omega))
  refine g_iload_3 dX8_stir_48 ?_
  refine g_bipush (v := nI 17) dX8_stir_49 rfl ?_
  refine g_icmp_geN (tgt := 67) dX8_stir_51 (by decide) (by omega) (by omega) (fun _ => ?_) (fun h51 => absurd h51 (by omega))
  refine g_iload_3 dX8_stir_67 ?_
  refine g_bipush (v := nI 23) dX8_stir_68 rfl ?_
  refine g_icmp_geN (tgt := 92) dX8_stir_70 (by decide) (by omega) (by omega) (fun h70 => absurd h70 (by omega)) (fun _ => ?_)
  refine g_aload_0 dX8_stir_73 ?_
  refine g_get dX8_stir_74 (fX8_13 rfl) hA.1 rfl ?_
  refine g_iload_3 dX8_stir_77 ?_
  refine g_bipush (v := nI 20) dX8_stir_78 rfl ?_
  refine g_icmp_geN (tgt := 87) dX8_stir_80 (by decide) (by omega) (by omega) (fun _ => ?_) (fun h80 => absurd h80 (by omega))
  refine g_iconst (v := nI 1) dX8_stir_87 rfl ?_
  refine g_s2_1 dX8_stir_88 (sX8_121 rfl) rfl (Nat.le_of_ble_eq_true rfl) ⟨rfl, rfl⟩ (Nat.le_of_ble_eq_true rfl) (Nat.le_of_ble_eq_true rfl) (m_goTurn (n := 1) hA.2.2.1 hI (by decide)) ?_
  exact g_ireturn rfl rfl dX8_stir_91 (Nat.le_of_ble_eq_true rfl) (Nat.le_of_ble_eq_true rfl) (SimQ.row hA)
theorem m_stir_t0 (hA : MAt M b I A) (hI : Rng (A 2)) (hq : q < 2 ^ 27) (hk : 23 ≤ k ∧ k < 26) (hc : A 2 (432 + 5 * (q % 5)) < nI 20) : WP mX8_stir 28 [some (.ref b), some (.int (nI r)), some (.int (nI q)), some (.int (nI k)), some (.int (bI (decide (0 < tno (A 2)))))] [] M z 0 0 (SimQ M b I A (A 2) z) := by
  refine g_iload_3 dX8_stir_28 ?_
  refine g_bipush (v := nI 14) dX8_stir_29 rfl ?_
  refine g_icmp_geN (tgt := 48) dX8_stir_31 (by decide) (by omega) (by omega) (fun _ => ?_) (fun h31 => absurd h31 (by omega))
  refine g_iload_3 dX8_stir_48 ?_
  refine g_bipush (v := nI 17) dX8_stir_49 rfl ?_
  refine g_icmp_geN (tgt := 67) dX8_stir_51 (by decide) (by omega) (by omega) (fun _ => ?_) (fun h51 => absurd h51 (by omega))
  refine g_iload_3 dX8_stir_67 ?_
  refine g_bipush (v := nI 23) dX8_stir_68 rfl ?_
  refine g_icmp_geN (tgt := 92) dX8_stir_70 (by decide) (by omega) (by omega) (fun _ => ?_) (fun h70 => absurd h70 (by omega))
  refine g_iload_3 dX8_stir_92 ?_
  refine g_bipush (v := nI 26) dX8_stir_93 rfl ?_
  refine g_icmp_geN (tgt := 129) dX8_stir_95 (by decide) (by omega) (by omega) (fun h95 => absurd h95 (by omega)) (fun _ => ?_)
  refine g_aload_0 dX8_stir_98 ?_
  refine g_get dX8_stir_99 (fX8_13 rfl) hA.1 rfl ?_
  refine g_iload_2 dX8_stir_102 ?_
  refine g_iconst (v := nI 5) dX8_stir_103 rfl ?_
  refine g_iremN dX8_stir_104 (by omega) (by omega) (by omega) ?_
  refine g_iconst (v := nI 0) dX8_stir_105 rfl ?_
  refine g_s3_1 dX8_stir_106 (sX8_65 rfl) rfl (Nat.le_of_ble_eq_true rfl) ⟨rfl, rfl⟩ (Nat.le_of_ble_eq_true rfl) (Nat.le_of_ble_eq_true rfl) (m_cone (n := 0) hA.2.2.1 (by omega) (by decide)) ?_
  refine g_bipush (v := nI 20) dX8_stir_109 rfl ?_
  refine g_icmp_ge (tgt := 118) dX8_stir_111 (by decide)  (fun h111 => absurd hc (Int32.not_lt.mpr h111)) (fun _ => ?_)
  refine g_iconst (v := nI 0) dX8_stir_114 rfl ?_
  refine g_goto (tgt := 128) dX8_stir_115 (by decide) ?_
  exact g_ireturn rfl rfl dX8_stir_128 (Nat.le_of_ble_eq_true rfl) (Nat.le_of_ble_eq_true rfl) (SimQ.same hA)
theorem m_stir_t1 (hA : MAt M b I A) (hI : Rng (A 2)) (hq : q < 2 ^ 27) (hk : 23 ≤ k ∧ k < 26) (hc : ¬ A 2 (432 + 5 * (q % 5)) < nI 20) : WP mX8_stir 28 [some (.ref b), some (.int (nI r)), some (.int (nI q)), some (.int (nI k)), some (.int (bI (decide (0 < tno (A 2)))))] [] M z 0 0 (SimQ M b I A (f_thread (A 2) (q % 5)) z) := by
  refine g_iload_3 dX8_stir_28 ?_
  refine g_bipush (v := nI 14) dX8_stir_29 rfl ?_
  refine g_icmp_geN (tgt := 48) dX8_stir_31 (by decide) (by omega) (by omega) (fun _ => ?_) (fun h31 => absurd h31 (by omega))
  refine g_iload_3 dX8_stir_48 ?_
  refine g_bipush (v := nI 17) dX8_stir_49 rfl ?_
  refine g_icmp_geN (tgt := 67) dX8_stir_51 (by decide) (by omega) (by omega) (fun _ => ?_) (fun h51 => absurd h51 (by omega))
  refine g_iload_3 dX8_stir_67 ?_
  refine g_bipush (v := nI 23) dX8_stir_68 rfl ?_
  refine g_icmp_geN (tgt := 92) dX8_stir_70 (by decide) (by omega) (by omega) (fun _ => ?_) (fun h70 => absurd h70 (by omega))
  refine g_iload_3 dX8_stir_92 ?_
  refine g_bipush (v := nI 26) dX8_stir_93 rfl ?_
  refine g_icmp_geN (tgt := 129) dX8_stir_95 (by decide) (by omega) (by omega) (fun h95 => absurd h95 (by omega)) (fun _ => ?_)
  refine g_aload_0 dX8_stir_98 ?_
  refine g_get dX8_stir_99 (fX8_13 rfl) hA.1 rfl ?_
  refine g_iload_2 dX8_stir_102 ?_
  refine g_iconst (v := nI 5) dX8_stir_103 rfl ?_
  refine g_iremN dX8_stir_104 (by omega) (by omega) (by omega) ?_
  refine g_iconst (v := nI 0) dX8_stir_105 rfl ?_
  refine g_s3_1 dX8_stir_106 (sX8_65 rfl) rfl (Nat.le_of_ble_eq_true rfl) ⟨rfl, rfl⟩ (Nat.le_of_ble_eq_true rfl) (Nat.le_of_ble_eq_true rfl) (m_cone (n := 0) hA.2.2.1 (by omega) (by decide)) ?_
  refine g_bipush (v := nI 20) dX8_stir_109 rfl ?_
  refine g_icmp_ge (tgt := 118) dX8_stir_111 (by decide)  (fun _ => ?_) (fun h111 => absurd (Int32.not_le.mp h111) hc)
  refine g_aload_0 dX8_stir_118 ?_
  refine g_get dX8_stir_119 (fX8_13 rfl) hA.1 rfl ?_
  refine g_iload_2 dX8_stir_122 ?_
  refine g_iconst (v := nI 5) dX8_stir_123 rfl ?_
  refine g_iremN dX8_stir_124 (by omega) (by omega) (by omega) ?_
  refine g_s2_1 dX8_stir_125 (sX8_127 rfl) rfl (Nat.le_of_ble_eq_true rfl) ⟨rfl, rfl⟩ (Nat.le_of_ble_eq_true rfl) (Nat.le_of_ble_eq_true rfl) (m_goThread hA.2.2.1 hI (by omega)) ?_
  exact g_ireturn rfl rfl dX8_stir_128 (Nat.le_of_ble_eq_true rfl) (Nat.le_of_ble_eq_true rfl) (SimQ.row hA)
theorem m_stir_cut1 (hA : MAt M b I A) (hI : Rng (A 2)) (hq : q < 2 ^ 27) (ht : 0 < tno (A 2)) (h4 : q % 4 = 0) : WP mX8_stir 28 [some (.ref b), some (.int (nI r)), some (.int (nI q)), some (.int (nI 26)), some (.int (bI (decide (0 < tno (A 2)))))] [] M z 0 0 (SimQ M b I A (f_cut (A 2)) z) := by
  have htl := hI.tlt
  refine g_iload_3 dX8_stir_28 ?_
  refine g_bipush (v := nI 14) dX8_stir_29 rfl ?_
  refine g_icmp_geN (tgt := 48) dX8_stir_31 (by decide) (by omega) (by omega) (fun _ => ?_) (fun h31 => absurd h31 (by omega))
  refine g_iload_3 dX8_stir_48 ?_
  refine g_bipush (v := nI 17) dX8_stir_49 rfl ?_
  refine g_icmp_geN (tgt := 67) dX8_stir_51 (by decide) (by omega) (by omega) (fun _ => ?_) (fun h51 => absurd h51 (by omega))
  refine g_iload_3 dX8_stir_67 ?_
  refine g_bipush (v := nI 23) dX8_stir_68 rfl ?_
  refine g_icmp_geN (tgt := 92) dX8_stir_70 (by decide) (by omega) (by omega) (fun _ => ?_) (fun h70 => absurd h70 (by omega))
  refine g_iload_3 dX8_stir_92 ?_
  refine g_bipush (v := nI 26) dX8_stir_93 rfl ?_
  refine g_icmp_geN (tgt := 129) dX8_stir_95 (by decide) (by omega) (by omega) (fun _ => ?_) (fun h95 => absurd h95 (by omega))
  refine g_iload_3 dX8_stir_129 ?_
  refine g_tabIn (x := nI 26) (off := 34) (tgt := 164) dX8_stir_130 (by decide) (by decide) rfl (by decide) ?_
  refine g_iload_4 dX8_stir_164 ?_
  refine g_if_eqB (tgt := 185) dX8_stir_166 (by decide)  (fun h166 => absurd (of_decide_eq_false h166) (by omega)) (fun _ => ?_)
  refine g_iload_2 dX8_stir_169 ?_
  refine g_iconst (v := nI 4) dX8_stir_170 rfl ?_
  refine g_iremN dX8_stir_171 (by omega) (by omega) (by omega) ?_
  refine g_if_neN (tgt := 185) dX8_stir_172 (by decide) (by omega) (fun h172 => absurd h4 h172) (fun _ => ?_)
  refine g_aload_0 dX8_stir_175 ?_
  refine g_get dX8_stir_176 (fX8_13 rfl) hA.1 rfl ?_
  refine g_s1_1 dX8_stir_179 (sX8_79 rfl) rfl (Nat.le_of_ble_eq_true rfl) ⟨rfl, rfl⟩ (Nat.le_of_ble_eq_true rfl) (Nat.le_of_ble_eq_true rfl) (m_goCut (c := tno (A 2) - 1) hA.2.2.1 hI (by omega)) ?_
  refine g_goto (tgt := 186) dX8_stir_182 (by decide) ?_
  exact g_ireturn rfl rfl dX8_stir_186 (Nat.le_of_ble_eq_true rfl) (Nat.le_of_ble_eq_true rfl) (SimQ.row hA)
theorem m_stir_cut0 (hA : MAt M b I A) (hI : Rng (A 2)) (hq : q < 2 ^ 27) (ht : ¬ 0 < tno (A 2)) : WP mX8_stir 28 [some (.ref b), some (.int (nI r)), some (.int (nI q)), some (.int (nI 26)), some (.int (bI (decide (0 < tno (A 2)))))] [] M z 0 0 (SimQ M b I A (A 2) z) := by
  refine g_iload_3 dX8_stir_28 ?_
  refine g_bipush (v := nI 14) dX8_stir_29 rfl ?_
  refine g_icmp_geN (tgt := 48) dX8_stir_31 (by decide) (by omega) (by omega) (fun _ => ?_) (fun h31 => absurd h31 (by omega))
  refine g_iload_3 dX8_stir_48 ?_
  refine g_bipush (v := nI 17) dX8_stir_49 rfl ?_
  refine g_icmp_geN (tgt := 67) dX8_stir_51 (by decide) (by omega) (by omega) (fun _ => ?_) (fun h51 => absurd h51 (by omega))
  refine g_iload_3 dX8_stir_67 ?_
  refine g_bipush (v := nI 23) dX8_stir_68 rfl ?_
  refine g_icmp_geN (tgt := 92) dX8_stir_70 (by decide) (by omega) (by omega) (fun _ => ?_) (fun h70 => absurd h70 (by omega))
  refine g_iload_3 dX8_stir_92 ?_
  refine g_bipush (v := nI 26) dX8_stir_93 rfl ?_
  refine g_icmp_geN (tgt := 129) dX8_stir_95 (by decide) (by omega) (by omega) (fun _ => ?_) (fun h95 => absurd h95 (by omega))
  refine g_iload_3 dX8_stir_129 ?_
  refine g_tabIn (x := nI 26) (off := 34) (tgt := 164) dX8_stir_130 (by decide) (by decide) rfl (by decide) ?_
  refine g_iload_4 dX8_stir_164 ?_
  refine g_if_eqB (tgt := 185) dX8_stir_166 (by decide)  (fun _ => ?_) (fun h166 => absurd (of_decide_eq_true h166) ht)
  refine g_iconst (v := nI 0) dX8_stir_185 rfl ?_
  exact g_ireturn rfl rfl dX8_stir_186 (Nat.le_of_ble_eq_true rfl) (Nat.le_of_ble_eq_true rfl) (SimQ.same hA)
theorem m_stir_cut2 (hA : MAt M b I A) (hI : Rng (A 2)) (hq : q < 2 ^ 27) (ht : 0 < tno (A 2)) (h4 : ¬ q % 4 = 0) : WP mX8_stir 28 [some (.ref b), some (.int (nI r)), some (.int (nI q)), some (.int (nI 26)), some (.int (bI (decide (0 < tno (A 2)))))] [] M z 0 0 (SimQ M b I A (A 2) z) := by
  refine g_iload_3 dX8_stir_28 ?_
  refine g_bipush (v := nI 14) dX8_stir_29 rfl ?_
  refine g_icmp_geN (tgt := 48) dX8_stir_31 (by decide) (by omega) (by omega) (fun _ => ?_) (fun h31 => absurd h31 (by omega))
  refine g_iload_3 dX8_stir_48 ?_
  refine g_bipush (v := nI 17) dX8_stir_49 rfl ?_
  refine g_icmp_geN (tgt := 67) dX8_stir_51 (by decide) (by omega) (by omega) (fun _ => ?_) (fun h51 => absurd h51 (by omega))
  refine g_iload_3 dX8_stir_67 ?_
  refine g_bipush (v := nI 23) dX8_stir_68 rfl ?_
  refine g_icmp_geN (tgt := 92) dX8_stir_70 (by decide) (by omega) (by omega) (fun _ => ?_) (fun h70 => absurd h70 (by omega))
  refine g_iload_3 dX8_stir_92 ?_
  refine g_bipush (v := nI 26) dX8_stir_93 rfl ?_
  refine g_icmp_geN (tgt := 129) dX8_stir_95 (by decide) (by omega) (by omega) (fun _ => ?_) (fun h95 => absurd h95 (by omega))
  refine g_iload_3 dX8_stir_129 ?_
  refine g_tabIn (x := nI 26) (off := 34) (tgt := 164) dX8_stir_130 (by decide) (by decide) rfl (by decide) ?_
  refine g_iload_4 dX8_stir_164 ?_
  refine g_if_eqB (tgt := 185) dX8_stir_166 (by decide)  (fun h166 => absurd (of_decide_eq_false h166) (by omega)) (fun _ => ?_)
  refine g_iload_2 dX8_stir_169 ?_
  refine g_iconst (v := nI 4) dX8_stir_170 rfl ?_
  refine g_iremN dX8_stir_171 (by omega) (by omega) (by omega) ?_
  refine g_if_neN (tgt := 185) dX8_stir_172 (by decide) (by omega) (fun _ => ?_) (fun h172 => absurd h172 h4)
  refine g_iconst (v := nI 0) dX8_stir_185 rfl ?_
  exact g_ireturn rfl rfl dX8_stir_186 (Nat.le_of_ble_eq_true rfl) (Nat.le_of_ble_eq_true rfl) (SimQ.same hA)
theorem m_stir_ease1 (hA : MAt M b I A) (hI : Rng (A 2)) (hq : q < 2 ^ 27) (ht : 0 < tno (A 2)) : WP mX8_stir 28 [some (.ref b), some (.int (nI r)), some (.int (nI q)), some (.int (nI 27)), some (.int (bI (decide (0 < tno (A 2)))))] [] M z 0 0 (SimQ M b I A (f_ease (A 2)) z) := by
  have htl := hI.tlt
  refine g_iload_3 dX8_stir_28 ?_
  refine g_bipush (v := nI 14) dX8_stir_29 rfl ?_
  refine g_icmp_geN (tgt := 48) dX8_stir_31 (by decide) (by omega) (by omega) (fun _ => ?_) (fun h31 => absurd h31 (by omega))
  refine g_iload_3 dX8_stir_48 ?_
  refine g_bipush (v := nI 17) dX8_stir_49 rfl ?_
  refine g_icmp_geN (tgt := 67) dX8_stir_51 (by decide) (by omega) (by omega) (fun _ => ?_) (fun h51 => absurd h51 (by omega))
  refine g_iload_3 dX8_stir_67 ?_
  refine g_bipush (v := nI 23) dX8_stir_68 rfl ?_
  refine g_icmp_geN (tgt := 92) dX8_stir_70 (by decide) (by omega) (by omega) (fun _ => ?_) (fun h70 => absurd h70 (by omega))
  refine g_iload_3 dX8_stir_92 ?_
  refine g_bipush (v := nI 26) dX8_stir_93 rfl ?_
  refine g_icmp_geN (tgt := 129) dX8_stir_95 (by decide) (by omega) (by omega) (fun _ => ?_) (fun h95 => absurd h95 (by omega))
  refine g_iload_3 dX8_stir_129 ?_
  refine g_tabIn (x := nI 27) (off := 57) (tgt := 187) dX8_stir_130 (by decide) (by decide) rfl (by decide) ?_
  refine g_iload_4 dX8_stir_187 ?_
  refine g_if_eqB (tgt := 202) dX8_stir_189 (by decide)  (fun h189 => absurd (of_decide_eq_false h189) (by omega)) (fun _ => ?_)
  refine g_aload_0 dX8_stir_192 ?_
  refine g_get dX8_stir_193 (fX8_13 rfl) hA.1 rfl ?_
  refine g_s1_1 dX8_stir_196 (sX8_124 rfl) rfl (Nat.le_of_ble_eq_true rfl) ⟨rfl, rfl⟩ (Nat.le_of_ble_eq_true rfl) (Nat.le_of_ble_eq_true rfl) (m_goEase (c := tno (A 2) - 1) hA.2.2.1 hI (by omega)) ?_
  refine g_goto (tgt := 203) dX8_stir_199 (by decide) ?_
  exact g_ireturn rfl rfl dX8_stir_203 (Nat.le_of_ble_eq_true rfl) (Nat.le_of_ble_eq_true rfl) (SimQ.row hA)
theorem m_stir_ease0 (hA : MAt M b I A) (hI : Rng (A 2)) (hq : q < 2 ^ 27) (ht : ¬ 0 < tno (A 2)) : WP mX8_stir 28 [some (.ref b), some (.int (nI r)), some (.int (nI q)), some (.int (nI 27)), some (.int (bI (decide (0 < tno (A 2)))))] [] M z 0 0 (SimQ M b I A (A 2) z) := by
  refine g_iload_3 dX8_stir_28 ?_
  refine g_bipush (v := nI 14) dX8_stir_29 rfl ?_
  refine g_icmp_geN (tgt := 48) dX8_stir_31 (by decide) (by omega) (by omega) (fun _ => ?_) (fun h31 => absurd h31 (by omega))
  refine g_iload_3 dX8_stir_48 ?_
  refine g_bipush (v := nI 17) dX8_stir_49 rfl ?_
  refine g_icmp_geN (tgt := 67) dX8_stir_51 (by decide) (by omega) (by omega) (fun _ => ?_) (fun h51 => absurd h51 (by omega))
  refine g_iload_3 dX8_stir_67 ?_
  refine g_bipush (v := nI 23) dX8_stir_68 rfl ?_
  refine g_icmp_geN (tgt := 92) dX8_stir_70 (by decide) (by omega) (by omega) (fun _ => ?_) (fun h70 => absurd h70 (by omega))
  refine g_iload_3 dX8_stir_92 ?_
  refine g_bipush (v := nI 26) dX8_stir_93 rfl ?_
  refine g_icmp_geN (tgt := 129) dX8_stir_95 (by decide) (by omega) (by omega) (fun _ => ?_) (fun h95 => absurd h95 (by omega))
  refine g_iload_3 dX8_stir_129 ?_
  refine g_tabIn (x := nI 27) (off := 57) (tgt := 187) dX8_stir_130 (by decide) (by decide) rfl (by decide) ?_
  refine g_iload_4 dX8_stir_187 ?_
  refine g_if_eqB (tgt := 202) dX8_stir_189 (by decide)  (fun _ => ?_) (fun h189 => absurd (of_decide_eq_true h189) ht)
  refine g_iconst (v := nI 0) dX8_stir_202 rfl ?_
  exact g_ireturn rfl rfl dX8_stir_203 (Nat.le_of_ble_eq_true rfl) (Nat.le_of_ble_eq_true rfl) (SimQ.same hA)
theorem m_stir_h (hA : MAt M b I A) (hI : Rng (A 2)) (hq : q < 2 ^ 27) : WP mX8_stir 28 [some (.ref b), some (.int (nI r)), some (.int (nI q)), some (.int (nI 28)), some (.int (bI (decide (0 < tno (A 2)))))] [] M z 0 0 (SimQ M b I A (upd (A 2) 460 (nI (1 + q % 9))) z) := by
  refine g_iload_3 dX8_stir_28 ?_
  refine g_bipush (v := nI 14) dX8_stir_29 rfl ?_
  refine g_icmp_geN (tgt := 48) dX8_stir_31 (by decide) (by omega) (by omega) (fun _ => ?_) (fun h31 => absurd h31 (by omega))
  refine g_iload_3 dX8_stir_48 ?_
  refine g_bipush (v := nI 17) dX8_stir_49 rfl ?_
  refine g_icmp_geN (tgt := 67) dX8_stir_51 (by decide) (by omega) (by omega) (fun _ => ?_) (fun h51 => absurd h51 (by omega))
  refine g_iload_3 dX8_stir_67 ?_
  refine g_bipush (v := nI 23) dX8_stir_68 rfl ?_
  refine g_icmp_geN (tgt := 92) dX8_stir_70 (by decide) (by omega) (by omega) (fun _ => ?_) (fun h70 => absurd h70 (by omega))
  refine g_iload_3 dX8_stir_92 ?_
  refine g_bipush (v := nI 26) dX8_stir_93 rfl ?_
  refine g_icmp_geN (tgt := 129) dX8_stir_95 (by decide) (by omega) (by omega) (fun _ => ?_) (fun h95 => absurd h95 (by omega))
  refine g_iload_3 dX8_stir_129 ?_
  refine g_tabIn (x := nI 28) (off := 74) (tgt := 204) dX8_stir_130 (by decide) (by decide) rfl (by decide) ?_
  refine g_aload_0 dX8_stir_204 ?_
  refine g_get dX8_stir_205 (fX8_13 rfl) hA.1 rfl ?_
  refine g_sipush (v := nI 460) dX8_stir_208 rfl ?_
  refine g_iconst (v := nI 1) dX8_stir_211 rfl ?_
  refine g_iload_2 dX8_stir_212 ?_
  refine g_bipush (v := nI 9) dX8_stir_213 rfl ?_
  refine g_iremN dX8_stir_215 (by omega) (by omega) (by omega) ?_
  refine g_iaddN dX8_stir_216 ?_
  refine g_iastN dX8_stir_217 hA.2.2.1 (by decide) (by decide) ?_
  refine g_iconst (v := nI 0) dX8_stir_218 rfl ?_
  exact g_ireturn rfl rfl dX8_stir_219 (Nat.le_of_ble_eq_true rfl) (Nat.le_of_ble_eq_true rfl) (SimQ.row hA)
theorem m_stir_u1 (hA : MAt M b I A) (hI : Rng (A 2)) (hq : q < 2 ^ 27) (hl : hasL (A 2 (144 + q % 144)) = true) : WP mX8_stir 28 [some (.ref b), some (.int (nI r)), some (.int (nI q)), some (.int (nI 29)), some (.int (bI (decide (0 < tno (A 2)))))] [] M z 0 0 (SimQ M b I A (f_unpick (A 2) (q % 144)) z) := by
  refine g_iload_3 dX8_stir_28 ?_
  refine g_bipush (v := nI 14) dX8_stir_29 rfl ?_
  refine g_icmp_geN (tgt := 48) dX8_stir_31 (by decide) (by omega) (by omega) (fun _ => ?_) (fun h31 => absurd h31 (by omega))
  refine g_iload_3 dX8_stir_48 ?_
  refine g_bipush (v := nI 17) dX8_stir_49 rfl ?_
  refine g_icmp_geN (tgt := 67) dX8_stir_51 (by decide) (by omega) (by omega) (fun _ => ?_) (fun h51 => absurd h51 (by omega))
  refine g_iload_3 dX8_stir_67 ?_
  refine g_bipush (v := nI 23) dX8_stir_68 rfl ?_
  refine g_icmp_geN (tgt := 92) dX8_stir_70 (by decide) (by omega) (by omega) (fun _ => ?_) (fun h70 => absurd h70 (by omega))
  refine g_iload_3 dX8_stir_92 ?_
  refine g_bipush (v := nI 26) dX8_stir_93 rfl ?_
  refine g_icmp_geN (tgt := 129) dX8_stir_95 (by decide) (by omega) (by omega) (fun _ => ?_) (fun h95 => absurd h95 (by omega))
  refine g_iload_3 dX8_stir_129 ?_
  refine g_tabIn (x := nI 29) (off := 90) (tgt := 220) dX8_stir_130 (by decide) (by decide) rfl (by decide) ?_
  refine g_aload_0 dX8_stir_220 ?_
  refine g_get dX8_stir_221 (fX8_13 rfl) hA.1 rfl ?_
  refine g_iload_2 dX8_stir_224 ?_
  refine g_sipush (v := nI 144) dX8_stir_225 rfl ?_
  refine g_iremN dX8_stir_228 (by omega) (by omega) (by omega) ?_
  refine g_s2_1 dX8_stir_229 (sX8_61 rfl) rfl (Nat.le_of_ble_eq_true rfl) ⟨rfl, rfl⟩ (Nat.le_of_ble_eq_true rfl) (Nat.le_of_ble_eq_true rfl) (m_hasLoop hA.2.2.1 (by omega)) ?_
  refine g_if_eqB (tgt := 250) dX8_stir_232 (by decide)  (fun h232 => absurd (h232.symm.trans hl) (by decide)) (fun _ => ?_)
  refine g_aload_0 dX8_stir_235 ?_
  refine g_get dX8_stir_236 (fX8_13 rfl) hA.1 rfl ?_
  refine g_iload_2 dX8_stir_239 ?_
  refine g_sipush (v := nI 144) dX8_stir_240 rfl ?_
  refine g_iremN dX8_stir_243 (by omega) (by omega) (by omega) ?_
  refine g_s2_1 dX8_stir_244 (sX8_233 rfl) rfl (Nat.le_of_ble_eq_true rfl) ⟨rfl, rfl⟩ (Nat.le_of_ble_eq_true rfl) (Nat.le_of_ble_eq_true rfl) (m_goUnpick hA.2.2.1 hI (by omega) hl) ?_
  refine g_goto (tgt := 251) dX8_stir_247 (by decide) ?_
  exact g_ireturn rfl rfl dX8_stir_251 (Nat.le_of_ble_eq_true rfl) (Nat.le_of_ble_eq_true rfl) (SimQ.row hA)
theorem m_stir_u0 (hA : MAt M b I A) (hI : Rng (A 2)) (hq : q < 2 ^ 27) (hl : ¬ hasL (A 2 (144 + q % 144)) = true) : WP mX8_stir 28 [some (.ref b), some (.int (nI r)), some (.int (nI q)), some (.int (nI 29)), some (.int (bI (decide (0 < tno (A 2)))))] [] M z 0 0 (SimQ M b I A (A 2) z) := by
  refine g_iload_3 dX8_stir_28 ?_
  refine g_bipush (v := nI 14) dX8_stir_29 rfl ?_
  refine g_icmp_geN (tgt := 48) dX8_stir_31 (by decide) (by omega) (by omega) (fun _ => ?_) (fun h31 => absurd h31 (by omega))
  refine g_iload_3 dX8_stir_48 ?_
  refine g_bipush (v := nI 17) dX8_stir_49 rfl ?_
  refine g_icmp_geN (tgt := 67) dX8_stir_51 (by decide) (by omega) (by omega) (fun _ => ?_) (fun h51 => absurd h51 (by omega))
  refine g_iload_3 dX8_stir_67 ?_
  refine g_bipush (v := nI 23) dX8_stir_68 rfl ?_
  refine g_icmp_geN (tgt := 92) dX8_stir_70 (by decide) (by omega) (by omega) (fun _ => ?_) (fun h70 => absurd h70 (by omega))
  refine g_iload_3 dX8_stir_92 ?_
  refine g_bipush (v := nI 26) dX8_stir_93 rfl ?_
  refine g_icmp_geN (tgt := 129) dX8_stir_95 (by decide) (by omega) (by omega) (fun _ => ?_) (fun h95 => absurd h95 (by omega))
  refine g_iload_3 dX8_stir_129 ?_
  refine g_tabIn (x := nI 29) (off := 90) (tgt := 220) dX8_stir_130 (by decide) (by decide) rfl (by decide) ?_
  refine g_aload_0 dX8_stir_220 ?_
  refine g_get dX8_stir_221 (fX8_13 rfl) hA.1 rfl ?_
  refine g_iload_2 dX8_stir_224 ?_
  refine g_sipush (v := nI 144) dX8_stir_225 rfl ?_
  refine g_iremN dX8_stir_228 (by omega) (by omega) (by omega) ?_
  refine g_s2_1 dX8_stir_229 (sX8_61 rfl) rfl (Nat.le_of_ble_eq_true rfl) ⟨rfl, rfl⟩ (Nat.le_of_ble_eq_true rfl) (Nat.le_of_ble_eq_true rfl) (m_hasLoop hA.2.2.1 (by omega)) ?_
  refine g_if_eqB (tgt := 250) dX8_stir_232 (by decide)  (fun _ => ?_) (fun h232 => absurd h232 hl)
  refine g_iconst (v := nI 0) dX8_stir_250 rfl ?_
  exact g_ireturn rfl rfl dX8_stir_251 (Nat.le_of_ble_eq_true rfl) (Nat.le_of_ble_eq_true rfl) (SimQ.same hA)
theorem m_stir_s1 (hA : MAt M b I A) (hI : Rng (A 2)) (hq : q < 2 ^ 27) (h8 : q / 9 % 8 = 0) : WP mX8_stir 28 [some (.ref b), some (.int (nI r)), some (.int (nI q)), some (.int (nI 30)), some (.int (bI (decide (0 < tno (A 2)))))] [] M z 0 0 (SimQ M b I A ((f_shear (nI (1 + q % 9)) 144 (A 2)).1) z) := by
  refine g_iload_3 dX8_stir_28 ?_
  refine g_bipush (v := nI 14) dX8_stir_29 rfl ?_
  refine g_icmp_geN (tgt := 48) dX8_stir_31 (by decide) (by omega) (by omega) (fun _ => ?_) (fun h31 => absurd h31 (by omega))
  refine g_iload_3 dX8_stir_48 ?_
  refine g_bipush (v := nI 17) dX8_stir_49 rfl ?_
  refine g_icmp_geN (tgt := 67) dX8_stir_51 (by decide) (by omega) (by omega) (fun _ => ?_) (fun h51 => absurd h51 (by omega))
  refine g_iload_3 dX8_stir_67 ?_
  refine g_bipush (v := nI 23) dX8_stir_68 rfl ?_
  refine g_icmp_geN (tgt := 92) dX8_stir_70 (by decide) (by omega) (by omega) (fun _ => ?_) (fun h70 => absurd h70 (by omega))
  refine g_iload_3 dX8_stir_92 ?_
  refine g_bipush (v := nI 26) dX8_stir_93 rfl ?_
  refine g_icmp_geN (tgt := 129) dX8_stir_95 (by decide) (by omega) (by omega) (fun _ => ?_) (fun h95 => absurd h95 (by omega))
  refine g_iload_3 dX8_stir_129 ?_
  refine g_tabIn (x := nI 30) (off := 122) (tgt := 252) dX8_stir_130 (by decide) (by decide) rfl (by decide) ?_
  refine g_iload_2 dX8_stir_252 ?_
  refine g_bipush (v := nI 9) dX8_stir_253 rfl ?_
  refine g_idivN dX8_stir_255 (by omega) (by omega) (by omega) ?_
  refine g_bipush (v := nI 8) dX8_stir_256 rfl ?_
  refine g_iremN dX8_stir_258 (by omega) (by omega) (by omega) ?_
  refine g_if_neN (tgt := 278) dX8_stir_259 (by decide) (by omega) (fun h259 => absurd h8 h259) (fun _ => ?_)
  refine g_aload_0 dX8_stir_262 ?_
  refine g_get dX8_stir_263 (fX8_13 rfl) hA.1 rfl ?_
  refine g_iconst (v := nI 1) dX8_stir_266 rfl ?_
  refine g_iload_2 dX8_stir_267 ?_
  refine g_bipush (v := nI 9) dX8_stir_268 rfl ?_
  refine g_iremN dX8_stir_270 (by omega) (by omega) (by omega) ?_
  refine g_iaddN dX8_stir_271 ?_
  refine g_s2_1 dX8_stir_272 (sX8_236 rfl) rfl (Nat.le_of_ble_eq_true rfl) ⟨rfl, rfl⟩ (Nat.le_of_ble_eq_true rfl) (Nat.le_of_ble_eq_true rfl) (m_goShear (h := 1 + q % 9) hA.2.2.1 hI (by omega) (by omega)) ?_
  refine g_goto (tgt := 279) dX8_stir_275 (by decide) ?_
  exact g_ireturn rfl rfl dX8_stir_279 (Nat.le_of_ble_eq_true rfl) (Nat.le_of_ble_eq_true rfl) (SimQ.row hA)
theorem m_stir_s0 (hA : MAt M b I A) (hI : Rng (A 2)) (hq : q < 2 ^ 27) (h8 : ¬ q / 9 % 8 = 0) : WP mX8_stir 28 [some (.ref b), some (.int (nI r)), some (.int (nI q)), some (.int (nI 30)), some (.int (bI (decide (0 < tno (A 2)))))] [] M z 0 0 (SimQ M b I A (A 2) z) := by
  refine g_iload_3 dX8_stir_28 ?_
  refine g_bipush (v := nI 14) dX8_stir_29 rfl ?_
  refine g_icmp_geN (tgt := 48) dX8_stir_31 (by decide) (by omega) (by omega) (fun _ => ?_) (fun h31 => absurd h31 (by omega))
  refine g_iload_3 dX8_stir_48 ?_
  refine g_bipush (v := nI 17) dX8_stir_49 rfl ?_
  refine g_icmp_geN (tgt := 67) dX8_stir_51 (by decide) (by omega) (by omega) (fun _ => ?_) (fun h51 => absurd h51 (by omega))
  refine g_iload_3 dX8_stir_67 ?_
  refine g_bipush (v := nI 23) dX8_stir_68 rfl ?_
  refine g_icmp_geN (tgt := 92) dX8_stir_70 (by decide) (by omega) (by omega) (fun _ => ?_) (fun h70 => absurd h70 (by omega))
  refine g_iload_3 dX8_stir_92 ?_
  refine g_bipush (v := nI 26) dX8_stir_93 rfl ?_
  refine g_icmp_geN (tgt := 129) dX8_stir_95 (by decide) (by omega) (by omega) (fun _ => ?_) (fun h95 => absurd h95 (by omega))
  refine g_iload_3 dX8_stir_129 ?_
  refine g_tabIn (x := nI 30) (off := 122) (tgt := 252) dX8_stir_130 (by decide) (by decide) rfl (by decide) ?_
  refine g_iload_2 dX8_stir_252 ?_
  refine g_bipush (v := nI 9) dX8_stir_253 rfl ?_
  refine g_idivN dX8_stir_255 (by omega) (by omega) (by omega) ?_
  refine g_bipush (v := nI 8) dX8_stir_256 rfl ?_
  refine g_iremN dX8_stir_258 (by omega) (by omega) (by omega) ?_
  refine g_if_neN (tgt := 278) dX8_stir_259 (by decide) (by omega) (fun _ => ?_) (fun h259 => absurd h259 h8)
  refine g_iconst (v := nI 0) dX8_stir_278 rfl ?_
  exact g_ireturn rfl rfl dX8_stir_279 (Nat.le_of_ble_eq_true rfl) (Nat.le_of_ble_eq_true rfl) (SimQ.same hA)
theorem m_stir_m0 (hA : MAt M b I A) (hI : Rng (A 2)) (hq : q < 2 ^ 27) (hT : TxtsOK T Ln) (hX : TxR A 2 T Ln) (hl : Ln (q % 4) = 0) : WP mX8_stir 28 [some (.ref b), some (.int (nI r)), some (.int (nI q)), some (.int (nI 31)), some (.int (bI (decide (0 < tno (A 2)))))] [] M z 0 0 (SimQ M b I A (A 2) z) := by
  have hl9 := (hT (q % 4) (by omega)).1
  refine g_iload_3 dX8_stir_28 ?_
  refine g_bipush (v := nI 14) dX8_stir_29 rfl ?_
  refine g_icmp_geN (tgt := 48) dX8_stir_31 (by decide) (by omega) (by omega) (fun _ => ?_) (fun h31 => absurd h31 (by omega))
  refine g_iload_3 dX8_stir_48 ?_
  refine g_bipush (v := nI 17) dX8_stir_49 rfl ?_
  refine g_icmp_geN (tgt := 67) dX8_stir_51 (by decide) (by omega) (by omega) (fun _ => ?_) (fun h51 => absurd h51 (by omega))
  refine g_iload_3 dX8_stir_67 ?_
  refine g_bipush (v := nI 23) dX8_stir_68 rfl ?_
  refine g_icmp_geN (tgt := 92) dX8_stir_70 (by decide) (by omega) (by omega) (fun _ => ?_) (fun h70 => absurd h70 (by omega))
  refine g_iload_3 dX8_stir_92 ?_
  refine g_bipush (v := nI 26) dX8_stir_93 rfl ?_
  refine g_icmp_geN (tgt := 129) dX8_stir_95 (by decide) (by omega) (by omega) (fun _ => ?_) (fun h95 => absurd h95 (by omega))
  refine g_iload_3 dX8_stir_129 ?_
  refine g_tabOut (x := nI 31) (tgt := 280) dX8_stir_130 (Or.inr (by decide)) (by decide) ?_
  refine g_aload_0 dX8_stir_280 ?_
  refine g_get dX8_stir_281 (fX8_13 rfl) hA.1 rfl ?_
  refine g_sipush (v := nI 463) dX8_stir_284 rfl ?_
  refine g_iload_2 dX8_stir_287 ?_
  refine g_iconst (v := nI 4) dX8_stir_288 rfl ?_
  refine g_iremN dX8_stir_289 (by omega) (by omega) (by omega) ?_
  refine g_iaddN dX8_stir_290 ?_
  refine g_ialdN dX8_stir_291 hA.2.2.1 (by omega) (by decide) ?_
  rw [hX.2 (q % 4) (by omega)]
  refine g_if_neN (tgt := 299) dX8_stir_292 (by decide) (by omega) (fun h292 => absurd hl h292) (fun _ => ?_)
  refine g_iconst (v := nI 0) dX8_stir_295 rfl ?_
  refine g_goto (tgt := 322) dX8_stir_296 (by decide) ?_
  exact g_ireturn rfl rfl dX8_stir_322 (Nat.le_of_ble_eq_true rfl) (Nat.le_of_ble_eq_true rfl) (SimQ.same hA)
theorem m_stir_m1 (hA : MAt M b I A) (hI : Rng (A 2)) (hq : q < 2 ^ 27) (hT : TxtsOK T Ln) (hX : TxR A 2 T Ln) (hl : ¬ Ln (q % 4) = 0) : WP mX8_stir 28 [some (.ref b), some (.int (nI r)), some (.int (nI q)), some (.int (nI 31)), some (.int (bI (decide (0 < tno (A 2)))))] [] M z 0 0 (SimQ M b I A ((prun T Ln 4001 (A 2) [(q % 4, 0, 0, 0)] 0 0).1) z) := by
  have hl9 := (hT (q % 4) (by omega)).1
  refine g_iload_3 dX8_stir_28 ?_
  refine g_bipush (v := nI 14) dX8_stir_29 rfl ?_
  refine g_icmp_geN (tgt := 48) dX8_stir_31 (by decide) (by omega) (by omega) (fun _ => ?_) (fun h31 => absurd h31 (by omega))
  refine g_iload_3 dX8_stir_48 ?_
  refine g_bipush (v := nI 17) dX8_stir_49 rfl ?_
  refine g_icmp_geN (tgt := 67) dX8_stir_51 (by decide) (by omega) (by omega) (fun _ => ?_) (fun h51 => absurd h51 (by omega))
  refine g_iload_3 dX8_stir_67 ?_
  refine g_bipush (v := nI 23) dX8_stir_68 rfl ?_
  refine g_icmp_geN (tgt := 92) dX8_stir_70 (by decide) (by omega) (by omega) (fun _ => ?_) (fun h70 => absurd h70 (by omega))
  refine g_iload_3 dX8_stir_92 ?_
  refine g_bipush (v := nI 26) dX8_stir_93 rfl ?_
  refine g_icmp_geN (tgt := 129) dX8_stir_95 (by decide) (by omega) (by omega) (fun _ => ?_) (fun h95 => absurd h95 (by omega))
  refine g_iload_3 dX8_stir_129 ?_
  refine g_tabOut (x := nI 31) (tgt := 280) dX8_stir_130 (Or.inr (by decide)) (by decide) ?_
  refine g_aload_0 dX8_stir_280 ?_
  refine g_get dX8_stir_281 (fX8_13 rfl) hA.1 rfl ?_
  refine g_sipush (v := nI 463) dX8_stir_284 rfl ?_
  refine g_iload_2 dX8_stir_287 ?_
  refine g_iconst (v := nI 4) dX8_stir_288 rfl ?_
  refine g_iremN dX8_stir_289 (by omega) (by omega) (by omega) ?_
  refine g_iaddN dX8_stir_290 ?_
  refine g_ialdN dX8_stir_291 hA.2.2.1 (by omega) (by decide) ?_
  rw [hX.2 (q % 4) (by omega)]
  refine g_if_neN (tgt := 299) dX8_stir_292 (by decide) (by omega) (fun _ => ?_) (fun h292 => absurd h292 hl)
  refine g_aload_0 dX8_stir_299 ?_
  refine g_aload_0 dX8_stir_300 ?_
  refine g_get dX8_stir_301 (fX8_13 rfl) hA.1 rfl ?_
  refine g_iload_2 dX8_stir_304 ?_
  refine g_iconst (v := nI 4) dX8_stir_305 rfl ?_
  refine g_iremN dX8_stir_306 (by omega) (by omega) (by omega) ?_
  refine g_aload_0 dX8_stir_307 ?_
  refine g_get dX8_stir_308 (fX8_13 rfl) hA.1 rfl ?_
  refine g_sipush (v := nI 463) dX8_stir_311 rfl ?_
  refine g_iload_2 dX8_stir_314 ?_
  refine g_iconst (v := nI 4) dX8_stir_315 rfl ?_
  refine g_iremN dX8_stir_316 (by omega) (by omega) (by omega) ?_
  refine g_iaddN dX8_stir_317 ?_
  refine g_ialdN dX8_stir_318 hA.2.2.1 (by omega) (by decide) ?_
  rw [hX.2 (q % 4) (by omega)]
  refine g_v3 dX8_stir_319 (vX8_239 rfl) rfl hA.1 (Nat.le_of_ble_eq_true rfl) (Nat.le_of_ble_eq_true rfl) (Nat.le_of_ble_eq_true rfl) (m_goRun (j := 2) hA (Or.inr rfl) hT hX (by omega) rfl hI) (fun r2 M2 z2 hq2 => ?_) (fun E M2 z2 hq => by obtain ⟨hq, -⟩ := hq; cases hq)
  obtain ⟨hr, hq1, hO1, rfl⟩ := hq2
  cases hr
  exact g_ireturn rfl rfl dX8_stir_322 (Nat.le_of_ble_eq_true rfl) (Nat.le_of_ble_eq_true rfl) ⟨⟨_, rfl⟩, hq1, hO1, rfl⟩
theorem m_stir28 (hA : MAt M b I A) (hI : Rng (A 2)) (hq : q < 2 ^ 27) {k : Nat} (hk : k < 32) (hT : TxtsOK T Ln) (hX : TxR A 2 T Ln) : WP mX8_stir 28 [some (.ref b), some (.int (nI r)), some (.int (nI q)), some (.int (nI k)), some (.int (bI (decide (0 < tno (A 2)))))] [] M z 0 0 (SimQ M b I A (f_sim T Ln (A 2) q k) z) := by
  unfold f_sim
  by_cases h1 : k < 14
  · rw [if_pos h1]; exact m_stir_sew hA hI hq h1
  rw [if_neg h1]
  by_cases h2 : k < 17
  · rw [if_pos h2]; exact m_stir_jump hA hI hq ⟨by omega, h2⟩
  rw [if_neg h2]
  by_cases h3 : k < 20
  · rw [if_pos h3]; exact m_stir_l hA hI hq ⟨by omega, h3⟩
  rw [if_neg h3]
  by_cases h4 : k < 23
  · rw [if_pos h4]; exact m_stir_r hA hI hq ⟨by omega, h4⟩
  rw [if_neg h4]
  by_cases h5 : k < 26
  · rw [if_pos h5]
    by_cases hc : A 2 (432 + 5 * (q % 5)) < nI 20
    · rw [if_pos hc]; exact m_stir_t0 hA hI hq ⟨by omega, h5⟩ hc
    · rw [if_neg hc]; exact m_stir_t1 hA hI hq ⟨by omega, h5⟩ hc
  rw [if_neg h5]
  by_cases h6 : k = 26
  · rw [if_pos h6, h6]
    by_cases hc : 0 < tno (A 2)
    · by_cases h4 : q % 4 = 0
      · rw [if_pos ⟨hc, h4⟩]; exact m_stir_cut1 hA hI hq hc h4
      · rw [if_neg (fun w => h4 w.2)]; exact m_stir_cut2 hA hI hq hc h4
    · rw [if_neg (fun w => hc w.1)]; exact m_stir_cut0 hA hI hq hc
  rw [if_neg h6]
  by_cases h7 : k = 27
  · rw [if_pos h7, h7]
    by_cases hc : 0 < tno (A 2)
    · rw [if_pos hc]; exact m_stir_ease1 hA hI hq hc
    · rw [if_neg hc]; exact m_stir_ease0 hA hI hq hc
  rw [if_neg h7]
  by_cases h8 : k = 28
  · rw [if_pos h8, h8]; exact m_stir_h hA hI hq
  rw [if_neg h8]
  by_cases h9 : k = 29
  · rw [if_pos h9, h9]
    by_cases hc : hasL (A 2 (144 + q % 144)) = true
    · rw [if_pos hc]; exact m_stir_u1 hA hI hq hc
    · rw [if_neg hc]; exact m_stir_u0 hA hI hq hc
  rw [if_neg h9]
  by_cases h10 : k = 30
  · rw [if_pos h10, h10]
    by_cases hc : q / 9 % 8 = 0
    · rw [if_pos hc]; exact m_stir_s1 hA hI hq hc
    · rw [if_neg hc]; exact m_stir_s0 hA hI hq hc
  rw [if_neg h10]
  obtain rfl : k = 31 := by omega
  by_cases hc : Ln (q % 4) = 0
  · rw [if_pos hc]; exact m_stir_m0 hA hI hq hT hX hc
  · rw [if_neg hc]; exact m_stir_m1 hA hI hq hT hX hc
theorem m_stir (hA : MAt M b I A) (hI : Rng (A 2)) (hr : r < 2 ^ 31) (hT : TxtsOK T Ln) (hX : TxR A 2 T Ln) : Runs mX8_stir [.ref b, .int (nI r)] M z (SimQ M b I A (f_sim T Ln (A 2) (r / 32) (r % 32)) z) := by
  refine runs_of plX8 rfl (Nat.le_of_ble_eq_true rfl) ?_
  show WP mX8_stir 0 [some (.ref b), some (.int (nI r)), none, none, none] [] M z 0 0 _
  exact m_stir0 hA hI hr (m_stir28 hA hI (by omega) (by omega) hT hX)
end P57

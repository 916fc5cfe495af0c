section P73
variable {M M0 : Hp} {z b n len i j k c s m : Nat} {f t f0 : Row} {h : Nat → Row} {sv : Nat → Option Row} {g : Nat → Nat} {Φ : GR → Hp → Nat → Prop} {I I2 : Row} {A A2 : Nat → Row}
def iniR (i : Nat) : Row := fun k => if 432 ≤ k ∧ k < 432 + 5 * i ∧ (k - 432) % 5 < 2 then nI 8000 else nI 0
theorem iniR_0 : iniR 0 = fun _ => 0 := by
  funext k
  unfold iniR
  rw [if_neg (by omega)]
  exact nI_0
theorem iniR_s : upd (upd (iniR i) (432 + 5 * i) (nI 8000)) (432 + 5 * i + 1) (nI 8000) = iniR (i + 1) := by
  funext k
  simp only [upd]
  by_cases e : k = 432 + 5 * i + 1
  · rw [if_pos e]
    unfold iniR
    rw [if_pos (by omega)]
  · rw [if_neg e]
    by_cases e2 : k = 432 + 5 * i
    · rw [if_pos e2]
      unfold iniR
      rw [if_pos (by omega)]
    · rw [if_neg e2]
      unfold iniR
      by_cases q : 432 ≤ k ∧ k < 432 + 5 * i ∧ (k - 432) % 5 < 2
      · rw [if_pos q, if_pos (by omega)]
      · rw [if_neg q, if_neg (by omega)]
theorem iniR_5 : upd (iniR 5) 460 (nI 4) = f00 := by
  funext k
  unfold upd f00 iniR
  by_cases e : k = 460
  · rw [if_pos e, if_neg (by omega), if_pos e]
  · rw [if_neg e]
    by_cases q : 432 ≤ k ∧ k < 457 ∧ (k - 432) % 5 < 2
    · rw [if_pos (by omega), if_pos q]
    · rw [if_neg (by omega), if_neg q, if_neg e]
theorem n_init_l {k0 n0 : Nat} (hk : ∀ M, MAt M b I2 (stg A2 1 (iniR (5))) → Out M0 M b 13 → WP mX8_init 149 [some (.ref b), some (.int (nI (5)))] [] M z k0 n0 Φ) : ∀ d i {M : Hp}, i + d = 5 → MAt M b I2 (stg A2 1 (iniR (i))) → Out M0 M b 13 → WP mX8_init 106 [some (.ref b), some (.int (nI (i)))] [] M z k0 n0 Φ := by
  intro d
  induction d with
  | zero =>
    intro i M hi hA hO
    obtain rfl : i = 5 := by omega
    refine g_iload_1 dX8_init_106 ?_
    refine g_iconst (v := nI 5) dX8_init_107 rfl ?_
    refine g_icmp_geN (tgt := 149) dX8_init_108 (by decide) (by omega) (by omega) (fun _ => ?_) (fun h108 => absurd h108 (by omega))
    exact hk M hA hO
  | succ d ih =>
    intro i M hi hA hO
    refine g_iload_1 dX8_init_106 ?_
    refine g_iconst (v := nI 5) dX8_init_107 rfl ?_
    refine g_icmp_geN (tgt := 149) dX8_init_108 (by decide) (by omega) (by omega) (fun h108 => absurd h108 (by omega)) (fun _ => ?_)
    refine g_aload_0 dX8_init_111 ?_
    refine g_get dX8_init_112 (fX8_7 rfl) hA.1 rfl ?_
    refine g_sipush (v := nI 432) dX8_init_115 rfl ?_
    refine g_iconst (v := nI 5) dX8_init_118 rfl ?_
    refine g_iload_1 dX8_init_119 ?_
    refine g_imulN dX8_init_120 ?_
    refine g_iaddN dX8_init_121 ?_
    refine g_sipush (v := nI 8000) dX8_init_122 rfl ?_
    refine g_iastN dX8_init_125 hA.2.1 (by omega) (by decide) ?_
    have hA8 := hA.a1 (g := upd (iniR i) (432 + 5 * i) (nI 8000))
    rw [stg_stg] at hA8
    rw [show stg A2 1 (iniR i) 1 = iniR i from stg_eq]
    refine g_aload_0 dX8_init_126 ?_
    refine g_get dX8_init_127 (fX8_7 rfl) hA8.1 rfl ?_
    refine g_sipush (v := nI 432) dX8_init_130 rfl ?_
    refine g_iconst (v := nI 5) dX8_init_133 rfl ?_
    refine g_iload_1 dX8_init_134 ?_
    refine g_imulN dX8_init_135 ?_
    refine g_iaddN dX8_init_136 ?_
    refine g_iconst (v := nI 1) dX8_init_137 rfl ?_
    refine g_iaddN dX8_init_138 ?_
    refine g_sipush (v := nI 8000) dX8_init_139 rfl ?_
    refine g_iastN dX8_init_142 hA8.2.1 (by omega) (by decide) ?_
    have hA9 := hA.a1 (g := iniR (i + 1))
    rw [stg_stg] at hA9
    rw [hpu_hpu, show stg A2 1 (upd (iniR i) (432 + 5 * i) (nI 8000)) 1 = upd (iniR i) (432 + 5 * i) (nI 8000) from stg_eq, iniR_s]
    refine g_iincN_1 (q := 1) rfl dX8_init_143 rfl ?_
    refine g_goto (tgt := 106) dX8_init_146 (by decide) ?_
    exact ih (i + 1) (by omega) hA9 (hO.tr (Out.put (by omega) (by omega)))
theorem n_init (h0 : M b = some (.inr (8, [.int 0, .null, .null, .null, .null, .null, .null, .null, .null, .int 0, .int 0, .null, .int 0, .null, .null, .null, .int 0, .int 0, .int 0, .int 0]))) : Runs mX8_init [.ref b] M (b + 1) (fun r M' z' => r = .inl none ∧ (∃ I A, MAt M' b I A ∧ MRel I A f00 (fun _ => 0) 0 (fun _ => f00) (fun _ => none) 0 (fun _ => 0)) ∧ Out M M' b 13 ∧ z' = b + 13) := by
  refine runs_of plX8 rfl (Nat.le_of_ble_eq_true rfl) ?_
  show WP mX8_init 0 [some (.ref b), none] [] M (b + 1) 0 0 _
  refine g_aload_0 dX8_init_0 ?_
  refine g_objinit dX8_init_1 (oX8_1 rfl) gOI gOC (Nat.le_of_ble_eq_true rfl) (Nat.le_of_ble_eq_true rfl) ?_
  refine g_aload_0 dX8_init_4 ?_
  refine g_sipush (v := nI 947) dX8_init_5 rfl ?_
  refine g_newarrQ (kd := 0) (a0 := (947, .inl (fun _ => 0))) dX8_init_8 gA_int (by decide) rfl (nIc (by decide)) (nI_pos (by decide)) (by decide) (fun _ => rfl) (Nat.le_of_ble_eq_true rfl) (Nat.le_of_ble_eq_true rfl) (fun M1 hN1 n1 => ?_)
  have h0 := (n1 _ (by omega)).trans h0
  refine g_putFQ dX8_init_10 (fX8_7 rfl) rfl (gNN_of (by decide +kernel)) h0 rfl rfl (Nat.le_of_ble_eq_true rfl) (fun M2 h0 n2 => ?_)
  have hN1 := (n2 _ (by omega)).trans hN1
  refine g_aload_0 dX8_init_13 ?_
  refine g_sipush (v := nI 947) dX8_init_14 rfl ?_
  refine g_newarrQ (kd := 0) (a0 := (947, .inl (fun _ => 0))) dX8_init_17 gA_int (by decide) rfl (nIc (by decide)) (nI_pos (by decide)) (by decide) (fun _ => rfl) (Nat.le_of_ble_eq_true rfl) (Nat.le_of_ble_eq_true rfl) (fun M3 hN3 n3 => ?_)
  have h0 := (n3 _ (by omega)).trans h0
  have hN1 := (n3 _ (by omega)).trans hN1
  refine g_putFQ dX8_init_19 (fX8_13 rfl) rfl (gNN_of (by decide +kernel)) h0 rfl rfl (Nat.le_of_ble_eq_true rfl) (fun M4 h0 n4 => ?_)
  have hN1 := (n4 _ (by omega)).trans hN1
  have hN3 := (n4 _ (by omega)).trans hN3
  refine g_aload_0 dX8_init_22 ?_
  refine g_sipush (v := nI 144) dX8_init_23 rfl ?_
  refine g_newarrQ (kd := 0) (a0 := (144, .inl (fun _ => 0))) dX8_init_26 gA_int (by decide) rfl (nIc (by decide)) (nI_pos (by decide)) (by decide) (fun _ => rfl) (Nat.le_of_ble_eq_true rfl) (Nat.le_of_ble_eq_true rfl) (fun M5 hN5 n5 => ?_)
  have h0 := (n5 _ (by omega)).trans h0
  have hN1 := (n5 _ (by omega)).trans hN1
  have hN3 := (n5 _ (by omega)).trans hN3
  refine g_putFQ dX8_init_28 (fX8_16 rfl) rfl (gNN_of (by decide +kernel)) h0 rfl rfl (Nat.le_of_ble_eq_true rfl) (fun M6 h0 n6 => ?_)
  have hN1 := (n6 _ (by omega)).trans hN1
  have hN3 := (n6 _ (by omega)).trans hN3
  have hN5 := (n6 _ (by omega)).trans hN5
  refine g_aload_0 dX8_init_31 ?_
  refine g_bipush (v := nI 24) dX8_init_32 rfl ?_
  refine g_newarrQ (kd := 0) (a0 := (24, .inl (fun _ => 0))) dX8_init_34 gA_int (by decide) rfl (nIc (by decide)) (nI_pos (by decide)) (by decide) (fun _ => rfl) (Nat.le_of_ble_eq_true rfl) (Nat.le_of_ble_eq_true rfl) (fun M7 hN7 n7 => ?_)
  have h0 := (n7 _ (by omega)).trans h0
  have hN1 := (n7 _ (by omega)).trans hN1
  have hN3 := (n7 _ (by omega)).trans hN3
  have hN5 := (n7 _ (by omega)).trans hN5
  refine g_putFQ dX8_init_36 (fX8_19 rfl) rfl (gNN_of (by decide +kernel)) h0 rfl rfl (Nat.le_of_ble_eq_true rfl) (fun M8 h0 n8 => ?_)
  have hN1 := (n8 _ (by omega)).trans hN1
  have hN3 := (n8 _ (by omega)).trans hN3
  have hN5 := (n8 _ (by omega)).trans hN5
  have hN7 := (n8 _ (by omega)).trans hN7
  refine g_aload_0 dX8_init_39 ?_
  refine g_bipush (v := nI 24) dX8_init_40 rfl ?_
  refine g_newarrQ (kd := 0) (a0 := (24, .inl (fun _ => 0))) dX8_init_42 gA_int (by decide) rfl (nIc (by decide)) (nI_pos (by decide)) (by decide) (fun _ => rfl) (Nat.le_of_ble_eq_true rfl) (Nat.le_of_ble_eq_true rfl) (fun M9 hN9 n9 => ?_)
  have h0 := (n9 _ (by omega)).trans h0
  have hN1 := (n9 _ (by omega)).trans hN1
  have hN3 := (n9 _ (by omega)).trans hN3
  have hN5 := (n9 _ (by omega)).trans hN5
  have hN7 := (n9 _ (by omega)).trans hN7
  refine g_putFQ dX8_init_44 (fX8_22 rfl) rfl (gNN_of (by decide +kernel)) h0 rfl rfl (Nat.le_of_ble_eq_true rfl) (fun M10 h0 n10 => ?_)
  have hN1 := (n10 _ (by omega)).trans hN1
  have hN3 := (n10 _ (by omega)).trans hN3
  have hN5 := (n10 _ (by omega)).trans hN5
  have hN7 := (n10 _ (by omega)).trans hN7
  have hN9 := (n10 _ (by omega)).trans hN9
  refine g_aload_0 dX8_init_47 ?_
  refine g_bipush (v := nI 24) dX8_init_48 rfl ?_
  refine g_newarrQ (kd := 0) (a0 := (24, .inl (fun _ => 0))) dX8_init_50 gA_int (by decide) rfl (nIc (by decide)) (nI_pos (by decide)) (by decide) (fun _ => rfl) (Nat.le_of_ble_eq_true rfl) (Nat.le_of_ble_eq_true rfl) (fun M11 hN11 n11 => ?_)
  have h0 := (n11 _ (by omega)).trans h0
  have hN1 := (n11 _ (by omega)).trans hN1
  have hN3 := (n11 _ (by omega)).trans hN3
  have hN5 := (n11 _ (by omega)).trans hN5
  have hN7 := (n11 _ (by omega)).trans hN7
  have hN9 := (n11 _ (by omega)).trans hN9
  refine g_putFQ dX8_init_52 (fX8_25 rfl) rfl (gNN_of (by decide +kernel)) h0 rfl rfl (Nat.le_of_ble_eq_true rfl) (fun M12 h0 n12 => ?_)
  have hN1 := (n12 _ (by omega)).trans hN1
  have hN3 := (n12 _ (by omega)).trans hN3
  have hN5 := (n12 _ (by omega)).trans hN5
  have hN7 := (n12 _ (by omega)).trans hN7
  have hN9 := (n12 _ (by omega)).trans hN9
  have hN11 := (n12 _ (by omega)).trans hN11
  refine g_aload_0 dX8_init_55 ?_
  refine g_bipush (v := nI 24) dX8_init_56 rfl ?_
  refine g_newarrQ (kd := 0) (a0 := (24, .inl (fun _ => 0))) dX8_init_58 gA_int (by decide) rfl (nIc (by decide)) (nI_pos (by decide)) (by decide) (fun _ => rfl) (Nat.le_of_ble_eq_true rfl) (Nat.le_of_ble_eq_true rfl) (fun M13 hN13 n13 => ?_)
  have h0 := (n13 _ (by omega)).trans h0
  have hN1 := (n13 _ (by omega)).trans hN1
  have hN3 := (n13 _ (by omega)).trans hN3
  have hN5 := (n13 _ (by omega)).trans hN5
  have hN7 := (n13 _ (by omega)).trans hN7
  have hN9 := (n13 _ (by omega)).trans hN9
  have hN11 := (n13 _ (by omega)).trans hN11
  refine g_putFQ dX8_init_60 (fX8_28 rfl) rfl (gNN_of (by decide +kernel)) h0 rfl rfl (Nat.le_of_ble_eq_true rfl) (fun M14 h0 n14 => ?_)
  have hN1 := (n14 _ (by omega)).trans hN1
  have hN3 := (n14 _ (by omega)).trans hN3
  have hN5 := (n14 _ (by omega)).trans hN5
  have hN7 := (n14 _ (by omega)).trans hN7
  have hN9 := (n14 _ (by omega)).trans hN9
  have hN11 := (n14 _ (by omega)).trans hN11
  have hN13 := (n14 _ (by omega)).trans hN13
  refine g_aload_0 dX8_init_63 ?_
  refine g_bipush (v := nI 24) dX8_init_64 rfl ?_
  refine g_newarrQ (kd := 0) (a0 := (24, .inl (fun _ => 0))) dX8_init_66 gA_int (by decide) rfl (nIc (by decide)) (nI_pos (by decide)) (by decide) (fun _ => rfl) (Nat.le_of_ble_eq_true rfl) (Nat.le_of_ble_eq_true rfl) (fun M15 hN15 n15 => ?_)
  have h0 := (n15 _ (by omega)).trans h0
  have hN1 := (n15 _ (by omega)).trans hN1
  have hN3 := (n15 _ (by omega)).trans hN3
  have hN5 := (n15 _ (by omega)).trans hN5
  have hN7 := (n15 _ (by omega)).trans hN7
  have hN9 := (n15 _ (by omega)).trans hN9
  have hN11 := (n15 _ (by omega)).trans hN11
  have hN13 := (n15 _ (by omega)).trans hN13
  refine g_putFQ dX8_init_68 (fX8_31 rfl) rfl (gNN_of (by decide +kernel)) h0 rfl rfl (Nat.le_of_ble_eq_true rfl) (fun M16 h0 n16 => ?_)
  have hN1 := (n16 _ (by omega)).trans hN1
  have hN3 := (n16 _ (by omega)).trans hN3
  have hN5 := (n16 _ (by omega)).trans hN5
  have hN7 := (n16 _ (by omega)).trans hN7
  have hN9 := (n16 _ (by omega)).trans hN9
  have hN11 := (n16 _ (by omega)).trans hN11
  have hN13 := (n16 _ (by omega)).trans hN13
  have hN15 := (n16 _ (by omega)).trans hN15
  refine g_aload_0 dX8_init_71 ?_
  refine g_sipush (v := nI 13258) dX8_init_72 rfl ?_
  refine g_newarrQ (kd := 0) (a0 := (13258, .inl (fun _ => 0))) dX8_init_75 gA_int (by decide) rfl (nIc (by decide)) (nI_pos (by decide)) (by decide) (fun _ => rfl) (Nat.le_of_ble_eq_true rfl) (Nat.le_of_ble_eq_true rfl) (fun M17 hN17 n17 => ?_)
  have h0 := (n17 _ (by omega)).trans h0
  have hN1 := (n17 _ (by omega)).trans hN1
  have hN3 := (n17 _ (by omega)).trans hN3
  have hN5 := (n17 _ (by omega)).trans hN5
  have hN7 := (n17 _ (by omega)).trans hN7
  have hN9 := (n17 _ (by omega)).trans hN9
  have hN11 := (n17 _ (by omega)).trans hN11
  have hN13 := (n17 _ (by omega)).trans hN13
  have hN15 := (n17 _ (by omega)).trans hN15
  refine g_putFQ dX8_init_77 (fX8_34 rfl) rfl (gNN_of (by decide +kernel)) h0 rfl rfl (Nat.le_of_ble_eq_true rfl) (fun M18 h0 n18 => ?_)
  have hN1 := (n18 _ (by omega)).trans hN1
  have hN3 := (n18 _ (by omega)).trans hN3
  have hN5 := (n18 _ (by omega)).trans hN5
  have hN7 := (n18 _ (by omega)).trans hN7
  have hN9 := (n18 _ (by omega)).trans hN9
  have hN11 := (n18 _ (by omega)).trans hN11
  have hN13 := (n18 _ (by omega)).trans hN13
  have hN15 := (n18 _ (by omega)).trans hN15
  have hN17 := (n18 _ (by omega)).trans hN17
  refine g_aload_0 dX8_init_80 ?_
  refine g_sipush (v := nI 1894) dX8_init_81 rfl ?_
  refine g_newarrQ (kd := 0) (a0 := (1894, .inl (fun _ => 0))) dX8_init_84 gA_int (by decide) rfl (nIc (by decide)) (nI_pos (by decide)) (by decide) (fun _ => rfl) (Nat.le_of_ble_eq_true rfl) (Nat.le_of_ble_eq_true rfl) (fun M19 hN19 n19 => ?_)
  have h0 := (n19 _ (by omega)).trans h0
  have hN1 := (n19 _ (by omega)).trans hN1
  have hN3 := (n19 _ (by omega)).trans hN3
  have hN5 := (n19 _ (by omega)).trans hN5
  have hN7 := (n19 _ (by omega)).trans hN7
  have hN9 := (n19 _ (by omega)).trans hN9
  have hN11 := (n19 _ (by omega)).trans hN11
  have hN13 := (n19 _ (by omega)).trans hN13
  have hN15 := (n19 _ (by omega)).trans hN15
  have hN17 := (n19 _ (by omega)).trans hN17
  refine g_putFQ dX8_init_86 (fX8_37 rfl) rfl (gNN_of (by decide +kernel)) h0 rfl rfl (Nat.le_of_ble_eq_true rfl) (fun M20 h0 n20 => ?_)
  have hN1 := (n20 _ (by omega)).trans hN1
  have hN3 := (n20 _ (by omega)).trans hN3
  have hN5 := (n20 _ (by omega)).trans hN5
  have hN7 := (n20 _ (by omega)).trans hN7
  have hN9 := (n20 _ (by omega)).trans hN9
  have hN11 := (n20 _ (by omega)).trans hN11
  have hN13 := (n20 _ (by omega)).trans hN13
  have hN15 := (n20 _ (by omega)).trans hN15
  have hN17 := (n20 _ (by omega)).trans hN17
  have hN19 := (n20 _ (by omega)).trans hN19
  refine g_aload_0 dX8_init_89 ?_
  refine g_iconst (v := nI 2) dX8_init_90 rfl ?_
  refine g_newarrQ (kd := 2) (a0 := (2, .inl (fun _ => 0))) dX8_init_91 gA_boolean (by decide) rfl (nIc (by decide)) (nI_pos (by decide)) (by decide) (fun _ => rfl) (Nat.le_of_ble_eq_true rfl) (Nat.le_of_ble_eq_true rfl) (fun M21 hN21 n21 => ?_)
  have h0 := (n21 _ (by omega)).trans h0
  have hN1 := (n21 _ (by omega)).trans hN1
  have hN3 := (n21 _ (by omega)).trans hN3
  have hN5 := (n21 _ (by omega)).trans hN5
  have hN7 := (n21 _ (by omega)).trans hN7
  have hN9 := (n21 _ (by omega)).trans hN9
  have hN11 := (n21 _ (by omega)).trans hN11
  have hN13 := (n21 _ (by omega)).trans hN13
  have hN15 := (n21 _ (by omega)).trans hN15
  have hN17 := (n21 _ (by omega)).trans hN17
  have hN19 := (n21 _ (by omega)).trans hN19
  refine g_putFQ dX8_init_93 (fX8_40 rfl) rfl (gNN_of (by decide +kernel)) h0 rfl rfl (Nat.le_of_ble_eq_true rfl) (fun M22 h0 n22 => ?_)
  have hN1 := (n22 _ (by omega)).trans hN1
  have hN3 := (n22 _ (by omega)).trans hN3
  have hN5 := (n22 _ (by omega)).trans hN5
  have hN7 := (n22 _ (by omega)).trans hN7
  have hN9 := (n22 _ (by omega)).trans hN9
  have hN11 := (n22 _ (by omega)).trans hN11
  have hN13 := (n22 _ (by omega)).trans hN13
  have hN15 := (n22 _ (by omega)).trans hN15
  have hN17 := (n22 _ (by omega)).trans hN17
  have hN19 := (n22 _ (by omega)).trans hN19
  have hN21 := (n22 _ (by omega)).trans hN21
  refine g_aload_0 dX8_init_96 ?_
  refine g_bipush (v := nI 120) dX8_init_97 rfl ?_
  refine g_newarrQ (kd := 0) (a0 := (120, .inl (fun _ => 0))) dX8_init_99 gA_int (by decide) rfl (nIc (by decide)) (nI_pos (by decide)) (by decide) (fun _ => rfl) (Nat.le_of_ble_eq_true rfl) (Nat.le_of_ble_eq_true rfl) (fun M23 hN23 n23 => ?_)
  have h0 := (n23 _ (by omega)).trans h0
  have hN1 := (n23 _ (by omega)).trans hN1
  have hN3 := (n23 _ (by omega)).trans hN3
  have hN5 := (n23 _ (by omega)).trans hN5
  have hN7 := (n23 _ (by omega)).trans hN7
  have hN9 := (n23 _ (by omega)).trans hN9
  have hN11 := (n23 _ (by omega)).trans hN11
  have hN13 := (n23 _ (by omega)).trans hN13
  have hN15 := (n23 _ (by omega)).trans hN15
  have hN17 := (n23 _ (by omega)).trans hN17
  have hN19 := (n23 _ (by omega)).trans hN19
  have hN21 := (n23 _ (by omega)).trans hN21
  refine g_putFQ dX8_init_101 (fX8_44 rfl) rfl (gNN_of (by decide +kernel)) h0 rfl rfl (Nat.le_of_ble_eq_true rfl) (fun M24 h0 n24 => ?_)
  have hN1 := (n24 _ (by omega)).trans hN1
  have hN3 := (n24 _ (by omega)).trans hN3
  have hN5 := (n24 _ (by omega)).trans hN5
  have hN7 := (n24 _ (by omega)).trans hN7
  have hN9 := (n24 _ (by omega)).trans hN9
  have hN11 := (n24 _ (by omega)).trans hN11
  have hN13 := (n24 _ (by omega)).trans hN13
  have hN15 := (n24 _ (by omega)).trans hN15
  have hN17 := (n24 _ (by omega)).trans hN17
  have hN19 := (n24 _ (by omega)).trans hN19
  have hN21 := (n24 _ (by omega)).trans hN21
  have hN23 := (n24 _ (by omega)).trans hN23
  have hA : MAt _ b (fun _ => 0) (fun _ _ => 0) := ⟨h0, hN1, hN3, hN5, hN7, hN9, hN11, hN13, hN15, hN17, hN19, hN21, hN23⟩
  have hO : Out M _ b 13 := fun q hq => (((((((((((((((((((((((n24 q (by omega)).trans (n23 q (by omega))).trans (n22 q (by omega))).trans (n21 q (by omega))).trans (n20 q (by omega))).trans (n19 q (by omega))).trans (n18 q (by omega))).trans (n17 q (by omega))).trans (n16 q (by omega))).trans (n15 q (by omega))).trans (n14 q (by omega))).trans (n13 q (by omega))).trans (n12 q (by omega))).trans (n11 q (by omega))).trans (n10 q (by omega))).trans (n9 q (by omega))).trans (n8 q (by omega))).trans (n7 q (by omega))).trans (n6 q (by omega))).trans (n5 q (by omega))).trans (n4 q (by omega))).trans (n3 q (by omega))).trans (n2 q (by omega))).trans (n1 q (by omega))
  refine g_iconst (v := nI 0) dX8_init_104 rfl ?_
  refine g_istore_1 rfl dX8_init_105 ?_
  refine n_init_l (A2 := fun _ _ => 0) (M0 := M) (fun M9 hA9 hO9 => ?_) 5 0 rfl (by rw [iniR_0, show stg (fun _ _ => (0 : Int32)) 1 (fun _ => 0) = fun _ _ => 0 from stg_self (A := fun _ _ => (0 : Int32)) (i := 1)]; exact hA) hO
  refine g_aload_0 dX8_init_149 ?_
  refine g_get dX8_init_150 (fX8_7 rfl) hA9.1 rfl ?_
  refine g_sipush (v := nI 460) dX8_init_153 rfl ?_
  refine g_iconst (v := nI 4) dX8_init_156 rfl ?_
  refine g_iastN dX8_init_157 hA9.2.1 (by omega) (by decide) ?_
  have hA8 := hA9.a1 (g := f00)
  rw [stg_stg] at hA8
  rw [show stg (fun _ _ => (0 : Int32)) 1 (iniR 5) 1 = iniR 5 from stg_eq, iniR_5]
  exact g_return rfl dX8_init_158 (Nat.le_of_ble_eq_true rfl) (Nat.le_of_ble_eq_true rfl) ⟨rfl, ⟨_, _, hA8, ⟨stg_eq, stg_ne (by decide), nI_0.symm, by omega, fun k hk => absurd hk (by omega), ⟨fun s hs => (congrFun (stg_ne (by decide)) _).trans nI_0.symm, fun s r _ e => (nomatch e)⟩, nI_0.symm, by omega, fun i hi => absurd hi (by omega), fun i => by show (0 : Nat) < 256; omega⟩⟩, hO9.tr (Out.put (by omega) (by omega)), rfl⟩
end P73

section P32
variable {M M0 : Hp} {z r r2 c j i n : Nat} {f g : Row} {x y w : Int32} {Φ : GR → Hp → Nat → Prop}
theorem inN {a : Nat} (ha : a < 2 ^ 31) : (decide (nI 0 ≤ nI a) && decide (nI a ≤ nI 11)) = decide (a ≤ 11) := by
  rw [decide_eq_true (by rw [nI_0]; exact nI_pos' ha), decide_eq_decide.mpr (nI_leI ha (by decide))]; rfl
theorem inM {a : Nat} (ha : a ≤ 12) : (decide (nI 0 ≤ nI a + -1) && decide (nI a + -1 ≤ nI 11)) = decide (0 < a) := by
  cases a with
  | zero => decide
  | succ k => rw [pk_m1, inN (by omega), decide_eq_true (show k ≤ 11 by omega), decide_eq_true (by omega)]
theorem bs0t (h : j % 12 + 1 ≤ 11) : oI (besd j 0) = nI (j + 1) := by unfold besd; rw [if_pos rfl, if_pos (by omega)]; rfl
theorem bs0f (h : ¬ j % 12 + 1 ≤ 11) : oI (besd j 0) = -1 := by unfold besd; rw [if_pos rfl, if_neg (by omega)]; rfl
theorem bs1t (h : j / 12 + 1 ≤ 11) : oI (besd j 1) = nI (j + 12) := by unfold besd; rw [if_neg (by decide), if_pos rfl, if_pos (by omega)]; rfl
theorem bs1f (h : ¬ j / 12 + 1 ≤ 11) : oI (besd j 1) = -1 := by unfold besd; rw [if_neg (by decide), if_pos rfl, if_neg (by omega)]; rfl
theorem bs2t (h : 0 < j % 12) : oI (besd j 2) = nI (j - 1) := by unfold besd; rw [if_neg (by decide), if_neg (by decide), if_pos rfl, if_pos h]; rfl
theorem bs2f (h : ¬ 0 < j % 12) : oI (besd j 2) = -1 := by unfold besd; rw [if_neg (by decide), if_neg (by decide), if_pos rfl, if_neg h]; rfl
theorem bs3t (h : 0 < j / 12) : oI (besd j 3) = nI (j - 12) := by unfold besd; rw [if_neg (by decide), if_neg (by decide), if_neg (by decide), if_pos h]; rfl
theorem bs3f (h : ¬ 0 < j / 12) : oI (besd j 3) = -1 := by unfold besd; rw [if_neg (by decide), if_neg (by decide), if_neg (by decide), if_neg h]; rfl
theorem m_next0 (hj : j < 144) : Runs mX8_next [.int (nI j), .int (nI 0)] M z (gD (some (.int (oI (besd j 0)))) M z) := by
  refine runs_of plX8 rfl (Nat.le_of_ble_eq_true rfl) ?_
  show WP mX8_next 0 [some (.int (nI j)), some (.int (nI 0)), none, none] [] M z 0 0 _
  refine g_iload_0 dX8_next_0 ?_
  refine g_bipush (v := nI 12) dX8_next_1 rfl ?_
  refine g_iremN dX8_next_3 (by omega) (by omega) (by omega) ?_
  refine g_iload_1 dX8_next_4 ?_
  refine g_if_neN (tgt := 12) dX8_next_5 (by decide) (by omega) (fun h5 => absurd rfl h5) (fun _ => ?_)
  refine g_iconst (v := nI 1) dX8_next_8 rfl ?_
  refine g_goto (tgt := 22) dX8_next_9 (by decide) ?_
  refine g_iaddN dX8_next_22 ?_
  refine g_istore_2 rfl dX8_next_23 ?_
  refine g_iload_0 dX8_next_24 ?_
  refine g_bipush (v := nI 12) dX8_next_25 rfl ?_
  refine g_idivN dX8_next_27 (by omega) (by omega) (by omega) ?_
  refine g_iload_1 dX8_next_28 ?_
  refine g_iconst (v := nI 1) dX8_next_29 rfl ?_
  refine g_icmp_neN (tgt := 37) dX8_next_30 (by decide) (by omega) (by omega) (fun _ => ?_) (fun h30 => absurd h30 (by decide))
  refine g_iload_1 dX8_next_37 ?_
  refine g_iconst (v := nI 3) dX8_next_38 rfl ?_
  refine g_icmp_neN (tgt := 46) dX8_next_39 (by decide) (by omega) (by omega) (fun _ => ?_) (fun h39 => absurd h39 (by decide))
  refine g_iconst (v := nI 0) dX8_next_46 rfl ?_
  refine g_iaddN dX8_next_47 ?_
  refine g_istore_3 rfl dX8_next_48 ?_
  refine g_iload_2 dX8_next_49 ?_
  refine g_i2l dX8_next_50 ?_
  refine g_lconst (vl := 0) dX8_next_51 rfl ?_
  refine g_ldc2 dX8_next_52 (zX8_69 rfl) ?_
  refine g_s3_1 dX8_next_55 (sX8_53 rfl) rfl (Nat.le_of_ble_eq_true rfl) ⟨rfl, rfl⟩ (Nat.le_of_ble_eq_true rfl) (Nat.le_of_ble_eq_true rfl) (m_inI (by decide) (by decide) rfl rfl) ?_
  rw [inN (by omega)]
  refine g_if_eqB (tgt := 82) dX8_next_58 (by decide)  (fun h58 => ?_) (fun h58 => ?_)
  · refine g_iconst (v := -1) dX8_next_82 rfl ?_
    exact g_ireturn rfl rfl dX8_next_83 (Nat.le_of_ble_eq_true rfl) (Nat.le_of_ble_eq_true rfl) (gDi (by first | (rw [bs0t (of_decide_eq_true h58)]; exact congrArg nI (by omega)) | exact (bs0f (of_decide_eq_false h58)).symm | exact absurd h70 (by rw [decide_eq_true (by omega)]; decide)))
  · refine g_iload_3 dX8_next_61 ?_
    refine g_i2l dX8_next_62 ?_
    refine g_lconst (vl := 0) dX8_next_63 rfl ?_
    refine g_ldc2 dX8_next_64 (zX8_69 rfl) ?_
    refine g_s3_1 dX8_next_67 (sX8_53 rfl) rfl (Nat.le_of_ble_eq_true rfl) ⟨rfl, rfl⟩ (Nat.le_of_ble_eq_true rfl) (Nat.le_of_ble_eq_true rfl) (m_inI (by decide) (by decide) rfl rfl) ?_
    rw [inN (by omega)]
    refine g_if_eqB (tgt := 82) dX8_next_70 (by decide)  (fun h70 => ?_) (fun h70 => ?_)
    · refine g_iconst (v := -1) dX8_next_82 rfl ?_
      exact g_ireturn rfl rfl dX8_next_83 (Nat.le_of_ble_eq_true rfl) (Nat.le_of_ble_eq_true rfl) (gDi (by first | (rw [bs0t (of_decide_eq_true h58)]; exact congrArg nI (by omega)) | exact (bs0f (of_decide_eq_false h58)).symm | exact absurd h70 (by rw [decide_eq_true (by omega)]; decide)))
    · refine g_bipush (v := nI 12) dX8_next_73 rfl ?_
      refine g_iload_3 dX8_next_75 ?_
      refine g_imulN dX8_next_76 ?_
      refine g_iload_2 dX8_next_77 ?_
      refine g_iaddN dX8_next_78 ?_
      refine g_goto (tgt := 83) dX8_next_79 (by decide) ?_
      exact g_ireturn rfl rfl dX8_next_83 (Nat.le_of_ble_eq_true rfl) (Nat.le_of_ble_eq_true rfl) (gDi (by first | (rw [bs0t (of_decide_eq_true h58)]; exact congrArg nI (by omega)) | exact (bs0f (of_decide_eq_false h58)).symm | exact absurd h70 (by rw [decide_eq_true (by omega)]; decide)))
theorem m_next1 (hj : j < 144) : Runs mX8_next [.int (nI j), .int (nI 1)] M z (gD (some (.int (oI (besd j 1)))) M z) := by
  refine runs_of plX8 rfl (Nat.le_of_ble_eq_true rfl) ?_
  show WP mX8_next 0 [some (.int (nI j)), some (.int (nI 1)), none, none] [] M z 0 0 _
  refine g_iload_0 dX8_next_0 ?_
  refine g_bipush (v := nI 12) dX8_next_1 rfl ?_
  refine g_iremN dX8_next_3 (by omega) (by omega) (by omega) ?_
  refine g_iload_1 dX8_next_4 ?_
  refine g_if_neN (tgt := 12) dX8_next_5 (by decide) (by omega) (fun _ => ?_) (fun h5 => absurd h5 (by decide))
  refine g_iload_1 dX8_next_12 ?_
  refine g_iconst (v := nI 2) dX8_next_13 rfl ?_
  refine g_icmp_neN (tgt := 21) dX8_next_14 (by decide) (by omega) (by omega) (fun _ => ?_) (fun h14 => absurd h14 (by decide))
  refine g_iconst (v := nI 0) dX8_next_21 rfl ?_
  refine g_iaddN dX8_next_22 ?_
  refine g_istore_2 rfl dX8_next_23 ?_
  refine g_iload_0 dX8_next_24 ?_
  refine g_bipush (v := nI 12) dX8_next_25 rfl ?_
  refine g_idivN dX8_next_27 (by omega) (by omega) (by omega) ?_
  refine g_iload_1 dX8_next_28 ?_
  refine g_iconst (v := nI 1) dX8_next_29 rfl ?_
  refine g_icmp_neN (tgt := 37) dX8_next_30 (by decide) (by omega) (by omega) (fun h30 => absurd rfl h30) (fun _ => ?_)
  refine g_iconst (v := nI 1) dX8_next_33 rfl ?_
  refine g_goto (tgt := 47) dX8_next_34 (by decide) ?_
  refine g_iaddN dX8_next_47 ?_
  refine g_istore_3 rfl dX8_next_48 ?_
  refine g_iload_2 dX8_next_49 ?_
  refine g_i2l dX8_next_50 ?_
  refine g_lconst (vl := 0) dX8_next_51 rfl ?_
  refine g_ldc2 dX8_next_52 (zX8_69 rfl) ?_
  refine g_s3_1 dX8_next_55 (sX8_53 rfl) rfl (Nat.le_of_ble_eq_true rfl) ⟨rfl, rfl⟩ (Nat.le_of_ble_eq_true rfl) (Nat.le_of_ble_eq_true rfl) (m_inI (by decide) (by decide) rfl rfl) ?_
  rw [inN (by omega)]
  refine g_if_eqB (tgt := 82) dX8_next_58 (by decide)  (fun h58 => ?_) (fun h58 => ?_)
  · refine g_iconst (v := -1) dX8_next_82 rfl ?_
    exact g_ireturn rfl rfl dX8_next_83 (Nat.le_of_ble_eq_true rfl) (Nat.le_of_ble_eq_true rfl) (gDi (by first | (rw [bs1t (of_decide_eq_true h70)]; exact congrArg nI (by omega)) | exact (bs1f (of_decide_eq_false h70)).symm | exact absurd h58 (by rw [decide_eq_true (by omega)]; decide)))
  · refine g_iload_3 dX8_next_61 ?_
    refine g_i2l dX8_next_62 ?_
    refine g_lconst (vl := 0) dX8_next_63 rfl ?_
    refine g_ldc2 dX8_next_64 (zX8_69 rfl) ?_
    refine g_s3_1 dX8_next_67 (sX8_53 rfl) rfl (Nat.le_of_ble_eq_true rfl) ⟨rfl, rfl⟩ (Nat.le_of_ble_eq_true rfl) (Nat.le_of_ble_eq_true rfl) (m_inI (by decide) (by decide) rfl rfl) ?_
    rw [inN (by omega)]
    refine g_if_eqB (tgt := 82) dX8_next_70 (by decide)  (fun h70 => ?_) (fun h70 => ?_)
    · refine g_iconst (v := -1) dX8_next_82 rfl ?_
      exact g_ireturn rfl rfl dX8_next_83 (Nat.le_of_ble_eq_true rfl) (Nat.le_of_ble_eq_true rfl) (gDi (by first | (rw [bs1t (of_decide_eq_true h70)]; exact congrArg nI (by omega)) | exact (bs1f (of_decide_eq_false h70)).symm | exact absurd h58 (by rw [decide_eq_true (by omega)]; decide)))
    · refine g_bipush (v := nI 12) dX8_next_73 rfl ?_
      refine g_iload_3 dX8_next_75 ?_
      refine g_imulN dX8_next_76 ?_
      refine g_iload_2 dX8_next_77 ?_
      refine g_iaddN dX8_next_78 ?_
      refine g_goto (tgt := 83) dX8_next_79 (by decide) ?_
      exact g_ireturn rfl rfl dX8_next_83 (Nat.le_of_ble_eq_true rfl) (Nat.le_of_ble_eq_true rfl) (gDi (by first | (rw [bs1t (of_decide_eq_true h70)]; exact congrArg nI (by omega)) | exact (bs1f (of_decide_eq_false h70)).symm | exact absurd h58 (by rw [decide_eq_true (by omega)]; decide)))
theorem m_next2 (hj : j < 144) : Runs mX8_next [.int (nI j), .int (nI 2)] M z (gD (some (.int (oI (besd j 2)))) M z) := by
  refine runs_of plX8 rfl (Nat.le_of_ble_eq_true rfl) ?_
  show WP mX8_next 0 [some (.int (nI j)), some (.int (nI 2)), none, none] [] M z 0 0 _
  refine g_iload_0 dX8_next_0 ?_
  refine g_bipush (v := nI 12) dX8_next_1 rfl ?_
  refine g_iremN dX8_next_3 (by omega) (by omega) (by omega) ?_
  refine g_iload_1 dX8_next_4 ?_
  refine g_if_neN (tgt := 12) dX8_next_5 (by decide) (by omega) (fun _ => ?_) (fun h5 => absurd h5 (by decide))
  refine g_iload_1 dX8_next_12 ?_
  refine g_iconst (v := nI 2) dX8_next_13 rfl ?_
  refine g_icmp_neN (tgt := 21) dX8_next_14 (by decide) (by omega) (by omega) (fun h14 => absurd rfl h14) (fun _ => ?_)
  refine g_iconst (v := -1) dX8_next_17 rfl ?_
  refine g_goto (tgt := 22) dX8_next_18 (by decide) ?_
  refine g_iadd dX8_next_22 ?_
  refine g_istore_2 rfl dX8_next_23 ?_
  refine g_iload_0 dX8_next_24 ?_
  refine g_bipush (v := nI 12) dX8_next_25 rfl ?_
  refine g_idivN dX8_next_27 (by omega) (by omega) (by omega) ?_
  refine g_iload_1 dX8_next_28 ?_
  refine g_iconst (v := nI 1) dX8_next_29 rfl ?_
  refine g_icmp_neN (tgt := 37) dX8_next_30 (by decide) (by omega) (by omega) (fun _ => ?_) (fun h30 => absurd h30 (by decide))
  refine g_iload_1 dX8_next_37 ?_
  refine g_iconst (v := nI 3) dX8_next_38 rfl ?_
  refine g_icmp_neN (tgt := 46) dX8_next_39 (by decide) (by omega) (by omega) (fun _ => ?_) (fun h39 => absurd h39 (by decide))
  refine g_iconst (v := nI 0) dX8_next_46 rfl ?_
  refine g_iaddN dX8_next_47 ?_
  refine g_istore_3 rfl dX8_next_48 ?_
  refine g_iload_2 dX8_next_49 ?_
  refine g_i2l dX8_next_50 ?_
  refine g_lconst (vl := 0) dX8_next_51 rfl ?_
  refine g_ldc2 dX8_next_52 (zX8_69 rfl) ?_
  refine g_s3_1 dX8_next_55 (sX8_53 rfl) rfl (Nat.le_of_ble_eq_true rfl) ⟨rfl, rfl⟩ (Nat.le_of_ble_eq_true rfl) (Nat.le_of_ble_eq_true rfl) (m_inI (by decide) (by decide) rfl rfl) ?_
  rw [inM (by omega)]
  refine g_if_eqB (tgt := 82) dX8_next_58 (by decide)  (fun h58 => ?_) (fun h58 => ?_)
  · refine g_iconst (v := -1) dX8_next_82 rfl ?_
    exact g_ireturn rfl rfl dX8_next_83 (Nat.le_of_ble_eq_true rfl) (Nat.le_of_ble_eq_true rfl) (gDi (by first | (rw [bs2t (of_decide_eq_true h58)]; rw [show nI (j % 12) = nI (j % 12 - 1 + 1) from congrArg nI (by have := of_decide_eq_true h58; omega), pk_m1, nI_add]; exact congrArg nI (by have := of_decide_eq_true h58; omega)) | exact (bs2f (of_decide_eq_false h58)).symm | exact absurd h70 (by rw [decide_eq_true (by omega)]; decide)))
  · refine g_iload_3 dX8_next_61 ?_
    refine g_i2l dX8_next_62 ?_
    refine g_lconst (vl := 0) dX8_next_63 rfl ?_
    refine g_ldc2 dX8_next_64 (zX8_69 rfl) ?_
    refine g_s3_1 dX8_next_67 (sX8_53 rfl) rfl (Nat.le_of_ble_eq_true rfl) ⟨rfl, rfl⟩ (Nat.le_of_ble_eq_true rfl) (Nat.le_of_ble_eq_true rfl) (m_inI (by decide) (by decide) rfl rfl) ?_
    rw [inN (by omega)]
    refine g_if_eqB (tgt := 82) dX8_next_70 (by decide)  (fun h70 => ?_) (fun h70 => ?_)
    · refine g_iconst (v := -1) dX8_next_82 rfl ?_
      exact g_ireturn rfl rfl dX8_next_83 (Nat.le_of_ble_eq_true rfl) (Nat.le_of_ble_eq_true rfl) (gDi (by first | (rw [bs2t (of_decide_eq_true h58)]; rw [show nI (j % 12) = nI (j % 12 - 1 + 1) from congrArg nI (by have := of_decide_eq_true h58; omega), pk_m1, nI_add]; exact congrArg nI (by have := of_decide_eq_true h58; omega)) | exact (bs2f (of_decide_eq_false h58)).symm | exact absurd h70 (by rw [decide_eq_true (by omega)]; decide)))
    · refine g_bipush (v := nI 12) dX8_next_73 rfl ?_
      refine g_iload_3 dX8_next_75 ?_
      refine g_imulN dX8_next_76 ?_
      refine g_iload_2 dX8_next_77 ?_
      refine g_iadd dX8_next_78 ?_
      refine g_goto (tgt := 83) dX8_next_79 (by decide) ?_
      exact g_ireturn rfl rfl dX8_next_83 (Nat.le_of_ble_eq_true rfl) (Nat.le_of_ble_eq_true rfl) (gDi (by first | (rw [bs2t (of_decide_eq_true h58)]; rw [show nI (j % 12) = nI (j % 12 - 1 + 1) from congrArg nI (by have := of_decide_eq_true h58; omega), pk_m1, nI_add]; exact congrArg nI (by have := of_decide_eq_true h58; omega)) | exact (bs2f (of_decide_eq_false h58)).symm | exact absurd h70 (by rw [decide_eq_true (by omega)]; decide)))
theorem m_next3 (hj : j < 144) : Runs mX8_next [.int (nI j), .int (nI 3)] M z (gD (some (.int (oI (besd j 3)))) M z) := by
  refine runs_of plX8 rfl (Nat.le_of_ble_eq_true rfl) ?_
  show WP mX8_next 0 [some (.int (nI j)), some (.int (nI 3)), none, none] [] M z 0 0 _
  refine g_iload_0 dX8_next_0 ?_
  refine g_bipush (v := nI 12) dX8_next_1 rfl ?_
  refine g_iremN dX8_next_3 (by omega) (by omega) (by omega) ?_
  refine g_iload_1 dX8_next_4 ?_
  refine g_if_neN (tgt := 12) dX8_next_5 (by decide) (by omega) (fun _ => ?_) (fun h5 => absurd h5 (by decide))
  refine g_iload_1 dX8_next_12 ?_
  refine g_iconst (v := nI 2) dX8_next_13 rfl ?_
  refine g_icmp_neN (tgt := 21) dX8_next_14 (by decide) (by omega) (by omega) (fun _ => ?_) (fun h14 => absurd h14 (by decide))
  refine g_iconst (v := nI 0) dX8_next_21 rfl ?_
  refine g_iaddN dX8_next_22 ?_
  refine g_istore_2 rfl dX8_next_23 ?_
  refine g_iload_0 dX8_next_24 ?_
  refine g_bipush (v := nI 12) dX8_next_25 rfl ?_
  refine g_idivN dX8_next_27 (by omega) (by omega) (by omega) ?_
  refine g_iload_1 dX8_next_28 ?_
  refine g_iconst (v := nI 1) dX8_next_29 rfl ?_
  refine g_icmp_neN (tgt := 37) dX8_next_30 (by decide) (by omega) (by omega) (fun _ => ?_) (fun h30 => absurd h30 (by decide))
  refine g_iload_1 dX8_next_37 ?_
  refine g_iconst (v := nI 3) dX8_next_38 rfl ?_
  refine g_icmp_neN (tgt := 46) dX8_next_39 (by decide) (by omega) (by omega) (fun h39 => absurd rfl h39) (fun _ => ?_)
  refine g_iconst (v := -1) dX8_next_42 rfl ?_
  refine g_goto (tgt := 47) dX8_next_43 (by decide) ?_
  refine g_iadd dX8_next_47 ?_
  refine g_istore_3 rfl dX8_next_48 ?_
  refine g_iload_2 dX8_next_49 ?_
  refine g_i2l dX8_next_50 ?_
  refine g_lconst (vl := 0) dX8_next_51 rfl ?_
  refine g_ldc2 dX8_next_52 (zX8_69 rfl) ?_
  refine g_s3_1 dX8_next_55 (sX8_53 rfl) rfl (Nat.le_of_ble_eq_true rfl) ⟨rfl, rfl⟩ (Nat.le_of_ble_eq_true rfl) (Nat.le_of_ble_eq_true rfl) (m_inI (by decide) (by decide) rfl rfl) ?_
  rw [inN (by omega)]
  refine g_if_eqB (tgt := 82) dX8_next_58 (by decide)  (fun h58 => ?_) (fun h58 => ?_)
  · refine g_iconst (v := -1) dX8_next_82 rfl ?_
    exact g_ireturn rfl rfl dX8_next_83 (Nat.le_of_ble_eq_true rfl) (Nat.le_of_ble_eq_true rfl) (gDi (by first | (rw [bs3t (of_decide_eq_true h70)]; rw [show nI (j / 12) = nI (j / 12 - 1 + 1) from congrArg nI (by have := of_decide_eq_true h70; omega), pk_m1, pk_mul, nI_add]; exact congrArg nI (by have := of_decide_eq_true h70; omega)) | exact (bs3f (of_decide_eq_false h70)).symm | exact absurd h58 (by rw [decide_eq_true (by omega)]; decide)))
  · refine g_iload_3 dX8_next_61 ?_
    refine g_i2l dX8_next_62 ?_
    refine g_lconst (vl := 0) dX8_next_63 rfl ?_
    refine g_ldc2 dX8_next_64 (zX8_69 rfl) ?_
    refine g_s3_1 dX8_next_67 (sX8_53 rfl) rfl (Nat.le_of_ble_eq_true rfl) ⟨rfl, rfl⟩ (Nat.le_of_ble_eq_true rfl) (Nat.le_of_ble_eq_true rfl) (m_inI (by decide) (by decide) rfl rfl) ?_
    rw [inM (by omega)]
    refine g_if_eqB (tgt := 82) dX8_next_70 (by decide)  (fun h70 => ?_) (fun h70 => ?_)
    · refine g_iconst (v := -1) dX8_next_82 rfl ?_
      exact g_ireturn rfl rfl dX8_next_83 (Nat.le_of_ble_eq_true rfl) (Nat.le_of_ble_eq_true rfl) (gDi (by first | (rw [bs3t (of_decide_eq_true h70)]; rw [show nI (j / 12) = nI (j / 12 - 1 + 1) from congrArg nI (by have := of_decide_eq_true h70; omega), pk_m1, pk_mul, nI_add]; exact congrArg nI (by have := of_decide_eq_true h70; omega)) | exact (bs3f (of_decide_eq_false h70)).symm | exact absurd h58 (by rw [decide_eq_true (by omega)]; decide)))
    · refine g_bipush (v := nI 12) dX8_next_73 rfl ?_
      refine g_iload_3 dX8_next_75 ?_
      refine g_imul dX8_next_76 ?_
      refine g_iload_2 dX8_next_77 ?_
      refine g_iadd dX8_next_78 ?_
      refine g_goto (tgt := 83) dX8_next_79 (by decide) ?_
      exact g_ireturn rfl rfl dX8_next_83 (Nat.le_of_ble_eq_true rfl) (Nat.le_of_ble_eq_true rfl) (gDi (by first | (rw [bs3t (of_decide_eq_true h70)]; rw [show nI (j / 12) = nI (j / 12 - 1 + 1) from congrArg nI (by have := of_decide_eq_true h70; omega), pk_m1, pk_mul, nI_add]; exact congrArg nI (by have := of_decide_eq_true h70; omega)) | exact (bs3f (of_decide_eq_false h70)).symm | exact absurd h58 (by rw [decide_eq_true (by omega)]; decide)))
theorem m_next {hd : Nat} (hj : j < 144) (hh : hd < 4) : Runs mX8_next [.int (nI j), .int (nI hd)] M z (gD (some (.int (oI (besd j hd)))) M z) := by
  match hd, hh with
  | 0, _ => exact m_next0 hj
  | 1, _ => exact m_next1 hj
  | 2, _ => exact m_next2 hj
  | 3, _ => exact m_next3 hj
theorem m_loops_l (hr : RowAt M r f) : ∀ d i, i + d = 144 → WP mX8_loops 4 [some (.ref r), some (.int (nI (cnt (fun i => hasL (f (144 + i))) (i)))), some (.int (nI (i)))] [] M z 0 0 (gD (some (.int (nI (cnt (fun i => hasL (f (144 + i))) 144)))) M z) := by
  intro d
  induction d with
  | zero =>
    intro i hi
    obtain rfl : i = 144 := by omega
    refine g_iload_2 dX8_loops_4 ?_
    refine g_sipush (v := nI 144) dX8_loops_5 rfl ?_
    refine g_icmp_geN (tgt := 33) dX8_loops_8 (by decide) (by omega) (by omega) (fun _ => ?_) (fun h8 => absurd h8 (by omega))
    refine g_iload_1 dX8_loops_33 ?_
    exact g_ireturn rfl rfl dX8_loops_34 (Nat.le_of_ble_eq_true rfl) (Nat.le_of_ble_eq_true rfl) (gDi rfl)
  | succ d ih =>
    intro i hi
    refine g_iload_2 dX8_loops_4 ?_
    refine g_sipush (v := nI 144) dX8_loops_5 rfl ?_
    refine g_icmp_geN (tgt := 33) dX8_loops_8 (by decide) (by omega) (by omega) (fun h8 => absurd h8 (by omega)) (fun _ => ?_)
    refine g_iload_1 dX8_loops_11 ?_
    refine g_aload_0 dX8_loops_12 ?_
    refine g_iload_2 dX8_loops_13 ?_
    refine g_s2_1 dX8_loops_14 (sX8_61 rfl) rfl (Nat.le_of_ble_eq_true rfl) ⟨rfl, rfl⟩ (Nat.le_of_ble_eq_true rfl) (Nat.le_of_ble_eq_true rfl) (m_hasLoop hr (by omega)) ?_
    refine g_if_eqB (tgt := 24) dX8_loops_17 (by decide)  (fun h17 => ?_) (fun h17 => ?_)
    · refine g_iconst (v := nI 0) dX8_loops_24 rfl ?_
      refine g_iaddN dX8_loops_25 ?_
      refine g_istore_1 rfl dX8_loops_26 ?_
      refine g_iincN_2 (q := 1) rfl dX8_loops_27 rfl ?_
      refine g_goto (tgt := 4) dX8_loops_30 (by decide) ?_
      have e := ih (i + 1) (by omega)
      first
        | (rw [cnt_t h17] at e; exact e)
        | (rw [cnt_f h17] at e; exact e)
    · refine g_iconst (v := nI 1) dX8_loops_20 rfl ?_
      refine g_goto (tgt := 25) dX8_loops_21 (by decide) ?_
      refine g_iaddN dX8_loops_25 ?_
      refine g_istore_1 rfl dX8_loops_26 ?_
      refine g_iincN_2 (q := 1) rfl dX8_loops_27 rfl ?_
      refine g_goto (tgt := 4) dX8_loops_30 (by decide) ?_
      have e := ih (i + 1) (by omega)
      first
        | (rw [cnt_t h17] at e; exact e)
        | (rw [cnt_f h17] at e; exact e)
theorem m_loops (hr : RowAt M r f) : Runs mX8_loops [.ref r] M z (gD (some (.int (nI (cnt (fun i => hasL (f (144 + i))) 144)))) M z) := by
  refine runs_of plX8 rfl (Nat.le_of_ble_eq_true rfl) ?_
  show WP mX8_loops 0 [some (.ref r), none, none] [] M z 0 0 _
  refine g_iconst (v := nI 0) dX8_loops_0 rfl ?_
  refine g_istore_1 rfl dX8_loops_1 ?_
  refine g_iconst (v := nI 0) dX8_loops_2 rfl ?_
  refine g_istore_2 rfl dX8_loops_3 ?_
  exact m_loops_l hr 144 0 rfl
theorem m_skippedIn_l (hr : RowAt M r f) : ∀ d i, i + d = 144 → WP mX8_skippedIn 4 [some (.ref r), some (.int (nI (cnt (fun i => decide (f (144 + i) = nI 6)) (i)))), some (.int (nI (i)))] [] M z 0 0 (gD (some (.int (nI (cnt (fun i => decide (f (144 + i) = nI 6)) 144)))) M z) := by
  intro d
  induction d with
  | zero =>
    intro i hi
    obtain rfl : i = 144 := by omega
    refine g_iload_2 dX8_skippedIn_4 ?_
    refine g_sipush (v := nI 144) dX8_skippedIn_5 rfl ?_
    refine g_icmp_geN (tgt := 37) dX8_skippedIn_8 (by decide) (by omega) (by omega) (fun _ => ?_) (fun h8 => absurd h8 (by omega))
    refine g_iload_1 dX8_skippedIn_37 ?_
    exact g_ireturn rfl rfl dX8_skippedIn_38 (Nat.le_of_ble_eq_true rfl) (Nat.le_of_ble_eq_true rfl) (gDi rfl)
  | succ d ih =>
    intro i hi
    refine g_iload_2 dX8_skippedIn_4 ?_
    refine g_sipush (v := nI 144) dX8_skippedIn_5 rfl ?_
    refine g_icmp_geN (tgt := 37) dX8_skippedIn_8 (by decide) (by omega) (by omega) (fun h8 => absurd h8 (by omega)) (fun _ => ?_)
    refine g_iload_1 dX8_skippedIn_11 ?_
    refine g_aload_0 dX8_skippedIn_12 ?_
    refine g_sipush (v := nI 144) dX8_skippedIn_13 rfl ?_
    refine g_iload_2 dX8_skippedIn_16 ?_
    refine g_iaddN dX8_skippedIn_17 ?_
    refine g_ialdN dX8_skippedIn_18 hr (by omega) (by decide) ?_
    refine g_bipush (v := nI 6) dX8_skippedIn_19 rfl ?_
    refine g_icmp_ne (tgt := 28) dX8_skippedIn_21 (by decide)  (fun h21 => ?_) (fun h21 => ?_)
    · refine g_iconst (v := nI 0) dX8_skippedIn_28 rfl ?_
      refine g_iaddN dX8_skippedIn_29 ?_
      refine g_istore_1 rfl dX8_skippedIn_30 ?_
      refine g_iincN_2 (q := 1) rfl dX8_skippedIn_31 rfl ?_
      refine g_goto (tgt := 4) dX8_skippedIn_34 (by decide) ?_
      have e := ih (i + 1) (by omega)
      first
        | (rw [cnt_t (decide_eq_true h21)] at e; exact e)
        | (rw [cnt_f (decide_eq_false h21)] at e; exact e)
    · refine g_iconst (v := nI 1) dX8_skippedIn_24 rfl ?_
      refine g_goto (tgt := 29) dX8_skippedIn_25 (by decide) ?_
      refine g_iaddN dX8_skippedIn_29 ?_
      refine g_istore_1 rfl dX8_skippedIn_30 ?_
      refine g_iincN_2 (q := 1) rfl dX8_skippedIn_31 rfl ?_
      refine g_goto (tgt := 4) dX8_skippedIn_34 (by decide) ?_
      have e := ih (i + 1) (by omega)
      first
        | (rw [cnt_t (decide_eq_true h21)] at e; exact e)
        | (rw [cnt_f (decide_eq_false h21)] at e; exact e)
theorem m_skippedIn (hr : RowAt M r f) : Runs mX8_skippedIn [.ref r] M z (gD (some (.int (nI (cnt (fun i => decide (f (144 + i) = nI 6)) 144)))) M z) := by
  refine runs_of plX8 rfl (Nat.le_of_ble_eq_true rfl) ?_
  show WP mX8_skippedIn 0 [some (.ref r), none, none] [] M z 0 0 _
  refine g_iconst (v := nI 0) dX8_skippedIn_0 rfl ?_
  refine g_istore_1 rfl dX8_skippedIn_1 ?_
  refine g_iconst (v := nI 0) dX8_skippedIn_2 rfl ?_
  refine g_istore_2 rfl dX8_skippedIn_3 ?_
  exact m_skippedIn_l hr 144 0 rfl
theorem mx_step {n : Nat} : upd (mx n f g) n (f n) = mx (n + 1) f g := by
  funext k
  simp only [upd, mx]
  by_cases h : k = n
  · subst h; simp
  · by_cases h2 : k < n
    · simp [h, h2, show k < n + 1 by omega]
    · simp [h, h2, show ¬ k < n + 1 by omega]
theorem m_copy_l (hr : RowAt M0 r f) (hne : r ≠ r2) : ∀ d i, i + d = 947 → WP mX8_copy 2 [some (.ref r), some (.ref r2), some (.int (nI (i)))] [] (hpu M0 r2 (aI 947 (mx i f g))) z 0 0 (fun res M' z' => res = .inl none ∧ M' = hpu M0 r2 (aI 947 (mx 947 f g)) ∧ z' = z) := by
  intro d
  induction d with
  | zero =>
    intro i hi
    obtain rfl : i = 947 := by omega
    refine g_iload_2 dX8_copy_2 ?_
    refine g_sipush (v := nI 947) dX8_copy_3 rfl ?_
    refine g_icmp_geN (tgt := 21) dX8_copy_6 (by decide) (by omega) (by omega) (fun _ => ?_) (fun h6 => absurd h6 (by omega))
    exact g_return rfl dX8_copy_21 (Nat.le_of_ble_eq_true rfl) (Nat.le_of_ble_eq_true rfl) ⟨rfl, rfl, rfl⟩
  | succ d ih =>
    intro i hi
    have hr1 : hpu M0 r2 (aI 947 (mx i f g)) r = some (aI 947 f) := (hpu_ne _ _ hne).trans hr
    refine g_iload_2 dX8_copy_2 ?_
    refine g_sipush (v := nI 947) dX8_copy_3 rfl ?_
    refine g_icmp_geN (tgt := 21) dX8_copy_6 (by decide) (by omega) (by omega) (fun h6 => absurd h6 (by omega)) (fun _ => ?_)
    refine g_aload_1 dX8_copy_9 ?_
    refine g_iload_2 dX8_copy_10 ?_
    refine g_aload_0 dX8_copy_11 ?_
    refine g_iload_2 dX8_copy_12 ?_
    refine g_ialdN dX8_copy_13 hr1 (by omega) (by decide) ?_
    refine g_iastN dX8_copy_14 (hpu_same _ _ _) (by omega) (by decide) ?_
    rw [hpu_hpu, mx_step]
    refine g_iincN_2 (q := 1) rfl dX8_copy_15 rfl ?_
    refine g_goto (tgt := 2) dX8_copy_18 (by decide) ?_
    exact ih (i + 1) (by omega)
theorem m_copy (hr : RowAt M r f) (hr2 : RowAt M r2 g) (hne : r ≠ r2) : Runs mX8_copy [.ref r, .ref r2] M z (fun res M' z' => res = .inl none ∧ M' = hpu M r2 (aI 947 (mx 947 f g)) ∧ z' = z) := by
  refine runs_of plX8 rfl (Nat.le_of_ble_eq_true rfl) ?_
  show WP mX8_copy 0 [some (.ref r), some (.ref r2), none] [] M z 0 0 _
  refine g_iconst (v := nI 0) dX8_copy_0 rfl ?_
  refine g_istore_2 rfl dX8_copy_1 ?_
  have e := m_copy_l (M0 := M) (g := g) (z := z) hr hne 947 0 rfl
  rw [show mx 0 f g = g from by funext k; simp [mx], hpu_id hr2] at e
  exact e
theorem m_goTurn0 (hr : RowAt M r f) (hI : Rng f) (ht : tno f = 0) (hn : n < 10) : Runs mX8_goTurn [.ref r, .int (nI n)] M z (gD (some (.int (f_turn f n 458))) (hpu M r (aI 947 (f_turn f n))) z) := by
  have h459 : f 459 = nI (tno f) := hI.2.2.2.2.1.2.2.1.1
  have ht6 := hI.tlt
  have hh := hI.hdl
  have et : tno (upd f 458 (nI ((hdg f + n) % 4))) = tno f := gv_ne (by decide)
  have ef : f_turn f n = upd (upd f 458 (nI ((hdg f + n) % 4))) 461 ((upd f 458 (nI ((hdg f + n) % 4))) 461 + nI 0) := by
    unfold f_turn
    simp only []
    rw [et, if_neg (by omega)]
  refine runs_of plX8 rfl (Nat.le_of_ble_eq_true rfl) ?_
  show WP mX8_goTurn 0 [some (.ref r), some (.int (nI n))] [] M z 0 0 _
  refine g_aload_0 dX8_goTurn_0 ?_
  refine g_sipush (v := nI 458) dX8_goTurn_1 rfl ?_
  refine g_aload_0 dX8_goTurn_4 ?_
  refine g_sipush (v := nI 458) dX8_goTurn_5 rfl ?_
  refine g_ialdN dX8_goTurn_8 hr (by omega) (by decide) ?_
  rw [hI.hde]
  refine g_iload_1 dX8_goTurn_9 ?_
  refine g_iaddN dX8_goTurn_10 ?_
  refine g_iconst (v := nI 4) dX8_goTurn_11 rfl ?_
  refine g_iremN dX8_goTurn_12 (by omega) (by omega) (by omega) ?_
  refine g_iastN dX8_goTurn_13 hr (by omega) (by decide) ?_
  have hr1 := RowAt.put (M := M) (r := r) (f := upd f 458 (nI ((hdg f + n) % 4)))
  try rw [hpu_hpu]
  refine g_aload_0 dX8_goTurn_14 ?_
  refine g_sipush (v := nI 461) dX8_goTurn_15 rfl ?_
  refine g_dup2 dX8_goTurn_18 rfl rfl ?_
  refine g_ialdN dX8_goTurn_19 hr1 (by omega) (by decide) ?_
  refine g_aload_0 dX8_goTurn_20 ?_
  refine g_sipush (v := nI 459) dX8_goTurn_21 rfl ?_
  refine g_ialdN dX8_goTurn_24 hr1 (by omega) (by decide) ?_
  rw [show (upd f 458 (nI ((hdg f + n) % 4))) 459 = f 459 from upd_ne (by decide), h459]
  refine g_if_leN (tgt := 32) dX8_goTurn_25 (by decide) (by omega) (fun _ => ?_) (fun h25 => absurd h25 (by omega))
  refine g_iconst (v := nI 0) dX8_goTurn_32 rfl ?_
  refine g_iadd dX8_goTurn_33 ?_
  refine g_iastN dX8_goTurn_34 hr1 (by omega) (by decide) ?_
  have hr2 := RowAt.put (M := M) (r := r) (f := upd (upd f 458 (nI ((hdg f + n) % 4))) 461 ((upd f 458 (nI ((hdg f + n) % 4))) 461 + nI 0))
  try rw [hpu_hpu]
  refine g_aload_0 dX8_goTurn_35 ?_
  refine g_sipush (v := nI 458) dX8_goTurn_36 rfl ?_
  refine g_ialdN dX8_goTurn_39 hr2 (by omega) (by decide) ?_
  exact g_ireturn rfl rfl dX8_goTurn_40 (Nat.le_of_ble_eq_true rfl) (Nat.le_of_ble_eq_true rfl) ⟨by rw [ef], by rw [ef], rfl⟩
theorem m_goTurn1 (hr : RowAt M r f) (hI : Rng f) (ht : 0 < tno f) (hn : n < 10) : Runs mX8_goTurn [.ref r, .int (nI n)] M z (gD (some (.int (f_turn f n 458))) (hpu M r (aI 947 (f_turn f n))) z) := by
  have h459 : f 459 = nI (tno f) := hI.2.2.2.2.1.2.2.1.1
  have ht6 := hI.tlt
  have hh := hI.hdl
  have et : tno (upd f 458 (nI ((hdg f + n) % 4))) = tno f := gv_ne (by decide)
  have ef : f_turn f n = upd (upd f 458 (nI ((hdg f + n) % 4))) 461 ((upd f 458 (nI ((hdg f + n) % 4))) 461 + nI 2) := by
    unfold f_turn
    simp only []
    rw [et, if_pos (by omega)]
  refine runs_of plX8 rfl (Nat.le_of_ble_eq_true rfl) ?_
  show WP mX8_goTurn 0 [some (.ref r), some (.int (nI n))] [] M z 0 0 _
  refine g_aload_0 dX8_goTurn_0 ?_
  refine g_sipush (v := nI 458) dX8_goTurn_1 rfl ?_
  refine g_aload_0 dX8_goTurn_4 ?_
  refine g_sipush (v := nI 458) dX8_goTurn_5 rfl ?_
  refine g_ialdN dX8_goTurn_8 hr (by omega) (by decide) ?_
  rw [hI.hde]
  refine g_iload_1 dX8_goTurn_9 ?_
  refine g_iaddN dX8_goTurn_10 ?_
  refine g_iconst (v := nI 4) dX8_goTurn_11 rfl ?_
  refine g_iremN dX8_goTurn_12 (by omega) (by omega) (by omega) ?_
  refine g_iastN dX8_goTurn_13 hr (by omega) (by decide) ?_
  have hr1 := RowAt.put (M := M) (r := r) (f := upd f 458 (nI ((hdg f + n) % 4)))
  try rw [hpu_hpu]
  refine g_aload_0 dX8_goTurn_14 ?_
  refine g_sipush (v := nI 461) dX8_goTurn_15 rfl ?_
  refine g_dup2 dX8_goTurn_18 rfl rfl ?_
  refine g_ialdN dX8_goTurn_19 hr1 (by omega) (by decide) ?_
  refine g_aload_0 dX8_goTurn_20 ?_
  refine g_sipush (v := nI 459) dX8_goTurn_21 rfl ?_
  refine g_ialdN dX8_goTurn_24 hr1 (by omega) (by decide) ?_
  rw [show (upd f 458 (nI ((hdg f + n) % 4))) 459 = f 459 from upd_ne (by decide), h459]
  refine g_if_leN (tgt := 32) dX8_goTurn_25 (by decide) (by omega) (fun h25 => absurd h25 (by omega)) (fun _ => ?_)
  refine g_iconst (v := nI 2) dX8_goTurn_28 rfl ?_
  refine g_goto (tgt := 33) dX8_goTurn_29 (by decide) ?_
  refine g_iadd dX8_goTurn_33 ?_
  refine g_iastN dX8_goTurn_34 hr1 (by omega) (by decide) ?_
  have hr2 := RowAt.put (M := M) (r := r) (f := upd (upd f 458 (nI ((hdg f + n) % 4))) 461 ((upd f 458 (nI ((hdg f + n) % 4))) 461 + nI 2))
  try rw [hpu_hpu]
  refine g_aload_0 dX8_goTurn_35 ?_
  refine g_sipush (v := nI 458) dX8_goTurn_36 rfl ?_
  refine g_ialdN dX8_goTurn_39 hr2 (by omega) (by decide) ?_
  exact g_ireturn rfl rfl dX8_goTurn_40 (Nat.le_of_ble_eq_true rfl) (Nat.le_of_ble_eq_true rfl) ⟨by rw [ef], by rw [ef], rfl⟩
theorem m_goTurn (hr : RowAt M r f) (hI : Rng f) (hn : n < 10) : Runs mX8_goTurn [.ref r, .int (nI n)] M z (gD (some (.int (f_turn f n 458))) (hpu M r (aI 947 (f_turn f n))) z) := by
  by_cases ht : tno f = 0
  · exact m_goTurn0 hr hI ht hn
  · exact m_goTurn1 hr hI (by omega) hn
end P32

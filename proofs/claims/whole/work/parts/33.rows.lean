section P33
variable {M M0 : Hp} {z r r2 c j i n : Nat} {f g : Row} {x y w : Int32} {Φ : GR → Hp → Nat → Prop}
theorem m_goEase (hr : RowAt M r f) (hI : Rng f) (ht : tno f = c + 1) : Runs mX8_goEase [.ref r] M z (gD (some (.int (f 461))) (hpu M r (aI 947 (f_ease f))) z) := by
  have h459 := t459 hI ht
  have hc5 : c < 5 := by have := hI.tlt; omega
  refine runs_of plX8 rfl (Nat.le_of_ble_eq_true rfl) ?_
  show WP mX8_goEase 0 [some (.ref r), none] [] M z 0 0 _
  refine g_aload_0 dX8_goEase_0 ?_
  refine g_sipush (v := nI 461) dX8_goEase_1 rfl ?_
  refine g_ialdN dX8_goEase_4 hr (by omega) (by decide) ?_
  refine g_istore_1 rfl dX8_goEase_5 ?_
  refine g_aload_0 dX8_goEase_6 ?_
  refine g_aload_0 dX8_goEase_7 ?_
  refine g_sipush (v := nI 459) dX8_goEase_8 rfl ?_
  refine g_ialdN dX8_goEase_11 hr (by omega) (by decide) ?_
  rw [h459]
  refine g_iconst (v := nI 1) dX8_goEase_12 rfl ?_
  refine g_isubN dX8_goEase_13 (by omega) ?_
  rw [show c + 1 - 1 = c by omega]
  refine g_bipush (v := nI 10) dX8_goEase_14 rfl ?_
  refine g_iconst (v := nI 4) dX8_goEase_16 rfl ?_
  refine g_s4_0 dX8_goEase_17 (sX8_75 rfl) rfl (Nat.le_of_ble_eq_true rfl) ⟨rfl, rfl⟩ (Nat.le_of_ble_eq_true rfl) (Nat.le_of_ble_eq_true rfl) (m_draw hr hc5 (by decide)) ?_
  have hr1 := RowAt.put (M := M) (r := r) (f := f_draw f c (nI 10) 4)
  refine g_aload_0 dX8_goEase_20 ?_
  refine g_sipush (v := nI 461) dX8_goEase_21 rfl ?_
  refine g_iconst (v := nI 0) dX8_goEase_24 rfl ?_
  refine g_iastN dX8_goEase_25 hr1 (by omega) (by decide) ?_
  have hr2 := RowAt.put (M := M) (r := r) (f := upd (f_draw f c (nI 10) 4) 461 (nI 0))
  try rw [hpu_hpu]
  refine g_iload_1 dX8_goEase_26 ?_
  exact g_ireturn rfl rfl dX8_goEase_27 (Nat.le_of_ble_eq_true rfl) (Nat.le_of_ble_eq_true rfl) ⟨rfl, by unfold f_ease; rw [show tno f - 1 = c by omega], rfl⟩
theorem m_goUnpick (hr : RowAt M r f) (hI : Rng f) (hj : j < 144) (hl : hasL (f (144 + j)) = true) : Runs mX8_goUnpick [.ref r, .int (nI j)] M z (gD (some (.int (nI (gv f (144 + j) - 1)))) (hpu M r (aI 947 (f_unpick f j))) z) := by
  have hg := hasL_gv (hI.2.1 j hj) hl
  refine runs_of plX8 rfl (Nat.le_of_ble_eq_true rfl) ?_
  show WP mX8_goUnpick 0 [some (.ref r), some (.int (nI j)), none] [] M z 0 0 _
  refine g_aload_0 dX8_goUnpick_0 ?_
  refine g_sipush (v := nI 144) dX8_goUnpick_1 rfl ?_
  refine g_iload_1 dX8_goUnpick_4 ?_
  refine g_iaddN dX8_goUnpick_5 ?_
  refine g_ialdN dX8_goUnpick_6 hr (by omega) (by decide) ?_
  rw [(hI.2.1 j hj).1]
  refine g_iconst (v := nI 1) dX8_goUnpick_7 rfl ?_
  refine g_isubN dX8_goUnpick_8 (by omega) ?_
  refine g_istore_2 rfl dX8_goUnpick_9 ?_
  refine g_aload_0 dX8_goUnpick_10 ?_
  refine g_sipush (v := nI 432) dX8_goUnpick_11 rfl ?_
  refine g_iconst (v := nI 5) dX8_goUnpick_14 rfl ?_
  refine g_iload_2 dX8_goUnpick_15 ?_
  refine g_imulN dX8_goUnpick_16 ?_
  refine g_iaddN dX8_goUnpick_17 ?_
  refine g_iconst (v := nI 4) dX8_goUnpick_18 rfl ?_
  refine g_iaddN dX8_goUnpick_19 ?_
  rw [show 432 + 5 * (gv f (144 + j) - 1) + 4 = 436 + 5 * (gv f (144 + j) - 1) by omega]
  refine g_dup2 dX8_goUnpick_20 rfl rfl ?_
  refine g_ialdN dX8_goUnpick_21 hr (by omega) (by decide) ?_
  refine g_aload_0 dX8_goUnpick_22 ?_
  refine g_sipush (v := nI 288) dX8_goUnpick_23 rfl ?_
  refine g_iload_1 dX8_goUnpick_26 ?_
  refine g_iaddN dX8_goUnpick_27 ?_
  refine g_ialdN dX8_goUnpick_28 hr (by omega) (by decide) ?_
  refine g_s1_1 dX8_goUnpick_29 (sX8_83 rfl) rfl (Nat.le_of_ble_eq_true rfl) ⟨rfl, rfl⟩ (Nat.le_of_ble_eq_true rfl) (Nat.le_of_ble_eq_true rfl) (m_yarn) ?_
  refine g_iadd dX8_goUnpick_32 ?_
  refine g_iastN dX8_goUnpick_33 hr (by omega) (by decide) ?_
  have hr1 := RowAt.put (M := M) (r := r) (f := upd f (436 + 5 * (gv f (144 + j) - 1)) (f (436 + 5 * (gv f (144 + j) - 1)) + f_yarn (f (288 + j))))
  try rw [hpu_hpu]
  refine g_aload_0 dX8_goUnpick_34 ?_
  refine g_sipush (v := nI 144) dX8_goUnpick_35 rfl ?_
  refine g_iload_1 dX8_goUnpick_38 ?_
  refine g_iaddN dX8_goUnpick_39 ?_
  refine g_iconst (v := nI 0) dX8_goUnpick_40 rfl ?_
  refine g_iastN dX8_goUnpick_41 hr1 (by omega) (by decide) ?_
  have hr2 := RowAt.put (M := M) (r := r) (f := upd (upd f (436 + 5 * (gv f (144 + j) - 1)) (f (436 + 5 * (gv f (144 + j) - 1)) + f_yarn (f (288 + j)))) (144 + j) (nI 0))
  try rw [hpu_hpu]
  refine g_iload_2 dX8_goUnpick_42 ?_
  exact g_ireturn rfl rfl dX8_goUnpick_43 (Nat.le_of_ble_eq_true rfl) (Nat.le_of_ble_eq_true rfl) ⟨rfl, rfl, rfl⟩
theorem upd457 (hI : Rng g) : upd g 457 (nI (nd g)) = g := upd_self hI.nde
theorem m_stitch101n (hr : RowAt M r g) (hI : Rng g) (hto : besd (nd g) (hdg g) = none) : WP mX8_stitch 101 [some (.ref r), some (.int w), some (.int (nI (nd g))), none] [] M z 0 0 (gD (some (.int (bI (f_to g).isSome))) (hpu M r (aI 947 (f_goOn g))) z) := by
  refine g_iload_2 dX8_stitch_101 ?_
  refine g_aload_0 dX8_stitch_102 ?_
  refine g_sipush (v := nI 458) dX8_stitch_103 rfl ?_
  refine g_ialdN dX8_stitch_106 hr (by omega) (by decide) ?_
  rw [hI.hde]
  refine g_s2_1 dX8_stitch_107 (sX8_91 rfl) rfl (Nat.le_of_ble_eq_true rfl) ⟨rfl, rfl⟩ (Nat.le_of_ble_eq_true rfl) (Nat.le_of_ble_eq_true rfl) (m_next hI.ndl hI.hdl) ?_
  rw [hto, show oI (none) = -1 from rfl]
  refine g_istore_3 rfl dX8_stitch_110 ?_
  refine g_aload_0 dX8_stitch_111 ?_
  refine g_sipush (v := nI 457) dX8_stitch_112 rfl ?_
  refine g_iload_3 dX8_stitch_115 ?_
  refine g_iconst (v := -1) dX8_stitch_116 rfl ?_
  refine g_icmp_ne (tgt := 124) dX8_stitch_117 (by decide)  (fun h117 => absurd rfl h117) (fun _ => ?_)
  refine g_iload_2 dX8_stitch_120 ?_
  refine g_goto (tgt := 125) dX8_stitch_121 (by decide) ?_
  refine g_iastN dX8_stitch_125 hr (by omega) (by decide) ?_
  refine g_iload_3 dX8_stitch_126 ?_
  refine g_iconst (v := -1) dX8_stitch_127 rfl ?_
  refine g_icmp_eq (tgt := 135) dX8_stitch_128 (by decide)  (fun _ => ?_) (fun h128 => absurd rfl h128)
  refine g_iconst (v := nI 0) dX8_stitch_135 rfl ?_
  exact g_ireturn rfl rfl dX8_stitch_136 (Nat.le_of_ble_eq_true rfl) (Nat.le_of_ble_eq_true rfl) ⟨by rw [show f_to g = none from hto]; rfl, by unfold f_goOn; rw [show f_to g = none from hto]; rw [upd457 hI], rfl⟩
theorem m_stitch101s (hr : RowAt M r g) (hI : Rng g) {k : Nat} (hk : k < 144) (hto : besd (nd g) (hdg g) = some k) : WP mX8_stitch 101 [some (.ref r), some (.int w), some (.int (nI (nd g))), none] [] M z 0 0 (gD (some (.int (bI (f_to g).isSome))) (hpu M r (aI 947 (f_goOn g))) z) := by
  refine g_iload_2 dX8_stitch_101 ?_
  refine g_aload_0 dX8_stitch_102 ?_
  refine g_sipush (v := nI 458) dX8_stitch_103 rfl ?_
  refine g_ialdN dX8_stitch_106 hr (by omega) (by decide) ?_
  rw [hI.hde]
  refine g_s2_1 dX8_stitch_107 (sX8_91 rfl) rfl (Nat.le_of_ble_eq_true rfl) ⟨rfl, rfl⟩ (Nat.le_of_ble_eq_true rfl) (Nat.le_of_ble_eq_true rfl) (m_next hI.ndl hI.hdl) ?_
  rw [hto, show oI (some k) = nI k from rfl]
  refine g_istore_3 rfl dX8_stitch_110 ?_
  refine g_aload_0 dX8_stitch_111 ?_
  refine g_sipush (v := nI 457) dX8_stitch_112 rfl ?_
  refine g_iload_3 dX8_stitch_115 ?_
  refine g_iconst (v := -1) dX8_stitch_116 rfl ?_
  refine g_icmp_ne (tgt := 124) dX8_stitch_117 (by decide)  (fun _ => ?_) (fun h117 => absurd h117 (nI_nm1 (by omega)))
  refine g_iload_3 dX8_stitch_124 ?_
  refine g_iastN dX8_stitch_125 hr (by omega) (by decide) ?_
  refine g_iload_3 dX8_stitch_126 ?_
  refine g_iconst (v := -1) dX8_stitch_127 rfl ?_
  refine g_icmp_eq (tgt := 135) dX8_stitch_128 (by decide)  (fun h128 => absurd h128 (nI_nm1 (by omega))) (fun _ => ?_)
  refine g_iconst (v := nI 1) dX8_stitch_131 rfl ?_
  refine g_goto (tgt := 136) dX8_stitch_132 (by decide) ?_
  exact g_ireturn rfl rfl dX8_stitch_136 (Nat.le_of_ble_eq_true rfl) (Nat.le_of_ble_eq_true rfl) ⟨by rw [show f_to g = some k from hto]; rfl, by unfold f_goOn; rw [show f_to g = some k from hto], rfl⟩
theorem m_stitch101 (hr : RowAt M r g) (hI : Rng g) : WP mX8_stitch 101 [some (.ref r), some (.int w), some (.int (nI (nd g))), none] [] M z 0 0 (gD (some (.int (bI (f_to g).isSome))) (hpu M r (aI 947 (f_goOn g))) z) := by
  cases hto : besd (nd g) (hdg g) with
  | none => exact m_stitch101n hr hI hto
  | some k => exact m_stitch101s hr hI (besd_lt hI.ndl hto) hto

theorem pull_ne {k : Nat} {q : Int32} (hc : c < 5) (hn : n < 5) (hk : k < 432 ∨ (457 ≤ k ∧ k ≠ 461 ∧ k ≠ 462)) : f_pull f c x n q k = f k := by
  unfold f_pull f_draw
  by_cases h0 : n = 0
  · simp only [h0, if_true]
    rw [upd_ne (by omega), upd_ne (by omega), upd_ne (by omega)]
  · simp only [h0, if_false]
    rw [upd_ne (by omega), upd_ne (by omega), upd_ne (by omega), upd_ne (by omega)]
theorem punch_ne {k : Nat} (hI : Rng f) (ht : 0 < tno f) (hk : k < 144 ∨ (457 ≤ k ∧ k ≠ 461 ∧ k ≠ 462)) : f_punch f k = f k := by
  have hnd := hI.ndl
  have hth := hI.tlt
  unfold f_punch
  split
  · rw [upd_ne (by omega), pull_ne (by omega) (by decide) (by omega)]
  · rw [upd_ne (by omega), upd_ne (by omega), pull_ne (by omega) (by decide) (by omega)]
theorem gv_eq {k : Nat} (h : f k = g k) : gv f k = gv g k := by unfold gv; rw [h]
theorem m_stitch (hr : RowAt M r f) (hI : Rng f) (ht : tno f = c + 1) : Runs mX8_stitch [.ref r] M z (gD (some (.int (bI (f_to (f_punch f)).isSome))) (hpu M r (aI 947 (f_goOn (f_punch f)))) z) := by
  have h459 := t459 hI ht
  have hc5 : c < 5 := by have := hI.tlt; omega
  have hnd := hI.ndl
  refine runs_of plX8 rfl (Nat.le_of_ble_eq_true rfl) ?_
  show WP mX8_stitch 0 [some (.ref r), none, none, none] [] M z 0 0 _
  refine g_aload_0 dX8_stitch_0 ?_
  refine g_sipush (v := nI 459) dX8_stitch_1 rfl ?_
  refine g_ialdN dX8_stitch_4 hr (by omega) (by decide) ?_
  rw [h459]
  refine g_iconst (v := nI 1) dX8_stitch_5 rfl ?_
  refine g_isubN dX8_stitch_6 (by omega) ?_
  rw [show c + 1 - 1 = c by omega]
  refine g_istore_1 rfl dX8_stitch_7 ?_
  refine g_aload_0 dX8_stitch_8 ?_
  refine g_sipush (v := nI 457) dX8_stitch_9 rfl ?_
  refine g_ialdN dX8_stitch_12 hr (by omega) (by decide) ?_
  rw [hI.nde]
  refine g_istore_2 rfl dX8_stitch_13 ?_
  refine g_aload_0 dX8_stitch_14 ?_
  refine g_sipush (v := nI 461) dX8_stitch_15 rfl ?_
  refine g_ialdN dX8_stitch_18 hr (by omega) (by decide) ?_
  refine g_bipush (v := nI 10) dX8_stitch_19 rfl ?_
  refine g_icmp_lt (tgt := 44) dX8_stitch_21 (by decide)  (fun h21 => ?_) (fun h21 => ?_)
  · refine g_aload_0 dX8_stitch_44 ?_
    refine g_iload_1 dX8_stitch_45 ?_
    refine g_aload_0 dX8_stitch_46 ?_
    refine g_sipush (v := nI 460) dX8_stitch_47 rfl ?_
    refine g_ialdN dX8_stitch_50 hr (by omega) (by decide) ?_
    refine g_s1_1 dX8_stitch_51 (sX8_83 rfl) rfl (Nat.le_of_ble_eq_true rfl) ⟨rfl, rfl⟩ (Nat.le_of_ble_eq_true rfl) (Nat.le_of_ble_eq_true rfl) (m_yarn) ?_
    refine g_iconst (v := nI 0) dX8_stitch_54 rfl ?_
    refine g_aload_0 dX8_stitch_55 ?_
    refine g_sipush (v := nI 461) dX8_stitch_56 rfl ?_
    refine g_ialdN dX8_stitch_59 hr (by omega) (by decide) ?_
    refine g_aload_0 dX8_stitch_60 ?_
    refine g_sipush (v := nI 460) dX8_stitch_61 rfl ?_
    refine g_ialdN dX8_stitch_64 hr (by omega) (by decide) ?_
    refine g_bipush (v := nI 6) dX8_stitch_65 rfl ?_
    refine g_icmp_le (tgt := 74) dX8_stitch_67 (by decide)  (fun h67 => ?_) (fun h67 => ?_)
    · have hq : (if nI 6 < f 460 then nI 2 else nI 1) = nI 1 := if_neg (Int32.not_lt.mpr h67)
      refine g_iconst (v := nI 1) dX8_stitch_74 rfl ?_
      refine g_iadd dX8_stitch_75 ?_
      rw [← hq]
      refine g_s5_0 dX8_stitch_76 (sX8_87 rfl) rfl (Nat.le_of_ble_eq_true rfl) ⟨rfl, rfl⟩ (Nat.le_of_ble_eq_true rfl) (Nat.le_of_ble_eq_true rfl) (m_pull hr hc5 (by decide)) ?_
      have hr1 := RowAt.put (M := M) (r := r) (f := f_pull f c (f_yarn (f 460)) 0 (f 461 + (if nI 6 < f 460 then nI 2 else nI 1)))
      refine g_aload_0 dX8_stitch_79 ?_
      refine g_sipush (v := nI 144) dX8_stitch_80 rfl ?_
      refine g_iload_2 dX8_stitch_83 ?_
      refine g_iaddN dX8_stitch_84 ?_
      refine g_iload_1 dX8_stitch_85 ?_
      refine g_iconst (v := nI 1) dX8_stitch_86 rfl ?_
      refine g_iaddN dX8_stitch_87 ?_
      refine g_iastN dX8_stitch_88 hr1 (by omega) (by decide) ?_
      have hr2 := RowAt.put (M := M) (r := r) (f := upd (f_pull f c (f_yarn (f 460)) 0 (f 461 + (if nI 6 < f 460 then nI 2 else nI 1))) (144 + nd f) (nI (c + 1)))
      try rw [hpu_hpu]
      refine g_aload_0 dX8_stitch_89 ?_
      refine g_sipush (v := nI 288) dX8_stitch_90 rfl ?_
      refine g_iload_2 dX8_stitch_93 ?_
      refine g_iaddN dX8_stitch_94 ?_
      refine g_aload_0 dX8_stitch_95 ?_
      refine g_sipush (v := nI 460) dX8_stitch_96 rfl ?_
      refine g_ialdN dX8_stitch_99 hr2 (by omega) (by decide) ?_
      rw [show (upd (f_pull f c (f_yarn (f 460)) 0 (f 461 + (if nI 6 < f 460 then nI 2 else nI 1))) (144 + nd f) (nI (c + 1))) 460 = f 460 from by rw [upd_ne (by omega), pull_ne hc5 (by decide) (by omega)]]
      refine g_iastN dX8_stitch_100 hr2 (by omega) (by decide) ?_
      have hr3 := RowAt.put (M := M) (r := r) (f := upd (upd (f_pull f c (f_yarn (f 460)) 0 (f 461 + (if nI 6 < f 460 then nI 2 else nI 1))) (144 + nd f) (nI (c + 1))) (288 + nd f) (f 460))
      try rw [hpu_hpu]
      rw [show upd (upd (f_pull f c (f_yarn (f 460)) 0 (f 461 + (if nI 6 < f 460 then nI 2 else nI 1))) (144 + nd f) (nI (c + 1))) (288 + nd f) (f 460) = f_punch f from by unfold f_punch; rw [if_neg (Int32.not_le.mpr h21), ht]; rfl]
      have e := m_stitch101 (z := z) (w := nI c) (RowAt.put (M := M) (r := r) (f := f_punch f)) (hI.punch (by omega))
      rw [hpu_hpu, show nd (f_punch f) = nd f from gv_eq (punch_ne hI (by omega) (by omega))] at e
      exact e
    · have hq : (if nI 6 < f 460 then nI 2 else nI 1) = nI 2 := if_pos (Int32.not_le.mp h67)
      refine g_iconst (v := nI 2) dX8_stitch_70 rfl ?_
      refine g_goto (tgt := 75) dX8_stitch_71 (by decide) ?_
      refine g_iadd dX8_stitch_75 ?_
      rw [← hq]
      refine g_s5_0 dX8_stitch_76 (sX8_87 rfl) rfl (Nat.le_of_ble_eq_true rfl) ⟨rfl, rfl⟩ (Nat.le_of_ble_eq_true rfl) (Nat.le_of_ble_eq_true rfl) (m_pull hr hc5 (by decide)) ?_
      have hr1 := RowAt.put (M := M) (r := r) (f := f_pull f c (f_yarn (f 460)) 0 (f 461 + (if nI 6 < f 460 then nI 2 else nI 1)))
      refine g_aload_0 dX8_stitch_79 ?_
      refine g_sipush (v := nI 144) dX8_stitch_80 rfl ?_
      refine g_iload_2 dX8_stitch_83 ?_
      refine g_iaddN dX8_stitch_84 ?_
      refine g_iload_1 dX8_stitch_85 ?_
      refine g_iconst (v := nI 1) dX8_stitch_86 rfl ?_
      refine g_iaddN dX8_stitch_87 ?_
      refine g_iastN dX8_stitch_88 hr1 (by omega) (by decide) ?_
      have hr2 := RowAt.put (M := M) (r := r) (f := upd (f_pull f c (f_yarn (f 460)) 0 (f 461 + (if nI 6 < f 460 then nI 2 else nI 1))) (144 + nd f) (nI (c + 1)))
      try rw [hpu_hpu]
      refine g_aload_0 dX8_stitch_89 ?_
      refine g_sipush (v := nI 288) dX8_stitch_90 rfl ?_
      refine g_iload_2 dX8_stitch_93 ?_
      refine g_iaddN dX8_stitch_94 ?_
      refine g_aload_0 dX8_stitch_95 ?_
      refine g_sipush (v := nI 460) dX8_stitch_96 rfl ?_
      refine g_ialdN dX8_stitch_99 hr2 (by omega) (by decide) ?_
      rw [show (upd (f_pull f c (f_yarn (f 460)) 0 (f 461 + (if nI 6 < f 460 then nI 2 else nI 1))) (144 + nd f) (nI (c + 1))) 460 = f 460 from by rw [upd_ne (by omega), pull_ne hc5 (by decide) (by omega)]]
      refine g_iastN dX8_stitch_100 hr2 (by omega) (by decide) ?_
      have hr3 := RowAt.put (M := M) (r := r) (f := upd (upd (f_pull f c (f_yarn (f 460)) 0 (f 461 + (if nI 6 < f 460 then nI 2 else nI 1))) (144 + nd f) (nI (c + 1))) (288 + nd f) (f 460))
      try rw [hpu_hpu]
      rw [show upd (upd (f_pull f c (f_yarn (f 460)) 0 (f 461 + (if nI 6 < f 460 then nI 2 else nI 1))) (144 + nd f) (nI (c + 1))) (288 + nd f) (f 460) = f_punch f from by unfold f_punch; rw [if_neg (Int32.not_le.mpr h21), ht]; rfl]
      have e := m_stitch101 (z := z) (w := nI c) (RowAt.put (M := M) (r := r) (f := f_punch f)) (hI.punch (by omega))
      rw [hpu_hpu, show nd (f_punch f) = nd f from gv_eq (punch_ne hI (by omega) (by omega))] at e
      exact e
  · refine g_aload_0 dX8_stitch_24 ?_
    refine g_iload_1 dX8_stitch_25 ?_
    refine g_iconst (v := nI 4) dX8_stitch_26 rfl ?_
    refine g_iconst (v := nI 2) dX8_stitch_27 rfl ?_
    refine g_iconst (v := nI 2) dX8_stitch_28 rfl ?_
    refine g_s5_0 dX8_stitch_29 (sX8_87 rfl) rfl (Nat.le_of_ble_eq_true rfl) ⟨rfl, rfl⟩ (Nat.le_of_ble_eq_true rfl) (Nat.le_of_ble_eq_true rfl) (m_pull hr hc5 (by decide)) ?_
    have hr1 := RowAt.put (M := M) (r := r) (f := f_pull f c (nI 4) 2 (nI 2))
    refine g_aload_0 dX8_stitch_32 ?_
    refine g_sipush (v := nI 144) dX8_stitch_33 rfl ?_
    refine g_iload_2 dX8_stitch_36 ?_
    refine g_iaddN dX8_stitch_37 ?_
    refine g_bipush (v := nI 6) dX8_stitch_38 rfl ?_
    refine g_iastN dX8_stitch_40 hr1 (by omega) (by decide) ?_
    have hr2 := RowAt.put (M := M) (r := r) (f := upd (f_pull f c (nI 4) 2 (nI 2)) (144 + nd f) (nI 6))
    try rw [hpu_hpu]
    rw [show upd (f_pull f c (nI 4) 2 (nI 2)) (144 + nd f) (nI 6) = f_punch f from by unfold f_punch; rw [if_pos (Int32.not_lt.mp h21), show tno f - 1 = c by omega]]
    refine g_goto (tgt := 101) dX8_stitch_41 (by decide) ?_
    have e := m_stitch101 (z := z) (w := nI c) (RowAt.put (M := M) (r := r) (f := f_punch f)) (hI.punch (by omega))
    rw [hpu_hpu, show nd (f_punch f) = nd f from gv_eq (punch_ne hI (by omega) (by omega))] at e
    exact e
theorem m_sew_end {n d : Nat}  : WP mX8_goSew 4 [some (.ref r), some (.int (nI n)), some (.int (nI (d))), some (.int (bI false))] [] M z 0 0 (gD (some (.int (nI d))) M z) := by
  refine g_iload_3 dX8_goSew_4 ?_
  refine g_if_eqB (tgt := 31) dX8_goSew_5 (by decide)  (fun _ => ?_) (fun h5 => absurd h5 (by decide))
  refine g_iload_2 dX8_goSew_31 ?_
  exact g_ireturn rfl rfl dX8_goSew_32 (Nat.le_of_ble_eq_true rfl) (Nat.le_of_ble_eq_true rfl) (gDi rfl)
theorem m_sew_loop {n : Nat} (hn : n < 2 ^ 31) : ∀ k d {f : Row} {M : Hp}, RowAt M r f → Rng f → d + k = n → WP mX8_goSew 4 [some (.ref r), some (.int (nI n)), some (.int (nI (d))), some (.int (bI true))] [] M z 0 0 (gD (some (.int (nI (d + (f_sew k f).2)))) (hpu M r (aI 947 (f_sew k f).1)) z) := by
  intro k
  induction k with
  | zero =>
    intro d f M hr hI hd
    refine g_iload_3 dX8_goSew_4 ?_
    refine g_if_eqB (tgt := 31) dX8_goSew_5 (by decide)  (fun h5 => absurd h5 (by decide)) (fun _ => ?_)
    refine g_iload_2 dX8_goSew_8 ?_
    refine g_iload_1 dX8_goSew_9 ?_
    refine g_icmp_geN (tgt := 31) dX8_goSew_10 (by decide) (by omega) (by omega) (fun _ => ?_) (fun h10 => absurd h10 (by omega))
    refine g_iload_2 dX8_goSew_31 ?_
    exact g_ireturn rfl rfl dX8_goSew_32 (Nat.le_of_ble_eq_true rfl) (Nat.le_of_ble_eq_true rfl) ⟨rfl, (hpu_id hr).symm, rfl⟩
  | succ k ih =>
    intro d f M hr hI hd
    have hlt := noSt_lt f
    refine g_iload_3 dX8_goSew_4 ?_
    refine g_if_eqB (tgt := 31) dX8_goSew_5 (by decide)  (fun h5 => absurd h5 (by decide)) (fun _ => ?_)
    refine g_iload_2 dX8_goSew_8 ?_
    refine g_iload_1 dX8_goSew_9 ?_
    refine g_icmp_geN (tgt := 31) dX8_goSew_10 (by decide) (by omega) (by omega) (fun h10 => absurd h10 (by omega)) (fun _ => ?_)
    refine g_aload_0 dX8_goSew_13 ?_
    refine g_s1_1 dX8_goSew_14 (sX8_95 rfl) rfl (Nat.le_of_ble_eq_true rfl) ⟨rfl, rfl⟩ (Nat.le_of_ble_eq_true rfl) (Nat.le_of_ble_eq_true rfl) (m_noStitch hr hI) ?_
    refine g_if_neN (tgt := 31) dX8_goSew_17 (by decide) (by omega) (fun h17 => ?_) (fun h17 => ?_)
    · have es : f_sew (k + 1) f = (f, 0) := by
        simp only [f_sew]; rw [if_neg h17]
      refine g_iload_2 dX8_goSew_31 ?_
      exact g_ireturn rfl rfl dX8_goSew_32 (Nat.le_of_ble_eq_true rfl) (Nat.le_of_ble_eq_true rfl) ⟨by rw [es]; rfl, by rw [es]; exact (hpu_id hr).symm, rfl⟩
    · have ht0 := noSt_t h17
      obtain ⟨c, ht⟩ : ∃ c, tno f = c + 1 := ⟨tno f - 1, by omega⟩
      have i1 := hI.punch ht0
      refine g_aload_0 dX8_goSew_20 ?_
      refine g_s1_1 dX8_goSew_21 (sX8_98 rfl) rfl (Nat.le_of_ble_eq_true rfl) ⟨rfl, rfl⟩ (Nat.le_of_ble_eq_true rfl) (Nat.le_of_ble_eq_true rfl) (m_stitch hr hI ht) ?_
      refine g_istore_3 rfl dX8_goSew_24 ?_
      refine g_iincN_2 (q := 1) rfl dX8_goSew_25 rfl ?_
      refine g_goto (tgt := 4) dX8_goSew_28 (by decide) ?_
      cases hto : (f_to (f_punch f)).isSome with
      | true =>
        have es : f_sew (k + 1) f = ((f_sew k (f_goOn (f_punch f))).1, (f_sew k (f_goOn (f_punch f))).2 + 1) := by
          simp only [f_sew]; rw [if_pos h17, if_pos hto]
        rw [es]
        have e := ih (d + 1) (RowAt.put (M := M) (r := r) (f := f_goOn (f_punch f))) i1.goOn (by omega)
        rw [show d + 1 + (f_sew k (f_goOn (f_punch f))).2 = d + ((f_sew k (f_goOn (f_punch f))).2 + 1) by omega, hpu_hpu] at e
        exact e
      | false =>
        have es : f_sew (k + 1) f = (f_punch f, 1) := by
          simp only [f_sew]; rw [if_pos h17, if_neg (by rw [hto]; decide)]
        rw [es]
        have hn : f_to (f_punch f) = none := by simpa using hto
        rw [goOn_to _ hn]
        exact m_sew_end
theorem m_goSew (hr : RowAt M r f) (hI : Rng f) (hn : n < 2 ^ 31) : Runs mX8_goSew [.ref r, .int (nI n)] M z (gD (some (.int (nI (f_sew n f).2))) (hpu M r (aI 947 (f_sew n f).1)) z) := by
  refine runs_of plX8 rfl (Nat.le_of_ble_eq_true rfl) ?_
  show WP mX8_goSew 0 [some (.ref r), some (.int (nI n)), none, none] [] M z 0 0 _
  refine g_iconst (v := nI 0) dX8_goSew_0 rfl ?_
  refine g_istore_2 rfl dX8_goSew_1 ?_
  refine g_iconst (v := nI 1) dX8_goSew_2 rfl ?_
  refine g_istore_3 rfl dX8_goSew_3 ?_
  have e := m_sew_loop (z := z) hn n 0 hr hI (by omega)
  rw [Nat.zero_add] at e
  exact e
end P33

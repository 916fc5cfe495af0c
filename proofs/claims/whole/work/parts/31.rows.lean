section P31
variable {M M0 : Hp} {z r r2 c j i n : Nat} {f g : Row} {x y w : Int32} {Φ : GR → Hp → Nat → Prop}
theorem RowAt.put {M : Hp} {r : Nat} {f : Row} : RowAt (hpu M r (aI 947 f)) r f := hpu_same _ _ _
theorem m_pull37t (hr : RowAt M r f) : WP mX8_pull 37 [some (.ref r), some (.int (nI c)), some (.int x), some (.int (nI n)), some (.int y), some (.int w), none] [.int (bI true)] M z 0 0 (gD none (hpu M r (aI 947 (upd (upd f 461 (y + nI 4)) 462 (upd f 461 (y + nI 4) 462 + nI 1)))) z) := by
  refine g_istore_6 rfl dX8_pull_37 ?_
  refine g_aload_0 dX8_pull_39 ?_
  refine g_sipush (v := nI 461) dX8_pull_40 rfl ?_
  refine g_iload_4 dX8_pull_43 ?_
  refine g_iload_6 dX8_pull_45 ?_
  refine g_if_eqB (tgt := 54) dX8_pull_47 (by decide)  (fun h47 => absurd h47 (by decide)) (fun _ => ?_)
  refine g_iconst (v := nI 4) dX8_pull_50 rfl ?_
  refine g_goto (tgt := 55) dX8_pull_51 (by decide) ?_
  refine g_iadd dX8_pull_55 ?_
  refine g_iastN dX8_pull_56 hr (by omega) (by decide) ?_
  have hr2 := RowAt.put (M := M) (r := r) (f := upd f 461 (y + nI 4))
  refine g_aload_0 dX8_pull_57 ?_
  refine g_sipush (v := nI 462) dX8_pull_58 rfl ?_
  refine g_dup2 dX8_pull_61 rfl rfl ?_
  refine g_ialdN dX8_pull_62 hr2 (by omega) (by decide) ?_
  refine g_iload_6 dX8_pull_63 ?_
  refine g_if_eqB (tgt := 72) dX8_pull_65 (by decide)  (fun h65 => absurd h65 (by decide)) (fun _ => ?_)
  refine g_iconst (v := nI 1) dX8_pull_68 rfl ?_
  refine g_goto (tgt := 73) dX8_pull_69 (by decide) ?_
  refine g_iadd dX8_pull_73 ?_
  refine g_iastN dX8_pull_74 hr2 (by omega) (by decide) ?_
  exact g_return rfl dX8_pull_75 (Nat.le_of_ble_eq_true rfl) (Nat.le_of_ble_eq_true rfl) (gDv (by rw [hpu_hpu]))
theorem m_pull37f (hr : RowAt M r f) : WP mX8_pull 37 [some (.ref r), some (.int (nI c)), some (.int x), some (.int (nI n)), some (.int y), some (.int w), none] [.int (bI false)] M z 0 0 (gD none (hpu M r (aI 947 (upd (upd f 461 (y + nI 0)) 462 (upd f 461 (y + nI 0) 462 + nI 0)))) z) := by
  refine g_istore_6 rfl dX8_pull_37 ?_
  refine g_aload_0 dX8_pull_39 ?_
  refine g_sipush (v := nI 461) dX8_pull_40 rfl ?_
  refine g_iload_4 dX8_pull_43 ?_
  refine g_iload_6 dX8_pull_45 ?_
  refine g_if_eqB (tgt := 54) dX8_pull_47 (by decide)  (fun _ => ?_) (fun h47 => absurd h47 (by decide))
  refine g_iconst (v := nI 0) dX8_pull_54 rfl ?_
  refine g_iadd dX8_pull_55 ?_
  refine g_iastN dX8_pull_56 hr (by omega) (by decide) ?_
  have hr2 := RowAt.put (M := M) (r := r) (f := upd f 461 (y + nI 0))
  refine g_aload_0 dX8_pull_57 ?_
  refine g_sipush (v := nI 462) dX8_pull_58 rfl ?_
  refine g_dup2 dX8_pull_61 rfl rfl ?_
  refine g_ialdN dX8_pull_62 hr2 (by omega) (by decide) ?_
  refine g_iload_6 dX8_pull_63 ?_
  refine g_if_eqB (tgt := 72) dX8_pull_65 (by decide)  (fun _ => ?_) (fun h65 => absurd h65 (by decide))
  refine g_iconst (v := nI 0) dX8_pull_72 rfl ?_
  refine g_iadd dX8_pull_73 ?_
  refine g_iastN dX8_pull_74 hr2 (by omega) (by decide) ?_
  exact g_return rfl dX8_pull_75 (Nat.le_of_ble_eq_true rfl) (Nat.le_of_ble_eq_true rfl) (gDv (by rw [hpu_hpu]))
theorem m_pull (hr : RowAt M r f) (hc : c < 5) (hn : n < 5) : Runs mX8_pull [.ref r, .int (nI c), .int x, .int (nI n), .int y] M z (gD none (hpu M r (aI 947 (f_pull f c x n y))) z) := by
  refine runs_of plX8 rfl (Nat.le_of_ble_eq_true rfl) ?_
  show WP mX8_pull 0 [some (.ref r), some (.int (nI c)), some (.int x), some (.int (nI n)), some (.int y), none, none] [] M z 0 0 _
  refine g_aload_0 dX8_pull_0 ?_
  refine g_iload_1 dX8_pull_1 ?_
  refine g_s2_1 dX8_pull_2 (sX8_71 rfl) rfl (Nat.le_of_ble_eq_true rfl) ⟨rfl, rfl⟩ (Nat.le_of_ble_eq_true rfl) (Nat.le_of_ble_eq_true rfl) (m_drawn hr hc) ?_
  refine g_sipush (v := nI 1000) dX8_pull_5 rfl ?_
  refine g_idiv dX8_pull_8 (by decide) ?_
  refine g_istore_5 rfl dX8_pull_9 ?_
  refine g_aload_0 dX8_pull_11 ?_
  refine g_iload_1 dX8_pull_12 ?_
  refine g_iload_2 dX8_pull_13 ?_
  refine g_iload_3 dX8_pull_14 ?_
  refine g_s4_0 dX8_pull_15 (sX8_75 rfl) rfl (Nat.le_of_ble_eq_true rfl) ⟨rfl, rfl⟩ (Nat.le_of_ble_eq_true rfl) (Nat.le_of_ble_eq_true rfl) (m_draw hr hc hn) ?_
  have hr1 := RowAt.put (M := M) (r := r) (f := (f_draw f c x n))
  refine g_aload_0 dX8_pull_18 ?_
  refine g_iload_1 dX8_pull_19 ?_
  refine g_s2_1 dX8_pull_20 (sX8_71 rfl) rfl (Nat.le_of_ble_eq_true rfl) ⟨rfl, rfl⟩ (Nat.le_of_ble_eq_true rfl) (Nat.le_of_ble_eq_true rfl) (m_drawn hr1 hc) ?_
  refine g_sipush (v := nI 1000) dX8_pull_23 rfl ?_
  refine g_idiv dX8_pull_26 (by decide) ?_
  refine g_iload_5 dX8_pull_27 ?_
  refine g_icmp_le (tgt := 36) dX8_pull_29 (by decide)  (fun h29 => ?_) (fun h29 => ?_)
  · refine g_iconst (v := nI 0) dX8_pull_36 rfl ?_
    first
      | (have e := m_pull37f (z := z) (c := c) (x := x) (n := n) (y := y) (w := f_drawn f c / nI 1000) hr1
         rw [hpu_hpu] at e
         unfold f_pull f_knot
         rw [decide_eq_false (Int32.not_lt.mpr h29)]
         exact e)
      | (have e := m_pull37t (z := z) (c := c) (x := x) (n := n) (y := y) (w := f_drawn f c / nI 1000) hr1
         rw [hpu_hpu] at e
         unfold f_pull f_knot
         rw [decide_eq_true (Int32.not_le.mp h29)]
         exact e)
  · refine g_iconst (v := nI 1) dX8_pull_32 rfl ?_
    refine g_goto (tgt := 37) dX8_pull_33 (by decide) ?_
    first
      | (have e := m_pull37f (z := z) (c := c) (x := x) (n := n) (y := y) (w := f_drawn f c / nI 1000) hr1
         rw [hpu_hpu] at e
         unfold f_pull f_knot
         rw [decide_eq_false (Int32.not_lt.mpr h29)]
         exact e)
      | (have e := m_pull37t (z := z) (c := c) (x := x) (n := n) (y := y) (w := f_drawn f c / nI 1000) hr1
         rw [hpu_hpu] at e
         unfold f_pull f_knot
         rw [decide_eq_true (Int32.not_le.mp h29)]
         exact e)
theorem t459 (hI : Rng f) (ht : tno f = c + 1) : f 459 = nI (c + 1) := by
  have h : f 459 = nI (tno f) := hI.2.2.2.2.1.2.2.1.1
  rw [h, ht]
theorem t459z (hI : Rng f) (ht : tno f = 0) : f 459 = nI 0 := by
  have h : f 459 = nI (tno f) := hI.2.2.2.2.1.2.2.1.1
  rw [h, ht]
theorem m_goCut (hr : RowAt M r f) (hI : Rng f) (ht : tno f = c + 1) : Runs mX8_goCut [.ref r] M z (gD (some (.int (nI c))) (hpu M r (aI 947 (f_cut f))) z) := by
  have h459 := t459 hI ht
  have hc5 : c < 5 := by have := hI.tlt; omega
  refine runs_of plX8 rfl (Nat.le_of_ble_eq_true rfl) ?_
  show WP mX8_goCut 0 [some (.ref r), none] [] M z 0 0 _
  refine g_aload_0 dX8_goCut_0 ?_
  refine g_sipush (v := nI 459) dX8_goCut_1 rfl ?_
  refine g_ialdN dX8_goCut_4 hr (by omega) (by decide) ?_
  rw [h459]
  refine g_iconst (v := nI 1) dX8_goCut_5 rfl ?_
  refine g_isubN dX8_goCut_6 (by omega) ?_
  rw [show c + 1 - 1 = c by omega]
  refine g_istore_1 rfl dX8_goCut_7 ?_
  refine g_aload_0 dX8_goCut_8 ?_
  refine g_iload_1 dX8_goCut_9 ?_
  refine g_bipush (v := nI 20) dX8_goCut_10 rfl ?_
  refine g_iconst (v := nI 3) dX8_goCut_12 rfl ?_
  refine g_s4_0 dX8_goCut_13 (sX8_75 rfl) rfl (Nat.le_of_ble_eq_true rfl) ⟨rfl, rfl⟩ (Nat.le_of_ble_eq_true rfl) (Nat.le_of_ble_eq_true rfl) (m_draw hr hc5 (by decide)) ?_
  have hr1 := RowAt.put (M := M) (r := r) (f := f_draw f c (nI 20) 3)
  refine g_aload_0 dX8_goCut_16 ?_
  refine g_sipush (v := nI 459) dX8_goCut_17 rfl ?_
  refine g_iconst (v := nI 0) dX8_goCut_20 rfl ?_
  refine g_iastN dX8_goCut_21 hr1 (by omega) (by decide) ?_
  have hr2 := RowAt.put (M := M) (r := r) (f := upd (f_draw f c (nI 20) 3) 459 (nI 0))
  try rw [hpu_hpu]
  refine g_aload_0 dX8_goCut_22 ?_
  refine g_sipush (v := nI 461) dX8_goCut_23 rfl ?_
  refine g_iconst (v := nI 0) dX8_goCut_26 rfl ?_
  refine g_iastN dX8_goCut_27 hr2 (by omega) (by decide) ?_
  have hr3 := RowAt.put (M := M) (r := r) (f := upd (upd (f_draw f c (nI 20) 3) 459 (nI 0)) 461 (nI 0))
  try rw [hpu_hpu]
  refine g_iload_1 dX8_goCut_28 ?_
  exact g_ireturn rfl rfl dX8_goCut_29 (Nat.le_of_ble_eq_true rfl) (Nat.le_of_ble_eq_true rfl) ⟨rfl, by unfold f_cut; rw [ht]; rfl, rfl⟩
theorem m_thread16 (hr : RowAt M r f) (hc : c < 5) : WP mX8_goThread 16 [some (.ref r), some (.int (nI c)), none] [.int w] M z 0 0 (gD (some (.int ((upd (upd (f_draw f c (nI 20) 3) 459 (nI (c + 1))) 461 (nI 0)) (432 + 5 * c)))) (hpu M r (aI 947 (upd (upd (f_draw f c (nI 20) 3) 459 (nI (c + 1))) 461 (nI 0)))) z) := by
  refine g_istore_2 rfl dX8_goThread_16 ?_
  refine g_aload_0 dX8_goThread_17 ?_
  refine g_iload_1 dX8_goThread_18 ?_
  refine g_bipush (v := nI 20) dX8_goThread_19 rfl ?_
  refine g_iconst (v := nI 3) dX8_goThread_21 rfl ?_
  refine g_s4_0 dX8_goThread_22 (sX8_75 rfl) rfl (Nat.le_of_ble_eq_true rfl) ⟨rfl, rfl⟩ (Nat.le_of_ble_eq_true rfl) (Nat.le_of_ble_eq_true rfl) (m_draw hr hc (by decide)) ?_
  have hr1 := RowAt.put (M := M) (r := r) (f := f_draw f c (nI 20) 3)
  refine g_aload_0 dX8_goThread_25 ?_
  refine g_sipush (v := nI 459) dX8_goThread_26 rfl ?_
  refine g_iload_1 dX8_goThread_29 ?_
  refine g_iconst (v := nI 1) dX8_goThread_30 rfl ?_
  refine g_iaddN dX8_goThread_31 ?_
  refine g_iastN dX8_goThread_32 hr1 (by omega) (by decide) ?_
  have hr2 := RowAt.put (M := M) (r := r) (f := upd (f_draw f c (nI 20) 3) 459 (nI (c + 1)))
  try rw [hpu_hpu]
  refine g_aload_0 dX8_goThread_33 ?_
  refine g_sipush (v := nI 461) dX8_goThread_34 rfl ?_
  refine g_iconst (v := nI 0) dX8_goThread_37 rfl ?_
  refine g_iastN dX8_goThread_38 hr2 (by omega) (by decide) ?_
  have hr3 := RowAt.put (M := M) (r := r) (f := upd (upd (f_draw f c (nI 20) 3) 459 (nI (c + 1))) 461 (nI 0))
  try rw [hpu_hpu]
  refine g_aload_0 dX8_goThread_39 ?_
  refine g_iload_1 dX8_goThread_40 ?_
  refine g_iconst (v := nI 0) dX8_goThread_41 rfl ?_
  refine g_s3_1 dX8_goThread_42 (sX8_65 rfl) rfl (Nat.le_of_ble_eq_true rfl) ⟨rfl, rfl⟩ (Nat.le_of_ble_eq_true rfl) (Nat.le_of_ble_eq_true rfl) (m_cone hr3 hc (by decide)) ?_
  exact g_ireturn rfl rfl dX8_goThread_45 (Nat.le_of_ble_eq_true rfl) (Nat.le_of_ble_eq_true rfl) ⟨rfl, rfl, rfl⟩
theorem m_goThread0 (hr : RowAt M r f) (hI : Rng f) (ht : tno f = 0) (hc : c < 5) : Runs mX8_goThread [.ref r, .int (nI c)] M z (gD (some (.int (f_thread f c (432 + 5 * c)))) (hpu M r (aI 947 (f_thread f c))) z) := by
  have h459 := t459z hI ht
  refine runs_of plX8 rfl (Nat.le_of_ble_eq_true rfl) ?_
  show WP mX8_goThread 0 [some (.ref r), some (.int (nI c)), none] [] M z 0 0 _
  refine g_aload_0 dX8_goThread_0 ?_
  refine g_sipush (v := nI 459) dX8_goThread_1 rfl ?_
  refine g_ialdN dX8_goThread_4 hr (by omega) (by decide) ?_
  rw [h459]
  refine g_if_leN (tgt := 15) dX8_goThread_5 (by decide) (by omega) (fun _ => ?_) (fun h5 => absurd h5 (by omega))
  refine g_iconst (v := nI 0) dX8_goThread_15 rfl ?_
  have e := m_thread16 (z := z) (w := nI 0) hr hc
  unfold f_thread
  rw [if_neg (by omega)]
  exact e
theorem m_goThread1 (hr : RowAt M r f) {d : Nat} (hI : Rng f) (ht : tno f = d + 1) (hc : c < 5) : Runs mX8_goThread [.ref r, .int (nI c)] M z (gD (some (.int (f_thread f c (432 + 5 * c)))) (hpu M r (aI 947 (f_thread f c))) z) := by
  have h459 := t459 hI ht
  have hd5 : d < 5 := by have := hI.tlt; omega
  refine runs_of plX8 rfl (Nat.le_of_ble_eq_true rfl) ?_
  show WP mX8_goThread 0 [some (.ref r), some (.int (nI c)), none] [] M z 0 0 _
  refine g_aload_0 dX8_goThread_0 ?_
  refine g_sipush (v := nI 459) dX8_goThread_1 rfl ?_
  refine g_ialdN dX8_goThread_4 hr (by omega) (by decide) ?_
  rw [h459]
  refine g_if_leN (tgt := 15) dX8_goThread_5 (by decide) (by omega) (fun h5 => absurd h5 (by omega)) (fun _ => ?_)
  refine g_aload_0 dX8_goThread_8 ?_
  refine g_s1_1 dX8_goThread_9 (sX8_79 rfl) rfl (Nat.le_of_ble_eq_true rfl) ⟨rfl, rfl⟩ (Nat.le_of_ble_eq_true rfl) (Nat.le_of_ble_eq_true rfl) (m_goCut hr hI ht) ?_
  refine g_goto (tgt := 16) dX8_goThread_12 (by decide) ?_
  have e := m_thread16 (z := z) (w := nI d) (c := c) (RowAt.put (M := M) (r := r) (f := f_cut f)) hc
  rw [hpu_hpu] at e
  unfold f_thread
  rw [if_pos (by omega)]
  exact e
theorem m_goThread (hr : RowAt M r f) (hI : Rng f) (hc : c < 5) : Runs mX8_goThread [.ref r, .int (nI c)] M z (gD (some (.int (f_thread f c (432 + 5 * c)))) (hpu M r (aI 947 (f_thread f c))) z) := by
  cases ht : tno f with
  | zero => exact m_goThread0 hr hI ht hc
  | succ d => exact m_goThread1 hr hI ht hc
theorem m_noStitch0 (hr : RowAt M r f) (hI : Rng f) (ht : tno f = 0) : Runs mX8_noStitch [.ref r] M z (gD (some (.int (nI (f_noStitch f)))) M z) := by
  have h459 := t459z hI ht
  refine runs_of plX8 rfl (Nat.le_of_ble_eq_true rfl) ?_
  show WP mX8_noStitch 0 [some (.ref r), none] [] M z 0 0 _
  refine g_aload_0 dX8_noStitch_0 ?_
  refine g_sipush (v := nI 459) dX8_noStitch_1 rfl ?_
  refine g_ialdN dX8_noStitch_4 hr (by omega) (by decide) ?_
  rw [h459]
  refine g_if_neN (tgt := 10) dX8_noStitch_5 (by decide) (by omega) (fun h5 => absurd rfl h5) (fun _ => ?_)
  refine g_iconst (v := nI 1) dX8_noStitch_8 rfl ?_
  exact g_ireturn rfl rfl dX8_noStitch_9 (Nat.le_of_ble_eq_true rfl) (Nat.le_of_ble_eq_true rfl) (gDi (by simp [f_noStitch, ht]))
theorem m_noSt38_1 (hr : RowAt M r f) (hI : Rng f) (ht : tno f = c + 1) (hl : f (432 + 5 * c) < f_yarn (f 460)) : WP mX8_noStitch 38 [some (.ref r), none] [.int (nI 1)] M z 0 0 (gD (some (.int (nI (f_noStitch f)))) M z) := by
  refine g_istore_1 rfl dX8_noStitch_38 ?_
  refine g_aload_0 dX8_noStitch_39 ?_
  refine g_aload_0 dX8_noStitch_40 ?_
  refine g_sipush (v := nI 457) dX8_noStitch_41 rfl ?_
  refine g_ialdN dX8_noStitch_44 hr (by omega) (by decide) ?_
  rw [hI.nde]
  refine g_s2_1 dX8_noStitch_45 (sX8_61 rfl) rfl (Nat.le_of_ble_eq_true rfl) ⟨rfl, rfl⟩ (Nat.le_of_ble_eq_true rfl) (Nat.le_of_ble_eq_true rfl) (m_hasLoop hr hI.ndl) ?_
  refine g_if_eqB (tgt := 55) dX8_noStitch_48 (by decide)  (fun h48 => ?_) (fun h48 => ?_)
  · refine g_iload_1 dX8_noStitch_55 ?_
    refine g_if_eqN (tgt := 63) dX8_noStitch_56 (by decide) (by omega) (fun h56 => absurd h56 (by decide)) (fun _ => ?_)
    refine g_iconst (v := nI 3) dX8_noStitch_59 rfl ?_
    refine g_goto (tgt := 64) dX8_noStitch_60 (by decide) ?_
    exact g_ireturn rfl rfl dX8_noStitch_64 (Nat.le_of_ble_eq_true rfl) (Nat.le_of_ble_eq_true rfl) (gDi (by unfold f_noStitch; rw [if_neg (by omega), show tno f - 1 = c by omega]; first | (rw [if_pos h48]; done) | (rw [if_neg (by rw [h48]; decide), if_pos hl]; done)))
  · refine g_iconst (v := nI 2) dX8_noStitch_51 rfl ?_
    refine g_goto (tgt := 64) dX8_noStitch_52 (by decide) ?_
    exact g_ireturn rfl rfl dX8_noStitch_64 (Nat.le_of_ble_eq_true rfl) (Nat.le_of_ble_eq_true rfl) (gDi (by unfold f_noStitch; rw [if_neg (by omega), show tno f - 1 = c by omega]; first | (rw [if_pos h48]; done) | (rw [if_neg (by rw [h48]; decide), if_pos hl]; done)))
theorem m_noSt38_0 (hr : RowAt M r f) (hI : Rng f) (ht : tno f = c + 1) (hl : ¬ f (432 + 5 * c) < f_yarn (f 460)) : WP mX8_noStitch 38 [some (.ref r), none] [.int (nI 0)] M z 0 0 (gD (some (.int (nI (f_noStitch f)))) M z) := by
  refine g_istore_1 rfl dX8_noStitch_38 ?_
  refine g_aload_0 dX8_noStitch_39 ?_
  refine g_aload_0 dX8_noStitch_40 ?_
  refine g_sipush (v := nI 457) dX8_noStitch_41 rfl ?_
  refine g_ialdN dX8_noStitch_44 hr (by omega) (by decide) ?_
  rw [hI.nde]
  refine g_s2_1 dX8_noStitch_45 (sX8_61 rfl) rfl (Nat.le_of_ble_eq_true rfl) ⟨rfl, rfl⟩ (Nat.le_of_ble_eq_true rfl) (Nat.le_of_ble_eq_true rfl) (m_hasLoop hr hI.ndl) ?_
  refine g_if_eqB (tgt := 55) dX8_noStitch_48 (by decide)  (fun h48 => ?_) (fun h48 => ?_)
  · refine g_iload_1 dX8_noStitch_55 ?_
    refine g_if_eqN (tgt := 63) dX8_noStitch_56 (by decide) (by omega) (fun _ => ?_) (fun h56 => absurd rfl h56)
    refine g_iconst (v := nI 0) dX8_noStitch_63 rfl ?_
    exact g_ireturn rfl rfl dX8_noStitch_64 (Nat.le_of_ble_eq_true rfl) (Nat.le_of_ble_eq_true rfl) (gDi (by unfold f_noStitch; rw [if_neg (by omega), show tno f - 1 = c by omega]; first | (rw [if_pos h48]; done) | (rw [if_neg (by rw [h48]; decide), if_neg hl]; done)))
  · refine g_iconst (v := nI 2) dX8_noStitch_51 rfl ?_
    refine g_goto (tgt := 64) dX8_noStitch_52 (by decide) ?_
    exact g_ireturn rfl rfl dX8_noStitch_64 (Nat.le_of_ble_eq_true rfl) (Nat.le_of_ble_eq_true rfl) (gDi (by unfold f_noStitch; rw [if_neg (by omega), show tno f - 1 = c by omega]; first | (rw [if_pos h48]; done) | (rw [if_neg (by rw [h48]; decide), if_neg hl]; done)))
theorem m_noStitch1 (hr : RowAt M r f) (hI : Rng f) (ht : tno f = c + 1) : Runs mX8_noStitch [.ref r] M z (gD (some (.int (nI (f_noStitch f)))) M z) := by
  have h459 := t459 hI ht
  have hc5 : c < 5 := by have := hI.tlt; omega
  refine runs_of plX8 rfl (Nat.le_of_ble_eq_true rfl) ?_
  show WP mX8_noStitch 0 [some (.ref r), none] [] M z 0 0 _
  refine g_aload_0 dX8_noStitch_0 ?_
  refine g_sipush (v := nI 459) dX8_noStitch_1 rfl ?_
  refine g_ialdN dX8_noStitch_4 hr (by omega) (by decide) ?_
  rw [h459]
  refine g_if_neN (tgt := 10) dX8_noStitch_5 (by decide) (by omega) (fun _ => ?_) (fun h5 => absurd h5 (by omega))
  refine g_aload_0 dX8_noStitch_10 ?_
  refine g_aload_0 dX8_noStitch_11 ?_
  refine g_sipush (v := nI 459) dX8_noStitch_12 rfl ?_
  refine g_ialdN dX8_noStitch_15 hr (by omega) (by decide) ?_
  rw [h459]
  refine g_iconst (v := nI 1) dX8_noStitch_16 rfl ?_
  refine g_isubN dX8_noStitch_17 (by omega) ?_
  rw [show c + 1 - 1 = c by omega]
  refine g_iconst (v := nI 0) dX8_noStitch_18 rfl ?_
  refine g_s3_1 dX8_noStitch_19 (sX8_65 rfl) rfl (Nat.le_of_ble_eq_true rfl) ⟨rfl, rfl⟩ (Nat.le_of_ble_eq_true rfl) (Nat.le_of_ble_eq_true rfl) (m_cone hr hc5 (by decide)) ?_
  refine g_aload_0 dX8_noStitch_22 ?_
  refine g_sipush (v := nI 460) dX8_noStitch_23 rfl ?_
  refine g_ialdN dX8_noStitch_26 hr (by omega) (by decide) ?_
  refine g_s1_1 dX8_noStitch_27 (sX8_83 rfl) rfl (Nat.le_of_ble_eq_true rfl) ⟨rfl, rfl⟩ (Nat.le_of_ble_eq_true rfl) (Nat.le_of_ble_eq_true rfl) (m_yarn) ?_
  refine g_icmp_ge (tgt := 37) dX8_noStitch_30 (by decide)  (fun h30 => ?_) (fun h30 => ?_)
  · refine g_iconst (v := nI 0) dX8_noStitch_37 rfl ?_
    first
      | exact m_noSt38_1 hr hI ht (Int32.not_le.mp h30)
      | exact m_noSt38_0 hr hI ht (Int32.not_lt.mpr h30)
  · refine g_iconst (v := nI 1) dX8_noStitch_33 rfl ?_
    refine g_goto (tgt := 38) dX8_noStitch_34 (by decide) ?_
    first
      | exact m_noSt38_1 hr hI ht (Int32.not_le.mp h30)
      | exact m_noSt38_0 hr hI ht (Int32.not_lt.mpr h30)
theorem m_noStitch (hr : RowAt M r f) (hI : Rng f) : Runs mX8_noStitch [.ref r] M z (gD (some (.int (nI (f_noStitch f)))) M z) := by
  cases ht : tno f with
  | zero => exact m_noStitch0 hr hI ht
  | succ c => exact m_noStitch1 hr hI ht
end P31

section P16
variable {M : Hp} {z y j sc : Nat} {k p fl e w : Nat → Int32} {x : Int32}
def YarnAt (M : Hp) (y : Nat) (k p fl e w : Nat → Int32) : Prop := M y = some (.inr (6, [.ref (y + 1), .ref (y + 2), .ref (y + 3), .ref (y + 4), .ref (y + 5)])) ∧ M (y + 1) = some (aI 5 k) ∧ M (y + 2) = some (aI 5 p) ∧ M (y + 3) = some (aI 5 fl) ∧ M (y + 4) = some (aI 5 e) ∧ M (y + 5) = some (aI 5 w)
/-- what is taken where so much is wanted -/
def tkv (has many : Int32) : Int32 := if has < many then has else many
theorem c_onCone (hc : YarnAt M y k p fl e w) (hj : j < 5) : Runs mX6_onCone [.ref y, .int (nI j)] M z (gD (some (.int (k j))) M z) := by
  have hc0 := hc
  obtain ⟨h0, h1, h2, h3, h4, h5⟩ := hc
  refine runs_of plX6 rfl (Nat.le_of_ble_eq_true rfl) ?_
  show WP mX6_onCone 0 [some (.ref y), some (.int (nI j))] [] M z 0 0 _
  refine g_iload_1 dX6_onCone_0 ?_
  refine g_if_ltN (tgt := 18) dX6_onCone_1 (by decide) (by omega) ?_
  refine g_iload_1 dX6_onCone_4 ?_
  refine g_iconst (v := nI 5) dX6_onCone_5 rfl ?_
  refine g_icmp_geN (tgt := 18) dX6_onCone_6 (by decide) (by omega) (by omega) (fun h6 => absurd h6 (by omega)) (fun _ => ?_)
  refine g_aload_0 dX6_onCone_9 ?_
  refine g_get dX6_onCone_10 (fX6_9 rfl) (by assumption) rfl ?_
  refine g_iload_1 dX6_onCone_13 ?_
  refine g_ialdN dX6_onCone_14 (by assumption) (by omega) (by decide) ?_
  refine g_goto (tgt := 19) dX6_onCone_15 (by decide) ?_
  exact g_ireturn rfl rfl dX6_onCone_19 (Nat.le_of_ble_eq_true rfl) (Nat.le_of_ble_eq_true rfl) (gDi rfl)
theorem c_hasEnd (hc : YarnAt M y k p fl e w) (hj : j < 5) : Runs mX6_hasEnd [.ref y, .int (nI j)] M z (gD (some (.int (bI (decide (nI 20 ≤ k j))))) M z) := by
  have hc0 := hc
  obtain ⟨h0, h1, h2, h3, h4, h5⟩ := hc
  refine runs_of plX6 rfl (Nat.le_of_ble_eq_true rfl) ?_
  show WP mX6_hasEnd 0 [some (.ref y), some (.int (nI j))] [] M z 0 0 _
  refine g_aload_0 dX6_hasEnd_0 ?_
  refine g_iload_1 dX6_hasEnd_1 ?_
  refine g_v1_1 dX6_hasEnd_2 (vX6_33 rfl) rfl (by assumption) (Nat.le_of_ble_eq_true rfl) ⟨rfl, rfl⟩ (Nat.le_of_ble_eq_true rfl) (Nat.le_of_ble_eq_true rfl) (c_onCone hc0 hj) ?_
  refine g_bipush (v := nI 20) dX6_hasEnd_5 rfl ?_
  refine g_icmp_lt (tgt := 14) dX6_hasEnd_7 (by decide)  (fun h7 => ?_) (fun h7 => ?_)
  · refine g_iconst (v := nI 0) dX6_hasEnd_14 rfl ?_
    exact g_ireturn rfl rfl dX6_hasEnd_15 (Nat.le_of_ble_eq_true rfl) (Nat.le_of_ble_eq_true rfl) (gDb (by simp only [bI, decide_eq_true_eq]; first | rw [if_pos (Int32.not_lt.mp h7)] | rw [if_neg (Int32.not_le.mpr h7)]))
  · refine g_iconst (v := nI 1) dX6_hasEnd_10 rfl ?_
    refine g_goto (tgt := 15) dX6_hasEnd_11 (by decide) ?_
    exact g_ireturn rfl rfl dX6_hasEnd_15 (Nat.le_of_ble_eq_true rfl) (Nat.le_of_ble_eq_true rfl) (gDb (by simp only [bI, decide_eq_true_eq]; first | rw [if_pos (Int32.not_lt.mp h7)] | rw [if_neg (Int32.not_le.mpr h7)]))
theorem c_drawn (hc : YarnAt M y k p fl e w) (hj : j < 5) : Runs mX6_drawn [.ref y, .int (nI j)] M z (gD (some (.int (p j - k j))) M z) := by
  have hc0 := hc
  obtain ⟨h0, h1, h2, h3, h4, h5⟩ := hc
  refine runs_of plX6 rfl (Nat.le_of_ble_eq_true rfl) ?_
  show WP mX6_drawn 0 [some (.ref y), some (.int (nI j))] [] M z 0 0 _
  refine g_iload_1 dX6_drawn_0 ?_
  refine g_if_ltN (tgt := 25) dX6_drawn_1 (by decide) (by omega) ?_
  refine g_iload_1 dX6_drawn_4 ?_
  refine g_iconst (v := nI 5) dX6_drawn_5 rfl ?_
  refine g_icmp_geN (tgt := 25) dX6_drawn_6 (by decide) (by omega) (by omega) (fun h6 => absurd h6 (by omega)) (fun _ => ?_)
  refine g_aload_0 dX6_drawn_9 ?_
  refine g_get dX6_drawn_10 (fX6_15 rfl) (by assumption) rfl ?_
  refine g_iload_1 dX6_drawn_13 ?_
  refine g_ialdN dX6_drawn_14 (by assumption) (by omega) (by decide) ?_
  refine g_aload_0 dX6_drawn_15 ?_
  refine g_get dX6_drawn_16 (fX6_9 rfl) (by assumption) rfl ?_
  refine g_iload_1 dX6_drawn_19 ?_
  refine g_ialdN dX6_drawn_20 (by assumption) (by omega) (by decide) ?_
  refine g_isub dX6_drawn_21 ?_
  refine g_goto (tgt := 26) dX6_drawn_22 (by decide) ?_
  exact g_ireturn rfl rfl dX6_drawn_26 (Nat.le_of_ble_eq_true rfl) (Nat.le_of_ble_eq_true rfl) (gDi rfl)
theorem c_wasted (hc : YarnAt M y k p fl e w) (hj : j < 5) : Runs mX6_wasted [.ref y, .int (nI j)] M z (gD (some (.int (w j))) M z) := by
  have hc0 := hc
  obtain ⟨h0, h1, h2, h3, h4, h5⟩ := hc
  refine runs_of plX6 rfl (Nat.le_of_ble_eq_true rfl) ?_
  show WP mX6_wasted 0 [some (.ref y), some (.int (nI j))] [] M z 0 0 _
  refine g_iload_1 dX6_wasted_0 ?_
  refine g_if_ltN (tgt := 18) dX6_wasted_1 (by decide) (by omega) ?_
  refine g_iload_1 dX6_wasted_4 ?_
  refine g_iconst (v := nI 5) dX6_wasted_5 rfl ?_
  refine g_icmp_geN (tgt := 18) dX6_wasted_6 (by decide) (by omega) (by omega) (fun h6 => absurd h6 (by omega)) (fun _ => ?_)
  refine g_aload_0 dX6_wasted_9 ?_
  refine g_get dX6_wasted_10 (fX6_24 rfl) (by assumption) rfl ?_
  refine g_iload_1 dX6_wasted_13 ?_
  refine g_ialdN dX6_wasted_14 (by assumption) (by omega) (by decide) ?_
  refine g_goto (tgt := 19) dX6_wasted_15 (by decide) ?_
  exact g_ireturn rfl rfl dX6_wasted_19 (Nat.le_of_ble_eq_true rfl) (Nat.le_of_ble_eq_true rfl) (gDi rfl)
theorem c_outsideLoops (hc : YarnAt M y k p fl e w) (hj : j < 5) : Runs mX6_outsideLoops [.ref y, .int (nI j)] M z (gD (some (.int (fl j + e j + w j))) M z) := by
  have hc0 := hc
  obtain ⟨h0, h1, h2, h3, h4, h5⟩ := hc
  refine runs_of plX6 rfl (Nat.le_of_ble_eq_true rfl) ?_
  show WP mX6_outsideLoops 0 [some (.ref y), some (.int (nI j))] [] M z 0 0 _
  refine g_iload_1 dX6_outsideLoops_0 ?_
  refine g_if_ltN (tgt := 32) dX6_outsideLoops_1 (by decide) (by omega) ?_
  refine g_iload_1 dX6_outsideLoops_4 ?_
  refine g_iconst (v := nI 5) dX6_outsideLoops_5 rfl ?_
  refine g_icmp_geN (tgt := 32) dX6_outsideLoops_6 (by decide) (by omega) (by omega) (fun h6 => absurd h6 (by omega)) (fun _ => ?_)
  refine g_aload_0 dX6_outsideLoops_9 ?_
  refine g_get dX6_outsideLoops_10 (fX6_18 rfl) (by assumption) rfl ?_
  refine g_iload_1 dX6_outsideLoops_13 ?_
  refine g_ialdN dX6_outsideLoops_14 (by assumption) (by omega) (by decide) ?_
  refine g_aload_0 dX6_outsideLoops_15 ?_
  refine g_get dX6_outsideLoops_16 (fX6_21 rfl) (by assumption) rfl ?_
  refine g_iload_1 dX6_outsideLoops_19 ?_
  refine g_ialdN dX6_outsideLoops_20 (by assumption) (by omega) (by decide) ?_
  refine g_iadd dX6_outsideLoops_21 ?_
  refine g_aload_0 dX6_outsideLoops_22 ?_
  refine g_get dX6_outsideLoops_23 (fX6_24 rfl) (by assumption) rfl ?_
  refine g_iload_1 dX6_outsideLoops_26 ?_
  refine g_ialdN dX6_outsideLoops_27 (by assumption) (by omega) (by decide) ?_
  refine g_iadd dX6_outsideLoops_28 ?_
  refine g_goto (tgt := 33) dX6_outsideLoops_29 (by decide) ?_
  exact g_ireturn rfl rfl dX6_outsideLoops_33 (Nat.le_of_ble_eq_true rfl) (Nat.le_of_ble_eq_true rfl) (gDi rfl)
theorem c_putOn (hc : YarnAt M y k p fl e w) (hj : j < 5) : Runs mX6_putOn [.ref y, .int (nI j), .int x] M z (gD none (hpu (hpu M (y + 1) (aI 5 (upd k j (k j + x)))) (y + 2) (aI 5 (upd p j (p j + x)))) z) := by
  have hc0 := hc
  obtain ⟨h0, h1, h2, h3, h4, h5⟩ := hc
  refine runs_of plX6 rfl (Nat.le_of_ble_eq_true rfl) ?_
  show WP mX6_putOn 0 [some (.ref y), some (.int (nI j)), some (.int x)] [] M z 0 0 _
  refine g_iload_1 dX6_putOn_0 ?_
  refine g_if_ltN (tgt := 29) dX6_putOn_1 (by decide) (by omega) ?_
  refine g_iload_1 dX6_putOn_4 ?_
  refine g_iconst (v := nI 5) dX6_putOn_5 rfl ?_
  refine g_icmp_geN (tgt := 29) dX6_putOn_6 (by decide) (by omega) (by omega) (fun h6 => absurd h6 (by omega)) (fun _ => ?_)
  refine g_aload_0 dX6_putOn_9 ?_
  refine g_get dX6_putOn_10 (fX6_9 rfl) (by assumption) rfl ?_
  refine g_iload_1 dX6_putOn_13 ?_
  refine g_dup2 dX6_putOn_14 rfl rfl ?_
  refine g_ialdN dX6_putOn_15 (by assumption) (by omega) (by decide) ?_
  refine g_iload_2 dX6_putOn_16 ?_
  refine g_iadd dX6_putOn_17 ?_
  refine g_iastN dX6_putOn_18 (by assumption) (by omega) (by decide) ?_
  refine g_aload_0 dX6_putOn_19 ?_
  refine g_get dX6_putOn_20 (fX6_15 rfl) (by rw [hpu_ne _ _ (show y ≠ y + 1 by omega)]; exact h0) rfl ?_
  refine g_iload_1 dX6_putOn_23 ?_
  refine g_dup2 dX6_putOn_24 rfl rfl ?_
  refine g_ialdN dX6_putOn_25 (by rw [hpu_ne _ _ (show y + 2 ≠ y + 1 by omega)]; exact h2) (by omega) (by decide) ?_
  refine g_iload_2 dX6_putOn_26 ?_
  refine g_iadd dX6_putOn_27 ?_
  refine g_iastN dX6_putOn_28 (by rw [hpu_ne _ _ (show y + 2 ≠ y + 1 by omega)]; exact h2) (by omega) (by decide) ?_
  exact g_return rfl dX6_putOn_29 (Nat.le_of_ble_eq_true rfl) (Nat.le_of_ble_eq_true rfl) (gDv rfl)
theorem c_draw (hc : YarnAt M y k p fl e w) (hj : j < 5) : Runs mX6_draw [.ref y, .int (nI j), .int x] M z (gD (some (.int (tkv (k j) x))) (hpu M (y + 1) (aI 5 (upd k j (k j - tkv (k j) x)))) z) := by
  have hc0 := hc
  obtain ⟨h0, h1, h2, h3, h4, h5⟩ := hc
  refine runs_of plX6 rfl (Nat.le_of_ble_eq_true rfl) ?_
  show WP mX6_draw 0 [some (.ref y), some (.int (nI j)), some (.int x), none] [] M z 0 0 _
  refine g_iload_1 dX6_draw_0 ?_
  refine g_if_ltN (tgt := 9) dX6_draw_1 (by decide) (by omega) ?_
  refine g_iload_1 dX6_draw_4 ?_
  refine g_iconst (v := nI 5) dX6_draw_5 rfl ?_
  refine g_icmp_ltN (tgt := 11) dX6_draw_6 (by decide) (by omega) (by omega) (fun _ => ?_) (fun h6 => absurd h6 (by omega))
  refine g_aload_0 dX6_draw_11 ?_
  refine g_get dX6_draw_12 (fX6_9 rfl) (by assumption) rfl ?_
  refine g_iload_1 dX6_draw_15 ?_
  refine g_ialdN dX6_draw_16 (by assumption) (by omega) (by decide) ?_
  refine g_iload_2 dX6_draw_17 ?_
  refine g_icmp_ge (tgt := 30) dX6_draw_18 (by decide)  (fun h18 => ?_) (fun h18 => ?_)
  · refine g_iload_2 dX6_draw_30 ?_
    refine g_istore_3 rfl dX6_draw_31 ?_
    refine g_aload_0 dX6_draw_32 ?_
    refine g_get dX6_draw_33 (fX6_9 rfl) (by assumption) rfl ?_
    refine g_iload_1 dX6_draw_36 ?_
    refine g_dup2 dX6_draw_37 rfl rfl ?_
    refine g_ialdN dX6_draw_38 (by assumption) (by omega) (by decide) ?_
    refine g_iload_3 dX6_draw_39 ?_
    refine g_isub dX6_draw_40 ?_
    refine g_iastN dX6_draw_41 (by assumption) (by omega) (by decide) ?_
    refine g_iload_3 dX6_draw_42 ?_
    exact g_ireturn rfl rfl dX6_draw_43 (Nat.le_of_ble_eq_true rfl) (Nat.le_of_ble_eq_true rfl) (by first | (rw [show tkv (k j) x = k j from if_pos (Int32.not_le.mp h18)]; exact gDi2 rfl rfl) | (rw [show tkv (k j) x = x from if_neg (Int32.not_lt.mpr h18)]; exact gDi2 rfl rfl))
  · refine g_aload_0 dX6_draw_21 ?_
    refine g_get dX6_draw_22 (fX6_9 rfl) (by assumption) rfl ?_
    refine g_iload_1 dX6_draw_25 ?_
    refine g_ialdN dX6_draw_26 (by assumption) (by omega) (by decide) ?_
    refine g_goto (tgt := 31) dX6_draw_27 (by decide) ?_
    refine g_istore_3 rfl dX6_draw_31 ?_
    refine g_aload_0 dX6_draw_32 ?_
    refine g_get dX6_draw_33 (fX6_9 rfl) (by assumption) rfl ?_
    refine g_iload_1 dX6_draw_36 ?_
    refine g_dup2 dX6_draw_37 rfl rfl ?_
    refine g_ialdN dX6_draw_38 (by assumption) (by omega) (by decide) ?_
    refine g_iload_3 dX6_draw_39 ?_
    refine g_isub dX6_draw_40 ?_
    refine g_iastN dX6_draw_41 (by assumption) (by omega) (by decide) ?_
    refine g_iload_3 dX6_draw_42 ?_
    exact g_ireturn rfl rfl dX6_draw_43 (Nat.le_of_ble_eq_true rfl) (Nat.le_of_ble_eq_true rfl) (by first | (rw [show tkv (k j) x = k j from if_pos (Int32.not_le.mp h18)]; exact gDi2 rfl rfl) | (rw [show tkv (k j) x = x from if_neg (Int32.not_lt.mpr h18)]; exact gDi2 rfl rfl))
theorem c_drawFloat (hc : YarnAt M y k p fl e w) (hj : j < 5) : Runs mX6_drawFloat [.ref y, .int (nI j), .int x] M z (gD none (hpu (hpu M (y + 1) (aI 5 (upd k j (k j - tkv (k j) x)))) (y + 3) (aI 5 (upd fl j (fl j + tkv (k j) x)))) z) := by
  have hc0 := hc
  obtain ⟨h0, h1, h2, h3, h4, h5⟩ := hc
  refine runs_of plX6 rfl (Nat.le_of_ble_eq_true rfl) ?_
  show WP mX6_drawFloat 0 [some (.ref y), some (.int (nI j)), some (.int x), none] [] M z 0 0 _
  refine g_aload_0 dX6_drawFloat_0 ?_
  refine g_iload_1 dX6_drawFloat_1 ?_
  refine g_iload_2 dX6_drawFloat_2 ?_
  refine g_v2_1 dX6_drawFloat_3 (vX6_37 rfl) rfl (by assumption) (Nat.le_of_ble_eq_true rfl) ⟨rfl, rfl⟩ (Nat.le_of_ble_eq_true rfl) (Nat.le_of_ble_eq_true rfl) (c_draw hc0 hj) ?_
  refine g_istore_3 rfl dX6_drawFloat_6 ?_
  refine g_iload_1 dX6_drawFloat_7 ?_
  refine g_if_ltN (tgt := 26) dX6_drawFloat_8 (by decide) (by omega) ?_
  refine g_iload_1 dX6_drawFloat_11 ?_
  refine g_iconst (v := nI 5) dX6_drawFloat_12 rfl ?_
  refine g_icmp_geN (tgt := 26) dX6_drawFloat_13 (by decide) (by omega) (by omega) (fun h13 => absurd h13 (by omega)) (fun _ => ?_)
  refine g_aload_0 dX6_drawFloat_16 ?_
  refine g_get dX6_drawFloat_17 (fX6_18 rfl) (by rw [hpu_ne _ _ (show y ≠ y + 1 by omega)]; exact h0) rfl ?_
  refine g_iload_1 dX6_drawFloat_20 ?_
  refine g_dup2 dX6_drawFloat_21 rfl rfl ?_
  refine g_ialdN dX6_drawFloat_22 (by rw [hpu_ne _ _ (show y + 3 ≠ y + 1 by omega)]; exact h3) (by omega) (by decide) ?_
  refine g_iload_3 dX6_drawFloat_23 ?_
  refine g_iadd dX6_drawFloat_24 ?_
  refine g_iastN dX6_drawFloat_25 (by rw [hpu_ne _ _ (show y + 3 ≠ y + 1 by omega)]; exact h3) (by omega) (by decide) ?_
  exact g_return rfl dX6_drawFloat_26 (Nat.le_of_ble_eq_true rfl) (Nat.le_of_ble_eq_true rfl) (gDv rfl)
theorem c_drawEnd (hc : YarnAt M y k p fl e w) (hj : j < 5) : Runs mX6_drawEnd [.ref y, .int (nI j)] M z (gD none (hpu (hpu M (y + 1) (aI 5 (upd k j (k j - tkv (k j) (nI 20))))) (y + 4) (aI 5 (upd e j (e j + tkv (k j) (nI 20))))) z) := by
  have hc0 := hc
  obtain ⟨h0, h1, h2, h3, h4, h5⟩ := hc
  refine runs_of plX6 rfl (Nat.le_of_ble_eq_true rfl) ?_
  show WP mX6_drawEnd 0 [some (.ref y), some (.int (nI j)), none] [] M z 0 0 _
  refine g_aload_0 dX6_drawEnd_0 ?_
  refine g_iload_1 dX6_drawEnd_1 ?_
  refine g_bipush (v := nI 20) dX6_drawEnd_2 rfl ?_
  refine g_v2_1 dX6_drawEnd_4 (vX6_37 rfl) rfl (by assumption) (Nat.le_of_ble_eq_true rfl) ⟨rfl, rfl⟩ (Nat.le_of_ble_eq_true rfl) (Nat.le_of_ble_eq_true rfl) (c_draw hc0 hj) ?_
  refine g_istore_2 rfl dX6_drawEnd_7 ?_
  refine g_iload_1 dX6_drawEnd_8 ?_
  refine g_if_ltN (tgt := 27) dX6_drawEnd_9 (by decide) (by omega) ?_
  refine g_iload_1 dX6_drawEnd_12 ?_
  refine g_iconst (v := nI 5) dX6_drawEnd_13 rfl ?_
  refine g_icmp_geN (tgt := 27) dX6_drawEnd_14 (by decide) (by omega) (by omega) (fun h14 => absurd h14 (by omega)) (fun _ => ?_)
  refine g_aload_0 dX6_drawEnd_17 ?_
  refine g_get dX6_drawEnd_18 (fX6_21 rfl) (by rw [hpu_ne _ _ (show y ≠ y + 1 by omega)]; exact h0) rfl ?_
  refine g_iload_1 dX6_drawEnd_21 ?_
  refine g_dup2 dX6_drawEnd_22 rfl rfl ?_
  refine g_ialdN dX6_drawEnd_23 (by rw [hpu_ne _ _ (show y + 4 ≠ y + 1 by omega)]; exact h4) (by omega) (by decide) ?_
  refine g_iload_2 dX6_drawEnd_24 ?_
  refine g_iadd dX6_drawEnd_25 ?_
  refine g_iastN dX6_drawEnd_26 (by rw [hpu_ne _ _ (show y + 4 ≠ y + 1 by omega)]; exact h4) (by omega) (by decide) ?_
  exact g_return rfl dX6_drawEnd_27 (Nat.le_of_ble_eq_true rfl) (Nat.le_of_ble_eq_true rfl) (gDv rfl)
theorem c_addWaste (hc : YarnAt M y k p fl e w) (hj : j < 5) : Runs mX6_addWaste [.ref y, .int (nI j), .int x] M z (gD none (hpu M (y + 5) (aI 5 (upd w j (w j + x)))) z) := by
  have hc0 := hc
  obtain ⟨h0, h1, h2, h3, h4, h5⟩ := hc
  refine runs_of plX6 rfl (Nat.le_of_ble_eq_true rfl) ?_
  show WP mX6_addWaste 0 [some (.ref y), some (.int (nI j)), some (.int x)] [] M z 0 0 _
  refine g_iload_1 dX6_addWaste_0 ?_
  refine g_if_ltN (tgt := 19) dX6_addWaste_1 (by decide) (by omega) ?_
  refine g_iload_1 dX6_addWaste_4 ?_
  refine g_iconst (v := nI 5) dX6_addWaste_5 rfl ?_
  refine g_icmp_geN (tgt := 19) dX6_addWaste_6 (by decide) (by omega) (by omega) (fun h6 => absurd h6 (by omega)) (fun _ => ?_)
  refine g_aload_0 dX6_addWaste_9 ?_
  refine g_get dX6_addWaste_10 (fX6_24 rfl) (by assumption) rfl ?_
  refine g_iload_1 dX6_addWaste_13 ?_
  refine g_dup2 dX6_addWaste_14 rfl rfl ?_
  refine g_ialdN dX6_addWaste_15 (by assumption) (by omega) (by decide) ?_
  refine g_iload_2 dX6_addWaste_16 ?_
  refine g_iadd dX6_addWaste_17 ?_
  refine g_iastN dX6_addWaste_18 (by assumption) (by omega) (by decide) ?_
  exact g_return rfl dX6_addWaste_19 (Nat.le_of_ble_eq_true rfl) (Nat.le_of_ble_eq_true rfl) (gDv rfl)
/-- a text: length len, signs g -/
def ScriptAt (M : Hp) (sc len : Nat) (g : Nat → Nat) : Prop := M sc = some (.inr (5, [.ref (sc + 1), .int (nI len)])) ∧ M (sc + 1) = some (aC 120 (fun i => nI (g i)))
def CharsOK (g : Nat → Nat) : Prop := ∀ i, g i < 256
def sgn (len : Nat) (g : Nat → Nat) (i : Nat) : Nat := if i < len then g i else 0
variable {len i : Nat} {g : Nat → Nat}
theorem sgn_lt (hg : CharsOK g) : sgn len g i < 256 := by
  unfold sgn; split
  · exact hg i
  · decide
theorem nar_char : ∀ v, v < 256 → narrow .char (.int (nI v)) = .int (nI v) := by decide +kernel
theorem fit_char : ∀ v, v < 256 → fits .char (.int (nI v)) = true := by decide +kernel
theorem c_signAt (hc : ScriptAt M sc len g) (hg : CharsOK g) (hl : len ≤ 120) (hi : i < 2 ^ 31) : Runs mX5_signAt [.ref sc, .int (nI i)] M z (gD (some (.int (nI (sgn len g i)))) M z) := by
  have hc0 := hc
  obtain ⟨h0, h1⟩ := hc
  have hgi := hg i
  refine runs_of plX5 rfl (Nat.le_of_ble_eq_true rfl) ?_
  show WP mX5_signAt 0 [some (.ref sc), some (.int (nI i))] [] M z 0 0 _
  refine g_iload_1 dX5_signAt_0 ?_
  refine g_if_ltN (tgt := 27) dX5_signAt_1 (by decide) (by omega) ?_
  refine g_iload_1 dX5_signAt_4 ?_
  refine g_aload_0 dX5_signAt_5 ?_
  refine g_get dX5_signAt_6 (fX5_15 rfl) (by assumption) rfl ?_
  refine g_icmp_geN (tgt := 27) dX5_signAt_9 (by decide) (by omega) (by omega) (fun h9 => ?_) (fun h9 => ?_)
  · refine g_iconst (v := nI 0) dX5_signAt_27 rfl ?_
    exact g_ireturn rfl (nar_char _ (by omega)) dX5_signAt_28 (Nat.le_of_ble_eq_true rfl) (Nat.le_of_ble_eq_true rfl) (gDi (by simp only [sgn]; first | rw [if_neg (by omega)] | rw [if_pos (by omega)]))
  · refine g_iload_1 dX5_signAt_12 ?_
    refine g_bipush (v := nI 120) dX5_signAt_13 rfl ?_
    refine g_icmp_geN (tgt := 27) dX5_signAt_15 (by decide) (by omega) (by omega) (fun h15 => absurd h15 (by omega)) (fun _ => ?_)
    refine g_aload_0 dX5_signAt_18 ?_
    refine g_get dX5_signAt_19 (fX5_9 rfl) (by assumption) rfl ?_
    refine g_iload_1 dX5_signAt_22 ?_
    refine g_caldN dX5_signAt_23 (by assumption) (by omega) (by decide) ?_
    refine g_goto (tgt := 28) dX5_signAt_24 (by decide) ?_
    exact g_ireturn rfl (nar_char _ (by omega)) dX5_signAt_28 (Nat.le_of_ble_eq_true rfl) (Nat.le_of_ble_eq_true rfl) (gDi (by simp only [sgn]; first | rw [if_neg (by omega)] | rw [if_pos (by omega)]))
theorem c_digitAt (hc : ScriptAt M sc len g) (hg : CharsOK g) (hl : len ≤ 120) (hi : i < 2 ^ 31) : Runs mX5_digitAt [.ref sc, .int (nI i)] M z (gD (some (.int (nI (sgn len g i) - nI 48))) M z) := by
  have hc0 := hc
  obtain ⟨h0, h1⟩ := hc
  have hgi := hg i
  refine runs_of plX5 rfl (Nat.le_of_ble_eq_true rfl) ?_
  show WP mX5_digitAt 0 [some (.ref sc), some (.int (nI i))] [] M z 0 0 _
  refine g_aload_0 dX5_digitAt_0 ?_
  refine g_iload_1 dX5_digitAt_1 ?_
  refine g_v1_1 dX5_digitAt_2 (vX5_25 rfl) rfl (by assumption) (Nat.le_of_ble_eq_true rfl) ⟨rfl, rfl⟩ (Nat.le_of_ble_eq_true rfl) (Nat.le_of_ble_eq_true rfl) (c_signAt hc0 hg hl hi) ?_
  refine g_bipush (v := nI 48) dX5_digitAt_5 rfl ?_
  refine g_isub dX5_digitAt_7 ?_
  exact g_ireturn rfl rfl dX5_digitAt_8 (Nat.le_of_ble_eq_true rfl) (Nat.le_of_ble_eq_true rfl) (gDi rfl)
end P16

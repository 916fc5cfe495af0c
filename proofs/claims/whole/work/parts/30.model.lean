section P30
variable {M M0 : Hp} {z r r2 c j i n : Nat} {f g : Row} {x y : Int32} {v lo hi : Int64} {Φ : GR → Hp → Nat → Prop}
theorem lgl (x y : Int64) : lg_cmp x y < 0 ↔ x < y := by rw [← Int32.not_le, lg_cmp_ge, Int64.not_le]
theorem lgg (x y : Int64) : 0 < lg_cmp x y ↔ y < x := by
  unfold lg_cmp
  split
  · next h => exact ⟨fun _ => h, fun _ => by decide⟩
  · next h =>
    split
    · exact ⟨fun q => absurd q (by decide), fun q => absurd q h⟩
    · exact ⟨fun q => absurd q (by decide), fun q => absurd q h⟩
theorem in32 {x : Int32} {a b : Nat} (ha : a < 2 ^ 31) (hb : b < 2 ^ 31) : (decide (lN a ≤ x.toInt64) && decide (x.toInt64 ≤ lN b)) = (decide (nI a ≤ x) && decide (x ≤ nI b)) := by
  have e1 : lN a ≤ x.toInt64 ↔ nI a ≤ x := by rw [Int64.le_iff_toInt_le, Int32.le_iff_toInt_le, lN_toInt ha, nI_toInt ha, Int32.toInt_toInt64]
  have e2 : x.toInt64 ≤ lN b ↔ x ≤ nI b := by rw [Int64.le_iff_toInt_le, Int32.le_iff_toInt_le, lN_toInt hb, nI_toInt hb, Int32.toInt_toInt64]
  rw [decide_eq_decide.mpr e1, decide_eq_decide.mpr e2]
def RowAt (M : Hp) (r : Nat) (f : Row) : Prop := M r = some (aI 947 f)
theorem hpu_hpu {M : Hp} {a : Nat} {e e' : GE} : hpu (hpu M a e) a e' = hpu M a e' := by
  funext b
  simp only [hpu]
  split <;> rfl
theorem hpu_id {M : Hp} {a : Nat} {e : GE} (h : M a = some e) : hpu M a e = M := by
  funext b
  simp only [hpu]
  split
  · next q => rw [q, h]
  · rfl
theorem m_in  : Runs mX8_in [.long v, .long lo, .long hi] M z (gD (some (.int (bI (decide (lo ≤ v) && decide (v ≤ hi))))) M z) := by
  refine runs_of plX8 rfl (Nat.le_of_ble_eq_true rfl) ?_
  show WP mX8_in 0 [some (.long v), none, some (.long lo), none, some (.long hi), none] [] M z 0 0 _
  refine g_lload_0 dX8_in_0 ?_
  refine g_lload_2 dX8_in_1 ?_
  refine g_lcmp dX8_in_2 ?_
  refine g_if_lt (tgt := 17) dX8_in_3 (by decide)  (fun h3 => ?_) (fun h3 => ?_)
  · refine g_iconst (v := nI 0) dX8_in_17 rfl ?_
    exact g_ireturn rfl rfl dX8_in_18 (Nat.le_of_ble_eq_true rfl) (Nat.le_of_ble_eq_true rfl) (gDi (by first | exact gBt (by rw [decide_eq_true (Int64.not_lt.mp (fun q => h3 ((lgl _ _).mpr q))), decide_eq_true (Int64.not_lt.mp (fun q => h10 ((lgg _ _).mpr q)))]; rfl) | exact gBf (by rw [decide_eq_false (Int64.not_le.mpr ((lgl _ _).mp h3))]; rfl) | exact gBf (by rw [decide_eq_false (p := v ≤ hi) (Int64.not_le.mpr ((lgg _ _).mp h10))]; simp)))
  · refine g_lload_0 dX8_in_6 ?_
    refine g_lload_4 dX8_in_7 ?_
    refine g_lcmp dX8_in_9 ?_
    refine g_if_gt (tgt := 17) dX8_in_10 (by decide)  (fun h10 => ?_) (fun h10 => ?_)
    · refine g_iconst (v := nI 0) dX8_in_17 rfl ?_
      exact g_ireturn rfl rfl dX8_in_18 (Nat.le_of_ble_eq_true rfl) (Nat.le_of_ble_eq_true rfl) (gDi (by first | exact gBt (by rw [decide_eq_true (Int64.not_lt.mp (fun q => h3 ((lgl _ _).mpr q))), decide_eq_true (Int64.not_lt.mp (fun q => h10 ((lgg _ _).mpr q)))]; rfl) | exact gBf (by rw [decide_eq_false (Int64.not_le.mpr ((lgl _ _).mp h3))]; rfl) | exact gBf (by rw [decide_eq_false (p := v ≤ hi) (Int64.not_le.mpr ((lgg _ _).mp h10))]; simp)))
    · refine g_iconst (v := nI 1) dX8_in_13 rfl ?_
      refine g_goto (tgt := 18) dX8_in_14 (by decide) ?_
      exact g_ireturn rfl rfl dX8_in_18 (Nat.le_of_ble_eq_true rfl) (Nat.le_of_ble_eq_true rfl) (gDi (by first | exact gBt (by rw [decide_eq_true (Int64.not_lt.mp (fun q => h3 ((lgl _ _).mpr q))), decide_eq_true (Int64.not_lt.mp (fun q => h10 ((lgg _ _).mpr q)))]; rfl) | exact gBf (by rw [decide_eq_false (Int64.not_le.mpr ((lgl _ _).mp h3))]; rfl) | exact gBf (by rw [decide_eq_false (p := v ≤ hi) (Int64.not_le.mpr ((lgg _ _).mp h10))]; simp)))
theorem m_inI {a b : Nat} (ha : a < 2 ^ 31) (hb : b < 2 ^ 31) (hlo : lo = lN a) (hhi : hi = lN b) : Runs mX8_in [.long x.toInt64, .long lo, .long hi] M z (gD (some (.int (bI (decide (nI a ≤ x) && decide (x ≤ nI b))))) M z) := by
  subst hlo
  subst hhi
  rw [← in32 ha hb]
  exact m_in
theorem m_isCell  : Runs mX8_isCell [.int x] M z (gD (some (.int (bI (decide (nI 0 ≤ x) && decide (x ≤ nI 143))))) M z) := by
  refine runs_of plX8 rfl (Nat.le_of_ble_eq_true rfl) ?_
  show WP mX8_isCell 0 [some (.int x)] [] M z 0 0 _
  refine g_iload_0 dX8_isCell_0 ?_
  refine g_i2l dX8_isCell_1 ?_
  refine g_lconst (vl := 0) dX8_isCell_2 rfl ?_
  refine g_ldc2 dX8_isCell_3 (zX8_51 rfl) ?_
  refine g_s3_1 dX8_isCell_6 (sX8_53 rfl) rfl (Nat.le_of_ble_eq_true rfl) ⟨rfl, rfl⟩ (Nat.le_of_ble_eq_true rfl) (Nat.le_of_ble_eq_true rfl) (m_inI (by decide) (by decide) rfl rfl) ?_
  exact g_ireturn rfl (bI_narrow _) dX8_isCell_9 (Nat.le_of_ble_eq_true rfl) (Nat.le_of_ble_eq_true rfl) (gDi rfl)
theorem m_isColour  : Runs mX8_isColour [.int x] M z (gD (some (.int (bI (decide (nI 0 ≤ x) && decide (x ≤ nI 4))))) M z) := by
  refine runs_of plX8 rfl (Nat.le_of_ble_eq_true rfl) ?_
  show WP mX8_isColour 0 [some (.int x)] [] M z 0 0 _
  refine g_iload_0 dX8_isColour_0 ?_
  refine g_i2l dX8_isColour_1 ?_
  refine g_lconst (vl := 0) dX8_isColour_2 rfl ?_
  refine g_ldc2 dX8_isColour_3 (zX8_57 rfl) ?_
  refine g_s3_1 dX8_isColour_6 (sX8_53 rfl) rfl (Nat.le_of_ble_eq_true rfl) ⟨rfl, rfl⟩ (Nat.le_of_ble_eq_true rfl) (Nat.le_of_ble_eq_true rfl) (m_inI (by decide) (by decide) rfl rfl) ?_
  exact g_ireturn rfl (bI_narrow _) dX8_isColour_9 (Nat.le_of_ble_eq_true rfl) (Nat.le_of_ble_eq_true rfl) (gDi rfl)
theorem m_hasLoop (hr : RowAt M r f) (hj : j < 144) : Runs mX8_hasLoop [.ref r, .int (nI j)] M z (gD (some (.int (bI (hasL (f (144 + j)))))) M z) := by
  refine runs_of plX8 rfl (Nat.le_of_ble_eq_true rfl) ?_
  show WP mX8_hasLoop 0 [some (.ref r), some (.int (nI j))] [] M z 0 0 _
  refine g_aload_0 dX8_hasLoop_0 ?_
  refine g_sipush (v := nI 144) dX8_hasLoop_1 rfl ?_
  refine g_iload_1 dX8_hasLoop_4 ?_
  refine g_iaddN dX8_hasLoop_5 ?_
  refine g_ialdN dX8_hasLoop_6 hr (by omega) (by decide) ?_
  refine g_i2l dX8_hasLoop_7 ?_
  refine g_lconst (vl := 1) dX8_hasLoop_8 rfl ?_
  refine g_ldc2 dX8_hasLoop_9 (zX8_59 rfl) ?_
  refine g_s3_1 dX8_hasLoop_12 (sX8_53 rfl) rfl (Nat.le_of_ble_eq_true rfl) ⟨rfl, rfl⟩ (Nat.le_of_ble_eq_true rfl) (Nat.le_of_ble_eq_true rfl) (m_inI (by decide) (by decide) rfl rfl) ?_
  exact g_ireturn rfl (bI_narrow _) dX8_hasLoop_15 (Nat.le_of_ble_eq_true rfl) (Nat.le_of_ble_eq_true rfl) (gDi rfl)
theorem m_yarn  : Runs mX8_yarn [.int x] M z (gD (some (.int (f_yarn x))) M z) := by
  refine runs_of plX8 rfl (Nat.le_of_ble_eq_true rfl) ?_
  show WP mX8_yarn 0 [some (.int x)] [] M z 0 0 _
  refine g_iconst (v := nI 2) dX8_yarn_0 rfl ?_
  refine g_iload_0 dX8_yarn_1 ?_
  refine g_imul dX8_yarn_2 ?_
  refine g_iconst (v := nI 4) dX8_yarn_3 rfl ?_
  refine g_iadd dX8_yarn_4 ?_
  exact g_ireturn rfl rfl dX8_yarn_5 (Nat.le_of_ble_eq_true rfl) (Nat.le_of_ble_eq_true rfl) (gDi rfl)
theorem m_isMissing (hr : RowAt M r f) (hj : j < 144) : Runs mX8_isMissing [.ref r, .int (nI j)] M z (gD (some (.int (bI (missF f j)))) M z) := by
  refine runs_of plX8 rfl (Nat.le_of_ble_eq_true rfl) ?_
  show WP mX8_isMissing 0 [some (.ref r), some (.int (nI j))] [] M z 0 0 _
  refine g_aload_0 dX8_isMissing_0 ?_
  refine g_iload_1 dX8_isMissing_1 ?_
  refine g_ialdN dX8_isMissing_2 hr (by omega) (by decide) ?_
  refine g_if_le (tgt := 18) dX8_isMissing_3 (by decide)  (fun h3 => ?_) (fun h3 => ?_)
  · refine g_iconst (v := nI 0) dX8_isMissing_18 rfl ?_
    exact g_ireturn rfl rfl dX8_isMissing_19 (Nat.le_of_ble_eq_true rfl) (Nat.le_of_ble_eq_true rfl) (gDi (by unfold missF; first | exact gBt (by rw [h11, decide_eq_true (by rw [nI_0]; exact Int32.not_le.mp h3)]; rfl) | exact gBf (by rw [h11]; simp) | exact gBf (by rw [decide_eq_false (by rw [nI_0]; exact Int32.not_lt.mpr h3)]; rfl)))
  · refine g_aload_0 dX8_isMissing_6 ?_
    refine g_iload_1 dX8_isMissing_7 ?_
    refine g_s2_1 dX8_isMissing_8 (sX8_61 rfl) rfl (Nat.le_of_ble_eq_true rfl) ⟨rfl, rfl⟩ (Nat.le_of_ble_eq_true rfl) (Nat.le_of_ble_eq_true rfl) (m_hasLoop hr hj) ?_
    refine g_if_neB (tgt := 18) dX8_isMissing_11 (by decide)  (fun h11 => ?_) (fun h11 => ?_)
    · refine g_iconst (v := nI 0) dX8_isMissing_18 rfl ?_
      exact g_ireturn rfl rfl dX8_isMissing_19 (Nat.le_of_ble_eq_true rfl) (Nat.le_of_ble_eq_true rfl) (gDi (by unfold missF; first | exact gBt (by rw [h11, decide_eq_true (by rw [nI_0]; exact Int32.not_le.mp h3)]; rfl) | exact gBf (by rw [h11]; simp) | exact gBf (by rw [decide_eq_false (by rw [nI_0]; exact Int32.not_lt.mpr h3)]; rfl)))
    · refine g_iconst (v := nI 1) dX8_isMissing_14 rfl ?_
      refine g_goto (tgt := 19) dX8_isMissing_15 (by decide) ?_
      exact g_ireturn rfl rfl dX8_isMissing_19 (Nat.le_of_ble_eq_true rfl) (Nat.le_of_ble_eq_true rfl) (gDi (by unfold missF; first | exact gBt (by rw [h11, decide_eq_true (by rw [nI_0]; exact Int32.not_le.mp h3)]; rfl) | exact gBf (by rw [h11]; simp) | exact gBf (by rw [decide_eq_false (by rw [nI_0]; exact Int32.not_lt.mpr h3)]; rfl)))
theorem m_cone (hr : RowAt M r f) (hc : c < 5) (hn : n < 5) : Runs mX8_cone [.ref r, .int (nI c), .int (nI n)] M z (gD (some (.int (f (432 + 5 * c + n)))) M z) := by
  refine runs_of plX8 rfl (Nat.le_of_ble_eq_true rfl) ?_
  show WP mX8_cone 0 [some (.ref r), some (.int (nI c)), some (.int (nI n))] [] M z 0 0 _
  refine g_aload_0 dX8_cone_0 ?_
  refine g_sipush (v := nI 432) dX8_cone_1 rfl ?_
  refine g_iconst (v := nI 5) dX8_cone_4 rfl ?_
  refine g_iload_1 dX8_cone_5 ?_
  refine g_imulN dX8_cone_6 ?_
  refine g_iaddN dX8_cone_7 ?_
  refine g_iload_2 dX8_cone_8 ?_
  refine g_iaddN dX8_cone_9 ?_
  refine g_ialdN dX8_cone_10 hr (by omega) (by decide) ?_
  exact g_ireturn rfl rfl dX8_cone_11 (Nat.le_of_ble_eq_true rfl) (Nat.le_of_ble_eq_true rfl) (gDi rfl)
theorem m_drawn (hr : RowAt M r f) (hc : c < 5) : Runs mX8_drawn [.ref r, .int (nI c)] M z (gD (some (.int (f_drawn f c))) M z) := by
  refine runs_of plX8 rfl (Nat.le_of_ble_eq_true rfl) ?_
  show WP mX8_drawn 0 [some (.ref r), some (.int (nI c))] [] M z 0 0 _
  refine g_aload_0 dX8_drawn_0 ?_
  refine g_iload_1 dX8_drawn_1 ?_
  refine g_iconst (v := nI 1) dX8_drawn_2 rfl ?_
  refine g_s3_1 dX8_drawn_3 (sX8_65 rfl) rfl (Nat.le_of_ble_eq_true rfl) ⟨rfl, rfl⟩ (Nat.le_of_ble_eq_true rfl) (Nat.le_of_ble_eq_true rfl) (m_cone hr hc (by decide)) ?_
  refine g_aload_0 dX8_drawn_6 ?_
  refine g_iload_1 dX8_drawn_7 ?_
  refine g_iconst (v := nI 0) dX8_drawn_8 rfl ?_
  refine g_s3_1 dX8_drawn_9 (sX8_65 rfl) rfl (Nat.le_of_ble_eq_true rfl) ⟨rfl, rfl⟩ (Nat.le_of_ble_eq_true rfl) (Nat.le_of_ble_eq_true rfl) (m_cone hr hc (by decide)) ?_
  refine g_isub dX8_drawn_12 ?_
  exact g_ireturn rfl rfl dX8_drawn_13 (Nat.le_of_ble_eq_true rfl) (Nat.le_of_ble_eq_true rfl) (gDi (by unfold f_drawn; rw [show 432 + 5 * c + 1 = 433 + 5 * c by omega]; rfl))
theorem m_draw20 {w : Int32} (hr : RowAt M r f) (hc : c < 5) (hn : n < 5) (hw : w = tkv (f (432 + 5 * c)) x) : WP mX8_draw 20 [some (.ref r), some (.int (nI c)), some (.int x), some (.int (nI n)), some (.int y), none] [.int w] M z 0 0 (gD none (hpu M r (aI 947 (f_draw f c x n))) z) := by
  refine g_istore_5 rfl dX8_draw_20 ?_
  refine g_aload_0 dX8_draw_22 ?_
  refine g_sipush (v := nI 432) dX8_draw_23 rfl ?_
  refine g_iconst (v := nI 5) dX8_draw_26 rfl ?_
  refine g_iload_1 dX8_draw_27 ?_
  refine g_imulN dX8_draw_28 ?_
  refine g_iaddN dX8_draw_29 ?_
  refine g_dup2 dX8_draw_30 rfl rfl ?_
  refine g_ialdN dX8_draw_31 hr (by omega) (by decide) ?_
  refine g_iload_5 dX8_draw_32 ?_
  refine g_isub dX8_draw_34 ?_
  refine g_iastN dX8_draw_35 hr (by omega) (by decide) ?_
  have hr1 : RowAt (hpu M r (aI 947 (upd f (432 + 5 * c) (f (432 + 5 * c) - w)))) r (upd f (432 + 5 * c) (f (432 + 5 * c) - w)) := hpu_same _ _ _
  refine g_iload_3 dX8_draw_36 ?_
  refine g_if_leN (tgt := 56) dX8_draw_37 (by decide) (by omega) (fun h37 => ?_) (fun h37 => ?_)
  · exact g_return rfl dX8_draw_56 (Nat.le_of_ble_eq_true rfl) (Nat.le_of_ble_eq_true rfl) (by first | exact gDv (by unfold f_draw; rw [if_neg h37, hw, hpu_hpu]) | exact gDv (by unfold f_draw; rw [if_pos h37, hw]))
  · refine g_aload_0 dX8_draw_40 ?_
    refine g_sipush (v := nI 432) dX8_draw_41 rfl ?_
    refine g_iconst (v := nI 5) dX8_draw_44 rfl ?_
    refine g_iload_1 dX8_draw_45 ?_
    refine g_imulN dX8_draw_46 ?_
    refine g_iaddN dX8_draw_47 ?_
    refine g_iload_3 dX8_draw_48 ?_
    refine g_iaddN dX8_draw_49 ?_
    refine g_dup2 dX8_draw_50 rfl rfl ?_
    refine g_ialdN dX8_draw_51 hr1 (by omega) (by decide) ?_
    refine g_iload_5 dX8_draw_52 ?_
    refine g_iadd dX8_draw_54 ?_
    refine g_iastN dX8_draw_55 hr1 (by omega) (by decide) ?_
    exact g_return rfl dX8_draw_56 (Nat.le_of_ble_eq_true rfl) (Nat.le_of_ble_eq_true rfl) (by first | exact gDv (by unfold f_draw; rw [if_neg h37, hw, hpu_hpu]) | exact gDv (by unfold f_draw; rw [if_pos h37, hw]))
theorem m_draw (hr : RowAt M r f) (hc : c < 5) (hn : n < 5) : Runs mX8_draw [.ref r, .int (nI c), .int x, .int (nI n)] M z (gD none (hpu M r (aI 947 (f_draw f c x n))) z) := by
  refine runs_of plX8 rfl (Nat.le_of_ble_eq_true rfl) ?_
  show WP mX8_draw 0 [some (.ref r), some (.int (nI c)), some (.int x), some (.int (nI n)), none, none] [] M z 0 0 _
  refine g_aload_0 dX8_draw_0 ?_
  refine g_iload_1 dX8_draw_1 ?_
  refine g_iconst (v := nI 0) dX8_draw_2 rfl ?_
  refine g_s3_1 dX8_draw_3 (sX8_65 rfl) rfl (Nat.le_of_ble_eq_true rfl) ⟨rfl, rfl⟩ (Nat.le_of_ble_eq_true rfl) (Nat.le_of_ble_eq_true rfl) (m_cone hr hc (by decide)) ?_
  refine g_istore_4 rfl dX8_draw_6 ?_
  refine g_iload_4 dX8_draw_8 ?_
  refine g_iload_2 dX8_draw_10 ?_
  refine g_icmp_ge (tgt := 19) dX8_draw_11 (by decide)  (fun h11 => ?_) (fun h11 => ?_)
  · have hgo : x = tkv (f (432 + 5 * c)) x := by unfold tkv; rw [if_neg (show ¬ f (432 + 5 * c) < x from Int32.not_lt.mpr h11)]
    refine g_iload_2 dX8_draw_19 ?_
    exact m_draw20 hr hc hn hgo
  · have hgo : f (432 + 5 * c) = tkv (f (432 + 5 * c)) x := by unfold tkv; rw [if_pos (show f (432 + 5 * c) < x from Int32.not_le.mp h11)]
    refine g_iload_4 dX8_draw_14 ?_
    refine g_goto (tgt := 20) dX8_draw_16 (by decide) ?_
    exact m_draw20 hr hc hn hgo
end P30

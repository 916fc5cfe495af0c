section P34
variable {M M0 : Hp} {z r r2 c j i n : Nat} {f g : Row} {x y w : Int32} {Φ : GR → Hp → Nat → Prop}
theorem m_noMending (hr : RowAt M r f) (hI : Rng f) (hj : j < 144) : Runs mX8_noMending [.ref r, .int (nI j)] M z (gD (some (.int (nI (f_noMend f j)))) M z) := by
  refine runs_of plX8 rfl (Nat.le_of_ble_eq_true rfl) ?_
  show WP mX8_noMending 0 [some (.ref r), some (.int (nI j))] [] M z 0 0 _
  refine g_aload_0 dX8_noMending_0 ?_
  refine g_iload_1 dX8_noMending_1 ?_
  refine g_s2_1 dX8_noMending_2 (sX8_195 rfl) rfl (Nat.le_of_ble_eq_true rfl) ⟨rfl, rfl⟩ (Nat.le_of_ble_eq_true rfl) (Nat.le_of_ble_eq_true rfl) (m_isMissing hr hj) ?_
  refine g_if_neB (tgt := 12) dX8_noMending_5 (by decide)  (fun h5 => ?_) (fun h5 => ?_)
  · obtain ⟨p1, p2, p3⟩ := hI.plan hj h5
    have p4 : gv f j - 1 < 5 := by omega
    refine g_aload_0 dX8_noMending_12 ?_
    refine g_aload_0 dX8_noMending_13 ?_
    refine g_iload_1 dX8_noMending_14 ?_
    refine g_ialdN dX8_noMending_15 hr (by omega) (by decide) ?_
    refine g_iconst (v := nI 1) dX8_noMending_16 rfl ?_
    refine g_isub dX8_noMending_17 ?_
    rw [p3]
    refine g_iconst (v := nI 0) dX8_noMending_18 rfl ?_
    refine g_s3_1 dX8_noMending_19 (sX8_65 rfl) rfl (Nat.le_of_ble_eq_true rfl) ⟨rfl, rfl⟩ (Nat.le_of_ble_eq_true rfl) (Nat.le_of_ble_eq_true rfl) (m_cone hr p4 (by decide)) ?_
    refine g_aload_0 dX8_noMending_22 ?_
    refine g_sipush (v := nI 460) dX8_noMending_23 rfl ?_
    refine g_ialdN dX8_noMending_26 hr (by omega) (by decide) ?_
    refine g_s1_1 dX8_noMending_27 (sX8_83 rfl) rfl (Nat.le_of_ble_eq_true rfl) ⟨rfl, rfl⟩ (Nat.le_of_ble_eq_true rfl) (Nat.le_of_ble_eq_true rfl) (m_yarn) ?_
    refine g_icmp_ge (tgt := 37) dX8_noMending_30 (by decide)  (fun h30 => ?_) (fun h30 => ?_)
    · refine g_iconst (v := nI 0) dX8_noMending_37 rfl ?_
      exact g_ireturn rfl rfl dX8_noMending_38 (Nat.le_of_ble_eq_true rfl) (Nat.le_of_ble_eq_true rfl) (gDi (by unfold f_noMend; first | (rw [if_neg (by rw [h5]; decide)]; done) | (rw [if_pos h5, if_pos (show f (432 + 5 * (gv f j - 1)) < f_yarn (f 460) from Int32.not_le.mp h30)]; done) | (rw [if_pos h5, if_neg (show ¬ f (432 + 5 * (gv f j - 1)) < f_yarn (f 460) from Int32.not_lt.mpr h30)]; done)))
    · refine g_iconst (v := nI 2) dX8_noMending_33 rfl ?_
      refine g_goto (tgt := 38) dX8_noMending_34 (by decide) ?_
      exact g_ireturn rfl rfl dX8_noMending_38 (Nat.le_of_ble_eq_true rfl) (Nat.le_of_ble_eq_true rfl) (gDi (by unfold f_noMend; first | (rw [if_neg (by rw [h5]; decide)]; done) | (rw [if_pos h5, if_pos (show f (432 + 5 * (gv f j - 1)) < f_yarn (f 460) from Int32.not_le.mp h30)]; done) | (rw [if_pos h5, if_neg (show ¬ f (432 + 5 * (gv f j - 1)) < f_yarn (f 460) from Int32.not_lt.mpr h30)]; done)))
  · refine g_iconst (v := nI 1) dX8_noMending_8 rfl ?_
    refine g_goto (tgt := 38) dX8_noMending_9 (by decide) ?_
    exact g_ireturn rfl rfl dX8_noMending_38 (Nat.le_of_ble_eq_true rfl) (Nat.le_of_ble_eq_true rfl) (gDi (by unfold f_noMend; first | (rw [if_neg (by rw [h5]; decide)]; done) | (rw [if_pos h5, if_pos (show f (432 + 5 * (gv f j - 1)) < f_yarn (f 460) from Int32.not_le.mp h30)]; done) | (rw [if_pos h5, if_neg (show ¬ f (432 + 5 * (gv f j - 1)) < f_yarn (f 460) from Int32.not_lt.mpr h30)]; done)))
theorem m_jump_loop {n : Nat} (hn : n < 2 ^ 31) : ∀ k d {f : Row} {M : Hp}, RowAt M r f → Rng f → d + k = n → WP mX8_goJump 2 [some (.ref r), some (.int (nI n)), some (.int (nI (d)))] [] M z 0 0 (gD (some (.int (nI (d + (f_jump k f).2)))) (hpu M r (aI 947 (f_jump k f).1)) z) := by
  intro k
  induction k with
  | zero =>
    intro d f M hr hI hd
    refine g_iload_2 dX8_goJump_2 ?_
    refine g_iload_1 dX8_goJump_3 ?_
    refine g_icmp_geN (tgt := 77) dX8_goJump_4 (by decide) (by omega) (by omega) (fun _ => ?_) (fun h4 => absurd h4 (by omega))
    refine g_iload_2 dX8_goJump_77 ?_
    exact g_ireturn rfl rfl dX8_goJump_78 (Nat.le_of_ble_eq_true rfl) (Nat.le_of_ble_eq_true rfl) ⟨rfl, (hpu_id hr).symm, rfl⟩
  | succ k ih =>
    intro d f M hr hI hd
    cases hto : f_to f with
    | none =>
      have es : f_jump (k + 1) f = (f, 0) := by
        simp only [f_jump]; rw [if_neg (by rw [hto]; decide)]
      refine g_iload_2 dX8_goJump_2 ?_
      refine g_iload_1 dX8_goJump_3 ?_
      refine g_icmp_geN (tgt := 77) dX8_goJump_4 (by decide) (by omega) (by omega) (fun h4 => absurd h4 (by omega)) (fun _ => ?_)
      refine g_aload_0 dX8_goJump_7 ?_
      refine g_sipush (v := nI 457) dX8_goJump_8 rfl ?_
      refine g_ialdN dX8_goJump_11 hr (by omega) (by decide) ?_
      rw [hI.nde]
      refine g_aload_0 dX8_goJump_12 ?_
      refine g_sipush (v := nI 458) dX8_goJump_13 rfl ?_
      refine g_ialdN dX8_goJump_16 hr (by omega) (by decide) ?_
      rw [hI.hde]
      refine g_s2_1 dX8_goJump_17 (sX8_91 rfl) rfl (Nat.le_of_ble_eq_true rfl) ⟨rfl, rfl⟩ (Nat.le_of_ble_eq_true rfl) (Nat.le_of_ble_eq_true rfl) (m_next hI.ndl hI.hdl) ?_
      rw [show besd (nd f) (hdg f) = none from hto, show oI none = -1 from rfl]
      refine g_iconst (v := -1) dX8_goJump_20 rfl ?_
      refine g_icmp_eq (tgt := 77) dX8_goJump_21 (by decide)  (fun _ => ?_) (fun h21 => absurd rfl h21)
      refine g_iload_2 dX8_goJump_77 ?_
      exact g_ireturn rfl rfl dX8_goJump_78 (Nat.le_of_ble_eq_true rfl) (Nat.le_of_ble_eq_true rfl) ⟨by rw [es]; rfl, by rw [es]; exact (hpu_id hr).symm, rfl⟩
    | some k1 =>
      have hk1 := to_lt hI hto
      have es : f_jump (k + 1) f = ((f_jump k (f_jump1 f)).1, (f_jump k (f_jump1 f)).2 + 1) := by
        simp only [f_jump]; rw [if_pos (by rw [hto]; rfl)]
      have eg : f_goOn f = upd f 457 (nI k1) := by unfold f_goOn; rw [hto]
      have et : tno (upd f 457 (nI k1)) = tno f := gv_ne (by decide)
      cases ht : tno f with
      | zero =>
        have h459 := t459z hI ht
        have ej : f_jump1 f = upd f 457 (nI k1) := by
          unfold f_jump1
          simp only []
          rw [eg, et, ht, if_neg (by decide)]
        refine g_iload_2 dX8_goJump_2 ?_
        refine g_iload_1 dX8_goJump_3 ?_
        refine g_icmp_geN (tgt := 77) dX8_goJump_4 (by decide) (by omega) (by omega) (fun h4 => absurd h4 (by omega)) (fun _ => ?_)
        refine g_aload_0 dX8_goJump_7 ?_
        refine g_sipush (v := nI 457) dX8_goJump_8 rfl ?_
        refine g_ialdN dX8_goJump_11 hr (by omega) (by decide) ?_
        rw [hI.nde]
        refine g_aload_0 dX8_goJump_12 ?_
        refine g_sipush (v := nI 458) dX8_goJump_13 rfl ?_
        refine g_ialdN dX8_goJump_16 hr (by omega) (by decide) ?_
        rw [hI.hde]
        refine g_s2_1 dX8_goJump_17 (sX8_91 rfl) rfl (Nat.le_of_ble_eq_true rfl) ⟨rfl, rfl⟩ (Nat.le_of_ble_eq_true rfl) (Nat.le_of_ble_eq_true rfl) (m_next hI.ndl hI.hdl) ?_
        rw [show besd (nd f) (hdg f) = some k1 from hto, show oI (some k1) = nI k1 from rfl]
        refine g_iconst (v := -1) dX8_goJump_20 rfl ?_
        refine g_icmp_eq (tgt := 77) dX8_goJump_21 (by decide)  (fun h21 => absurd h21 (nI_nm1 (by omega))) (fun _ => ?_)
        refine g_aload_0 dX8_goJump_24 ?_
        refine g_sipush (v := nI 457) dX8_goJump_25 rfl ?_
        refine g_aload_0 dX8_goJump_28 ?_
        refine g_sipush (v := nI 457) dX8_goJump_29 rfl ?_
        refine g_ialdN dX8_goJump_32 hr (by omega) (by decide) ?_
        rw [hI.nde]
        refine g_aload_0 dX8_goJump_33 ?_
        refine g_sipush (v := nI 458) dX8_goJump_34 rfl ?_
        refine g_ialdN dX8_goJump_37 hr (by omega) (by decide) ?_
        rw [hI.hde]
        refine g_s2_1 dX8_goJump_38 (sX8_91 rfl) rfl (Nat.le_of_ble_eq_true rfl) ⟨rfl, rfl⟩ (Nat.le_of_ble_eq_true rfl) (Nat.le_of_ble_eq_true rfl) (m_next hI.ndl hI.hdl) ?_
        rw [show besd (nd f) (hdg f) = some k1 from hto, show oI (some k1) = nI k1 from rfl]
        refine g_iastN dX8_goJump_41 hr (by omega) (by decide) ?_
        have hr1 := RowAt.put (M := M) (r := r) (f := upd f 457 (nI k1))
        try rw [hpu_hpu]
        refine g_aload_0 dX8_goJump_42 ?_
        refine g_sipush (v := nI 459) dX8_goJump_43 rfl ?_
        refine g_ialdN dX8_goJump_46 hr1 (by omega) (by decide) ?_
        rw [show (upd f 457 (nI k1)) 459 = f 459 from upd_ne (by decide), h459]
        refine g_if_leN (tgt := 71) dX8_goJump_47 (by decide) (by omega) (fun _ => ?_) (fun h47 => absurd h47 (by omega))
        refine g_iincN_2 (q := 1) rfl dX8_goJump_71 rfl ?_
        refine g_goto (tgt := 2) dX8_goJump_74 (by decide) ?_
        have e := ih (d + 1) (RowAt.put (M := M) (r := r) (f := f_jump1 f)) hI.jump1 (by omega)
        rw [hpu_hpu, show d + 1 + (f_jump k (f_jump1 f)).2 = d + ((f_jump k (f_jump1 f)).2 + 1) by omega] at e
        rw [es]
        rw [ej] at e
        rw [ej]
        exact e
      | succ c =>
        have h459 := t459 hI ht
        have hc5 : c < 5 := by have := hI.tlt; omega
        have ej : f_jump1 f = f_pull (upd f 457 (nI k1)) c (nI 8) 2 ((upd f 457 (nI k1)) 461 + nI 1) := by
          unfold f_jump1
          simp only []
          rw [eg, et, ht, if_pos (by omega), show c + 1 - 1 = c by omega]
        refine g_iload_2 dX8_goJump_2 ?_
        refine g_iload_1 dX8_goJump_3 ?_
        refine g_icmp_geN (tgt := 77) dX8_goJump_4 (by decide) (by omega) (by omega) (fun h4 => absurd h4 (by omega)) (fun _ => ?_)
        refine g_aload_0 dX8_goJump_7 ?_
        refine g_sipush (v := nI 457) dX8_goJump_8 rfl ?_
        refine g_ialdN dX8_goJump_11 hr (by omega) (by decide) ?_
        rw [hI.nde]
        refine g_aload_0 dX8_goJump_12 ?_
        refine g_sipush (v := nI 458) dX8_goJump_13 rfl ?_
        refine g_ialdN dX8_goJump_16 hr (by omega) (by decide) ?_
        rw [hI.hde]
        refine g_s2_1 dX8_goJump_17 (sX8_91 rfl) rfl (Nat.le_of_ble_eq_true rfl) ⟨rfl, rfl⟩ (Nat.le_of_ble_eq_true rfl) (Nat.le_of_ble_eq_true rfl) (m_next hI.ndl hI.hdl) ?_
        rw [show besd (nd f) (hdg f) = some k1 from hto, show oI (some k1) = nI k1 from rfl]
        refine g_iconst (v := -1) dX8_goJump_20 rfl ?_
        refine g_icmp_eq (tgt := 77) dX8_goJump_21 (by decide)  (fun h21 => absurd h21 (nI_nm1 (by omega))) (fun _ => ?_)
        refine g_aload_0 dX8_goJump_24 ?_
        refine g_sipush (v := nI 457) dX8_goJump_25 rfl ?_
        refine g_aload_0 dX8_goJump_28 ?_
        refine g_sipush (v := nI 457) dX8_goJump_29 rfl ?_
        refine g_ialdN dX8_goJump_32 hr (by omega) (by decide) ?_
        rw [hI.nde]
        refine g_aload_0 dX8_goJump_33 ?_
        refine g_sipush (v := nI 458) dX8_goJump_34 rfl ?_
        refine g_ialdN dX8_goJump_37 hr (by omega) (by decide) ?_
        rw [hI.hde]
        refine g_s2_1 dX8_goJump_38 (sX8_91 rfl) rfl (Nat.le_of_ble_eq_true rfl) ⟨rfl, rfl⟩ (Nat.le_of_ble_eq_true rfl) (Nat.le_of_ble_eq_true rfl) (m_next hI.ndl hI.hdl) ?_
        rw [show besd (nd f) (hdg f) = some k1 from hto, show oI (some k1) = nI k1 from rfl]
        refine g_iastN dX8_goJump_41 hr (by omega) (by decide) ?_
        have hr1 := RowAt.put (M := M) (r := r) (f := upd f 457 (nI k1))
        try rw [hpu_hpu]
        refine g_aload_0 dX8_goJump_42 ?_
        refine g_sipush (v := nI 459) dX8_goJump_43 rfl ?_
        refine g_ialdN dX8_goJump_46 hr1 (by omega) (by decide) ?_
        rw [show (upd f 457 (nI k1)) 459 = f 459 from upd_ne (by decide), h459]
        refine g_if_leN (tgt := 71) dX8_goJump_47 (by decide) (by omega) (fun h47 => absurd h47 (by omega)) (fun _ => ?_)
        refine g_aload_0 dX8_goJump_50 ?_
        refine g_aload_0 dX8_goJump_51 ?_
        refine g_sipush (v := nI 459) dX8_goJump_52 rfl ?_
        refine g_ialdN dX8_goJump_55 hr1 (by omega) (by decide) ?_
        rw [show (upd f 457 (nI k1)) 459 = f 459 from upd_ne (by decide), h459]
        refine g_iconst (v := nI 1) dX8_goJump_56 rfl ?_
        refine g_isubN dX8_goJump_57 (by omega) ?_
        rw [show c + 1 - 1 = c by omega]
        refine g_bipush (v := nI 8) dX8_goJump_58 rfl ?_
        refine g_iconst (v := nI 2) dX8_goJump_60 rfl ?_
        refine g_aload_0 dX8_goJump_61 ?_
        refine g_sipush (v := nI 461) dX8_goJump_62 rfl ?_
        refine g_ialdN dX8_goJump_65 hr1 (by omega) (by decide) ?_
        refine g_iconst (v := nI 1) dX8_goJump_66 rfl ?_
        refine g_iadd dX8_goJump_67 ?_
        refine g_s5_0 dX8_goJump_68 (sX8_87 rfl) rfl (Nat.le_of_ble_eq_true rfl) ⟨rfl, rfl⟩ (Nat.le_of_ble_eq_true rfl) (Nat.le_of_ble_eq_true rfl) (m_pull hr1 hc5 (by decide)) ?_
        have hr2 := RowAt.put (M := M) (r := r) (f := f_pull (upd f 457 (nI k1)) c (nI 8) 2 ((upd f 457 (nI k1)) 461 + nI 1))
        rw [hpu_hpu]
        refine g_iincN_2 (q := 1) rfl dX8_goJump_71 rfl ?_
        refine g_goto (tgt := 2) dX8_goJump_74 (by decide) ?_
        have e := ih (d + 1) (RowAt.put (M := M) (r := r) (f := f_jump1 f)) hI.jump1 (by omega)
        rw [hpu_hpu, show d + 1 + (f_jump k (f_jump1 f)).2 = d + ((f_jump k (f_jump1 f)).2 + 1) by omega] at e
        rw [es]
        rw [ej] at e
        rw [ej]
        exact e
theorem m_goJump (hr : RowAt M r f) (hI : Rng f) (hn : n < 2 ^ 31) : Runs mX8_goJump [.ref r, .int (nI n)] M z (gD (some (.int (nI (f_jump n f).2))) (hpu M r (aI 947 (f_jump n f).1)) z) := by
  refine runs_of plX8 rfl (Nat.le_of_ble_eq_true rfl) ?_
  show WP mX8_goJump 0 [some (.ref r), some (.int (nI n)), none] [] M z 0 0 _
  refine g_iconst (v := nI 0) dX8_goJump_0 rfl ?_
  refine g_istore_2 rfl dX8_goJump_1 ?_
  have e := m_jump_loop (z := z) hn n 0 hr hI (by omega)
  rw [Nat.zero_add] at e
  exact e
theorem m_shear_step {h s : Nat} (hr : RowAt M r f) (hI : Rng f) (hj : j < 144) (hs : s < 1000) (hk : WP mX8_goShear 74 [some (.ref r), some (.int (nI h)), some (.int (nI (if f_shearC f j (nI h) = true then s + 1 else s))), some (.int (nI (j)))] [] (hpu M r (aI 947 (if f_shearC f j (nI h) = true then f_shear1 f j (nI h) else f))) z 0 0 Φ)  : WP mX8_goShear 11 [some (.ref r), some (.int (nI h)), some (.int (nI (s))), some (.int (nI (j)))] [] M z 0 0 Φ := by
  refine g_aload_0 dX8_goShear_11 ?_
  refine g_iload_3 dX8_goShear_12 ?_
  refine g_s2_1 dX8_goShear_13 (sX8_61 rfl) rfl (Nat.le_of_ble_eq_true rfl) ⟨rfl, rfl⟩ (Nat.le_of_ble_eq_true rfl) (Nat.le_of_ble_eq_true rfl) (m_hasLoop hr hj) ?_
  refine g_if_eqB (tgt := 74) dX8_goShear_16 (by decide)  (fun h16 => ?_) (fun h16 => ?_)
  · have hC : ¬ f_shearC f j (nI h) = true := by unfold f_shearC; rw [h16]; simp
    rw [if_neg hC, if_neg hC, hpu_id hr] at hk
    exact hk
  · refine g_aload_0 dX8_goShear_19 ?_
    refine g_sipush (v := nI 288) dX8_goShear_20 rfl ?_
    refine g_iload_3 dX8_goShear_23 ?_
    refine g_iaddN dX8_goShear_24 ?_
    refine g_ialdN dX8_goShear_25 hr (by omega) (by decide) ?_
    refine g_iload_1 dX8_goShear_26 ?_
    refine g_icmp_le (tgt := 74) dX8_goShear_27 (by decide)  (fun h27 => ?_) (fun h27 => ?_)
    · have hC : ¬ f_shearC f j (nI h) = true := by unfold f_shearC; rw [decide_eq_false (Int32.not_lt.mpr h27)]; simp
      rw [if_neg hC, if_neg hC, hpu_id hr] at hk
      exact hk
    · have hC : f_shearC f j (nI h) = true := by unfold f_shearC; rw [h16, decide_eq_true (Int32.not_le.mp h27)]; rfl
      rw [if_pos hC, if_pos hC] at hk
      have hg := hasL_gv (hI.2.1 j hj) h16
      refine g_aload_0 dX8_goShear_30 ?_
      refine g_sipush (v := nI 432) dX8_goShear_31 rfl ?_
      refine g_iconst (v := nI 5) dX8_goShear_34 rfl ?_
      refine g_aload_0 dX8_goShear_35 ?_
      refine g_sipush (v := nI 144) dX8_goShear_36 rfl ?_
      refine g_iload_3 dX8_goShear_39 ?_
      refine g_iaddN dX8_goShear_40 ?_
      refine g_ialdN dX8_goShear_41 hr (by omega) (by decide) ?_
      rw [(hI.2.1 j hj).1]
      refine g_iconst (v := nI 1) dX8_goShear_42 rfl ?_
      refine g_isubN dX8_goShear_43 (by omega) ?_
      refine g_imulN dX8_goShear_44 ?_
      refine g_iaddN dX8_goShear_45 ?_
      refine g_iconst (v := nI 4) dX8_goShear_46 rfl ?_
      refine g_iaddN dX8_goShear_47 ?_
      rw [show 432 + 5 * (gv f (144 + j) - 1) + 4 = 436 + 5 * (gv f (144 + j) - 1) by omega]
      refine g_dup2 dX8_goShear_48 rfl rfl ?_
      refine g_ialdN dX8_goShear_49 hr (by omega) (by decide) ?_
      refine g_iconst (v := nI 2) dX8_goShear_50 rfl ?_
      refine g_aload_0 dX8_goShear_51 ?_
      refine g_sipush (v := nI 288) dX8_goShear_52 rfl ?_
      refine g_iload_3 dX8_goShear_55 ?_
      refine g_iaddN dX8_goShear_56 ?_
      refine g_ialdN dX8_goShear_57 hr (by omega) (by decide) ?_
      refine g_iload_1 dX8_goShear_58 ?_
      refine g_isub dX8_goShear_59 ?_
      refine g_imul dX8_goShear_60 ?_
      refine g_iadd dX8_goShear_61 ?_
      refine g_iastN dX8_goShear_62 hr (by omega) (by decide) ?_
      have hr1 := RowAt.put (M := M) (r := r) (f := upd f (436 + 5 * (gv f (144 + j) - 1)) (f (436 + 5 * (gv f (144 + j) - 1)) + nI 2 * (f (288 + j) - nI h)))
      try rw [hpu_hpu]
      refine g_aload_0 dX8_goShear_63 ?_
      refine g_sipush (v := nI 288) dX8_goShear_64 rfl ?_
      refine g_iload_3 dX8_goShear_67 ?_
      refine g_iaddN dX8_goShear_68 ?_
      refine g_iload_1 dX8_goShear_69 ?_
      refine g_iastN dX8_goShear_70 hr1 (by omega) (by decide) ?_
      have hr2 := RowAt.put (M := M) (r := r) (f := upd (upd f (436 + 5 * (gv f (144 + j) - 1)) (f (436 + 5 * (gv f (144 + j) - 1)) + nI 2 * (f (288 + j) - nI h))) (288 + j) (nI h))
      try rw [hpu_hpu]
      refine g_iincN_2 (q := 1) rfl dX8_goShear_71 rfl ?_
      exact hk
theorem m_shear_loop {h : Nat} (hI : Rng f) (hh : h < 10) (h0 : 0 < h) : ∀ d j {M : Hp}, j + d = 144 → RowAt M r (f_shear (nI h) j f).1 → WP mX8_goShear 4 [some (.ref r), some (.int (nI h)), some (.int (nI ((f_shear (nI h) j f).2))), some (.int (nI (j)))] [] M z 0 0 (gD (some (.int (nI (f_shear (nI h) 144 f).2))) (hpu M r (aI 947 (f_shear (nI h) 144 f).1)) z) := by
  intro d
  induction d with
  | zero =>
    intro j M hj hr
    obtain rfl : j = 144 := by omega
    refine g_iload_3 dX8_goShear_4 ?_
    refine g_sipush (v := nI 144) dX8_goShear_5 rfl ?_
    refine g_icmp_geN (tgt := 80) dX8_goShear_8 (by decide) (by omega) (by omega) (fun _ => ?_) (fun h8 => absurd h8 (by omega))
    refine g_iload_2 dX8_goShear_80 ?_
    exact g_ireturn rfl rfl dX8_goShear_81 (Nat.le_of_ble_eq_true rfl) (Nat.le_of_ble_eq_true rfl) ⟨rfl, (hpu_id hr).symm, rfl⟩
  | succ d ih =>
    intro j M hj hr
    refine g_iload_3 dX8_goShear_4 ?_
    refine g_sipush (v := nI 144) dX8_goShear_5 rfl ?_
    refine g_icmp_geN (tgt := 80) dX8_goShear_8 (by decide) (by omega) (by omega) (fun h8 => absurd h8 (by omega)) (fun _ => ?_)
    have hq := sh_le h j f
    refine m_shear_step hr (Rng.shear hh h0 j (by omega) hI) (by omega) (by omega) ?_
    have ef : f_shear (nI h) (j + 1) f = (if f_shearC (f_shear (nI h) j f).1 j (nI h) = true then f_shear1 (f_shear (nI h) j f).1 j (nI h) else (f_shear (nI h) j f).1, if f_shearC (f_shear (nI h) j f).1 j (nI h) = true then (f_shear (nI h) j f).2 + 1 else (f_shear (nI h) j f).2) := by
      conv => lhs; unfold f_shear
      simp only []
      split <;> rfl
    have e := ih (j + 1) (M := hpu M r (aI 947 (f_shear (nI h) (j + 1) f).1)) (by omega) RowAt.put
    rw [hpu_hpu, ef] at e
    refine g_iincN_3 (q := 1) rfl dX8_goShear_74 rfl ?_
    refine g_goto (tgt := 4) dX8_goShear_77 (by decide) ?_
    exact e
theorem m_goShear {h : Nat} (hr : RowAt M r f) (hI : Rng f) (hh : h < 10) (h0 : 0 < h) : Runs mX8_goShear [.ref r, .int (nI h)] M z (gD (some (.int (nI (f_shear (nI h) 144 f).2))) (hpu M r (aI 947 (f_shear (nI h) 144 f).1)) z) := by
  refine runs_of plX8 rfl (Nat.le_of_ble_eq_true rfl) ?_
  show WP mX8_goShear 0 [some (.ref r), some (.int (nI h)), none, none] [] M z 0 0 _
  refine g_iconst (v := nI 0) dX8_goShear_0 rfl ?_
  refine g_istore_2 rfl dX8_goShear_1 ?_
  refine g_iconst (v := nI 0) dX8_goShear_2 rfl ?_
  refine g_istore_3 rfl dX8_goShear_3 ?_
  exact m_shear_loop hI hh h0 144 0 rfl hr
end P34

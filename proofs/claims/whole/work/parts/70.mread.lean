section P70
variable {M M0 : Hp} {z b n len i j k c s m lo hi q d : Nat} {f t : Row} {h : Nat → Row} {sv : Nat → Option Row} {g : Nat → Nat} {x y w0 w1 w2 v : Int32} {Φ : GR → Hp → Nat → Prop} {I : Row} {A : Nat → Row} {xl yl : Int64}
theorem gD_eq {mm : GM} {as : List Value} {v w : Int32} (h : Runs mm as M z (gD (some (.int v)) M z)) (e : v = w) : Runs mm as M z (gD (some (.int w)) M z) := by
  rw [← e]
  exact h
theorem inb_t (h1 : lo ≤ j) (h2 : j ≤ hi) (h3 : hi < 2 ^ 31) : (decide (nI lo ≤ nI j) && decide (nI j ≤ nI hi)) = true := by
  rw [decide_eq_true (nI_le h1 (by omega)), decide_eq_true (nI_le h2 h3)]
  rfl
theorem inb_f (h : x < nI lo ∨ nI hi < x) : (decide (nI lo ≤ x) && decide (x ≤ nI hi)) = false := by
  rcases h with h | h
  · rw [decide_eq_false (Int32.not_le.mpr h)]; rfl
  · rw [decide_eq_false (Int32.not_le.mpr h), Bool.and_false]
theorem nI_s_le {x : Int32} (hh : hi + 1 < 2 ^ 31) (h : nI (hi + 1) ≤ x) : nI hi < x := by
  rw [Int32.le_iff_toInt_le, nI_toInt hh] at h
  rw [Int32.lt_iff_toInt_lt, nI_toInt (by omega)]
  omega
theorem out0 {x : Int32} (hh : hi + 1 < 2 ^ 31) (h : x < 0 ∨ nI (hi + 1) ≤ x) : x < nI 0 ∨ nI hi < x := h.elim (fun q => Or.inl (by rw [nI_0]; exact q)) (fun q => Or.inr (nI_s_le hh q))
theorem m_in_ok (h1 : lo ≤ j) (h2 : j ≤ hi) (h3 : hi < 2 ^ 31) (e1 : xl = lN lo) (e2 : yl = lN hi) : Runs mX8_in [.long (nI j).toInt64, .long xl, .long yl] M z (gD (some (.int (bI true))) M z) := gD_eq (m_inI (by omega) h3 e1 e2) (congrArg bI (inb_t h1 h2 h3))
theorem m_in_x (hx : x < nI lo ∨ nI hi < x) (h1 : lo < 2 ^ 31) (h3 : hi < 2 ^ 31) (e1 : xl = lN lo) (e2 : yl = lN hi) : Runs mX8_in [.long x.toInt64, .long xl, .long yl] M z (gD (some (.int (bI false))) M z) := gD_eq (m_inI h1 h3 e1 e2) (congrArg bI (inb_f hx))
theorem m_inC_ok (hx1 : ¬ x < -1) (hx2 : x ≤ nI 4) : Runs mX8_in [.long x.toInt64, .long (-1), .long 4] M z (gD (some (.int (bI true))) M z) := gD_eq m_in (congrArg bI (by
  have h1 : ((-1 : Int64) ≤ x.toInt64) := by
    rw [Int64.le_iff_toInt_le, Int32.toInt_toInt64]
    rw [Int32.lt_iff_toInt_lt] at hx1
    exact Int.not_lt.mp hx1
  have h2 : (x.toInt64 ≤ (4 : Int64)) := by
    rw [Int64.le_iff_toInt_le, Int32.toInt_toInt64]
    rw [Int32.le_iff_toInt_le] at hx2
    exact hx2
  rw [decide_eq_true h1, decide_eq_true h2]
  rfl))
theorem m_inC_x (hx : x < -1 ∨ nI 4 < x) : Runs mX8_in [.long x.toInt64, .long (-1), .long 4] M z (gD (some (.int (bI false))) M z) := gD_eq m_in (congrArg bI (by
  rcases hx with h | h
  · have h1 : ¬ ((-1 : Int64) ≤ x.toInt64) := by
      rw [Int64.le_iff_toInt_le, Int32.toInt_toInt64]
      rw [Int32.lt_iff_toInt_lt] at h
      exact Int.not_le.mpr h
    rw [decide_eq_false h1]
    rfl
  · have h1 : ¬ (x.toInt64 ≤ (4 : Int64)) := by
      rw [Int64.le_iff_toInt_le, Int32.toInt_toInt64]
      rw [Int32.lt_iff_toInt_lt] at h
      exact Int.not_le.mpr h
    rw [decide_eq_false h1, Bool.and_false]))
theorem m_isCell_ok (hj : j < 144) : Runs mX8_isCell [.int (nI j)] M z (gD (some (.int (bI true))) M z) := gD_eq m_isCell (congrArg bI (inb_t (by omega) (by omega) (by omega)))
theorem m_isCell_x (hx : x < 0 ∨ nI 144 ≤ x) : Runs mX8_isCell [.int x] M z (gD (some (.int (bI false))) M z) := gD_eq m_isCell (congrArg bI (inb_f (out0 (by omega) hx)))
theorem m_isCol_ok (hc : c < 5) : Runs mX8_isColour [.int (nI c)] M z (gD (some (.int (bI true))) M z) := gD_eq m_isColour (congrArg bI (inb_t (by omega) (by omega) (by omega)))
theorem m_isCol_x (hx : x < 0 ∨ nI 5 ≤ x) : Runs mX8_isColour [.int x] M z (gD (some (.int (bI false))) M z) := gD_eq m_isColour (congrArg bI (inb_f (out0 (by omega) hx)))
theorem m_isMot_ok (hs : s < 4) : Runs mX8_isMotif [.int (nI s)] M z (gD (some (.int (bI true))) M z) := by
  refine runs_of plX8 rfl (Nat.le_of_ble_eq_true rfl) ?_
  show WP mX8_isMotif 0 [some (.int (nI s))] [] M z 0 0 _
  refine g_iload_0 dX8_isMotif_0 ?_
  refine g_i2l dX8_isMotif_1 ?_
  refine g_lconst (vl := 0) dX8_isMotif_2 rfl ?_
  refine g_ldc2 dX8_isMotif_3 (zX8_214 rfl) ?_
  refine g_s3_1 dX8_isMotif_6 (sX8_53 rfl) rfl (Nat.le_of_ble_eq_true rfl) ⟨rfl, rfl⟩ (Nat.le_of_ble_eq_true rfl) (Nat.le_of_ble_eq_true rfl) (m_in_ok (lo := 0) (hi := 3) (by omega) (by omega) (by omega) rfl rfl) ?_
  exact g_ireturn rfl (bI_narrow _) dX8_isMotif_9 (Nat.le_of_ble_eq_true rfl) (Nat.le_of_ble_eq_true rfl) ⟨rfl, rfl, rfl⟩
theorem m_isMot_x (hx : x < 0 ∨ nI 4 ≤ x) : Runs mX8_isMotif [.int x] M z (gD (some (.int (bI false))) M z) := by
  refine runs_of plX8 rfl (Nat.le_of_ble_eq_true rfl) ?_
  show WP mX8_isMotif 0 [some (.int x)] [] M z 0 0 _
  refine g_iload_0 dX8_isMotif_0 ?_
  refine g_i2l dX8_isMotif_1 ?_
  refine g_lconst (vl := 0) dX8_isMotif_2 rfl ?_
  refine g_ldc2 dX8_isMotif_3 (zX8_214 rfl) ?_
  refine g_s3_1 dX8_isMotif_6 (sX8_53 rfl) rfl (Nat.le_of_ble_eq_true rfl) ⟨rfl, rfl⟩ (Nat.le_of_ble_eq_true rfl) (Nat.le_of_ble_eq_true rfl) (m_in_x (lo := 0) (hi := 3) (out0 (by omega) hx) (by omega) (by omega) rfl rfl) ?_
  exact g_ireturn rfl (bI_narrow _) dX8_isMotif_9 (Nat.le_of_ble_eq_true rfl) (Nat.le_of_ble_eq_true rfl) ⟨rfl, rfl, rfl⟩
theorem MoMut_eq {mm : GM} {as : List Value} {v w : Int32} {I1 I2 : Row} (h : Runs mm as M z (MMut (some (.int v)) M b I1 A z)) (e : v = w) (e2 : I1 = I2) : Runs mm as M z (MMut (some (.int w)) M b I2 A z) := by
  rw [← e, ← e2]
  exact h
theorem m_ref0 (hA : MAt M b I A) : Runs mX8_refused [.ref b, .int (nI 0)] M z (MMut (some (.int (bI false))) M b (upd I 0 (nI 0)) A z) := MoMut_eq (m_refused hA) (by decide) rfl
theorem m_refk (hA : MAt M b I A) (h1 : 1 ≤ k) (h2 : k < 4) : Runs mX8_refused [.ref b, .int (nI k)] M z (MMut (some (.int (bI true))) M b (upd I 0 (nI k)) A z) := MoMut_eq (m_refused hA) (congrArg bI (decide_eq_true (nI_ne0 h1 (by omega)))) rfl
theorem m_noC_ok (hA : MAt M b I A) (hj : j < 144) : Runs mX8_noCell [.ref b, .int (nI j)] M z (MMut (some (.int (bI false))) M b (upd I 0 (nI 0)) A z) := MoMut_eq (m_noCell hA) (by rw [inb_t (by omega) (by omega) (by omega)]; rfl) (by rw [inb_t (by omega) (by omega) (by omega)]; rfl)
theorem m_noC_x (hA : MAt M b I A) (hx : x < 0 ∨ nI 144 ≤ x) : Runs mX8_noCell [.ref b, .int x] M z (MMut (some (.int (bI true))) M b (upd I 0 (nI 1)) A z) := MoMut_eq (m_noCell hA) (by rw [inb_f (out0 (by omega) hx)]; rfl) (by rw [inb_f (out0 (by omega) hx)]; rfl)
theorem m_noK_ok (hA : MAt M b I A) (hc : c < 5) : Runs mX8_noColour [.ref b, .int (nI c)] M z (MMut (some (.int (bI false))) M b (upd I 0 (nI 0)) A z) := MoMut_eq (m_noColour hA) (by rw [inb_t (by omega) (by omega) (by omega)]; rfl) (by rw [inb_t (by omega) (by omega) (by omega)]; rfl)
theorem m_noK_x (hA : MAt M b I A) (hx : x < 0 ∨ nI 5 ≤ x) : Runs mX8_noColour [.ref b, .int x] M z (MMut (some (.int (bI true))) M b (upd I 0 (nI 1)) A z) := MoMut_eq (m_noColour hA) (by rw [inb_f (out0 (by omega) hx)]; rfl) (by rw [inb_f (out0 (by omega) hx)]; rfl)
theorem lpv_t (hb : Bd f i 7) (hl : hasL (f i) = true) : lpv (dl (f i)) = f i - nI 1 := by
  rw [lp_val hb hl]
  have h1 := hasL_gv hb hl
  conv => rhs; rw [hb.1]
  rw [pk_sub h1.1]
theorem lpv_f (hb : Bd f i 7) (hl : hasL (f i) = false) : lpv (dl (f i)) = -1 := (lp_iff hb).mpr hl
theorem n_planOf_x1 (hA : MAt M b I A) (hr : MRel I A f t n h sv len g) (hx : x < 0 ∨ nI 144 ≤ x) : Runs mX8_planOf [.ref b, .int x] M z (MoQ (some (.int (nI 0))) 1 M b (f) (t) n h sv len g z) := by
  obtain ⟨rfl, rfl, h12, hn14, h9, ⟨h11, h10⟩, h16, hl, hT⟩ := id hr
  refine runs_of plX8 rfl (Nat.le_of_ble_eq_true rfl) ?_
  show WP mX8_planOf 0 [some (.ref b), some (.int x)] [] M z 0 0 _
  refine g_aload_0 dX8_planOf_0 ?_
  refine g_iload_1 dX8_planOf_1 ?_
  refine g_v1 dX8_planOf_2 (vX8_192 rfl) rfl hA.1 (Nat.le_of_ble_eq_true rfl) (Nat.le_of_ble_eq_true rfl) (Nat.le_of_ble_eq_true rfl) (m_noC_x hA hx) (fun r1 M1 z1 hq1 => ?_) (fun E M2 z2 hq => by obtain ⟨hq, -⟩ := hq; cases hq)
  obtain ⟨hr1, hA1, hO1, hz1⟩ := hq1
  cases hr1
  subst hz1
  refine g_if_eqB (tgt := 12) dX8_planOf_5 (by decide)  (fun h5 => absurd h5 (by decide)) (fun _ => ?_)
  refine g_iconst (v := nI 0) dX8_planOf_8 rfl ?_
  refine g_goto (tgt := 20) dX8_planOf_9 (by decide) ?_
  exact g_ireturn rfl rfl dX8_planOf_20 (Nat.le_of_ble_eq_true rfl) (Nat.le_of_ble_eq_true rfl) ⟨rfl, ⟨_, _, hA1, upd_eq, hr.i0⟩, hO1, rfl⟩
theorem n_loopOf_x1 (hA : MAt M b I A) (hr : MRel I A f t n h sv len g) (hx : x < 0 ∨ nI 144 ≤ x) : Runs mX8_loopOf [.ref b, .int x] M z (MoQ (some (.int (nI 0))) 1 M b (f) (t) n h sv len g z) := by
  obtain ⟨rfl, rfl, h12, hn14, h9, ⟨h11, h10⟩, h16, hl, hT⟩ := id hr
  refine runs_of plX8 rfl (Nat.le_of_ble_eq_true rfl) ?_
  show WP mX8_loopOf 0 [some (.ref b), some (.int x)] [] M z 0 0 _
  refine g_aload_0 dX8_loopOf_0 ?_
  refine g_iload_1 dX8_loopOf_1 ?_
  refine g_v1 dX8_loopOf_2 (vX8_192 rfl) rfl hA.1 (Nat.le_of_ble_eq_true rfl) (Nat.le_of_ble_eq_true rfl) (Nat.le_of_ble_eq_true rfl) (m_noC_x hA hx) (fun r1 M1 z1 hq1 => ?_) (fun E M2 z2 hq => by obtain ⟨hq, -⟩ := hq; cases hq)
  obtain ⟨hr1, hA1, hO1, hz1⟩ := hq1
  cases hr1
  subst hz1
  refine g_if_eqB (tgt := 12) dX8_loopOf_5 (by decide)  (fun h5 => absurd h5 (by decide)) (fun _ => ?_)
  refine g_iconst (v := nI 0) dX8_loopOf_8 rfl ?_
  refine g_goto (tgt := 39) dX8_loopOf_9 (by decide) ?_
  exact g_ireturn rfl rfl dX8_loopOf_39 (Nat.le_of_ble_eq_true rfl) (Nat.le_of_ble_eq_true rfl) ⟨rfl, ⟨_, _, hA1, upd_eq, hr.i0⟩, hO1, rfl⟩
theorem n_heightOf_x1 (hA : MAt M b I A) (hr : MRel I A f t n h sv len g) (hx : x < 0 ∨ nI 144 ≤ x) : Runs mX8_heightOf [.ref b, .int x] M z (MoQ (some (.int (nI 0))) 1 M b (f) (t) n h sv len g z) := by
  obtain ⟨rfl, rfl, h12, hn14, h9, ⟨h11, h10⟩, h16, hl, hT⟩ := id hr
  refine runs_of plX8 rfl (Nat.le_of_ble_eq_true rfl) ?_
  show WP mX8_heightOf 0 [some (.ref b), some (.int x)] [] M z 0 0 _
  refine g_aload_0 dX8_heightOf_0 ?_
  refine g_iload_1 dX8_heightOf_1 ?_
  refine g_v1 dX8_heightOf_2 (vX8_192 rfl) rfl hA.1 (Nat.le_of_ble_eq_true rfl) (Nat.le_of_ble_eq_true rfl) (Nat.le_of_ble_eq_true rfl) (m_noC_x hA hx) (fun r1 M1 z1 hq1 => ?_) (fun E M2 z2 hq => by obtain ⟨hq, -⟩ := hq; cases hq)
  obtain ⟨hr1, hA1, hO1, hz1⟩ := hq1
  cases hr1
  subst hz1
  refine g_if_eqB (tgt := 12) dX8_heightOf_5 (by decide)  (fun h5 => absurd h5 (by decide)) (fun _ => ?_)
  refine g_iconst (v := nI 0) dX8_heightOf_8 rfl ?_
  refine g_goto (tgt := 37) dX8_heightOf_9 (by decide) ?_
  exact g_ireturn rfl rfl dX8_heightOf_37 (Nat.le_of_ble_eq_true rfl) (Nat.le_of_ble_eq_true rfl) ⟨rfl, ⟨_, _, hA1, upd_eq, hr.i0⟩, hO1, rfl⟩
theorem n_whyNoMending_x1 (hA : MAt M b I A) (hr : MRel I A f t n h sv len g) (hx : x < 0 ∨ nI 144 ≤ x) : Runs mX8_whyNoMending [.ref b, .int x] M z (MoQ (some (.int (nI 0))) 1 M b (f) (t) n h sv len g z) := by
  obtain ⟨rfl, rfl, h12, hn14, h9, ⟨h11, h10⟩, h16, hl, hT⟩ := id hr
  refine runs_of plX8 rfl (Nat.le_of_ble_eq_true rfl) ?_
  show WP mX8_whyNoMending 0 [some (.ref b), some (.int x)] [] M z 0 0 _
  refine g_aload_0 dX8_whyNoMending_0 ?_
  refine g_iload_1 dX8_whyNoMending_1 ?_
  refine g_v1 dX8_whyNoMending_2 (vX8_192 rfl) rfl hA.1 (Nat.le_of_ble_eq_true rfl) (Nat.le_of_ble_eq_true rfl) (Nat.le_of_ble_eq_true rfl) (m_noC_x hA hx) (fun r1 M1 z1 hq1 => ?_) (fun E M2 z2 hq => by obtain ⟨hq, -⟩ := hq; cases hq)
  obtain ⟨hr1, hA1, hO1, hz1⟩ := hq1
  cases hr1
  subst hz1
  refine g_if_eqB (tgt := 12) dX8_whyNoMending_5 (by decide)  (fun h5 => absurd h5 (by decide)) (fun _ => ?_)
  refine g_iconst (v := nI 0) dX8_whyNoMending_8 rfl ?_
  refine g_goto (tgt := 20) dX8_whyNoMending_9 (by decide) ?_
  exact g_ireturn rfl rfl dX8_whyNoMending_20 (Nat.le_of_ble_eq_true rfl) (Nat.le_of_ble_eq_true rfl) ⟨rfl, ⟨_, _, hA1, upd_eq, hr.i0⟩, hO1, rfl⟩

theorem n_isSkipped_x1 (hA : MAt M b I A) (hr : MRel I A f t n h sv len g) (hx : x < 0 ∨ nI 144 ≤ x) : Runs mX8_isSkipped [.ref b, .int x] M z (MoQ (some (.int (bI false))) 1 M b (f) (t) n h sv len g z) := by
  obtain ⟨rfl, rfl, h12, hn14, h9, ⟨h11, h10⟩, h16, hl, hT⟩ := id hr
  refine runs_of plX8 rfl (Nat.le_of_ble_eq_true rfl) ?_
  show WP mX8_isSkipped 0 [some (.ref b), some (.int x)] [] M z 0 0 _
  refine g_aload_0 dX8_isSkipped_0 ?_
  refine g_iload_1 dX8_isSkipped_1 ?_
  refine g_v1 dX8_isSkipped_2 (vX8_192 rfl) rfl hA.1 (Nat.le_of_ble_eq_true rfl) (Nat.le_of_ble_eq_true rfl) (Nat.le_of_ble_eq_true rfl) (m_noC_x hA hx) (fun r1 M1 z1 hq1 => ?_) (fun E M2 z2 hq => by obtain ⟨hq, -⟩ := hq; cases hq)
  obtain ⟨hr1, hA1, hO1, hz1⟩ := hq1
  cases hr1
  subst hz1
  refine g_if_neB (tgt := 27) dX8_isSkipped_5 (by decide)  (fun _ => ?_) (fun h5 => absurd h5 (by decide))
  refine g_iconst (v := nI 0) dX8_isSkipped_27 rfl ?_
  exact g_ireturn rfl rfl dX8_isSkipped_28 (Nat.le_of_ble_eq_true rfl) (Nat.le_of_ble_eq_true rfl) ⟨rfl, ⟨_, _, hA1, upd_eq, hr.i0⟩, hO1, rfl⟩
theorem n_areasBySpreading_x1 (hA : MAt M b I A) (hr : MRel I A f t n h sv len g) (hx : x < 0 ∨ nI 5 ≤ x) : Runs mX8_areasBySpreading [.ref b, .int x] M z (MoQ (some (.int (nI 0))) 1 M b (f) (t) n h sv len g z) := by
  obtain ⟨rfl, rfl, h12, hn14, h9, ⟨h11, h10⟩, h16, hl, hT⟩ := id hr
  refine runs_of plX8 rfl (Nat.le_of_ble_eq_true rfl) ?_
  show WP mX8_areasBySpreading 0 [some (.ref b), some (.int x)] [] M z 0 0 _
  refine g_aload_0 dX8_areasBySpreading_0 ?_
  refine g_iload_1 dX8_areasBySpreading_1 ?_
  refine g_v1 dX8_areasBySpreading_2 (vX8_201 rfl) rfl hA.1 (Nat.le_of_ble_eq_true rfl) (Nat.le_of_ble_eq_true rfl) (Nat.le_of_ble_eq_true rfl) (m_noK_x hA hx) (fun r1 M1 z1 hq1 => ?_) (fun E M2 z2 hq => by obtain ⟨hq, -⟩ := hq; cases hq)
  obtain ⟨hr1, hA1, hO1, hz1⟩ := hq1
  cases hr1
  subst hz1
  refine g_if_eqB (tgt := 12) dX8_areasBySpreading_5 (by decide)  (fun h5 => absurd h5 (by decide)) (fun _ => ?_)
  refine g_iconst (v := nI 0) dX8_areasBySpreading_8 rfl ?_
  refine g_goto (tgt := 17) dX8_areasBySpreading_9 (by decide) ?_
  exact g_ireturn rfl rfl dX8_areasBySpreading_17 (Nat.le_of_ble_eq_true rfl) (Nat.le_of_ble_eq_true rfl) ⟨rfl, ⟨_, _, hA1, upd_eq, hr.i0⟩, hO1, rfl⟩
theorem n_areasByJoining_x1 (hA : MAt M b I A) (hr : MRel I A f t n h sv len g) (hx : x < 0 ∨ nI 5 ≤ x) : Runs mX8_areasByJoining [.ref b, .int x] M z (MoQ (some (.int (nI 0))) 1 M b (f) (t) n h sv len g z) := by
  obtain ⟨rfl, rfl, h12, hn14, h9, ⟨h11, h10⟩, h16, hl, hT⟩ := id hr
  refine runs_of plX8 rfl (Nat.le_of_ble_eq_true rfl) ?_
  show WP mX8_areasByJoining 0 [some (.ref b), some (.int x)] [] M z 0 0 _
  refine g_aload_0 dX8_areasByJoining_0 ?_
  refine g_iload_1 dX8_areasByJoining_1 ?_
  refine g_v1 dX8_areasByJoining_2 (vX8_201 rfl) rfl hA.1 (Nat.le_of_ble_eq_true rfl) (Nat.le_of_ble_eq_true rfl) (Nat.le_of_ble_eq_true rfl) (m_noK_x hA hx) (fun r1 M1 z1 hq1 => ?_) (fun E M2 z2 hq => by obtain ⟨hq, -⟩ := hq; cases hq)
  obtain ⟨hr1, hA1, hO1, hz1⟩ := hq1
  cases hr1
  subst hz1
  refine g_if_eqB (tgt := 12) dX8_areasByJoining_5 (by decide)  (fun h5 => absurd h5 (by decide)) (fun _ => ?_)
  refine g_iconst (v := nI 0) dX8_areasByJoining_8 rfl ?_
  refine g_goto (tgt := 17) dX8_areasByJoining_9 (by decide) ?_
  exact g_ireturn rfl rfl dX8_areasByJoining_17 (Nat.le_of_ble_eq_true rfl) (Nat.le_of_ble_eq_true rfl) ⟨rfl, ⟨_, _, hA1, upd_eq, hr.i0⟩, hO1, rfl⟩
theorem n_coneOf_x1 (hA : MAt M b I A) (hr : MRel I A f t n h sv len g) (hx : x < 0 ∨ nI 5 ≤ x) : Runs mX8_coneOf [.ref b, .int x] M z (MoQ (some (.int (nI 0))) 1 M b (f) (t) n h sv len g z) := by
  obtain ⟨rfl, rfl, h12, hn14, h9, ⟨h11, h10⟩, h16, hl, hT⟩ := id hr
  refine runs_of plX8 rfl (Nat.le_of_ble_eq_true rfl) ?_
  show WP mX8_coneOf 0 [some (.ref b), some (.int x)] [] M z 0 0 _
  refine g_aload_0 dX8_coneOf_0 ?_
  refine g_iload_1 dX8_coneOf_1 ?_
  refine g_v1 dX8_coneOf_2 (vX8_201 rfl) rfl hA.1 (Nat.le_of_ble_eq_true rfl) (Nat.le_of_ble_eq_true rfl) (Nat.le_of_ble_eq_true rfl) (m_noK_x hA hx) (fun r1 M1 z1 hq1 => ?_) (fun E M2 z2 hq => by obtain ⟨hq, -⟩ := hq; cases hq)
  obtain ⟨hr1, hA1, hO1, hz1⟩ := hq1
  cases hr1
  subst hz1
  refine g_if_eqB (tgt := 12) dX8_coneOf_5 (by decide)  (fun h5 => absurd h5 (by decide)) (fun _ => ?_)
  refine g_iconst (v := nI 0) dX8_coneOf_8 rfl ?_
  refine g_goto (tgt := 21) dX8_coneOf_9 (by decide) ?_
  exact g_ireturn rfl rfl dX8_coneOf_21 (Nat.le_of_ble_eq_true rfl) (Nat.le_of_ble_eq_true rfl) ⟨rfl, ⟨_, _, hA1, upd_eq, hr.i0⟩, hO1, rfl⟩
theorem n_drawnByCone_x1 (hA : MAt M b I A) (hr : MRel I A f t n h sv len g) (hx : x < 0 ∨ nI 5 ≤ x) : Runs mX8_drawnByCone [.ref b, .int x] M z (MoQ (some (.int (nI 0))) 1 M b (f) (t) n h sv len g z) := by
  obtain ⟨rfl, rfl, h12, hn14, h9, ⟨h11, h10⟩, h16, hl, hT⟩ := id hr
  refine runs_of plX8 rfl (Nat.le_of_ble_eq_true rfl) ?_
  show WP mX8_drawnByCone 0 [some (.ref b), some (.int x)] [] M z 0 0 _
  refine g_aload_0 dX8_drawnByCone_0 ?_
  refine g_iload_1 dX8_drawnByCone_1 ?_
  refine g_v1 dX8_drawnByCone_2 (vX8_201 rfl) rfl hA.1 (Nat.le_of_ble_eq_true rfl) (Nat.le_of_ble_eq_true rfl) (Nat.le_of_ble_eq_true rfl) (m_noK_x hA hx) (fun r1 M1 z1 hq1 => ?_) (fun E M2 z2 hq => by obtain ⟨hq, -⟩ := hq; cases hq)
  obtain ⟨hr1, hA1, hO1, hz1⟩ := hq1
  cases hr1
  subst hz1
  refine g_if_eqB (tgt := 12) dX8_drawnByCone_5 (by decide)  (fun h5 => absurd h5 (by decide)) (fun _ => ?_)
  refine g_iconst (v := nI 0) dX8_drawnByCone_8 rfl ?_
  refine g_goto (tgt := 20) dX8_drawnByCone_9 (by decide) ?_
  exact g_ireturn rfl rfl dX8_drawnByCone_20 (Nat.le_of_ble_eq_true rfl) (Nat.le_of_ble_eq_true rfl) ⟨rfl, ⟨_, _, hA1, upd_eq, hr.i0⟩, hO1, rfl⟩
theorem n_drawnByRug_x1 (hA : MAt M b I A) (hr : MRel I A f t n h sv len g) (hx : x < 0 ∨ nI 5 ≤ x) : Runs mX8_drawnByRug [.ref b, .int x] M z (MoQ (some (.int (nI 0))) 1 M b (f) (t) n h sv len g z) := by
  obtain ⟨rfl, rfl, h12, hn14, h9, ⟨h11, h10⟩, h16, hl, hT⟩ := id hr
  refine runs_of plX8 rfl (Nat.le_of_ble_eq_true rfl) ?_
  show WP mX8_drawnByRug 0 [some (.ref b), some (.int x)] [] M z 0 0 _
  refine g_aload_0 dX8_drawnByRug_0 ?_
  refine g_iload_1 dX8_drawnByRug_1 ?_
  refine g_v1 dX8_drawnByRug_2 (vX8_201 rfl) rfl hA.1 (Nat.le_of_ble_eq_true rfl) (Nat.le_of_ble_eq_true rfl) (Nat.le_of_ble_eq_true rfl) (m_noK_x hA hx) (fun r1 M1 z1 hq1 => ?_) (fun E M2 z2 hq => by obtain ⟨hq, -⟩ := hq; cases hq)
  obtain ⟨hr1, hA1, hO1, hz1⟩ := hq1
  cases hr1
  subst hz1
  refine g_if_eqB (tgt := 12) dX8_drawnByRug_5 (by decide)  (fun h5 => absurd h5 (by decide)) (fun _ => ?_)
  refine g_iconst (v := nI 0) dX8_drawnByRug_8 rfl ?_
  refine g_goto (tgt := 20) dX8_drawnByRug_9 (by decide) ?_
  exact g_ireturn rfl rfl dX8_drawnByRug_20 (Nat.le_of_ble_eq_true rfl) (Nat.le_of_ble_eq_true rfl) ⟨rfl, ⟨_, _, hA1, upd_eq, hr.i0⟩, hO1, rfl⟩
theorem n_wasteOf_x1 (hA : MAt M b I A) (hr : MRel I A f t n h sv len g) (hx : x < 0 ∨ nI 5 ≤ x) : Runs mX8_wasteOf [.ref b, .int x] M z (MoQ (some (.int (nI 0))) 1 M b (f) (t) n h sv len g z) := by
  obtain ⟨rfl, rfl, h12, hn14, h9, ⟨h11, h10⟩, h16, hl, hT⟩ := id hr
  refine runs_of plX8 rfl (Nat.le_of_ble_eq_true rfl) ?_
  show WP mX8_wasteOf 0 [some (.ref b), some (.int x)] [] M z 0 0 _
  refine g_aload_0 dX8_wasteOf_0 ?_
  refine g_iload_1 dX8_wasteOf_1 ?_
  refine g_v1 dX8_wasteOf_2 (vX8_201 rfl) rfl hA.1 (Nat.le_of_ble_eq_true rfl) (Nat.le_of_ble_eq_true rfl) (Nat.le_of_ble_eq_true rfl) (m_noK_x hA hx) (fun r1 M1 z1 hq1 => ?_) (fun E M2 z2 hq => by obtain ⟨hq, -⟩ := hq; cases hq)
  obtain ⟨hr1, hA1, hO1, hz1⟩ := hq1
  cases hr1
  subst hz1
  refine g_if_eqB (tgt := 12) dX8_wasteOf_5 (by decide)  (fun h5 => absurd h5 (by decide)) (fun _ => ?_)
  refine g_iconst (v := nI 0) dX8_wasteOf_8 rfl ?_
  refine g_goto (tgt := 21) dX8_wasteOf_9 (by decide) ?_
  exact g_ireturn rfl rfl dX8_wasteOf_21 (Nat.le_of_ble_eq_true rfl) (Nat.le_of_ble_eq_true rfl) ⟨rfl, ⟨_, _, hA1, upd_eq, hr.i0⟩, hO1, rfl⟩
theorem n_neededFor_x1 (hA : MAt M b I A) (hr : MRel I A f t n h sv len g) (hx : x < 0 ∨ nI 5 ≤ x) : Runs mX8_neededFor [.ref b, .int x] M z (MoQ (some (.int (nI 0))) 1 M b (f) (t) n h sv len g z) := by
  obtain ⟨rfl, rfl, h12, hn14, h9, ⟨h11, h10⟩, h16, hl, hT⟩ := id hr
  refine runs_of plX8 rfl (Nat.le_of_ble_eq_true rfl) ?_
  show WP mX8_neededFor 0 [some (.ref b), some (.int x), none, none] [] M z 0 0 _
  refine g_aload_0 dX8_neededFor_0 ?_
  refine g_iload_1 dX8_neededFor_1 ?_
  refine g_v1 dX8_neededFor_2 (vX8_201 rfl) rfl hA.1 (Nat.le_of_ble_eq_true rfl) (Nat.le_of_ble_eq_true rfl) (Nat.le_of_ble_eq_true rfl) (m_noK_x hA hx) (fun r1 M1 z1 hq1 => ?_) (fun E M2 z2 hq => by obtain ⟨hq, -⟩ := hq; cases hq)
  obtain ⟨hr1, hA1, hO1, hz1⟩ := hq1
  cases hr1
  subst hz1
  refine g_if_eqB (tgt := 10) dX8_neededFor_5 (by decide)  (fun h5 => absurd h5 (by decide)) (fun _ => ?_)
  refine g_iconst (v := nI 0) dX8_neededFor_8 rfl ?_
  exact g_ireturn rfl rfl dX8_neededFor_9 (Nat.le_of_ble_eq_true rfl) (Nat.le_of_ble_eq_true rfl) ⟨rfl, ⟨_, _, hA1, upd_eq, hr.i0⟩, hO1, rfl⟩
theorem n_untilKnot_x1 (hA : MAt M b I A) (hr : MRel I A f t n h sv len g) (hx : x < 0 ∨ nI 5 ≤ x) : Runs mX8_untilKnot [.ref b, .int x] M z (MoQ (some (.int (nI 0))) 1 M b (f) (t) n h sv len g z) := by
  obtain ⟨rfl, rfl, h12, hn14, h9, ⟨h11, h10⟩, h16, hl, hT⟩ := id hr
  refine runs_of plX8 rfl (Nat.le_of_ble_eq_true rfl) ?_
  show WP mX8_untilKnot 0 [some (.ref b), some (.int x)] [] M z 0 0 _
  refine g_aload_0 dX8_untilKnot_0 ?_
  refine g_iload_1 dX8_untilKnot_1 ?_
  refine g_v1 dX8_untilKnot_2 (vX8_201 rfl) rfl hA.1 (Nat.le_of_ble_eq_true rfl) (Nat.le_of_ble_eq_true rfl) (Nat.le_of_ble_eq_true rfl) (m_noK_x hA hx) (fun r1 M1 z1 hq1 => ?_) (fun E M2 z2 hq => by obtain ⟨hq, -⟩ := hq; cases hq)
  obtain ⟨hr1, hA1, hO1, hz1⟩ := hq1
  cases hr1
  subst hz1
  refine g_if_eqB (tgt := 12) dX8_untilKnot_5 (by decide)  (fun h5 => absurd h5 (by decide)) (fun _ => ?_)
  refine g_iconst (v := nI 0) dX8_untilKnot_8 rfl ?_
  refine g_goto (tgt := 28) dX8_untilKnot_9 (by decide) ?_
  exact g_ireturn rfl rfl dX8_untilKnot_28 (Nat.le_of_ble_eq_true rfl) (Nat.le_of_ble_eq_true rfl) ⟨rfl, ⟨_, _, hA1, upd_eq, hr.i0⟩, hO1, rfl⟩
theorem n_nearestByRings_x1 (hA : MAt M b I A) (hr : MRel I A f t n h sv len g) (hx : x < 0 ∨ nI 5 ≤ x) : Runs mX8_nearestByRings [.ref b, .int x] M z (MoQ (some (.int (nI 0))) 1 M b (f) (t) n h sv len g z) := by
  obtain ⟨rfl, rfl, h12, hn14, h9, ⟨h11, h10⟩, h16, hl, hT⟩ := id hr
  refine runs_of plX8 rfl (Nat.le_of_ble_eq_true rfl) ?_
  show WP mX8_nearestByRings 0 [some (.ref b), some (.int x)] [] M z 0 0 _
  refine g_aload_0 dX8_nearestByRings_0 ?_
  refine g_iload_1 dX8_nearestByRings_1 ?_
  refine g_v1 dX8_nearestByRings_2 (vX8_201 rfl) rfl hA.1 (Nat.le_of_ble_eq_true rfl) (Nat.le_of_ble_eq_true rfl) (Nat.le_of_ble_eq_true rfl) (m_noK_x hA hx) (fun r1 M1 z1 hq1 => ?_) (fun E M2 z2 hq => by obtain ⟨hq, -⟩ := hq; cases hq)
  obtain ⟨hr1, hA1, hO1, hz1⟩ := hq1
  cases hr1
  subst hz1
  refine g_if_eqB (tgt := 12) dX8_nearestByRings_5 (by decide)  (fun h5 => absurd h5 (by decide)) (fun _ => ?_)
  refine g_iconst (v := nI 0) dX8_nearestByRings_8 rfl ?_
  refine g_goto (tgt := 17) dX8_nearestByRings_9 (by decide) ?_
  exact g_ireturn rfl rfl dX8_nearestByRings_17 (Nat.le_of_ble_eq_true rfl) (Nat.le_of_ble_eq_true rfl) ⟨rfl, ⟨_, _, hA1, upd_eq, hr.i0⟩, hO1, rfl⟩
theorem n_nearestByCells_x1 (hA : MAt M b I A) (hr : MRel I A f t n h sv len g) (hx : x < 0 ∨ nI 5 ≤ x) : Runs mX8_nearestByCells [.ref b, .int x] M z (MoQ (some (.int (nI 0))) 1 M b (f) (t) n h sv len g z) := by
  obtain ⟨rfl, rfl, h12, hn14, h9, ⟨h11, h10⟩, h16, hl, hT⟩ := id hr
  refine runs_of plX8 rfl (Nat.le_of_ble_eq_true rfl) ?_
  show WP mX8_nearestByCells 0 [some (.ref b), some (.int x)] [] M z 0 0 _
  refine g_aload_0 dX8_nearestByCells_0 ?_
  refine g_iload_1 dX8_nearestByCells_1 ?_
  refine g_v1 dX8_nearestByCells_2 (vX8_201 rfl) rfl hA.1 (Nat.le_of_ble_eq_true rfl) (Nat.le_of_ble_eq_true rfl) (Nat.le_of_ble_eq_true rfl) (m_noK_x hA hx) (fun r1 M1 z1 hq1 => ?_) (fun E M2 z2 hq => by obtain ⟨hq, -⟩ := hq; cases hq)
  obtain ⟨hr1, hA1, hO1, hz1⟩ := hq1
  cases hr1
  subst hz1
  refine g_if_eqB (tgt := 12) dX8_nearestByCells_5 (by decide)  (fun h5 => absurd h5 (by decide)) (fun _ => ?_)
  refine g_iconst (v := nI 0) dX8_nearestByCells_8 rfl ?_
  refine g_goto (tgt := 17) dX8_nearestByCells_9 (by decide) ?_
  exact g_ireturn rfl rfl dX8_nearestByCells_17 (Nat.le_of_ble_eq_true rfl) (Nat.le_of_ble_eq_true rfl) ⟨rfl, ⟨_, _, hA1, upd_eq, hr.i0⟩, hO1, rfl⟩
theorem n_yarnBy_x1 (hA : MAt M b I A) (hr : MRel I A f t n h sv len g) (hx : x < 0 ∨ nI 5 ≤ x) : Runs mX8_yarnBy [.ref b, .int x] M z (MoQ (some (.int (nI 0))) 1 M b (f) (t) n h sv len g z) := by
  obtain ⟨rfl, rfl, h12, hn14, h9, ⟨h11, h10⟩, h16, hl, hT⟩ := id hr
  refine runs_of plX8 rfl (Nat.le_of_ble_eq_true rfl) ?_
  show WP mX8_yarnBy 0 [some (.ref b), some (.int x)] [] M z 0 0 _
  refine g_aload_0 dX8_yarnBy_0 ?_
  refine g_iload_1 dX8_yarnBy_1 ?_
  refine g_v1 dX8_yarnBy_2 (vX8_201 rfl) rfl hA.1 (Nat.le_of_ble_eq_true rfl) (Nat.le_of_ble_eq_true rfl) (Nat.le_of_ble_eq_true rfl) (m_noK_x hA hx) (fun r1 M1 z1 hq1 => ?_) (fun E M2 z2 hq => by obtain ⟨hq, -⟩ := hq; cases hq)
  obtain ⟨hr1, hA1, hO1, hz1⟩ := hq1
  cases hr1
  subst hz1
  refine g_if_eqB (tgt := 10) dX8_yarnBy_5 (by decide)  (fun h5 => absurd h5 (by decide)) (fun _ => ?_)
  refine g_iconst (v := nI 0) dX8_yarnBy_8 rfl ?_
  exact g_ireturn rfl rfl dX8_yarnBy_9 (Nat.le_of_ble_eq_true rfl) (Nat.le_of_ble_eq_true rfl) ⟨rfl, ⟨_, _, hA1, upd_eq, hr.i0⟩, hO1, rfl⟩
theorem n_planOf (hA : MAt M b I A) (hr : MRel I A f t n h sv len g) (hj : j < 144) : Runs mX8_planOf [.ref b, .int (nI j)] M z (MoQ (some (.int (f j - nI 1))) 0 M b (f) (t) n h sv len g z) := by
  obtain ⟨rfl, rfl, h12, hn14, h9, ⟨h11, h10⟩, h16, hl, hT⟩ := id hr
  refine runs_of plX8 rfl (Nat.le_of_ble_eq_true rfl) ?_
  show WP mX8_planOf 0 [some (.ref b), some (.int (nI j))] [] M z 0 0 _
  refine g_aload_0 dX8_planOf_0 ?_
  refine g_iload_1 dX8_planOf_1 ?_
  refine g_v1 dX8_planOf_2 (vX8_192 rfl) rfl hA.1 (Nat.le_of_ble_eq_true rfl) (Nat.le_of_ble_eq_true rfl) (Nat.le_of_ble_eq_true rfl) (m_noC_ok hA hj) (fun r1 M1 z1 hq1 => ?_) (fun E M2 z2 hq => by obtain ⟨hq, -⟩ := hq; cases hq)
  obtain ⟨hr1, hA1, hO1, hz1⟩ := hq1
  cases hr1
  subst hz1
  refine g_if_eqB (tgt := 12) dX8_planOf_5 (by decide)  (fun _ => ?_) (fun h5 => absurd h5 (by decide))
  refine g_aload_0 dX8_planOf_12 ?_
  refine g_get dX8_planOf_13 (fX8_7 rfl) hA1.1 rfl ?_
  refine g_iload_1 dX8_planOf_16 ?_
  refine g_ialdN dX8_planOf_17 hA1.2.1 (by omega) (by decide) ?_
  refine g_iconst (v := nI 1) dX8_planOf_18 rfl ?_
  refine g_isub dX8_planOf_19 ?_
  exact g_ireturn rfl rfl dX8_planOf_20 (Nat.le_of_ble_eq_true rfl) (Nat.le_of_ble_eq_true rfl) ⟨rfl, ⟨_, _, hA1, upd_eq, hr.i0⟩, hO1, rfl⟩
theorem n_loopOf (hA : MAt M b I A) (hr : MRel I A f t n h sv len g) (hI : Rng f) (hj : j < 144) : Runs mX8_loopOf [.ref b, .int (nI j)] M z (MoQ (some (.int (lpv (dl (f (144 + j)))))) 0 M b (f) (t) n h sv len g z) := by
  obtain ⟨rfl, rfl, h12, hn14, h9, ⟨h11, h10⟩, h16, hl, hT⟩ := id hr
  refine runs_of plX8 rfl (Nat.le_of_ble_eq_true rfl) ?_
  show WP mX8_loopOf 0 [some (.ref b), some (.int (nI j))] [] M z 0 0 _
  refine g_aload_0 dX8_loopOf_0 ?_
  refine g_iload_1 dX8_loopOf_1 ?_
  refine g_v1 dX8_loopOf_2 (vX8_192 rfl) rfl hA.1 (Nat.le_of_ble_eq_true rfl) (Nat.le_of_ble_eq_true rfl) (Nat.le_of_ble_eq_true rfl) (m_noC_ok hA hj) (fun r1 M1 z1 hq1 => ?_) (fun E M2 z2 hq => by obtain ⟨hq, -⟩ := hq; cases hq)
  obtain ⟨hr1, hA1, hO1, hz1⟩ := hq1
  cases hr1
  subst hz1
  refine g_if_eqB (tgt := 12) dX8_loopOf_5 (by decide)  (fun _ => ?_) (fun h5 => absurd h5 (by decide))
  refine g_aload_0 dX8_loopOf_12 ?_
  refine g_get dX8_loopOf_13 (fX8_7 rfl) hA1.1 rfl ?_
  refine g_iload_1 dX8_loopOf_16 ?_
  refine g_s2_1 dX8_loopOf_17 (sX8_61 rfl) rfl (Nat.le_of_ble_eq_true rfl) ⟨rfl, rfl⟩ (Nat.le_of_ble_eq_true rfl) (Nat.le_of_ble_eq_true rfl) (m_hasLoop hA1.2.1 hj) ?_
  refine g_if_eqB (tgt := 38) dX8_loopOf_20 (by decide)  (fun h20 => ?_) (fun h20 => ?_)
  · refine g_iconst (v := -1) dX8_loopOf_38 rfl ?_
    exact g_ireturn rfl rfl dX8_loopOf_39 (Nat.le_of_ble_eq_true rfl) (Nat.le_of_ble_eq_true rfl) ⟨by first | rw [lpv_t (hI.2.1 j hj) h20] | rw [lpv_f (hI.2.1 j hj) h20], ⟨_, _, hA1, upd_eq, hr.i0⟩, hO1, rfl⟩
  · refine g_aload_0 dX8_loopOf_23 ?_
    refine g_get dX8_loopOf_24 (fX8_7 rfl) hA1.1 rfl ?_
    refine g_sipush (v := nI 144) dX8_loopOf_27 rfl ?_
    refine g_iload_1 dX8_loopOf_30 ?_
    refine g_iaddN dX8_loopOf_31 ?_
    refine g_ialdN dX8_loopOf_32 hA1.2.1 (by omega) (by decide) ?_
    refine g_iconst (v := nI 1) dX8_loopOf_33 rfl ?_
    refine g_isub dX8_loopOf_34 ?_
    refine g_goto (tgt := 39) dX8_loopOf_35 (by decide) ?_
    exact g_ireturn rfl rfl dX8_loopOf_39 (Nat.le_of_ble_eq_true rfl) (Nat.le_of_ble_eq_true rfl) ⟨by first | rw [lpv_t (hI.2.1 j hj) h20] | rw [lpv_f (hI.2.1 j hj) h20], ⟨_, _, hA1, upd_eq, hr.i0⟩, hO1, rfl⟩
theorem n_heightOf (hA : MAt M b I A) (hr : MRel I A f t n h sv len g) (hj : j < 144) : Runs mX8_heightOf [.ref b, .int (nI j)] M z (MoQ (some (.int (hgtF f j))) 0 M b (f) (t) n h sv len g z) := by
  obtain ⟨rfl, rfl, h12, hn14, h9, ⟨h11, h10⟩, h16, hl, hT⟩ := id hr
  refine runs_of plX8 rfl (Nat.le_of_ble_eq_true rfl) ?_
  show WP mX8_heightOf 0 [some (.ref b), some (.int (nI j))] [] M z 0 0 _
  refine g_aload_0 dX8_heightOf_0 ?_
  refine g_iload_1 dX8_heightOf_1 ?_
  refine g_v1 dX8_heightOf_2 (vX8_192 rfl) rfl hA.1 (Nat.le_of_ble_eq_true rfl) (Nat.le_of_ble_eq_true rfl) (Nat.le_of_ble_eq_true rfl) (m_noC_ok hA hj) (fun r1 M1 z1 hq1 => ?_) (fun E M2 z2 hq => by obtain ⟨hq, -⟩ := hq; cases hq)
  obtain ⟨hr1, hA1, hO1, hz1⟩ := hq1
  cases hr1
  subst hz1
  refine g_if_eqB (tgt := 12) dX8_heightOf_5 (by decide)  (fun _ => ?_) (fun h5 => absurd h5 (by decide))
  refine g_aload_0 dX8_heightOf_12 ?_
  refine g_get dX8_heightOf_13 (fX8_7 rfl) hA1.1 rfl ?_
  refine g_iload_1 dX8_heightOf_16 ?_
  refine g_s2_1 dX8_heightOf_17 (sX8_61 rfl) rfl (Nat.le_of_ble_eq_true rfl) ⟨rfl, rfl⟩ (Nat.le_of_ble_eq_true rfl) (Nat.le_of_ble_eq_true rfl) (m_hasLoop hA1.2.1 hj) ?_
  refine g_if_eqB (tgt := 36) dX8_heightOf_20 (by decide)  (fun h20 => ?_) (fun h20 => ?_)
  · refine g_iconst (v := nI 0) dX8_heightOf_36 rfl ?_
    exact g_ireturn rfl rfl dX8_heightOf_37 (Nat.le_of_ble_eq_true rfl) (Nat.le_of_ble_eq_true rfl) ⟨by unfold hgtF; first | rw [if_pos h20] | rw [if_neg (by rw [h20]; decide)], ⟨_, _, hA1, upd_eq, hr.i0⟩, hO1, rfl⟩
  · refine g_aload_0 dX8_heightOf_23 ?_
    refine g_get dX8_heightOf_24 (fX8_7 rfl) hA1.1 rfl ?_
    refine g_sipush (v := nI 288) dX8_heightOf_27 rfl ?_
    refine g_iload_1 dX8_heightOf_30 ?_
    refine g_iaddN dX8_heightOf_31 ?_
    refine g_ialdN dX8_heightOf_32 hA1.2.1 (by omega) (by decide) ?_
    refine g_goto (tgt := 37) dX8_heightOf_33 (by decide) ?_
    exact g_ireturn rfl rfl dX8_heightOf_37 (Nat.le_of_ble_eq_true rfl) (Nat.le_of_ble_eq_true rfl) ⟨by unfold hgtF; first | rw [if_pos h20] | rw [if_neg (by rw [h20]; decide)], ⟨_, _, hA1, upd_eq, hr.i0⟩, hO1, rfl⟩
theorem n_isSkipped (hA : MAt M b I A) (hr : MRel I A f t n h sv len g) (hj : j < 144) : Runs mX8_isSkipped [.ref b, .int (nI j)] M z (MoQ (some (.int (bI (decide (f (144 + j) = nI 6))))) 0 M b (f) (t) n h sv len g z) := by
  obtain ⟨rfl, rfl, h12, hn14, h9, ⟨h11, h10⟩, h16, hl, hT⟩ := id hr
  refine runs_of plX8 rfl (Nat.le_of_ble_eq_true rfl) ?_
  show WP mX8_isSkipped 0 [some (.ref b), some (.int (nI j))] [] M z 0 0 _
  refine g_aload_0 dX8_isSkipped_0 ?_
  refine g_iload_1 dX8_isSkipped_1 ?_
  refine g_v1 dX8_isSkipped_2 (vX8_192 rfl) rfl hA.1 (Nat.le_of_ble_eq_true rfl) (Nat.le_of_ble_eq_true rfl) (Nat.le_of_ble_eq_true rfl) (m_noC_ok hA hj) (fun r1 M1 z1 hq1 => ?_) (fun E M2 z2 hq => by obtain ⟨hq, -⟩ := hq; cases hq)
  obtain ⟨hr1, hA1, hO1, hz1⟩ := hq1
  cases hr1
  subst hz1
  refine g_if_neB (tgt := 27) dX8_isSkipped_5 (by decide)  (fun h5 => absurd h5 (by decide)) (fun _ => ?_)
  refine g_aload_0 dX8_isSkipped_8 ?_
  refine g_get dX8_isSkipped_9 (fX8_7 rfl) hA1.1 rfl ?_
  refine g_sipush (v := nI 144) dX8_isSkipped_12 rfl ?_
  refine g_iload_1 dX8_isSkipped_15 ?_
  refine g_iaddN dX8_isSkipped_16 ?_
  refine g_ialdN dX8_isSkipped_17 hA1.2.1 (by omega) (by decide) ?_
  refine g_bipush (v := nI 6) dX8_isSkipped_18 rfl ?_
  refine g_icmp_ne (tgt := 27) dX8_isSkipped_20 (by decide)  (fun h20 => ?_) (fun h20 => ?_)
  · refine g_iconst (v := nI 0) dX8_isSkipped_27 rfl ?_
    exact g_ireturn rfl rfl dX8_isSkipped_28 (Nat.le_of_ble_eq_true rfl) (Nat.le_of_ble_eq_true rfl) ⟨by first | rw [decide_eq_true h20]; rfl | rw [decide_eq_false h20]; rfl, ⟨_, _, hA1, upd_eq, hr.i0⟩, hO1, rfl⟩
  · refine g_iconst (v := nI 1) dX8_isSkipped_23 rfl ?_
    refine g_goto (tgt := 28) dX8_isSkipped_24 (by decide) ?_
    exact g_ireturn rfl rfl dX8_isSkipped_28 (Nat.le_of_ble_eq_true rfl) (Nat.le_of_ble_eq_true rfl) ⟨by first | rw [decide_eq_true h20]; rfl | rw [decide_eq_false h20]; rfl, ⟨_, _, hA1, upd_eq, hr.i0⟩, hO1, rfl⟩
theorem n_coneOf (hA : MAt M b I A) (hr : MRel I A f t n h sv len g) (hc : c < 5) : Runs mX8_coneOf [.ref b, .int (nI c)] M z (MoQ (some (.int (f (432 + 5 * c)))) 0 M b (f) (t) n h sv len g z) := by
  obtain ⟨rfl, rfl, h12, hn14, h9, ⟨h11, h10⟩, h16, hl, hT⟩ := id hr
  refine runs_of plX8 rfl (Nat.le_of_ble_eq_true rfl) ?_
  show WP mX8_coneOf 0 [some (.ref b), some (.int (nI c))] [] M z 0 0 _
  refine g_aload_0 dX8_coneOf_0 ?_
  refine g_iload_1 dX8_coneOf_1 ?_
  refine g_v1 dX8_coneOf_2 (vX8_201 rfl) rfl hA.1 (Nat.le_of_ble_eq_true rfl) (Nat.le_of_ble_eq_true rfl) (Nat.le_of_ble_eq_true rfl) (m_noK_ok hA hc) (fun r1 M1 z1 hq1 => ?_) (fun E M2 z2 hq => by obtain ⟨hq, -⟩ := hq; cases hq)
  obtain ⟨hr1, hA1, hO1, hz1⟩ := hq1
  cases hr1
  subst hz1
  refine g_if_eqB (tgt := 12) dX8_coneOf_5 (by decide)  (fun _ => ?_) (fun h5 => absurd h5 (by decide))
  refine g_aload_0 dX8_coneOf_12 ?_
  refine g_get dX8_coneOf_13 (fX8_7 rfl) hA1.1 rfl ?_
  refine g_iload_1 dX8_coneOf_16 ?_
  refine g_iconst (v := nI 0) dX8_coneOf_17 rfl ?_
  refine g_s3_1 dX8_coneOf_18 (sX8_65 rfl) rfl (Nat.le_of_ble_eq_true rfl) ⟨rfl, rfl⟩ (Nat.le_of_ble_eq_true rfl) (Nat.le_of_ble_eq_true rfl) (m_cone (n := 0) hA1.2.1 hc (by omega)) ?_
  rw [show 432 + 5 * c + 0 = 432 + 5 * c from by omega]
  exact g_ireturn rfl rfl dX8_coneOf_21 (Nat.le_of_ble_eq_true rfl) (Nat.le_of_ble_eq_true rfl) ⟨rfl, ⟨_, _, hA1, upd_eq, hr.i0⟩, hO1, rfl⟩
theorem n_wasteOf (hA : MAt M b I A) (hr : MRel I A f t n h sv len g) (hc : c < 5) : Runs mX8_wasteOf [.ref b, .int (nI c)] M z (MoQ (some (.int (f (436 + 5 * c)))) 0 M b (f) (t) n h sv len g z) := by
  obtain ⟨rfl, rfl, h12, hn14, h9, ⟨h11, h10⟩, h16, hl, hT⟩ := id hr
  refine runs_of plX8 rfl (Nat.le_of_ble_eq_true rfl) ?_
  show WP mX8_wasteOf 0 [some (.ref b), some (.int (nI c))] [] M z 0 0 _
  refine g_aload_0 dX8_wasteOf_0 ?_
  refine g_iload_1 dX8_wasteOf_1 ?_
  refine g_v1 dX8_wasteOf_2 (vX8_201 rfl) rfl hA.1 (Nat.le_of_ble_eq_true rfl) (Nat.le_of_ble_eq_true rfl) (Nat.le_of_ble_eq_true rfl) (m_noK_ok hA hc) (fun r1 M1 z1 hq1 => ?_) (fun E M2 z2 hq => by obtain ⟨hq, -⟩ := hq; cases hq)
  obtain ⟨hr1, hA1, hO1, hz1⟩ := hq1
  cases hr1
  subst hz1
  refine g_if_eqB (tgt := 12) dX8_wasteOf_5 (by decide)  (fun _ => ?_) (fun h5 => absurd h5 (by decide))
  refine g_aload_0 dX8_wasteOf_12 ?_
  refine g_get dX8_wasteOf_13 (fX8_7 rfl) hA1.1 rfl ?_
  refine g_iload_1 dX8_wasteOf_16 ?_
  refine g_iconst (v := nI 4) dX8_wasteOf_17 rfl ?_
  refine g_s3_1 dX8_wasteOf_18 (sX8_65 rfl) rfl (Nat.le_of_ble_eq_true rfl) ⟨rfl, rfl⟩ (Nat.le_of_ble_eq_true rfl) (Nat.le_of_ble_eq_true rfl) (m_cone (n := 4) hA1.2.1 hc (by omega)) ?_
  rw [show 432 + 5 * c + 4 = 436 + 5 * c from by omega]
  exact g_ireturn rfl rfl dX8_wasteOf_21 (Nat.le_of_ble_eq_true rfl) (Nat.le_of_ble_eq_true rfl) ⟨rfl, ⟨_, _, hA1, upd_eq, hr.i0⟩, hO1, rfl⟩
theorem n_drawnByCone (hA : MAt M b I A) (hr : MRel I A f t n h sv len g) (hc : c < 5) : Runs mX8_drawnByCone [.ref b, .int (nI c)] M z (MoQ (some (.int (f_drawn f c))) 0 M b (f) (t) n h sv len g z) := by
  obtain ⟨rfl, rfl, h12, hn14, h9, ⟨h11, h10⟩, h16, hl, hT⟩ := id hr
  refine runs_of plX8 rfl (Nat.le_of_ble_eq_true rfl) ?_
  show WP mX8_drawnByCone 0 [some (.ref b), some (.int (nI c))] [] M z 0 0 _
  refine g_aload_0 dX8_drawnByCone_0 ?_
  refine g_iload_1 dX8_drawnByCone_1 ?_
  refine g_v1 dX8_drawnByCone_2 (vX8_201 rfl) rfl hA.1 (Nat.le_of_ble_eq_true rfl) (Nat.le_of_ble_eq_true rfl) (Nat.le_of_ble_eq_true rfl) (m_noK_ok hA hc) (fun r1 M1 z1 hq1 => ?_) (fun E M2 z2 hq => by obtain ⟨hq, -⟩ := hq; cases hq)
  obtain ⟨hr1, hA1, hO1, hz1⟩ := hq1
  cases hr1
  subst hz1
  refine g_if_eqB (tgt := 12) dX8_drawnByCone_5 (by decide)  (fun _ => ?_) (fun h5 => absurd h5 (by decide))
  refine g_aload_0 dX8_drawnByCone_12 ?_
  refine g_get dX8_drawnByCone_13 (fX8_7 rfl) hA1.1 rfl ?_
  refine g_iload_1 dX8_drawnByCone_16 ?_
  refine g_s2_1 dX8_drawnByCone_17 (sX8_71 rfl) rfl (Nat.le_of_ble_eq_true rfl) ⟨rfl, rfl⟩ (Nat.le_of_ble_eq_true rfl) (Nat.le_of_ble_eq_true rfl) (m_drawn hA1.2.1 hc) ?_
  exact g_ireturn rfl rfl dX8_drawnByCone_20 (Nat.le_of_ble_eq_true rfl) (Nat.le_of_ble_eq_true rfl) ⟨rfl, ⟨_, _, hA1, upd_eq, hr.i0⟩, hO1, rfl⟩
theorem n_drawnByRug (hA : MAt M b I A) (hr : MRel I A f t n h sv len g) (hc : c < 5) : Runs mX8_drawnByRug [.ref b, .int (nI c)] M z (MoQ (some (.int (f_drawn f c))) 0 M b (f) (t) n h sv len g z) := by
  obtain ⟨rfl, rfl, h12, hn14, h9, ⟨h11, h10⟩, h16, hl, hT⟩ := id hr
  refine runs_of plX8 rfl (Nat.le_of_ble_eq_true rfl) ?_
  show WP mX8_drawnByRug 0 [some (.ref b), some (.int (nI c))] [] M z 0 0 _
  refine g_aload_0 dX8_drawnByRug_0 ?_
  refine g_iload_1 dX8_drawnByRug_1 ?_
  refine g_v1 dX8_drawnByRug_2 (vX8_201 rfl) rfl hA.1 (Nat.le_of_ble_eq_true rfl) (Nat.le_of_ble_eq_true rfl) (Nat.le_of_ble_eq_true rfl) (m_noK_ok hA hc) (fun r1 M1 z1 hq1 => ?_) (fun E M2 z2 hq => by obtain ⟨hq, -⟩ := hq; cases hq)
  obtain ⟨hr1, hA1, hO1, hz1⟩ := hq1
  cases hr1
  subst hz1
  refine g_if_eqB (tgt := 12) dX8_drawnByRug_5 (by decide)  (fun _ => ?_) (fun h5 => absurd h5 (by decide))
  refine g_aload_0 dX8_drawnByRug_12 ?_
  refine g_get dX8_drawnByRug_13 (fX8_7 rfl) hA1.1 rfl ?_
  refine g_iload_1 dX8_drawnByRug_16 ?_
  refine g_s2_1 dX8_drawnByRug_17 (sX8_71 rfl) rfl (Nat.le_of_ble_eq_true rfl) ⟨rfl, rfl⟩ (Nat.le_of_ble_eq_true rfl) (Nat.le_of_ble_eq_true rfl) (m_drawn hA1.2.1 hc) ?_
  exact g_ireturn rfl rfl dX8_drawnByRug_20 (Nat.le_of_ble_eq_true rfl) (Nat.le_of_ble_eq_true rfl) ⟨rfl, ⟨_, _, hA1, upd_eq, hr.i0⟩, hO1, rfl⟩
theorem n_untilKnot (hA : MAt M b I A) (hr : MRel I A f t n h sv len g) (hc : c < 5) : Runs mX8_untilKnot [.ref b, .int (nI c)] M z (MoQ (some (.int (nI 1000 - (f_drawn f c - f_drawn f c / nI 1000 * nI 1000)))) 0 M b (f) (t) n h sv len g z) := by
  obtain ⟨rfl, rfl, h12, hn14, h9, ⟨h11, h10⟩, h16, hl, hT⟩ := id hr
  refine runs_of plX8 rfl (Nat.le_of_ble_eq_true rfl) ?_
  show WP mX8_untilKnot 0 [some (.ref b), some (.int (nI c))] [] M z 0 0 _
  refine g_aload_0 dX8_untilKnot_0 ?_
  refine g_iload_1 dX8_untilKnot_1 ?_
  refine g_v1 dX8_untilKnot_2 (vX8_201 rfl) rfl hA.1 (Nat.le_of_ble_eq_true rfl) (Nat.le_of_ble_eq_true rfl) (Nat.le_of_ble_eq_true rfl) (m_noK_ok hA hc) (fun r1 M1 z1 hq1 => ?_) (fun E M2 z2 hq => by obtain ⟨hq, -⟩ := hq; cases hq)
  obtain ⟨hr1, hA1, hO1, hz1⟩ := hq1
  cases hr1
  subst hz1
  refine g_if_eqB (tgt := 12) dX8_untilKnot_5 (by decide)  (fun _ => ?_) (fun h5 => absurd h5 (by decide))
  refine g_sipush (v := nI 1000) dX8_untilKnot_12 rfl ?_
  refine g_aload_0 dX8_untilKnot_15 ?_
  refine g_get dX8_untilKnot_16 (fX8_7 rfl) hA1.1 rfl ?_
  refine g_iload_1 dX8_untilKnot_19 ?_
  refine g_s2_1 dX8_untilKnot_20 (sX8_71 rfl) rfl (Nat.le_of_ble_eq_true rfl) ⟨rfl, rfl⟩ (Nat.le_of_ble_eq_true rfl) (Nat.le_of_ble_eq_true rfl) (m_drawn hA1.2.1 hc) ?_
  refine g_sipush (v := nI 1000) dX8_untilKnot_23 rfl ?_
  refine g_irem dX8_untilKnot_26 (by decide) ?_
  refine g_isub dX8_untilKnot_27 ?_
  exact g_ireturn rfl rfl dX8_untilKnot_28 (Nat.le_of_ble_eq_true rfl) (Nat.le_of_ble_eq_true rfl) ⟨rfl, ⟨_, _, hA1, upd_eq, hr.i0⟩, hO1, rfl⟩
theorem n_whyNoMending (hA : MAt M b I A) (hr : MRel I A f t n h sv len g) (hI : Rng f) (hj : j < 144) : Runs mX8_whyNoMending [.ref b, .int (nI j)] M z (MoQ (some (.int (nI (f_noMend f j)))) 0 M b (f) (t) n h sv len g z) := by
  obtain ⟨rfl, rfl, h12, hn14, h9, ⟨h11, h10⟩, h16, hl, hT⟩ := id hr
  refine runs_of plX8 rfl (Nat.le_of_ble_eq_true rfl) ?_
  show WP mX8_whyNoMending 0 [some (.ref b), some (.int (nI j))] [] M z 0 0 _
  refine g_aload_0 dX8_whyNoMending_0 ?_
  refine g_iload_1 dX8_whyNoMending_1 ?_
  refine g_v1 dX8_whyNoMending_2 (vX8_192 rfl) rfl hA.1 (Nat.le_of_ble_eq_true rfl) (Nat.le_of_ble_eq_true rfl) (Nat.le_of_ble_eq_true rfl) (m_noC_ok hA hj) (fun r1 M1 z1 hq1 => ?_) (fun E M2 z2 hq => by obtain ⟨hq, -⟩ := hq; cases hq)
  obtain ⟨hr1, hA1, hO1, hz1⟩ := hq1
  cases hr1
  subst hz1
  refine g_if_eqB (tgt := 12) dX8_whyNoMending_5 (by decide)  (fun _ => ?_) (fun h5 => absurd h5 (by decide))
  refine g_aload_0 dX8_whyNoMending_12 ?_
  refine g_get dX8_whyNoMending_13 (fX8_7 rfl) hA1.1 rfl ?_
  refine g_iload_1 dX8_whyNoMending_16 ?_
  refine g_s2_1 dX8_whyNoMending_17 (sX8_230 rfl) rfl (Nat.le_of_ble_eq_true rfl) ⟨rfl, rfl⟩ (Nat.le_of_ble_eq_true rfl) (Nat.le_of_ble_eq_true rfl) (m_noMending hA1.2.1 hI hj) ?_
  exact g_ireturn rfl rfl dX8_whyNoMending_20 (Nat.le_of_ble_eq_true rfl) (Nat.le_of_ble_eq_true rfl) ⟨rfl, ⟨_, _, hA1, upd_eq, hr.i0⟩, hO1, rfl⟩
theorem n_areasBySpreading (hA : MAt M b I A) (hr : MRel I A f t n h sv len g) (hc : c < 5) : Runs mX8_areasBySpreading [.ref b, .int (nI c)] M z (MoQ (some (.int (nI (nArea (plS f c))))) 0 M b (f) (t) n h sv len g z) := by
  obtain ⟨rfl, rfl, h12, hn14, h9, ⟨h11, h10⟩, h16, hl, hT⟩ := id hr
  refine runs_of plX8 rfl (Nat.le_of_ble_eq_true rfl) ?_
  show WP mX8_areasBySpreading 0 [some (.ref b), some (.int (nI c))] [] M z 0 0 _
  refine g_aload_0 dX8_areasBySpreading_0 ?_
  refine g_iload_1 dX8_areasBySpreading_1 ?_
  refine g_v1 dX8_areasBySpreading_2 (vX8_201 rfl) rfl hA.1 (Nat.le_of_ble_eq_true rfl) (Nat.le_of_ble_eq_true rfl) (Nat.le_of_ble_eq_true rfl) (m_noK_ok hA hc) (fun r1 M1 z1 hq1 => ?_) (fun E M2 z2 hq => by obtain ⟨hq, -⟩ := hq; cases hq)
  obtain ⟨hr1, hA1, hO1, hz1⟩ := hq1
  cases hr1
  subst hz1
  refine g_if_eqB (tgt := 12) dX8_areasBySpreading_5 (by decide)  (fun _ => ?_) (fun h5 => absurd h5 (by decide))
  refine g_aload_0 dX8_areasBySpreading_12 ?_
  refine g_iload_1 dX8_areasBySpreading_13 ?_
  refine g_v1 dX8_areasBySpreading_14 (vX8_204 rfl) rfl hA1.1 (Nat.le_of_ble_eq_true rfl) (Nat.le_of_ble_eq_true rfl) (Nat.le_of_ble_eq_true rfl) (m_areas hA1) (fun r2 M2 z2 hq2 => ?_) (fun E M2 z2 hq => by obtain ⟨hq, -⟩ := hq; cases hq)
  obtain ⟨hr2, ⟨A2, hA2, hk2⟩, hO2, hz2⟩ := hq2
  cases hr2
  subst hz2
  exact g_ireturn rfl rfl dX8_areasBySpreading_17 (Nat.le_of_ble_eq_true rfl) (Nat.le_of_ble_eq_true rfl) ⟨rfl, ⟨_, A2, hA2, upd_eq, hr.of (upd_ne (by decide)) (upd_ne (by decide)) (hk2 1 (by decide)) (hk2 2 (by decide)) (hk2 9 (by decide)) (hk2 10 (by decide)) (hk2 11 (by decide)) (hk2 12 (by decide))⟩, hO1.tr hO2, rfl⟩
theorem n_areasByJoining (hA : MAt M b I A) (hr : MRel I A f t n h sv len g) (hc : c < 5) : Runs mX8_areasByJoining [.ref b, .int (nI c)] M z (MoQ (some (.int (nI (nArea (plS f c))))) 0 M b (f) (t) n h sv len g z) := by
  obtain ⟨rfl, rfl, h12, hn14, h9, ⟨h11, h10⟩, h16, hl, hT⟩ := id hr
  refine runs_of plX8 rfl (Nat.le_of_ble_eq_true rfl) ?_
  show WP mX8_areasByJoining 0 [some (.ref b), some (.int (nI c))] [] M z 0 0 _
  refine g_aload_0 dX8_areasByJoining_0 ?_
  refine g_iload_1 dX8_areasByJoining_1 ?_
  refine g_v1 dX8_areasByJoining_2 (vX8_201 rfl) rfl hA.1 (Nat.le_of_ble_eq_true rfl) (Nat.le_of_ble_eq_true rfl) (Nat.le_of_ble_eq_true rfl) (m_noK_ok hA hc) (fun r1 M1 z1 hq1 => ?_) (fun E M2 z2 hq => by obtain ⟨hq, -⟩ := hq; cases hq)
  obtain ⟨hr1, hA1, hO1, hz1⟩ := hq1
  cases hr1
  subst hz1
  refine g_if_eqB (tgt := 12) dX8_areasByJoining_5 (by decide)  (fun _ => ?_) (fun h5 => absurd h5 (by decide))
  refine g_aload_0 dX8_areasByJoining_12 ?_
  refine g_iload_1 dX8_areasByJoining_13 ?_
  refine g_v1 dX8_areasByJoining_14 (vX8_204 rfl) rfl hA1.1 (Nat.le_of_ble_eq_true rfl) (Nat.le_of_ble_eq_true rfl) (Nat.le_of_ble_eq_true rfl) (m_areas hA1) (fun r2 M2 z2 hq2 => ?_) (fun E M2 z2 hq => by obtain ⟨hq, -⟩ := hq; cases hq)
  obtain ⟨hr2, ⟨A2, hA2, hk2⟩, hO2, hz2⟩ := hq2
  cases hr2
  subst hz2
  exact g_ireturn rfl rfl dX8_areasByJoining_17 (Nat.le_of_ble_eq_true rfl) (Nat.le_of_ble_eq_true rfl) ⟨rfl, ⟨_, A2, hA2, upd_eq, hr.of (upd_ne (by decide)) (upd_ne (by decide)) (hk2 1 (by decide)) (hk2 2 (by decide)) (hk2 9 (by decide)) (hk2 10 (by decide)) (hk2 11 (by decide)) (hk2 12 (by decide))⟩, hO1.tr hO2, rfl⟩
theorem n_nearestByRings (hA : MAt M b I A) (hr : MRel I A f t n h sv len g) (hI : Rng f) (hc : c < 5) : Runs mX8_nearestByRings [.ref b, .int (nI c)] M z (MoQ (some (.int (nearV (needF f c) (farF (nd f))))) 0 M b (f) (t) n h sv len g z) := by
  obtain ⟨rfl, rfl, h12, hn14, h9, ⟨h11, h10⟩, h16, hl, hT⟩ := id hr
  refine runs_of plX8 rfl (Nat.le_of_ble_eq_true rfl) ?_
  show WP mX8_nearestByRings 0 [some (.ref b), some (.int (nI c))] [] M z 0 0 _
  refine g_aload_0 dX8_nearestByRings_0 ?_
  refine g_iload_1 dX8_nearestByRings_1 ?_
  refine g_v1 dX8_nearestByRings_2 (vX8_201 rfl) rfl hA.1 (Nat.le_of_ble_eq_true rfl) (Nat.le_of_ble_eq_true rfl) (Nat.le_of_ble_eq_true rfl) (m_noK_ok hA hc) (fun r1 M1 z1 hq1 => ?_) (fun E M2 z2 hq => by obtain ⟨hq, -⟩ := hq; cases hq)
  obtain ⟨hr1, hA1, hO1, hz1⟩ := hq1
  cases hr1
  subst hz1
  refine g_if_eqB (tgt := 12) dX8_nearestByRings_5 (by decide)  (fun _ => ?_) (fun h5 => absurd h5 (by decide))
  refine g_aload_0 dX8_nearestByRings_12 ?_
  refine g_iload_1 dX8_nearestByRings_13 ?_
  refine g_v1_1 dX8_nearestByRings_14 (vX8_246 rfl) rfl hA1.1 (Nat.le_of_ble_eq_true rfl) ⟨rfl, rfl⟩ (Nat.le_of_ble_eq_true rfl) (Nat.le_of_ble_eq_true rfl) (pE_gD (P := needF (A 1) c) (m_nearest (c := c) hA1 hI.nde hI.ndl)) ?_
  exact g_ireturn rfl rfl dX8_nearestByRings_17 (Nat.le_of_ble_eq_true rfl) (Nat.le_of_ble_eq_true rfl) ⟨rfl, ⟨_, _, hA1, upd_eq, hr.i0⟩, hO1, rfl⟩
theorem n_nearestByCells (hA : MAt M b I A) (hr : MRel I A f t n h sv len g) (hI : Rng f) (hc : c < 5) : Runs mX8_nearestByCells [.ref b, .int (nI c)] M z (MoQ (some (.int (nearV (needF f c) (farF (nd f))))) 0 M b (f) (t) n h sv len g z) := by
  obtain ⟨rfl, rfl, h12, hn14, h9, ⟨h11, h10⟩, h16, hl, hT⟩ := id hr
  refine runs_of plX8 rfl (Nat.le_of_ble_eq_true rfl) ?_
  show WP mX8_nearestByCells 0 [some (.ref b), some (.int (nI c))] [] M z 0 0 _
  refine g_aload_0 dX8_nearestByCells_0 ?_
  refine g_iload_1 dX8_nearestByCells_1 ?_
  refine g_v1 dX8_nearestByCells_2 (vX8_201 rfl) rfl hA.1 (Nat.le_of_ble_eq_true rfl) (Nat.le_of_ble_eq_true rfl) (Nat.le_of_ble_eq_true rfl) (m_noK_ok hA hc) (fun r1 M1 z1 hq1 => ?_) (fun E M2 z2 hq => by obtain ⟨hq, -⟩ := hq; cases hq)
  obtain ⟨hr1, hA1, hO1, hz1⟩ := hq1
  cases hr1
  subst hz1
  refine g_if_eqB (tgt := 12) dX8_nearestByCells_5 (by decide)  (fun _ => ?_) (fun h5 => absurd h5 (by decide))
  refine g_aload_0 dX8_nearestByCells_12 ?_
  refine g_iload_1 dX8_nearestByCells_13 ?_
  refine g_v1_1 dX8_nearestByCells_14 (vX8_246 rfl) rfl hA1.1 (Nat.le_of_ble_eq_true rfl) ⟨rfl, rfl⟩ (Nat.le_of_ble_eq_true rfl) (Nat.le_of_ble_eq_true rfl) (pE_gD (P := needF (A 1) c) (m_nearest (c := c) hA1 hI.nde hI.ndl)) ?_
  exact g_ireturn rfl rfl dX8_nearestByCells_17 (Nat.le_of_ble_eq_true rfl) (Nat.le_of_ble_eq_true rfl) ⟨rfl, ⟨_, _, hA1, upd_eq, hr.i0⟩, hO1, rfl⟩
theorem n_needle (hA : MAt M b I A) (hr : MRel I A f t n h sv len g) : Runs mX8_needle [.ref b] M z (MoQ (some (.int (f 457))) 0 M b (f) (t) n h sv len g z) := by
  obtain ⟨rfl, rfl, h12, hn14, h9, ⟨h11, h10⟩, h16, hl, hT⟩ := id hr
  refine runs_of plX8 rfl (Nat.le_of_ble_eq_true rfl) ?_
  show WP mX8_needle 0 [some (.ref b)] [] M z 0 0 _
  refine g_aload_0 dX8_needle_0 ?_
  refine g_sipush (v := nI 457) dX8_needle_1 rfl ?_
  refine g_v1 dX8_needle_4 (vX8_211 rfl) rfl hA.1 (Nat.le_of_ble_eq_true rfl) (Nat.le_of_ble_eq_true rfl) (Nat.le_of_ble_eq_true rfl) (m_tell hA (by decide)) (fun r1 M1 z1 hq1 => ?_) (fun E M2 z2 hq => by obtain ⟨hq, -⟩ := hq; cases hq)
  obtain ⟨hr1, hA1, hO1, hz1⟩ := hq1
  cases hr1
  subst hz1
  exact g_ireturn rfl rfl dX8_needle_7 (Nat.le_of_ble_eq_true rfl) (Nat.le_of_ble_eq_true rfl) ⟨rfl, ⟨_, _, hA1, upd_eq, hr.i0⟩, hO1, rfl⟩
theorem n_heading (hA : MAt M b I A) (hr : MRel I A f t n h sv len g) : Runs mX8_heading [.ref b] M z (MoQ (some (.int (f 458))) 0 M b (f) (t) n h sv len g z) := by
  obtain ⟨rfl, rfl, h12, hn14, h9, ⟨h11, h10⟩, h16, hl, hT⟩ := id hr
  refine runs_of plX8 rfl (Nat.le_of_ble_eq_true rfl) ?_
  show WP mX8_heading 0 [some (.ref b)] [] M z 0 0 _
  refine g_aload_0 dX8_heading_0 ?_
  refine g_sipush (v := nI 458) dX8_heading_1 rfl ?_
  refine g_v1 dX8_heading_4 (vX8_211 rfl) rfl hA.1 (Nat.le_of_ble_eq_true rfl) (Nat.le_of_ble_eq_true rfl) (Nat.le_of_ble_eq_true rfl) (m_tell hA (by decide)) (fun r1 M1 z1 hq1 => ?_) (fun E M2 z2 hq => by obtain ⟨hq, -⟩ := hq; cases hq)
  obtain ⟨hr1, hA1, hO1, hz1⟩ := hq1
  cases hr1
  subst hz1
  exact g_ireturn rfl rfl dX8_heading_7 (Nat.le_of_ble_eq_true rfl) (Nat.le_of_ble_eq_true rfl) ⟨rfl, ⟨_, _, hA1, upd_eq, hr.i0⟩, hO1, rfl⟩
theorem n_height (hA : MAt M b I A) (hr : MRel I A f t n h sv len g) : Runs mX8_height [.ref b] M z (MoQ (some (.int (f 460))) 0 M b (f) (t) n h sv len g z) := by
  obtain ⟨rfl, rfl, h12, hn14, h9, ⟨h11, h10⟩, h16, hl, hT⟩ := id hr
  refine runs_of plX8 rfl (Nat.le_of_ble_eq_true rfl) ?_
  show WP mX8_height 0 [some (.ref b)] [] M z 0 0 _
  refine g_aload_0 dX8_height_0 ?_
  refine g_sipush (v := nI 460) dX8_height_1 rfl ?_
  refine g_v1 dX8_height_4 (vX8_211 rfl) rfl hA.1 (Nat.le_of_ble_eq_true rfl) (Nat.le_of_ble_eq_true rfl) (Nat.le_of_ble_eq_true rfl) (m_tell hA (by decide)) (fun r1 M1 z1 hq1 => ?_) (fun E M2 z2 hq => by obtain ⟨hq, -⟩ := hq; cases hq)
  obtain ⟨hr1, hA1, hO1, hz1⟩ := hq1
  cases hr1
  subst hz1
  exact g_ireturn rfl rfl dX8_height_7 (Nat.le_of_ble_eq_true rfl) (Nat.le_of_ble_eq_true rfl) ⟨rfl, ⟨_, _, hA1, upd_eq, hr.i0⟩, hO1, rfl⟩
theorem n_tension (hA : MAt M b I A) (hr : MRel I A f t n h sv len g) : Runs mX8_tension [.ref b] M z (MoQ (some (.int (f 461))) 0 M b (f) (t) n h sv len g z) := by
  obtain ⟨rfl, rfl, h12, hn14, h9, ⟨h11, h10⟩, h16, hl, hT⟩ := id hr
  refine runs_of plX8 rfl (Nat.le_of_ble_eq_true rfl) ?_
  show WP mX8_tension 0 [some (.ref b)] [] M z 0 0 _
  refine g_aload_0 dX8_tension_0 ?_
  refine g_sipush (v := nI 461) dX8_tension_1 rfl ?_
  refine g_v1 dX8_tension_4 (vX8_211 rfl) rfl hA.1 (Nat.le_of_ble_eq_true rfl) (Nat.le_of_ble_eq_true rfl) (Nat.le_of_ble_eq_true rfl) (m_tell hA (by decide)) (fun r1 M1 z1 hq1 => ?_) (fun E M2 z2 hq => by obtain ⟨hq, -⟩ := hq; cases hq)
  obtain ⟨hr1, hA1, hO1, hz1⟩ := hq1
  cases hr1
  subst hz1
  exact g_ireturn rfl rfl dX8_tension_7 (Nat.le_of_ble_eq_true rfl) (Nat.le_of_ble_eq_true rfl) ⟨rfl, ⟨_, _, hA1, upd_eq, hr.i0⟩, hO1, rfl⟩
theorem n_knots (hA : MAt M b I A) (hr : MRel I A f t n h sv len g) : Runs mX8_knots [.ref b] M z (MoQ (some (.int (f 462))) 0 M b (f) (t) n h sv len g z) := by
  obtain ⟨rfl, rfl, h12, hn14, h9, ⟨h11, h10⟩, h16, hl, hT⟩ := id hr
  refine runs_of plX8 rfl (Nat.le_of_ble_eq_true rfl) ?_
  show WP mX8_knots 0 [some (.ref b)] [] M z 0 0 _
  refine g_aload_0 dX8_knots_0 ?_
  refine g_sipush (v := nI 462) dX8_knots_1 rfl ?_
  refine g_v1 dX8_knots_4 (vX8_211 rfl) rfl hA.1 (Nat.le_of_ble_eq_true rfl) (Nat.le_of_ble_eq_true rfl) (Nat.le_of_ble_eq_true rfl) (m_tell hA (by decide)) (fun r1 M1 z1 hq1 => ?_) (fun E M2 z2 hq => by obtain ⟨hq, -⟩ := hq; cases hq)
  obtain ⟨hr1, hA1, hO1, hz1⟩ := hq1
  cases hr1
  subst hz1
  exact g_ireturn rfl rfl dX8_knots_7 (Nat.le_of_ble_eq_true rfl) (Nat.le_of_ble_eq_true rfl) ⟨rfl, ⟨_, _, hA1, upd_eq, hr.i0⟩, hO1, rfl⟩
theorem n_threaded (hA : MAt M b I A) (hr : MRel I A f t n h sv len g) : Runs mX8_threaded [.ref b] M z (MoQ (some (.int (f 459 - nI 1))) 0 M b (f) (t) n h sv len g z) := by
  obtain ⟨rfl, rfl, h12, hn14, h9, ⟨h11, h10⟩, h16, hl, hT⟩ := id hr
  refine runs_of plX8 rfl (Nat.le_of_ble_eq_true rfl) ?_
  show WP mX8_threaded 0 [some (.ref b)] [] M z 0 0 _
  refine g_aload_0 dX8_threaded_0 ?_
  refine g_sipush (v := nI 459) dX8_threaded_1 rfl ?_
  refine g_v1 dX8_threaded_4 (vX8_211 rfl) rfl hA.1 (Nat.le_of_ble_eq_true rfl) (Nat.le_of_ble_eq_true rfl) (Nat.le_of_ble_eq_true rfl) (m_tell hA (by decide)) (fun r1 M1 z1 hq1 => ?_) (fun E M2 z2 hq => by obtain ⟨hq, -⟩ := hq; cases hq)
  obtain ⟨hr1, hA1, hO1, hz1⟩ := hq1
  cases hr1
  subst hz1
  refine g_iconst (v := nI 1) dX8_threaded_7 rfl ?_
  refine g_isub dX8_threaded_8 ?_
  exact g_ireturn rfl rfl dX8_threaded_9 (Nat.le_of_ble_eq_true rfl) (Nat.le_of_ble_eq_true rfl) ⟨rfl, ⟨_, _, hA1, upd_eq, hr.i0⟩, hO1, rfl⟩
theorem n_wouldSkip (hA : MAt M b I A) (hr : MRel I A f t n h sv len g) : Runs mX8_wouldSkip [.ref b] M z (MoQ (some (.int (bI (decide (nI 10 ≤ f 461))))) 0 M b (f) (t) n h sv len g z) := by
  obtain ⟨rfl, rfl, h12, hn14, h9, ⟨h11, h10⟩, h16, hl, hT⟩ := id hr
  clear h9
  refine runs_of plX8 rfl (Nat.le_of_ble_eq_true rfl) ?_
  show WP mX8_wouldSkip 0 [some (.ref b)] [] M z 0 0 _
  refine g_aload_0 dX8_wouldSkip_0 ?_
  refine g_sipush (v := nI 461) dX8_wouldSkip_1 rfl ?_
  refine g_v1 dX8_wouldSkip_4 (vX8_211 rfl) rfl hA.1 (Nat.le_of_ble_eq_true rfl) (Nat.le_of_ble_eq_true rfl) (Nat.le_of_ble_eq_true rfl) (m_tell hA (by decide)) (fun r1 M1 z1 hq1 => ?_) (fun E M2 z2 hq => by obtain ⟨hq, -⟩ := hq; cases hq)
  obtain ⟨hr1, hA1, hO1, hz1⟩ := hq1
  cases hr1
  subst hz1
  refine g_bipush (v := nI 10) dX8_wouldSkip_7 rfl ?_
  refine g_icmp_lt (tgt := 16) dX8_wouldSkip_9 (by decide)  (fun h9 => ?_) (fun h9 => ?_)
  · refine g_iconst (v := nI 0) dX8_wouldSkip_16 rfl ?_
    exact g_ireturn rfl rfl dX8_wouldSkip_17 (Nat.le_of_ble_eq_true rfl) (Nat.le_of_ble_eq_true rfl) ⟨by first | rw [decide_eq_true (Int32.not_lt.mp h9)]; rfl | rw [decide_eq_false (Int32.not_le.mpr h9)]; rfl, ⟨_, _, hA1, upd_eq, hr.i0⟩, hO1, rfl⟩
  · refine g_iconst (v := nI 1) dX8_wouldSkip_12 rfl ?_
    refine g_goto (tgt := 17) dX8_wouldSkip_13 (by decide) ?_
    exact g_ireturn rfl rfl dX8_wouldSkip_17 (Nat.le_of_ble_eq_true rfl) (Nat.le_of_ble_eq_true rfl) ⟨by first | rw [decide_eq_true (Int32.not_lt.mp h9)]; rfl | rw [decide_eq_false (Int32.not_le.mpr h9)]; rfl, ⟨_, _, hA1, upd_eq, hr.i0⟩, hO1, rfl⟩
theorem n_canGo (hA : MAt M b I A) (hr : MRel I A f t n h sv len g) (hI : Rng f) : Runs mX8_canGo [.ref b] M z (MoQ (some (.int (bI (f_to f).isSome))) 0 M b (f) (t) n h sv len g z) := by
  obtain ⟨rfl, rfl, h12, hn14, h9, ⟨h11, h10⟩, h16, hl, hT⟩ := id hr
  refine runs_of plX8 rfl (Nat.le_of_ble_eq_true rfl) ?_
  show WP mX8_canGo 0 [some (.ref b)] [] M z 0 0 _
  refine g_aload_0 dX8_canGo_0 ?_
  refine g_iconst (v := nI 0) dX8_canGo_1 rfl ?_
  refine g_putI0 dX8_canGo_2 (fX8_47 rfl) hA (fun M1 hA1 n1 => ?_)
  have hao1 := hA1.1
  have hO1 : Out M M1 b 13 := fun q hq => n1 q (by omega)
  refine g_aload_0 dX8_canGo_5 ?_
  refine g_get dX8_canGo_6 (fX8_7 rfl) hA1.1 rfl ?_
  refine g_sipush (v := nI 457) dX8_canGo_9 rfl ?_
  refine g_ialdN dX8_canGo_12 hA1.2.1 (by omega) (by decide) ?_
  rw [hI.nde]
  refine g_aload_0 dX8_canGo_13 ?_
  refine g_get dX8_canGo_14 (fX8_7 rfl) hA1.1 rfl ?_
  refine g_sipush (v := nI 458) dX8_canGo_17 rfl ?_
  refine g_ialdN dX8_canGo_20 hA1.2.1 (by omega) (by decide) ?_
  rw [hI.hde]
  refine g_s2_1 dX8_canGo_21 (sX8_91 rfl) rfl (Nat.le_of_ble_eq_true rfl) ⟨rfl, rfl⟩ (Nat.le_of_ble_eq_true rfl) (Nat.le_of_ble_eq_true rfl) (m_next hI.ndl hI.hdl) ?_
  refine g_iconst (v := -1) dX8_canGo_24 rfl ?_
  refine g_icmp_eq (tgt := 32) dX8_canGo_25 (by decide)  (fun h25 => ?_) (fun h25 => ?_)
  · refine g_iconst (v := nI 0) dX8_canGo_32 rfl ?_
    exact g_ireturn rfl rfl dX8_canGo_33 (Nat.le_of_ble_eq_true rfl) (Nat.le_of_ble_eq_true rfl) ⟨by
      have e : f_to (A 1) = besd (nd (A 1)) (hdg (A 1)) := rfl
      rw [e]
      cases hb : besd (nd (A 1)) (hdg (A 1)) with
      | none => first | rfl | (rw [hb] at h25; exact absurd rfl h25)
      | some k => first | rfl | (rw [hb] at h25; exact absurd h25 (nI_nm1 (by have := besd_lt hI.ndl hb; omega))), ⟨_, _, hA1, upd_eq, hr.i0⟩, hO1, rfl⟩
  · refine g_iconst (v := nI 1) dX8_canGo_28 rfl ?_
    refine g_goto (tgt := 33) dX8_canGo_29 (by decide) ?_
    exact g_ireturn rfl rfl dX8_canGo_33 (Nat.le_of_ble_eq_true rfl) (Nat.le_of_ble_eq_true rfl) ⟨by
      have e : f_to (A 1) = besd (nd (A 1)) (hdg (A 1)) := rfl
      rw [e]
      cases hb : besd (nd (A 1)) (hdg (A 1)) with
      | none => first | rfl | (rw [hb] at h25; exact absurd rfl h25)
      | some k => first | rfl | (rw [hb] at h25; exact absurd h25 (nI_nm1 (by have := besd_lt hI.ndl hb; omega))), ⟨_, _, hA1, upd_eq, hr.i0⟩, hO1, rfl⟩
theorem n_whyNoStitch (hA : MAt M b I A) (hr : MRel I A f t n h sv len g) (hI : Rng f) : Runs mX8_whyNoStitch [.ref b] M z (MoQ (some (.int (nI (f_noStitch f)))) 0 M b (f) (t) n h sv len g z) := by
  obtain ⟨rfl, rfl, h12, hn14, h9, ⟨h11, h10⟩, h16, hl, hT⟩ := id hr
  refine runs_of plX8 rfl (Nat.le_of_ble_eq_true rfl) ?_
  show WP mX8_whyNoStitch 0 [some (.ref b)] [] M z 0 0 _
  refine g_aload_0 dX8_whyNoStitch_0 ?_
  refine g_iconst (v := nI 0) dX8_whyNoStitch_1 rfl ?_
  refine g_putI0 dX8_whyNoStitch_2 (fX8_47 rfl) hA (fun M1 hA1 n1 => ?_)
  have hao1 := hA1.1
  have hO1 : Out M M1 b 13 := fun q hq => n1 q (by omega)
  refine g_aload_0 dX8_whyNoStitch_5 ?_
  refine g_get dX8_whyNoStitch_6 (fX8_7 rfl) hA1.1 rfl ?_
  refine g_s1_1 dX8_whyNoStitch_9 (sX8_95 rfl) rfl (Nat.le_of_ble_eq_true rfl) ⟨rfl, rfl⟩ (Nat.le_of_ble_eq_true rfl) (Nat.le_of_ble_eq_true rfl) (m_noStitch hA1.2.1 hI) ?_
  exact g_ireturn rfl rfl dX8_whyNoStitch_12 (Nat.le_of_ble_eq_true rfl) (Nat.le_of_ble_eq_true rfl) ⟨rfl, ⟨_, _, hA1, upd_eq, hr.i0⟩, hO1, rfl⟩
theorem n_skipped (hA : MAt M b I A) (hr : MRel I A f t n h sv len g) : Runs mX8_skipped [.ref b] M z (MoQ (some (.int (nI (cnt (fun i => decide (f (144 + i) = nI 6)) 144)))) 0 M b (f) (t) n h sv len g z) := by
  obtain ⟨rfl, rfl, h12, hn14, h9, ⟨h11, h10⟩, h16, hl, hT⟩ := id hr
  refine runs_of plX8 rfl (Nat.le_of_ble_eq_true rfl) ?_
  show WP mX8_skipped 0 [some (.ref b)] [] M z 0 0 _
  refine g_aload_0 dX8_skipped_0 ?_
  refine g_iconst (v := nI 0) dX8_skipped_1 rfl ?_
  refine g_putI0 dX8_skipped_2 (fX8_47 rfl) hA (fun M1 hA1 n1 => ?_)
  have hao1 := hA1.1
  have hO1 : Out M M1 b 13 := fun q hq => n1 q (by omega)
  refine g_aload_0 dX8_skipped_5 ?_
  refine g_get dX8_skipped_6 (fX8_7 rfl) hA1.1 rfl ?_
  refine g_s1_1 dX8_skipped_9 (sX8_198 rfl) rfl (Nat.le_of_ble_eq_true rfl) ⟨rfl, rfl⟩ (Nat.le_of_ble_eq_true rfl) (Nat.le_of_ble_eq_true rfl) (m_skippedIn hA1.2.1) ?_
  exact g_ireturn rfl rfl dX8_skipped_12 (Nat.le_of_ble_eq_true rfl) (Nat.le_of_ble_eq_true rfl) ⟨rfl, ⟨_, _, hA1, upd_eq, hr.i0⟩, hO1, rfl⟩
theorem n_density (hA : MAt M b I A) (hr : MRel I A f t n h sv len g) : Runs mX8_density [.ref b] M z (MoQ (some (.float (FP.fdiv (FP.i2f (nI (cnt (fun i => hasL (f (144 + i))) 144))) 1125122048))) 0 M b (f) (t) n h sv len g z) := by
  obtain ⟨rfl, rfl, h12, hn14, h9, ⟨h11, h10⟩, h16, hl, hT⟩ := id hr
  refine runs_of plX8 rfl (Nat.le_of_ble_eq_true rfl) ?_
  show WP mX8_density 0 [some (.ref b)] [] M z 0 0 _
  refine g_aload_0 dX8_density_0 ?_
  refine g_iconst (v := nI 0) dX8_density_1 rfl ?_
  refine g_putI0 dX8_density_2 (fX8_47 rfl) hA (fun M1 hA1 n1 => ?_)
  have hao1 := hA1.1
  have hO1 : Out M M1 b 13 := fun q hq => n1 q (by omega)
  refine g_aload_0 dX8_density_5 ?_
  refine g_get dX8_density_6 (fX8_7 rfl) hA1.1 rfl ?_
  refine g_s1_1 dX8_density_9 (sX8_207 rfl) rfl (Nat.le_of_ble_eq_true rfl) ⟨rfl, rfl⟩ (Nat.le_of_ble_eq_true rfl) (Nat.le_of_ble_eq_true rfl) (m_loops hA1.2.1) ?_
  refine g_i2f dX8_density_12 rfl ?_
  refine g_ldcf dX8_density_13 (zX8_210 rfl) ?_
  refine g_fdiv dX8_density_15 (vf_dens _ (Nat.lt_succ_of_le (cnt_le _ _))) ?_
  exact g_freturn rfl dX8_density_16 (Nat.le_of_ble_eq_true rfl) (Nat.le_of_ble_eq_true rfl) ⟨rfl, ⟨_, _, hA1, upd_eq, hr.i0⟩, hO1, rfl⟩
theorem n_right_l (hA : MAt M b I A) (hk : WP mX8_right 60 [some (.ref b), some (.int (nI (cnt (fun i => hasL ((A 1) (144 + i)) && decide ((A 1) (144 + i) = (A 1) i)) (144)))), some (.int (nI (144)))] [] M z 0 0 Φ) : ∀ d i, i + d = 144 → WP mX8_right 9 [some (.ref b), some (.int (nI (cnt (fun i => hasL ((A 1) (144 + i)) && decide ((A 1) (144 + i) = (A 1) i)) (i)))), some (.int (nI (i)))] [] M z 0 0 Φ := by
  intro d
  induction d with
  | zero =>
    intro i hi
    obtain rfl : i = 144 := by omega
    refine g_iload_2 dX8_right_9 ?_
    refine g_sipush (v := nI 144) dX8_right_10 rfl ?_
    refine g_icmp_geN (tgt := 60) dX8_right_13 (by decide) (by omega) (by omega) (fun _ => ?_) (fun h13 => absurd h13 (by omega))
    exact hk
  | succ d ih =>
    intro i hi
    refine g_iload_2 dX8_right_9 ?_
    refine g_sipush (v := nI 144) dX8_right_10 rfl ?_
    refine g_icmp_geN (tgt := 60) dX8_right_13 (by decide) (by omega) (by omega) (fun h13 => absurd h13 (by omega)) (fun _ => ?_)
    refine g_iload_1 dX8_right_16 ?_
    refine g_aload_0 dX8_right_17 ?_
    refine g_get dX8_right_18 (fX8_7 rfl) hA.1 rfl ?_
    refine g_iload_2 dX8_right_21 ?_
    refine g_s2_1 dX8_right_22 (sX8_61 rfl) rfl (Nat.le_of_ble_eq_true rfl) ⟨rfl, rfl⟩ (Nat.le_of_ble_eq_true rfl) (Nat.le_of_ble_eq_true rfl) (m_hasLoop hA.2.1 (by omega)) ?_
    refine g_if_eqB (tgt := 51) dX8_right_25 (by decide)  (fun h25 => ?_) (fun h25 => ?_)
    · refine g_iconst (v := nI 0) dX8_right_51 rfl ?_
      refine g_iaddN dX8_right_52 ?_
      refine g_istore_1 rfl dX8_right_53 ?_
      refine g_iincN_2 (q := 1) rfl dX8_right_54 rfl ?_
      refine g_goto (tgt := 9) dX8_right_57 (by decide) ?_
      have e := ih (i + 1) (by omega)
      first
        | (rw [cnt_t (by show (hasL (A 1 (144 + i)) && decide (A 1 (144 + i) = A 1 i)) = true; rw [h25, decide_eq_true h44]; rfl)] at e; exact e)
        | (rw [cnt_f (by show (hasL (A 1 (144 + i)) && decide (A 1 (144 + i) = A 1 i)) = false; rw [h25, decide_eq_false h44]; rfl)] at e; exact e)
        | (rw [cnt_f (by show (hasL (A 1 (144 + i)) && decide (A 1 (144 + i) = A 1 i)) = false; rw [h25]; rfl)] at e; exact e)
    · refine g_aload_0 dX8_right_28 ?_
      refine g_get dX8_right_29 (fX8_7 rfl) hA.1 rfl ?_
      refine g_sipush (v := nI 144) dX8_right_32 rfl ?_
      refine g_iload_2 dX8_right_35 ?_
      refine g_iaddN dX8_right_36 ?_
      refine g_ialdN dX8_right_37 hA.2.1 (by omega) (by decide) ?_
      refine g_aload_0 dX8_right_38 ?_
      refine g_get dX8_right_39 (fX8_7 rfl) hA.1 rfl ?_
      refine g_iload_2 dX8_right_42 ?_
      refine g_ialdN dX8_right_43 hA.2.1 (by omega) (by decide) ?_
      refine g_icmp_ne (tgt := 51) dX8_right_44 (by decide)  (fun h44 => ?_) (fun h44 => ?_)
      · refine g_iconst (v := nI 0) dX8_right_51 rfl ?_
        refine g_iaddN dX8_right_52 ?_
        refine g_istore_1 rfl dX8_right_53 ?_
        refine g_iincN_2 (q := 1) rfl dX8_right_54 rfl ?_
        refine g_goto (tgt := 9) dX8_right_57 (by decide) ?_
        have e := ih (i + 1) (by omega)
        first
          | (rw [cnt_t (by show (hasL (A 1 (144 + i)) && decide (A 1 (144 + i) = A 1 i)) = true; rw [h25, decide_eq_true h44]; rfl)] at e; exact e)
          | (rw [cnt_f (by show (hasL (A 1 (144 + i)) && decide (A 1 (144 + i) = A 1 i)) = false; rw [h25, decide_eq_false h44]; rfl)] at e; exact e)
          | (rw [cnt_f (by show (hasL (A 1 (144 + i)) && decide (A 1 (144 + i) = A 1 i)) = false; rw [h25]; rfl)] at e; exact e)
      · refine g_iconst (v := nI 1) dX8_right_47 rfl ?_
        refine g_goto (tgt := 52) dX8_right_48 (by decide) ?_
        refine g_iaddN dX8_right_52 ?_
        refine g_istore_1 rfl dX8_right_53 ?_
        refine g_iincN_2 (q := 1) rfl dX8_right_54 rfl ?_
        refine g_goto (tgt := 9) dX8_right_57 (by decide) ?_
        have e := ih (i + 1) (by omega)
        first
          | (rw [cnt_t (by show (hasL (A 1 (144 + i)) && decide (A 1 (144 + i) = A 1 i)) = true; rw [h25, decide_eq_true h44]; rfl)] at e; exact e)
          | (rw [cnt_f (by show (hasL (A 1 (144 + i)) && decide (A 1 (144 + i) = A 1 i)) = false; rw [h25, decide_eq_false h44]; rfl)] at e; exact e)
          | (rw [cnt_f (by show (hasL (A 1 (144 + i)) && decide (A 1 (144 + i) = A 1 i)) = false; rw [h25]; rfl)] at e; exact e)
theorem n_right (hA : MAt M b I A) (hr : MRel I A f t n h sv len g) : Runs mX8_right [.ref b] M z (MoQ (some (.int (nI (cnt (fun i => hasL (f (144 + i)) && decide (f (144 + i) = f i)) 144)))) 0 M b (f) (t) n h sv len g z) := by
  obtain ⟨rfl, rfl, h12, hn14, h9, ⟨h11, h10⟩, h16, hl, hT⟩ := id hr
  refine runs_of plX8 rfl (Nat.le_of_ble_eq_true rfl) ?_
  show WP mX8_right 0 [some (.ref b), none, none] [] M z 0 0 _
  refine g_aload_0 dX8_right_0 ?_
  refine g_iconst (v := nI 0) dX8_right_1 rfl ?_
  refine g_putI0 dX8_right_2 (fX8_47 rfl) hA (fun M1 hA1 n1 => ?_)
  have hao1 := hA1.1
  have hO1 : Out M M1 b 13 := fun q hq => n1 q (by omega)
  refine g_iconst (v := nI 0) dX8_right_5 rfl ?_
  refine g_istore_1 rfl dX8_right_6 ?_
  refine g_iconst (v := nI 0) dX8_right_7 rfl ?_
  refine g_istore_2 rfl dX8_right_8 ?_
  refine n_right_l hA1 ?_ 144 0 rfl
  refine g_iload_1 dX8_right_60 ?_
  exact g_ireturn rfl rfl dX8_right_61 (Nat.le_of_ble_eq_true rfl) (Nat.le_of_ble_eq_true rfl) ⟨rfl, ⟨_, _, hA1, upd_eq, hr.i0⟩, hO1, rfl⟩
theorem n_wrong_l (hA : MAt M b I A) (hk : WP mX8_wrong 60 [some (.ref b), some (.int (nI (cnt (wrongF (A 1)) (144)))), some (.int (nI (144)))] [] M z 0 0 Φ) : ∀ d i, i + d = 144 → WP mX8_wrong 9 [some (.ref b), some (.int (nI (cnt (wrongF (A 1)) (i)))), some (.int (nI (i)))] [] M z 0 0 Φ := by
  intro d
  induction d with
  | zero =>
    intro i hi
    obtain rfl : i = 144 := by omega
    refine g_iload_2 dX8_wrong_9 ?_
    refine g_sipush (v := nI 144) dX8_wrong_10 rfl ?_
    refine g_icmp_geN (tgt := 60) dX8_wrong_13 (by decide) (by omega) (by omega) (fun _ => ?_) (fun h13 => absurd h13 (by omega))
    exact hk
  | succ d ih =>
    intro i hi
    refine g_iload_2 dX8_wrong_9 ?_
    refine g_sipush (v := nI 144) dX8_wrong_10 rfl ?_
    refine g_icmp_geN (tgt := 60) dX8_wrong_13 (by decide) (by omega) (by omega) (fun h13 => absurd h13 (by omega)) (fun _ => ?_)
    refine g_iload_1 dX8_wrong_16 ?_
    refine g_aload_0 dX8_wrong_17 ?_
    refine g_get dX8_wrong_18 (fX8_7 rfl) hA.1 rfl ?_
    refine g_iload_2 dX8_wrong_21 ?_
    refine g_s2_1 dX8_wrong_22 (sX8_61 rfl) rfl (Nat.le_of_ble_eq_true rfl) ⟨rfl, rfl⟩ (Nat.le_of_ble_eq_true rfl) (Nat.le_of_ble_eq_true rfl) (m_hasLoop hA.2.1 (by omega)) ?_
    refine g_if_eqB (tgt := 51) dX8_wrong_25 (by decide)  (fun h25 => ?_) (fun h25 => ?_)
    · refine g_iconst (v := nI 0) dX8_wrong_51 rfl ?_
      refine g_iaddN dX8_wrong_52 ?_
      refine g_istore_1 rfl dX8_wrong_53 ?_
      refine g_iincN_2 (q := 1) rfl dX8_wrong_54 rfl ?_
      refine g_goto (tgt := 9) dX8_wrong_57 (by decide) ?_
      have e := ih (i + 1) (by omega)
      first
        | (rw [cnt_t (by show (hasL (A 1 (144 + i)) && !decide (A 1 (144 + i) = A 1 i)) = true; rw [h25, decide_eq_false h44]; rfl)] at e; exact e)
        | (rw [cnt_f (by show (hasL (A 1 (144 + i)) && !decide (A 1 (144 + i) = A 1 i)) = false; rw [h25, decide_eq_true h44]; rfl)] at e; exact e)
        | (rw [cnt_f (by show (hasL (A 1 (144 + i)) && !decide (A 1 (144 + i) = A 1 i)) = false; rw [h25]; rfl)] at e; exact e)
    · refine g_aload_0 dX8_wrong_28 ?_
      refine g_get dX8_wrong_29 (fX8_7 rfl) hA.1 rfl ?_
      refine g_sipush (v := nI 144) dX8_wrong_32 rfl ?_
      refine g_iload_2 dX8_wrong_35 ?_
      refine g_iaddN dX8_wrong_36 ?_
      refine g_ialdN dX8_wrong_37 hA.2.1 (by omega) (by decide) ?_
      refine g_aload_0 dX8_wrong_38 ?_
      refine g_get dX8_wrong_39 (fX8_7 rfl) hA.1 rfl ?_
      refine g_iload_2 dX8_wrong_42 ?_
      refine g_ialdN dX8_wrong_43 hA.2.1 (by omega) (by decide) ?_
      refine g_icmp_eq (tgt := 51) dX8_wrong_44 (by decide)  (fun h44 => ?_) (fun h44 => ?_)
      · refine g_iconst (v := nI 0) dX8_wrong_51 rfl ?_
        refine g_iaddN dX8_wrong_52 ?_
        refine g_istore_1 rfl dX8_wrong_53 ?_
        refine g_iincN_2 (q := 1) rfl dX8_wrong_54 rfl ?_
        refine g_goto (tgt := 9) dX8_wrong_57 (by decide) ?_
        have e := ih (i + 1) (by omega)
        first
          | (rw [cnt_t (by show (hasL (A 1 (144 + i)) && !decide (A 1 (144 + i) = A 1 i)) = true; rw [h25, decide_eq_false h44]; rfl)] at e; exact e)
          | (rw [cnt_f (by show (hasL (A 1 (144 + i)) && !decide (A 1 (144 + i) = A 1 i)) = false; rw [h25, decide_eq_true h44]; rfl)] at e; exact e)
          | (rw [cnt_f (by show (hasL (A 1 (144 + i)) && !decide (A 1 (144 + i) = A 1 i)) = false; rw [h25]; rfl)] at e; exact e)
      · refine g_iconst (v := nI 1) dX8_wrong_47 rfl ?_
        refine g_goto (tgt := 52) dX8_wrong_48 (by decide) ?_
        refine g_iaddN dX8_wrong_52 ?_
        refine g_istore_1 rfl dX8_wrong_53 ?_
        refine g_iincN_2 (q := 1) rfl dX8_wrong_54 rfl ?_
        refine g_goto (tgt := 9) dX8_wrong_57 (by decide) ?_
        have e := ih (i + 1) (by omega)
        first
          | (rw [cnt_t (by show (hasL (A 1 (144 + i)) && !decide (A 1 (144 + i) = A 1 i)) = true; rw [h25, decide_eq_false h44]; rfl)] at e; exact e)
          | (rw [cnt_f (by show (hasL (A 1 (144 + i)) && !decide (A 1 (144 + i) = A 1 i)) = false; rw [h25, decide_eq_true h44]; rfl)] at e; exact e)
          | (rw [cnt_f (by show (hasL (A 1 (144 + i)) && !decide (A 1 (144 + i) = A 1 i)) = false; rw [h25]; rfl)] at e; exact e)
theorem n_wrong (hA : MAt M b I A) (hr : MRel I A f t n h sv len g) : Runs mX8_wrong [.ref b] M z (MoQ (some (.int (nI (cnt (wrongF f) 144)))) 0 M b (f) (t) n h sv len g z) := by
  obtain ⟨rfl, rfl, h12, hn14, h9, ⟨h11, h10⟩, h16, hl, hT⟩ := id hr
  refine runs_of plX8 rfl (Nat.le_of_ble_eq_true rfl) ?_
  show WP mX8_wrong 0 [some (.ref b), none, none] [] M z 0 0 _
  refine g_aload_0 dX8_wrong_0 ?_
  refine g_iconst (v := nI 0) dX8_wrong_1 rfl ?_
  refine g_putI0 dX8_wrong_2 (fX8_47 rfl) hA (fun M1 hA1 n1 => ?_)
  have hao1 := hA1.1
  have hO1 : Out M M1 b 13 := fun q hq => n1 q (by omega)
  refine g_iconst (v := nI 0) dX8_wrong_5 rfl ?_
  refine g_istore_1 rfl dX8_wrong_6 ?_
  refine g_iconst (v := nI 0) dX8_wrong_7 rfl ?_
  refine g_istore_2 rfl dX8_wrong_8 ?_
  refine n_wrong_l hA1 ?_ 144 0 rfl
  refine g_iload_1 dX8_wrong_60 ?_
  exact g_ireturn rfl rfl dX8_wrong_61 (Nat.le_of_ble_eq_true rfl) (Nat.le_of_ble_eq_true rfl) ⟨rfl, ⟨_, _, hA1, upd_eq, hr.i0⟩, hO1, rfl⟩
theorem n_missing_l (hA : MAt M b I A) (hk : WP mX8_missing 41 [some (.ref b), some (.int (nI (cnt (missF (A 1)) (144)))), some (.int (nI (144)))] [] M z 0 0 Φ) : ∀ d i, i + d = 144 → WP mX8_missing 9 [some (.ref b), some (.int (nI (cnt (missF (A 1)) (i)))), some (.int (nI (i)))] [] M z 0 0 Φ := by
  intro d
  induction d with
  | zero =>
    intro i hi
    obtain rfl : i = 144 := by omega
    refine g_iload_2 dX8_missing_9 ?_
    refine g_sipush (v := nI 144) dX8_missing_10 rfl ?_
    refine g_icmp_geN (tgt := 41) dX8_missing_13 (by decide) (by omega) (by omega) (fun _ => ?_) (fun h13 => absurd h13 (by omega))
    exact hk
  | succ d ih =>
    intro i hi
    refine g_iload_2 dX8_missing_9 ?_
    refine g_sipush (v := nI 144) dX8_missing_10 rfl ?_
    refine g_icmp_geN (tgt := 41) dX8_missing_13 (by decide) (by omega) (by omega) (fun h13 => absurd h13 (by omega)) (fun _ => ?_)
    refine g_iload_1 dX8_missing_16 ?_
    refine g_aload_0 dX8_missing_17 ?_
    refine g_get dX8_missing_18 (fX8_7 rfl) hA.1 rfl ?_
    refine g_iload_2 dX8_missing_21 ?_
    refine g_s2_1 dX8_missing_22 (sX8_195 rfl) rfl (Nat.le_of_ble_eq_true rfl) ⟨rfl, rfl⟩ (Nat.le_of_ble_eq_true rfl) (Nat.le_of_ble_eq_true rfl) (m_isMissing hA.2.1 (by omega)) ?_
    refine g_if_eqB (tgt := 32) dX8_missing_25 (by decide)  (fun h25 => ?_) (fun h25 => ?_)
    · refine g_iconst (v := nI 0) dX8_missing_32 rfl ?_
      refine g_iaddN dX8_missing_33 ?_
      refine g_istore_1 rfl dX8_missing_34 ?_
      refine g_iincN_2 (q := 1) rfl dX8_missing_35 rfl ?_
      refine g_goto (tgt := 9) dX8_missing_38 (by decide) ?_
      have e := ih (i + 1) (by omega)
      first
        | (rw [cnt_t h25] at e; exact e)
        | (rw [cnt_f h25] at e; exact e)
    · refine g_iconst (v := nI 1) dX8_missing_28 rfl ?_
      refine g_goto (tgt := 33) dX8_missing_29 (by decide) ?_
      refine g_iaddN dX8_missing_33 ?_
      refine g_istore_1 rfl dX8_missing_34 ?_
      refine g_iincN_2 (q := 1) rfl dX8_missing_35 rfl ?_
      refine g_goto (tgt := 9) dX8_missing_38 (by decide) ?_
      have e := ih (i + 1) (by omega)
      first
        | (rw [cnt_t h25] at e; exact e)
        | (rw [cnt_f h25] at e; exact e)
theorem n_missing (hA : MAt M b I A) (hr : MRel I A f t n h sv len g) : Runs mX8_missing [.ref b] M z (MoQ (some (.int (nI (cnt (missF f) 144)))) 0 M b (f) (t) n h sv len g z) := by
  obtain ⟨rfl, rfl, h12, hn14, h9, ⟨h11, h10⟩, h16, hl, hT⟩ := id hr
  refine runs_of plX8 rfl (Nat.le_of_ble_eq_true rfl) ?_
  show WP mX8_missing 0 [some (.ref b), none, none] [] M z 0 0 _
  refine g_aload_0 dX8_missing_0 ?_
  refine g_iconst (v := nI 0) dX8_missing_1 rfl ?_
  refine g_putI0 dX8_missing_2 (fX8_47 rfl) hA (fun M1 hA1 n1 => ?_)
  have hao1 := hA1.1
  have hO1 : Out M M1 b 13 := fun q hq => n1 q (by omega)
  refine g_iconst (v := nI 0) dX8_missing_5 rfl ?_
  refine g_istore_1 rfl dX8_missing_6 ?_
  refine g_iconst (v := nI 0) dX8_missing_7 rfl ?_
  refine g_istore_2 rfl dX8_missing_8 ?_
  refine n_missing_l hA1 ?_ 144 0 rfl
  refine g_iload_1 dX8_missing_41 ?_
  exact g_ireturn rfl rfl dX8_missing_42 (Nat.le_of_ble_eq_true rfl) (Nat.le_of_ble_eq_true rfl) ⟨rfl, ⟨_, _, hA1, upd_eq, hr.i0⟩, hO1, rfl⟩
theorem n_neededFor_l (hA : MAt M b I A) (hk : WP mX8_neededFor 58 [some (.ref b), some (.int (nI c)), some (.int (nI (cnt (needF (A 1) c) (144)))), some (.int (nI (144)))] [] M z 0 0 Φ) : ∀ d i, i + d = 144 → WP mX8_neededFor 14 [some (.ref b), some (.int (nI c)), some (.int (nI (cnt (needF (A 1) c) (i)))), some (.int (nI (i)))] [] M z 0 0 Φ := by
  intro d
  induction d with
  | zero =>
    intro i hi
    obtain rfl : i = 144 := by omega
    refine g_iload_3 dX8_neededFor_14 ?_
    refine g_sipush (v := nI 144) dX8_neededFor_15 rfl ?_
    refine g_icmp_geN (tgt := 58) dX8_neededFor_18 (by decide) (by omega) (by omega) (fun _ => ?_) (fun h18 => absurd h18 (by omega))
    exact hk
  | succ d ih =>
    intro i hi
    refine g_iload_3 dX8_neededFor_14 ?_
    refine g_sipush (v := nI 144) dX8_neededFor_15 rfl ?_
    refine g_icmp_geN (tgt := 58) dX8_neededFor_18 (by decide) (by omega) (by omega) (fun h18 => absurd h18 (by omega)) (fun _ => ?_)
    refine g_iload_2 dX8_neededFor_21 ?_
    refine g_aload_0 dX8_neededFor_22 ?_
    refine g_get dX8_neededFor_23 (fX8_7 rfl) hA.1 rfl ?_
    refine g_iload_3 dX8_neededFor_26 ?_
    refine g_ialdN dX8_neededFor_27 hA.2.1 (by omega) (by decide) ?_
    refine g_iload_1 dX8_neededFor_28 ?_
    refine g_iconst (v := nI 1) dX8_neededFor_29 rfl ?_
    refine g_iaddN dX8_neededFor_30 ?_
    refine g_icmp_ne (tgt := 49) dX8_neededFor_31 (by decide)  (fun h31 => ?_) (fun h31 => ?_)
    · refine g_iconst (v := nI 0) dX8_neededFor_49 rfl ?_
      refine g_iaddN dX8_neededFor_50 ?_
      refine g_istore_2 rfl dX8_neededFor_51 ?_
      refine g_iincN_3 (q := 1) rfl dX8_neededFor_52 rfl ?_
      refine g_goto (tgt := 14) dX8_neededFor_55 (by decide) ?_
      have e := ih (i + 1) (by omega)
      first
        | (rw [cnt_t (by show (decide (A 1 i = nI (c + 1)) && missF (A 1) i) = true; rw [decide_eq_true h31, h42]; rfl)] at e; exact e)
        | (rw [cnt_f (by show (decide (A 1 i = nI (c + 1)) && missF (A 1) i) = false; rw [decide_eq_true h31, h42]; rfl)] at e; exact e)
        | (rw [cnt_f (by show (decide (A 1 i = nI (c + 1)) && missF (A 1) i) = false; rw [decide_eq_false h31]; rfl)] at e; exact e)
    · refine g_aload_0 dX8_neededFor_34 ?_
      refine g_get dX8_neededFor_35 (fX8_7 rfl) hA.1 rfl ?_
      refine g_iload_3 dX8_neededFor_38 ?_
      refine g_s2_1 dX8_neededFor_39 (sX8_195 rfl) rfl (Nat.le_of_ble_eq_true rfl) ⟨rfl, rfl⟩ (Nat.le_of_ble_eq_true rfl) (Nat.le_of_ble_eq_true rfl) (m_isMissing hA.2.1 (by omega)) ?_
      refine g_if_eqB (tgt := 49) dX8_neededFor_42 (by decide)  (fun h42 => ?_) (fun h42 => ?_)
      · refine g_iconst (v := nI 0) dX8_neededFor_49 rfl ?_
        refine g_iaddN dX8_neededFor_50 ?_
        refine g_istore_2 rfl dX8_neededFor_51 ?_
        refine g_iincN_3 (q := 1) rfl dX8_neededFor_52 rfl ?_
        refine g_goto (tgt := 14) dX8_neededFor_55 (by decide) ?_
        have e := ih (i + 1) (by omega)
        first
          | (rw [cnt_t (by show (decide (A 1 i = nI (c + 1)) && missF (A 1) i) = true; rw [decide_eq_true h31, h42]; rfl)] at e; exact e)
          | (rw [cnt_f (by show (decide (A 1 i = nI (c + 1)) && missF (A 1) i) = false; rw [decide_eq_true h31, h42]; rfl)] at e; exact e)
          | (rw [cnt_f (by show (decide (A 1 i = nI (c + 1)) && missF (A 1) i) = false; rw [decide_eq_false h31]; rfl)] at e; exact e)
      · refine g_iconst (v := nI 1) dX8_neededFor_45 rfl ?_
        refine g_goto (tgt := 50) dX8_neededFor_46 (by decide) ?_
        refine g_iaddN dX8_neededFor_50 ?_
        refine g_istore_2 rfl dX8_neededFor_51 ?_
        refine g_iincN_3 (q := 1) rfl dX8_neededFor_52 rfl ?_
        refine g_goto (tgt := 14) dX8_neededFor_55 (by decide) ?_
        have e := ih (i + 1) (by omega)
        first
          | (rw [cnt_t (by show (decide (A 1 i = nI (c + 1)) && missF (A 1) i) = true; rw [decide_eq_true h31, h42]; rfl)] at e; exact e)
          | (rw [cnt_f (by show (decide (A 1 i = nI (c + 1)) && missF (A 1) i) = false; rw [decide_eq_true h31, h42]; rfl)] at e; exact e)
          | (rw [cnt_f (by show (decide (A 1 i = nI (c + 1)) && missF (A 1) i) = false; rw [decide_eq_false h31]; rfl)] at e; exact e)
theorem n_neededFor (hA : MAt M b I A) (hr : MRel I A f t n h sv len g) (hc : c < 5) : Runs mX8_neededFor [.ref b, .int (nI c)] M z (MoQ (some (.int (nI (cnt (needF f c) 144) * f_yarn (f 460)))) 0 M b (f) (t) n h sv len g z) := by
  obtain ⟨rfl, rfl, h12, hn14, h9, ⟨h11, h10⟩, h16, hl, hT⟩ := id hr
  refine runs_of plX8 rfl (Nat.le_of_ble_eq_true rfl) ?_
  show WP mX8_neededFor 0 [some (.ref b), some (.int (nI c)), none, none] [] M z 0 0 _
  refine g_aload_0 dX8_neededFor_0 ?_
  refine g_iload_1 dX8_neededFor_1 ?_
  refine g_v1 dX8_neededFor_2 (vX8_201 rfl) rfl hA.1 (Nat.le_of_ble_eq_true rfl) (Nat.le_of_ble_eq_true rfl) (Nat.le_of_ble_eq_true rfl) (m_noK_ok hA hc) (fun r1 M1 z1 hq1 => ?_) (fun E M2 z2 hq => by obtain ⟨hq, -⟩ := hq; cases hq)
  obtain ⟨hr1, hA1, hO1, hz1⟩ := hq1
  cases hr1
  subst hz1
  refine g_if_eqB (tgt := 10) dX8_neededFor_5 (by decide)  (fun _ => ?_) (fun h5 => absurd h5 (by decide))
  refine g_iconst (v := nI 0) dX8_neededFor_10 rfl ?_
  refine g_istore_2 rfl dX8_neededFor_11 ?_
  refine g_iconst (v := nI 0) dX8_neededFor_12 rfl ?_
  refine g_istore_3 rfl dX8_neededFor_13 ?_
  refine n_neededFor_l hA1 ?_ 144 0 rfl
  refine g_iload_2 dX8_neededFor_58 ?_
  refine g_aload_0 dX8_neededFor_59 ?_
  refine g_get dX8_neededFor_60 (fX8_7 rfl) hA1.1 rfl ?_
  refine g_sipush (v := nI 460) dX8_neededFor_63 rfl ?_
  refine g_ialdN dX8_neededFor_66 hA1.2.1 (by omega) (by decide) ?_
  refine g_s1_1 dX8_neededFor_67 (sX8_83 rfl) rfl (Nat.le_of_ble_eq_true rfl) ⟨rfl, rfl⟩ (Nat.le_of_ble_eq_true rfl) (Nat.le_of_ble_eq_true rfl) (m_yarn) ?_
  refine g_imul dX8_neededFor_70 ?_
  exact g_ireturn rfl rfl dX8_neededFor_71 (Nat.le_of_ble_eq_true rfl) (Nat.le_of_ble_eq_true rfl) ⟨rfl, ⟨_, _, hA1, upd_eq, hr.i0⟩, hO1, rfl⟩
theorem n_meanHeight_l (hA : MAt M b I A) (hk : WP mX8_meanHeight 50 [some (.ref b), some (.int (sumI (hgtF (A 1)) (144))), some (.int (nI (144)))] [] M z 0 0 Φ) : ∀ d i, i + d = 144 → WP mX8_meanHeight 9 [some (.ref b), some (.int (sumI (hgtF (A 1)) (i))), some (.int (nI (i)))] [] M z 0 0 Φ := by
  intro d
  induction d with
  | zero =>
    intro i hi
    obtain rfl : i = 144 := by omega
    refine g_iload_2 dX8_meanHeight_9 ?_
    refine g_sipush (v := nI 144) dX8_meanHeight_10 rfl ?_
    refine g_icmp_geN (tgt := 50) dX8_meanHeight_13 (by decide) (by omega) (by omega) (fun _ => ?_) (fun h13 => absurd h13 (by omega))
    exact hk
  | succ d ih =>
    intro i hi
    refine g_iload_2 dX8_meanHeight_9 ?_
    refine g_sipush (v := nI 144) dX8_meanHeight_10 rfl ?_
    refine g_icmp_geN (tgt := 50) dX8_meanHeight_13 (by decide) (by omega) (by omega) (fun h13 => absurd h13 (by omega)) (fun _ => ?_)
    refine g_iload_1 dX8_meanHeight_16 ?_
    refine g_aload_0 dX8_meanHeight_17 ?_
    refine g_get dX8_meanHeight_18 (fX8_7 rfl) hA.1 rfl ?_
    refine g_iload_2 dX8_meanHeight_21 ?_
    refine g_s2_1 dX8_meanHeight_22 (sX8_61 rfl) rfl (Nat.le_of_ble_eq_true rfl) ⟨rfl, rfl⟩ (Nat.le_of_ble_eq_true rfl) (Nat.le_of_ble_eq_true rfl) (m_hasLoop hA.2.1 (by omega)) ?_
    refine g_if_eqB (tgt := 41) dX8_meanHeight_25 (by decide)  (fun h25 => ?_) (fun h25 => ?_)
    · refine g_iconst (v := nI 0) dX8_meanHeight_41 rfl ?_
      refine g_iadd dX8_meanHeight_42 ?_
      refine g_istore_1 rfl dX8_meanHeight_43 ?_
      refine g_iincN_2 (q := 1) rfl dX8_meanHeight_44 rfl ?_
      refine g_goto (tgt := 9) dX8_meanHeight_47 (by decide) ?_
      have e := ih (i + 1) (by omega)
      first
        | (rw [sumI_v (v := A 1 (288 + i)) (by unfold hgtF; rw [if_pos h25])] at e; exact e)
        | (rw [sumI_v (v := nI 0) (by unfold hgtF; rw [if_neg (by rw [h25]; decide)])] at e; exact e)
    · refine g_aload_0 dX8_meanHeight_28 ?_
      refine g_get dX8_meanHeight_29 (fX8_7 rfl) hA.1 rfl ?_
      refine g_sipush (v := nI 288) dX8_meanHeight_32 rfl ?_
      refine g_iload_2 dX8_meanHeight_35 ?_
      refine g_iaddN dX8_meanHeight_36 ?_
      refine g_ialdN dX8_meanHeight_37 hA.2.1 (by omega) (by decide) ?_
      refine g_goto (tgt := 42) dX8_meanHeight_38 (by decide) ?_
      refine g_iadd dX8_meanHeight_42 ?_
      refine g_istore_1 rfl dX8_meanHeight_43 ?_
      refine g_iincN_2 (q := 1) rfl dX8_meanHeight_44 rfl ?_
      refine g_goto (tgt := 9) dX8_meanHeight_47 (by decide) ?_
      have e := ih (i + 1) (by omega)
      first
        | (rw [sumI_v (v := A 1 (288 + i)) (by unfold hgtF; rw [if_pos h25])] at e; exact e)
        | (rw [sumI_v (v := nI 0) (by unfold hgtF; rw [if_neg (by rw [h25]; decide)])] at e; exact e)
theorem n_meanHeight (hA : MAt M b I A) (hr : MRel I A f t n h sv len g) (hI : Rng f) : Runs mX8_meanHeight [.ref b] M z (MoQ (some (.double (if cnt (fun i => hasL (f (144 + i))) 144 = 0 then 0 else FP.ddiv (FP.i2d (nI (sumN f 144))) (FP.i2d (nI (cnt (fun i => hasL (f (144 + i))) 144)))))) 0 M b (f) (t) n h sv len g z) := by
  obtain ⟨rfl, rfl, h12, hn14, h9, ⟨h11, h10⟩, h16, hl, hT⟩ := id hr
  refine runs_of plX8 rfl (Nat.le_of_ble_eq_true rfl) ?_
  show WP mX8_meanHeight 0 [some (.ref b), none, none] [] M z 0 0 _
  refine g_aload_0 dX8_meanHeight_0 ?_
  refine g_iconst (v := nI 0) dX8_meanHeight_1 rfl ?_
  refine g_putI0 dX8_meanHeight_2 (fX8_47 rfl) hA (fun M1 hA1 n1 => ?_)
  have hao1 := hA1.1
  have hO1 : Out M M1 b 13 := fun q hq => n1 q (by omega)
  refine g_iconst (v := nI 0) dX8_meanHeight_5 rfl ?_
  refine g_istore_1 rfl dX8_meanHeight_6 ?_
  refine g_iconst (v := nI 0) dX8_meanHeight_7 rfl ?_
  refine g_istore_2 rfl dX8_meanHeight_8 ?_
  refine n_meanHeight_l hA1 ?_ 144 0 rfl
  obtain ⟨hs1, hs2, hs3⟩ := sum_num hI 144 (Nat.le_refl _)
  have hcl := cnt_le (fun i => hasL (A 1 (144 + i))) 144
  rw [hs1]
  refine g_iload_1 dX8_meanHeight_50 ?_
  refine g_if_neN (tgt := 58) dX8_meanHeight_51 (by decide) (by omega) (fun h51 => ?_) (fun h51 => ?_)
  · refine g_iload_1 dX8_meanHeight_58 ?_
    refine g_i2d dX8_meanHeight_59 rfl ?_
    refine g_aload_0 dX8_meanHeight_60 ?_
    refine g_get dX8_meanHeight_61 (fX8_7 rfl) hA1.1 rfl ?_
    refine g_s1_1 dX8_meanHeight_64 (sX8_207 rfl) rfl (Nat.le_of_ble_eq_true rfl) ⟨rfl, rfl⟩ (Nat.le_of_ble_eq_true rfl) (Nat.le_of_ble_eq_true rfl) (m_loops hA1.2.1) ?_
    refine g_i2d dX8_meanHeight_67 rfl ?_
    refine g_ddiv dX8_meanHeight_68 (vf_div (by omega) (by omega) (fun e => h51 (hs3.mpr e))) ?_
    exact g_dreturn rfl dX8_meanHeight_69 (Nat.le_of_ble_eq_true rfl) (Nat.le_of_ble_eq_true rfl) ⟨by first | rw [if_pos (hs3.mp h51)] | rw [if_neg (fun e => h51 (hs3.mpr e))], ⟨_, _, hA1, upd_eq, hr.i0⟩, hO1, rfl⟩
  · refine g_dconst0 dX8_meanHeight_54 ?_
    refine g_goto (tgt := 69) dX8_meanHeight_55 (by decide) ?_
    exact g_dreturn rfl dX8_meanHeight_69 (Nat.le_of_ble_eq_true rfl) (Nat.le_of_ble_eq_true rfl) ⟨by first | rw [if_pos (hs3.mp h51)] | rw [if_neg (fun e => h51 (hs3.mpr e))], ⟨_, _, hA1, upd_eq, hr.i0⟩, hO1, rfl⟩
theorem n_motifLength_x1 (hA : MAt M b I A) (hr : MRel I A f t n h sv len g) (hx : x < 0 ∨ nI 4 ≤ x) : Runs mX8_motifLength [.ref b, .int x] M z (MoQ (some (.int (nI 0))) 1 M b (f) (t) n h sv len g z) := by
  obtain ⟨rfl, rfl, h12, hn14, h9, ⟨h11, h10⟩, h16, hl, hT⟩ := id hr
  refine runs_of plX8 rfl (Nat.le_of_ble_eq_true rfl) ?_
  show WP mX8_motifLength 0 [some (.ref b), some (.int x)] [] M z 0 0 _
  refine g_aload_0 dX8_motifLength_0 ?_
  refine g_iload_1 dX8_motifLength_1 ?_
  refine g_s1_1 dX8_motifLength_2 (sX8_216 rfl) rfl (Nat.le_of_ble_eq_true rfl) ⟨rfl, rfl⟩ (Nat.le_of_ble_eq_true rfl) (Nat.le_of_ble_eq_true rfl) (m_isMot_x hx) ?_
  refine g_if_eqB (tgt := 12) dX8_motifLength_5 (by decide)  (fun _ => ?_) (fun h5 => absurd h5 (by decide))
  refine g_iconst (v := nI 1) dX8_motifLength_12 rfl ?_
  refine g_v1 dX8_motifLength_13 (vX8_149 rfl) rfl hA.1 (Nat.le_of_ble_eq_true rfl) (Nat.le_of_ble_eq_true rfl) (Nat.le_of_ble_eq_true rfl) (m_refk hA (by omega) (by omega)) (fun r1 M1 z1 hq1 => ?_) (fun E M2 z2 hq => by obtain ⟨hq, -⟩ := hq; cases hq)
  obtain ⟨hr1, hA1, hO1, hz1⟩ := hq1
  cases hr1
  subst hz1
  refine g_if_eqB (tgt := 23) dX8_motifLength_16 (by decide)  (fun h16 => absurd h16 (by decide)) (fun _ => ?_)
  refine g_iconst (v := nI 0) dX8_motifLength_19 rfl ?_
  refine g_goto (tgt := 33) dX8_motifLength_20 (by decide) ?_
  exact g_ireturn rfl rfl dX8_motifLength_33 (Nat.le_of_ble_eq_true rfl) (Nat.le_of_ble_eq_true rfl) ⟨rfl, ⟨_, _, hA1, upd_eq, hr.i0⟩, hO1, rfl⟩
theorem n_motifLength (hA : MAt M b I A) (hr : MRel I A f t n h sv len g) (hs : s < 4) : Runs mX8_motifLength [.ref b, .int (nI s)] M z (MoQ (some (.int (f (463 + s)))) 0 M b (f) (t) n h sv len g z) := by
  obtain ⟨rfl, rfl, h12, hn14, h9, ⟨h11, h10⟩, h16, hl, hT⟩ := id hr
  refine runs_of plX8 rfl (Nat.le_of_ble_eq_true rfl) ?_
  show WP mX8_motifLength 0 [some (.ref b), some (.int (nI s))] [] M z 0 0 _
  refine g_aload_0 dX8_motifLength_0 ?_
  refine g_iload_1 dX8_motifLength_1 ?_
  refine g_s1_1 dX8_motifLength_2 (sX8_216 rfl) rfl (Nat.le_of_ble_eq_true rfl) ⟨rfl, rfl⟩ (Nat.le_of_ble_eq_true rfl) (Nat.le_of_ble_eq_true rfl) (m_isMot_ok hs) ?_
  refine g_if_eqB (tgt := 12) dX8_motifLength_5 (by decide)  (fun h5 => absurd h5 (by decide)) (fun _ => ?_)
  refine g_iconst (v := nI 0) dX8_motifLength_8 rfl ?_
  refine g_goto (tgt := 13) dX8_motifLength_9 (by decide) ?_
  refine g_v1 dX8_motifLength_13 (vX8_149 rfl) rfl hA.1 (Nat.le_of_ble_eq_true rfl) (Nat.le_of_ble_eq_true rfl) (Nat.le_of_ble_eq_true rfl) (m_ref0 hA) (fun r1 M1 z1 hq1 => ?_) (fun E M2 z2 hq => by obtain ⟨hq, -⟩ := hq; cases hq)
  obtain ⟨hr1, hA1, hO1, hz1⟩ := hq1
  cases hr1
  subst hz1
  refine g_if_eqB (tgt := 23) dX8_motifLength_16 (by decide)  (fun _ => ?_) (fun h16 => absurd h16 (by decide))
  refine g_aload_0 dX8_motifLength_23 ?_
  refine g_get dX8_motifLength_24 (fX8_7 rfl) hA1.1 rfl ?_
  refine g_sipush (v := nI 463) dX8_motifLength_27 rfl ?_
  refine g_iload_1 dX8_motifLength_30 ?_
  refine g_iaddN dX8_motifLength_31 ?_
  refine g_ialdN dX8_motifLength_32 hA1.2.1 (by omega) (by decide) ?_
  exact g_ireturn rfl rfl dX8_motifLength_33 (Nat.le_of_ble_eq_true rfl) (Nat.le_of_ble_eq_true rfl) ⟨rfl, ⟨_, _, hA1, upd_eq, hr.i0⟩, hO1, rfl⟩
theorem n_motifSign_x1 (hA : MAt M b I A) (hr : MRel I A f t n h sv len g) (hx : x < 0 ∨ nI 4 ≤ x) : Runs mX8_motifSign [.ref b, .int x, .int y] M z (MoQ (some (.int (nI 0))) 1 M b (f) (t) n h sv len g z) := by
  obtain ⟨rfl, rfl, h12, hn14, h9, ⟨h11, h10⟩, h16, hl, hT⟩ := id hr
  refine runs_of plX8 rfl (Nat.le_of_ble_eq_true rfl) ?_
  show WP mX8_motifSign 0 [some (.ref b), some (.int x), some (.int y), none] [] M z 0 0 _
  refine g_iload_1 dX8_motifSign_0 ?_
  refine g_s1_1 dX8_motifSign_1 (sX8_216 rfl) rfl (Nat.le_of_ble_eq_true rfl) ⟨rfl, rfl⟩ (Nat.le_of_ble_eq_true rfl) (Nat.le_of_ble_eq_true rfl) (m_isMot_x hx) ?_
  refine g_if_eqB (tgt := 33) dX8_motifSign_4 (by decide)  (fun _ => ?_) (fun h4 => absurd h4 (by decide))
  refine g_iconst (v := nI 0) dX8_motifSign_33 rfl ?_
  refine g_istore_3 rfl dX8_motifSign_34 ?_
  refine g_aload_0 dX8_motifSign_35 ?_
  refine g_iload_3 dX8_motifSign_36 ?_
  refine g_if_eqN (tgt := 44) dX8_motifSign_37 (by decide) (by omega) (fun _ => ?_) (fun h37 => absurd rfl h37)
  refine g_iconst (v := nI 1) dX8_motifSign_44 rfl ?_
  refine g_v1 dX8_motifSign_45 (vX8_149 rfl) rfl hA.1 (Nat.le_of_ble_eq_true rfl) (Nat.le_of_ble_eq_true rfl) (Nat.le_of_ble_eq_true rfl) (m_refk hA (by omega) (by omega)) (fun r1 M1 z1 hq1 => ?_) (fun E M2 z2 hq => by obtain ⟨hq, -⟩ := hq; cases hq)
  obtain ⟨hr1, hA1, hO1, hz1⟩ := hq1
  cases hr1
  subst hz1
  refine g_if_eqB (tgt := 55) dX8_motifSign_48 (by decide)  (fun h48 => absurd h48 (by decide)) (fun _ => ?_)
  refine g_iconst (v := nI 0) dX8_motifSign_51 rfl ?_
  refine g_goto (tgt := 70) dX8_motifSign_52 (by decide) ?_
  exact g_ireturn rfl rfl dX8_motifSign_70 (Nat.le_of_ble_eq_true rfl) (Nat.le_of_ble_eq_true rfl) ⟨rfl, ⟨_, _, hA1, upd_eq, hr.i0⟩, hO1, rfl⟩
theorem n_motifSign_x2 (hA : MAt M b I A) (hr : MRel I A f t n h sv len g) (hs : s < 4) (hm : Bd f (463 + s) 121) (h0 : 0 < mLn f s) (hy : y < 0 ∨ nI (mLn f s) ≤ y) : Runs mX8_motifSign [.ref b, .int (nI s), .int y] M z (MoQ (some (.int (nI 0))) 1 M b (f) (t) n h sv len g z) := by
  obtain ⟨rfl, rfl, h12, hn14, h9, ⟨h11, h10⟩, h16, hl, hT⟩ := id hr
  have hm9 : mLn (A 1) s < 121 := hm.2
  have hm8 := hm.2
  refine runs_of plX8 rfl (Nat.le_of_ble_eq_true rfl) ?_
  show WP mX8_motifSign 0 [some (.ref b), some (.int (nI s)), some (.int y), none] [] M z 0 0 _
  refine g_iload_1 dX8_motifSign_0 ?_
  refine g_s1_1 dX8_motifSign_1 (sX8_216 rfl) rfl (Nat.le_of_ble_eq_true rfl) ⟨rfl, rfl⟩ (Nat.le_of_ble_eq_true rfl) (Nat.le_of_ble_eq_true rfl) (m_isMot_ok hs) ?_
  refine g_if_eqB (tgt := 33) dX8_motifSign_4 (by decide)  (fun h4 => absurd h4 (by decide)) (fun _ => ?_)
  refine g_iload_2 dX8_motifSign_7 ?_
  refine g_i2l dX8_motifSign_8 ?_
  refine g_lconst (vl := 0) dX8_motifSign_9 rfl ?_
  refine g_aload_0 dX8_motifSign_10 ?_
  refine g_get dX8_motifSign_11 (fX8_7 rfl) hA.1 rfl ?_
  refine g_sipush (v := nI 463) dX8_motifSign_14 rfl ?_
  refine g_iload_1 dX8_motifSign_17 ?_
  refine g_iaddN dX8_motifSign_18 ?_
  refine g_ialdN dX8_motifSign_19 hA.2.1 (by omega) (by decide) ?_
  rw [hm.1]
  refine g_iconst (v := nI 1) dX8_motifSign_20 rfl ?_
  refine g_isubN dX8_motifSign_21 h0 ?_
  refine g_i2l dX8_motifSign_22 ?_
  refine g_s3_1 dX8_motifSign_23 (sX8_53 rfl) rfl (Nat.le_of_ble_eq_true rfl) ⟨rfl, rfl⟩ (Nat.le_of_ble_eq_true rfl) (Nat.le_of_ble_eq_true rfl) (m_in_x (lo := 0) (hi := mLn (A 1) s - 1) (out0 (by omega) (by rw [show mLn (A 1) s - 1 + 1 = mLn (A 1) s from by omega]; exact hy)) (by omega) (by omega) rfl (nI_l (by omega))) ?_
  refine g_if_eqB (tgt := 33) dX8_motifSign_26 (by decide)  (fun _ => ?_) (fun h26 => absurd h26 (by decide))
  refine g_iconst (v := nI 0) dX8_motifSign_33 rfl ?_
  refine g_istore_3 rfl dX8_motifSign_34 ?_
  refine g_aload_0 dX8_motifSign_35 ?_
  refine g_iload_3 dX8_motifSign_36 ?_
  refine g_if_eqN (tgt := 44) dX8_motifSign_37 (by decide) (by omega) (fun _ => ?_) (fun h37 => absurd rfl h37)
  refine g_iconst (v := nI 1) dX8_motifSign_44 rfl ?_
  refine g_v1 dX8_motifSign_45 (vX8_149 rfl) rfl hA.1 (Nat.le_of_ble_eq_true rfl) (Nat.le_of_ble_eq_true rfl) (Nat.le_of_ble_eq_true rfl) (m_refk hA (by omega) (by omega)) (fun r1 M1 z1 hq1 => ?_) (fun E M2 z2 hq => by obtain ⟨hq, -⟩ := hq; cases hq)
  obtain ⟨hr1, hA1, hO1, hz1⟩ := hq1
  cases hr1
  subst hz1
  refine g_if_eqB (tgt := 55) dX8_motifSign_48 (by decide)  (fun h48 => absurd h48 (by decide)) (fun _ => ?_)
  refine g_iconst (v := nI 0) dX8_motifSign_51 rfl ?_
  refine g_goto (tgt := 70) dX8_motifSign_52 (by decide) ?_
  exact g_ireturn rfl rfl dX8_motifSign_70 (Nat.le_of_ble_eq_true rfl) (Nat.le_of_ble_eq_true rfl) ⟨rfl, ⟨_, _, hA1, upd_eq, hr.i0⟩, hO1, rfl⟩
theorem in_neg (y : Int32) : (decide ((0 : Int64) ≤ y.toInt64) && decide (y.toInt64 ≤ (-1 : Int32).toInt64)) = false := by
  by_cases h : (0 : Int64) ≤ y.toInt64
  · have h2 : ¬ y.toInt64 ≤ (-1 : Int32).toInt64 := by
      rw [Int64.le_iff_toInt_le] at h ⊢
      have e1 : (0 : Int64).toInt = 0 := rfl
      have e2 : (-1 : Int32).toInt64.toInt = -1 := by decide
      rw [e1] at h
      rw [e2]
      omega
    rw [decide_eq_false h2, Bool.and_false]
  · rw [decide_eq_false h]; rfl
theorem n_motifSign_x3 (hA : MAt M b I A) (hr : MRel I A f t n h sv len g) (hs : s < 4) (hm : Bd f (463 + s) 121) (h0 : mLn f s = 0) : Runs mX8_motifSign [.ref b, .int (nI s), .int y] M z (MoQ (some (.int (nI 0))) 1 M b (f) (t) n h sv len g z) := by
  obtain ⟨rfl, rfl, h12, hn14, h9, ⟨h11, h10⟩, h16, hl, hT⟩ := id hr
  refine runs_of plX8 rfl (Nat.le_of_ble_eq_true rfl) ?_
  show WP mX8_motifSign 0 [some (.ref b), some (.int (nI s)), some (.int y), none] [] M z 0 0 _
  refine g_iload_1 dX8_motifSign_0 ?_
  refine g_s1_1 dX8_motifSign_1 (sX8_216 rfl) rfl (Nat.le_of_ble_eq_true rfl) ⟨rfl, rfl⟩ (Nat.le_of_ble_eq_true rfl) (Nat.le_of_ble_eq_true rfl) (m_isMot_ok hs) ?_
  refine g_if_eqB (tgt := 33) dX8_motifSign_4 (by decide)  (fun h4 => absurd h4 (by decide)) (fun _ => ?_)
  refine g_iload_2 dX8_motifSign_7 ?_
  refine g_i2l dX8_motifSign_8 ?_
  refine g_lconst (vl := 0) dX8_motifSign_9 rfl ?_
  refine g_aload_0 dX8_motifSign_10 ?_
  refine g_get dX8_motifSign_11 (fX8_7 rfl) hA.1 rfl ?_
  refine g_sipush (v := nI 463) dX8_motifSign_14 rfl ?_
  refine g_iload_1 dX8_motifSign_17 ?_
  refine g_iaddN dX8_motifSign_18 ?_
  refine g_ialdN dX8_motifSign_19 hA.2.1 (by omega) (by decide) ?_
  rw [hm.1, show gv (A 1) (463 + s) = 0 from h0]
  refine g_iconst (v := nI 1) dX8_motifSign_20 rfl ?_
  refine g_isub dX8_motifSign_21 ?_
  rw [nI_m1]
  refine g_i2l dX8_motifSign_22 ?_
  refine g_s3_1 dX8_motifSign_23 (sX8_53 rfl) rfl (Nat.le_of_ble_eq_true rfl) ⟨rfl, rfl⟩ (Nat.le_of_ble_eq_true rfl) (Nat.le_of_ble_eq_true rfl) (gD_eq m_in (congrArg bI (in_neg y))) ?_
  refine g_if_eqB (tgt := 33) dX8_motifSign_26 (by decide)  (fun _ => ?_) (fun h26 => absurd h26 (by decide))
  refine g_iconst (v := nI 0) dX8_motifSign_33 rfl ?_
  refine g_istore_3 rfl dX8_motifSign_34 ?_
  refine g_aload_0 dX8_motifSign_35 ?_
  refine g_iload_3 dX8_motifSign_36 ?_
  refine g_if_eqN (tgt := 44) dX8_motifSign_37 (by decide) (by omega) (fun _ => ?_) (fun h37 => absurd rfl h37)
  refine g_iconst (v := nI 1) dX8_motifSign_44 rfl ?_
  refine g_v1 dX8_motifSign_45 (vX8_149 rfl) rfl hA.1 (Nat.le_of_ble_eq_true rfl) (Nat.le_of_ble_eq_true rfl) (Nat.le_of_ble_eq_true rfl) (m_refk hA (by omega) (by omega)) (fun r1 M1 z1 hq1 => ?_) (fun E M2 z2 hq => by obtain ⟨hq, -⟩ := hq; cases hq)
  obtain ⟨hr1, hA1, hO1, hz1⟩ := hq1
  cases hr1
  subst hz1
  refine g_if_eqB (tgt := 55) dX8_motifSign_48 (by decide)  (fun h48 => absurd h48 (by decide)) (fun _ => ?_)
  refine g_iconst (v := nI 0) dX8_motifSign_51 rfl ?_
  refine g_goto (tgt := 70) dX8_motifSign_52 (by decide) ?_
  exact g_ireturn rfl rfl dX8_motifSign_70 (Nat.le_of_ble_eq_true rfl) (Nat.le_of_ble_eq_true rfl) ⟨rfl, ⟨_, _, hA1, upd_eq, hr.i0⟩, hO1, rfl⟩
theorem n_motifSign (hA : MAt M b I A) (hr : MRel I A f t n h sv len g) (hs : s < 4) (hm : Bd f (463 + s) 121) (h0 : i < mLn f s) : Runs mX8_motifSign [.ref b, .int (nI s), .int (nI i)] M z (MoQ (some (.int (f (467 + 120 * s + i)))) 0 M b (f) (t) n h sv len g z) := by
  obtain ⟨rfl, rfl, h12, hn14, h9, ⟨h11, h10⟩, h16, hl, hT⟩ := id hr
  have hm9 : mLn (A 1) s < 121 := hm.2
  have hm8 := hm.2
  refine runs_of plX8 rfl (Nat.le_of_ble_eq_true rfl) ?_
  show WP mX8_motifSign 0 [some (.ref b), some (.int (nI s)), some (.int (nI i)), none] [] M z 0 0 _
  refine g_iload_1 dX8_motifSign_0 ?_
  refine g_s1_1 dX8_motifSign_1 (sX8_216 rfl) rfl (Nat.le_of_ble_eq_true rfl) ⟨rfl, rfl⟩ (Nat.le_of_ble_eq_true rfl) (Nat.le_of_ble_eq_true rfl) (m_isMot_ok hs) ?_
  refine g_if_eqB (tgt := 33) dX8_motifSign_4 (by decide)  (fun h4 => absurd h4 (by decide)) (fun _ => ?_)
  refine g_iload_2 dX8_motifSign_7 ?_
  refine g_i2l dX8_motifSign_8 ?_
  refine g_lconst (vl := 0) dX8_motifSign_9 rfl ?_
  refine g_aload_0 dX8_motifSign_10 ?_
  refine g_get dX8_motifSign_11 (fX8_7 rfl) hA.1 rfl ?_
  refine g_sipush (v := nI 463) dX8_motifSign_14 rfl ?_
  refine g_iload_1 dX8_motifSign_17 ?_
  refine g_iaddN dX8_motifSign_18 ?_
  refine g_ialdN dX8_motifSign_19 hA.2.1 (by omega) (by decide) ?_
  rw [hm.1]
  refine g_iconst (v := nI 1) dX8_motifSign_20 rfl ?_
  refine g_isubN dX8_motifSign_21 (by show 1 ≤ mLn (A 1) s; omega) ?_
  refine g_i2l dX8_motifSign_22 ?_
  refine g_s3_1 dX8_motifSign_23 (sX8_53 rfl) rfl (Nat.le_of_ble_eq_true rfl) ⟨rfl, rfl⟩ (Nat.le_of_ble_eq_true rfl) (Nat.le_of_ble_eq_true rfl) (m_in_ok (lo := 0) (hi := mLn (A 1) s - 1) (by omega) (by omega) (by omega) rfl (nI_l (by omega))) ?_
  refine g_if_eqB (tgt := 33) dX8_motifSign_26 (by decide)  (fun h26 => absurd h26 (by decide)) (fun _ => ?_)
  refine g_iconst (v := nI 1) dX8_motifSign_29 rfl ?_
  refine g_goto (tgt := 34) dX8_motifSign_30 (by decide) ?_
  refine g_istore_3 rfl dX8_motifSign_34 ?_
  refine g_aload_0 dX8_motifSign_35 ?_
  refine g_iload_3 dX8_motifSign_36 ?_
  refine g_if_eqN (tgt := 44) dX8_motifSign_37 (by decide) (by omega) (fun h37 => absurd h37 (by decide)) (fun _ => ?_)
  refine g_iconst (v := nI 0) dX8_motifSign_40 rfl ?_
  refine g_goto (tgt := 45) dX8_motifSign_41 (by decide) ?_
  refine g_v1 dX8_motifSign_45 (vX8_149 rfl) rfl hA.1 (Nat.le_of_ble_eq_true rfl) (Nat.le_of_ble_eq_true rfl) (Nat.le_of_ble_eq_true rfl) (m_ref0 hA) (fun r1 M1 z1 hq1 => ?_) (fun E M2 z2 hq => by obtain ⟨hq, -⟩ := hq; cases hq)
  obtain ⟨hr1, hA1, hO1, hz1⟩ := hq1
  cases hr1
  subst hz1
  refine g_if_eqB (tgt := 55) dX8_motifSign_48 (by decide)  (fun _ => ?_) (fun h48 => absurd h48 (by decide))
  refine g_aload_0 dX8_motifSign_55 ?_
  refine g_get dX8_motifSign_56 (fX8_7 rfl) hA1.1 rfl ?_
  refine g_sipush (v := nI 467) dX8_motifSign_59 rfl ?_
  refine g_bipush (v := nI 120) dX8_motifSign_62 rfl ?_
  refine g_iload_1 dX8_motifSign_64 ?_
  refine g_imulN dX8_motifSign_65 ?_
  refine g_iaddN dX8_motifSign_66 ?_
  refine g_iload_2 dX8_motifSign_67 ?_
  refine g_iaddN dX8_motifSign_68 ?_
  refine g_ialdN dX8_motifSign_69 hA1.2.1 (by omega) (by decide) ?_
  exact g_ireturn rfl rfl dX8_motifSign_70 (Nat.le_of_ble_eq_true rfl) (Nat.le_of_ble_eq_true rfl) ⟨rfl, ⟨_, _, hA1, upd_eq, hr.i0⟩, hO1, rfl⟩
end P70
